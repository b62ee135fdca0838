
/-! THE LAW: its world (the object, then the reference), its script, the calls by number. -/
def zLS (x : zX) (b L : Nat) (xs : Nat → Int32) : Prop := va_X b L xs (zs x) (zs x).heap ∧ b < (zs x).heap.size ∧ ¬ zA x b
def xW (g : zG) (q p : Nat → Nat) (e : ED) (m : MD) : va_W := eW g q e ++ rW g p m (m_row m)
section XW
variable {g : zG} {q p : Nat → Nat} {e e2 : ED} {m m2 : MD}
theorem xW_g0 : (xW g q p e m)[0]? = some (q 0, .inr (5, [.ref (q 1), .ref (q 22), .ref (q 43), .ref (q 192), .ref (q 193), .ref (q 194), .int (e_rea e)])) := by
  unfold xW
  rw [List.getElem?_append_left (by rw [eW_len]; decide)]; exact eW_g0
theorem xW_gm : (xW g q p e m)[240]? = some (p 0, .inr (6, [.ref (p 1), .int (m_sts m), .ref (p 2), .int (m_rea m), .ref (p 3), .int (m_len m), .int (m_wat m), .int (m_wh m), .ref (p 4), .ref (p 5), .ref (p 6), .int (m_at m), .ref (p 7), .int (m_nm m)])) := by
  unfold xW
  rw [List.getElem?_append_right (by rw [eW_len]; decide), eW_len]; exact rW_g0
theorem xW_ce : (zfrom 0 240).map (fun i => (xW g q p e m)[i]?) = (eW g q e).map some := zget_m [] (eW g q e) (rW g p m (m_row m)) (List.nil_append _).symm (by rw [eW_len]; rfl)
theorem xW_re : zrep (xW g q p e m) (zfrom 0 240) (eW g q e2) = xW g q p e2 m := zrep_m [] (eW g q e) (rW g p m (m_row m)) (List.nil_append _).symm (by rw [eW_len]; rfl) (by rw [eW_len, eW_len]) (List.nil_append _)
theorem xW_cm : (zfrom 240 8).map (fun i => (xW g q p e m)[i]?) = (rW g p m (m_row m)).map some := zget_m (eW g q e) (rW g p m (m_row m)) [] (by rw [List.append_nil]; rfl) (by rw [eW_len]; rfl)
theorem xW_rm : zrep (xW g q p e m) (zfrom 240 8) (rW g p m2 (m_row m2)) = xW g q p e m2 := zrep_m (eW g q e) (rW g p m (m_row m)) [] (by rw [List.append_nil]; rfl) (by rw [eW_len]; rfl) rfl (by rw [List.append_nil]; rfl)
theorem zrep_td {W t : va_W} {y : Nat × va_E} {k : Nat} (hk : k = W.length) (ht : t ≠ []) : zrep (W ++ [y]) [k] (t.take 1) ++ t.drop 1 = W ++ t := by
  cases t with
  | nil => exact absurd rfl ht
  | cons a t => exact zrep_last hk
end XW
section ZS
variable {x : zX} {g : zG} {own : String} {cc : ByteArray} {ret : Option FieldType} {f : Nat} {post : Option Value → va_W → Prop} {n : Nat × Nat} {pc pc' : Nat} {lv : List (Nat × Value)} {st : List Value} {ws : va_W} {b L : Nat} {xs : Nat → Int32}
theorem zR_scld (C : zC x g own cc ret f) (S : zLS x b L xs) {j : Nat} {i : Int32} (d : zD cc pc .iaload 1 pc') (hi : i = nI j) (hj : j < L ∧ L ≤ 2560) (k : zR x g post n pc' lv (.int (xs j) :: st) ws) : zR x g post n pc lv (.int i :: .ref b :: st) ws := by
  obtain ⟨d, rfl⟩ := d
  subst hi
  obtain ⟨h1, h2⟩ := hj
  intro H locs ls hP hD hS hl
  refine va_sld C.1.1 C.1.2.1 S.1 S.2.1 S.2.2 hS (vp_in_nI h1 (by omega)) d ?_
  rw [nI_clamp (by omega)]
  exact k H locs ls hP hD hS hl
theorem zR_sclen (C : zC x g own cc ret f) (S : zLS x b L xs) (d : zD cc pc .arraylength 1 pc') (k : zR x g post n pc' lv (.int (nI L) :: st) ws) : zR x g post n pc lv (.ref b :: st) ws := by
  obtain ⟨d, rfl⟩ := d
  exact fun H locs ls hP hD hS hl => va_slen C.1.1 C.1.2.1 S.1 S.2.1 S.2.2 hS d (k H locs ls hP hD hS hl)
end ZS
def law_w (a b : Int32) : Int64 := (a.toInt64 <<< ((32 : Int32).toInt64 &&& 63)) ||| (b.toInt64 &&& 4294967295)
theorem law_le {a L : Nat} (ha : a ≤ 2560) (hL : L ≤ 2560) (h : nI a ≤ nI L - 5) : a + 5 ≤ L := by
  have h1 := Int32.le_iff_toInt_le.mp h
  rw [nI_toInt (by omega), Int32.toInt_sub, nI_toInt (by omega), show (5 : Int32).toInt = 5 from rfl, Int.bmod_eq_of_le (by omega) (by omega)] at h1
  omega
section LAW
variable {x : zX} {g : zG} {post : Option Value → va_W → Prop} {n : Nat × Nat} {b L i B : Nat} {xs : Nat → Int32} {q p : Nat → Nat} {e : ED} {m : MD}
theorem law_c0 (C : zC x g RL cL_law (some .boolean) 11) (S : zLS x b L xs) (hi : i + 5 ≤ L ∧ L ≤ 2560) (hB : B + 32000 < 2 ^ 30) (h : RR B e m) (hn1 : n.1 ≤ zmc x) (hn2 : n.2 ≤ zms x)
    (kk : ∀ e2 m2, RR (B + 27000) e2 m2 → zR x g post n 1004 [(3, .int (nI i)), (2, .ref (p 0)), (1, .ref (q 0)), (0, .ref b)] [] (xW g q p e2 m2)) : zR x g post n 164 [(3, .int (nI i)), (2, .ref (p 0)), (1, .ref (q 0)), (0, .ref b)] [] (xW g q p e m) := by
  obtain ⟨he, hs, hr, hl⟩ := RR_pre h
  have hS := S_set h (xs (i + 1)) (xs (i + 2))
  refine zR_aload_n C eL_law_164 2 rfl rfl ?_
  refine zR_aload_n C eL_law_165 3 rfl rfl ?_
  refine zR_iload_n C eL_law_166 0 rfl rfl ?_
  refine zR_iconst (v := 1) C eL_law_167 (by decide) ?_
  refine zR_iadd C eL_law_168 ?_
  refine zR_scld C S eL_law_169 (j := i + 1) (nI_add i 1) ⟨by omega, hi.2⟩ ?_
  refine zR_aload_n C eL_law_170 3 rfl rfl ?_
  refine zR_iload_n C eL_law_171 0 rfl rfl ?_
  refine zR_iconst (v := 2) C eL_law_172 (by decide) ?_
  refine zR_iadd C eL_law_173 ?_
  refine zR_scld C S eL_law_174 (j := i + 2) (nI_add i 2) ⟨by omega, hi.2⟩ ?_
  refine zR_callV1 C kL_13 eL_law_175 (c_X5_set q e (xs (i + 1)) (xs (i + 2)) he) rfl 0 5 xW_g0 rfl rfl _ xW_ce (zfrom_nd _ _) rfl (by decide) (by decide) (Nat.le_of_ble_eq_true rfl) hn1 hn2 eW_f xW_re ?_
  refine zR_aload_n C eL_law_178 1 rfl rfl ?_
  refine zR_aload_n C eL_law_179 3 rfl rfl ?_
  refine zR_iload_n C eL_law_180 0 rfl rfl ?_
  refine zR_iconst (v := 1) C eL_law_181 (by decide) ?_
  refine zR_iadd C eL_law_182 ?_
  refine zR_scld C S eL_law_183 (j := i + 1) (nI_add i 1) ⟨by omega, hi.2⟩ ?_
  refine zR_aload_n C eL_law_184 3 rfl rfl ?_
  refine zR_iload_n C eL_law_185 0 rfl rfl ?_
  refine zR_iconst (v := 2) C eL_law_186 (by decide) ?_
  refine zR_iadd C eL_law_187 ?_
  refine zR_scld C S eL_law_188 (j := i + 2) (nI_add i 2) ⟨by omega, hi.2⟩ ?_
  refine zR_callV1 C kL_17 eL_law_189 (c_X6_set p m (xs (i + 1)) (xs (i + 2)) hs) rfl 240 6 xW_gm rfl rfl _ xW_cm (zfrom_nd _ _) rfl (by decide) (by decide) (Nat.le_of_ble_eq_true rfl) hn1 hn2 rW_f xW_rm ?_
  refine zR_icmp_eq C eL_law_192 (fun _ => ?_) (fun hne => absurd hS.1 hne)
  exact kk _ _ (RR_mono hS.2 (by omega))
theorem law_c1 (C : zC x g RL cL_law (some .boolean) 11) (S : zLS x b L xs) (hi : i + 5 ≤ L ∧ L ≤ 2560) (hB : B + 32000 < 2 ^ 30) (h : RR B e m) (hn1 : n.1 ≤ zmc x) (hn2 : n.2 ≤ zms x)
    (kk : ∀ e2 m2, RR (B + 27000) e2 m2 → zR x g post n 1004 [(3, .int (nI i)), (2, .ref (p 0)), (1, .ref (q 0)), (0, .ref b)] [] (xW g q p e2 m2)) : zR x g post n 197 [(3, .int (nI i)), (2, .ref (p 0)), (1, .ref (q 0)), (0, .ref b)] [] (xW g q p e m) := by
  obtain ⟨he, hs, hr, hl⟩ := RR_pre h
  have hS := S_service h (xs (i + 1))
  refine zR_aload_n C eL_law_197 2 rfl rfl ?_
  refine zR_aload_n C eL_law_198 3 rfl rfl ?_
  refine zR_iload_n C eL_law_199 0 rfl rfl ?_
  refine zR_iconst (v := 1) C eL_law_200 (by decide) ?_
  refine zR_iadd C eL_law_201 ?_
  refine zR_scld C S eL_law_202 (j := i + 1) (nI_add i 1) ⟨by omega, hi.2⟩ ?_
  refine zR_callV1 C kL_18 eL_law_203 (c_X5_service q e (xs (i + 1)) he) rfl 0 5 xW_g0 rfl rfl _ xW_ce (zfrom_nd _ _) rfl (by decide) (by decide) (Nat.le_of_ble_eq_true rfl) hn1 hn2 eW_f xW_re ?_
  refine zR_aload_n C eL_law_206 1 rfl rfl ?_
  refine zR_aload_n C eL_law_207 3 rfl rfl ?_
  refine zR_iload_n C eL_law_208 0 rfl rfl ?_
  refine zR_iconst (v := 1) C eL_law_209 (by decide) ?_
  refine zR_iadd C eL_law_210 ?_
  refine zR_scld C S eL_law_211 (j := i + 1) (nI_add i 1) ⟨by omega, hi.2⟩ ?_
  refine zR_callV1 C kL_22 eL_law_212 (c_X6_service p m (xs (i + 1)) hs hr) rfl 240 6 xW_gm rfl rfl _ xW_cm (zfrom_nd _ _) rfl (by decide) (by decide) (Nat.le_of_ble_eq_true rfl) hn1 hn2 rW_f xW_rm ?_
  refine zR_icmp_eq C eL_law_215 (fun _ => ?_) (fun hne => absurd hS.1 hne)
  exact kk _ _ (RR_mono hS.2 (by omega))
theorem law_c2 (C : zC x g RL cL_law (some .boolean) 11) (S : zLS x b L xs) (hi : i + 5 ≤ L ∧ L ≤ 2560) (hB : B + 32000 < 2 ^ 30) (h : RR B e m) (hn1 : n.1 ≤ zmc x) (hn2 : n.2 ≤ zms x)
    (kk : ∀ e2 m2, RR (B + 27000) e2 m2 → zR x g post n 1004 [(3, .int (nI i)), (2, .ref (p 0)), (1, .ref (q 0)), (0, .ref b)] [] (xW g q p e2 m2)) : zR x g post n 220 [(3, .int (nI i)), (2, .ref (p 0)), (1, .ref (q 0)), (0, .ref b)] [] (xW g q p e m) := by
  obtain ⟨he, hs, hr, hl⟩ := RR_pre h
  have hS := S_budget h (xs (i + 1)) (xs (i + 2))
  refine zR_aload_n C eL_law_220 2 rfl rfl ?_
  refine zR_aload_n C eL_law_221 3 rfl rfl ?_
  refine zR_iload_n C eL_law_222 0 rfl rfl ?_
  refine zR_iconst (v := 1) C eL_law_223 (by decide) ?_
  refine zR_iadd C eL_law_224 ?_
  refine zR_scld C S eL_law_225 (j := i + 1) (nI_add i 1) ⟨by omega, hi.2⟩ ?_
  refine zR_aload_n C eL_law_226 3 rfl rfl ?_
  refine zR_iload_n C eL_law_227 0 rfl rfl ?_
  refine zR_iconst (v := 2) C eL_law_228 (by decide) ?_
  refine zR_iadd C eL_law_229 ?_
  refine zR_scld C S eL_law_230 (j := i + 2) (nI_add i 2) ⟨by omega, hi.2⟩ ?_
  refine zR_callV1 C kL_23 eL_law_231 (c_X5_budget q e (xs (i + 1)) (xs (i + 2)) he) rfl 0 5 xW_g0 rfl rfl _ xW_ce (zfrom_nd _ _) rfl (by decide) (by decide) (Nat.le_of_ble_eq_true rfl) hn1 hn2 eW_f xW_re ?_
  refine zR_aload_n C eL_law_234 1 rfl rfl ?_
  refine zR_aload_n C eL_law_235 3 rfl rfl ?_
  refine zR_iload_n C eL_law_236 0 rfl rfl ?_
  refine zR_iconst (v := 1) C eL_law_237 (by decide) ?_
  refine zR_iadd C eL_law_238 ?_
  refine zR_scld C S eL_law_239 (j := i + 1) (nI_add i 1) ⟨by omega, hi.2⟩ ?_
  refine zR_aload_n C eL_law_240 3 rfl rfl ?_
  refine zR_iload_n C eL_law_241 0 rfl rfl ?_
  refine zR_iconst (v := 2) C eL_law_242 (by decide) ?_
  refine zR_iadd C eL_law_243 ?_
  refine zR_scld C S eL_law_244 (j := i + 2) (nI_add i 2) ⟨by omega, hi.2⟩ ?_
  refine zR_callV1 C kL_26 eL_law_245 (c_X6_budget p m (xs (i + 1)) (xs (i + 2)) hs hr) rfl 240 6 xW_gm rfl rfl _ xW_cm (zfrom_nd _ _) rfl (by decide) (by decide) (Nat.le_of_ble_eq_true rfl) hn1 hn2 rW_f xW_rm ?_
  refine zR_icmp_eq C eL_law_248 (fun _ => ?_) (fun hne => absurd hS.1 hne)
  exact kk _ _ (RR_mono hS.2 (by omega))
theorem law_c3 (C : zC x g RL cL_law (some .boolean) 11) (S : zLS x b L xs) (hi : i + 5 ≤ L ∧ L ≤ 2560) (hB : B + 32000 < 2 ^ 30) (h : RR B e m) (hn1 : n.1 ≤ zmc x) (hn2 : n.2 ≤ zms x)
    (kk : ∀ e2 m2, RR (B + 27000) e2 m2 → zR x g post n 1004 [(3, .int (nI i)), (2, .ref (p 0)), (1, .ref (q 0)), (0, .ref b)] [] (xW g q p e2 m2)) : zR x g post n 253 [(3, .int (nI i)), (2, .ref (p 0)), (1, .ref (q 0)), (0, .ref b)] [] (xW g q p e m) := by
  obtain ⟨he, hs, hr, hl⟩ := RR_pre h
  have hS := S_outage h (xs (i + 1)) (xs (i + 2)) (xs (i + 3))
  refine zR_aload_n C eL_law_253 2 rfl rfl ?_
  refine zR_aload_n C eL_law_254 3 rfl rfl ?_
  refine zR_iload_n C eL_law_255 0 rfl rfl ?_
  refine zR_iconst (v := 1) C eL_law_256 (by decide) ?_
  refine zR_iadd C eL_law_257 ?_
  refine zR_scld C S eL_law_258 (j := i + 1) (nI_add i 1) ⟨by omega, hi.2⟩ ?_
  refine zR_aload_n C eL_law_259 3 rfl rfl ?_
  refine zR_iload_n C eL_law_260 0 rfl rfl ?_
  refine zR_iconst (v := 2) C eL_law_261 (by decide) ?_
  refine zR_iadd C eL_law_262 ?_
  refine zR_scld C S eL_law_263 (j := i + 2) (nI_add i 2) ⟨by omega, hi.2⟩ ?_
  refine zR_aload_n C eL_law_264 3 rfl rfl ?_
  refine zR_iload_n C eL_law_265 0 rfl rfl ?_
  refine zR_iconst (v := 3) C eL_law_266 (by decide) ?_
  refine zR_iadd C eL_law_267 ?_
  refine zR_scld C S eL_law_268 (j := i + 3) (nI_add i 3) ⟨by omega, hi.2⟩ ?_
  refine zR_callV1 C kL_27 eL_law_269 (c_X5_outage q e (xs (i + 1)) (xs (i + 2)) (xs (i + 3)) he) rfl 0 5 xW_g0 rfl rfl _ xW_ce (zfrom_nd _ _) rfl (by decide) (by decide) (Nat.le_of_ble_eq_true rfl) hn1 hn2 eW_f xW_re ?_
  refine zR_aload_n C eL_law_272 1 rfl rfl ?_
  refine zR_aload_n C eL_law_273 3 rfl rfl ?_
  refine zR_iload_n C eL_law_274 0 rfl rfl ?_
  refine zR_iconst (v := 1) C eL_law_275 (by decide) ?_
  refine zR_iadd C eL_law_276 ?_
  refine zR_scld C S eL_law_277 (j := i + 1) (nI_add i 1) ⟨by omega, hi.2⟩ ?_
  refine zR_aload_n C eL_law_278 3 rfl rfl ?_
  refine zR_iload_n C eL_law_279 0 rfl rfl ?_
  refine zR_iconst (v := 2) C eL_law_280 (by decide) ?_
  refine zR_iadd C eL_law_281 ?_
  refine zR_scld C S eL_law_282 (j := i + 2) (nI_add i 2) ⟨by omega, hi.2⟩ ?_
  refine zR_aload_n C eL_law_283 3 rfl rfl ?_
  refine zR_iload_n C eL_law_284 0 rfl rfl ?_
  refine zR_iconst (v := 3) C eL_law_285 (by decide) ?_
  refine zR_iadd C eL_law_286 ?_
  refine zR_scld C S eL_law_287 (j := i + 3) (nI_add i 3) ⟨by omega, hi.2⟩ ?_
  refine zR_callV1 C kL_31 eL_law_288 (c_X6_outage p m (xs (i + 1)) (xs (i + 2)) (xs (i + 3)) hs hr) rfl 240 6 xW_gm rfl rfl _ xW_cm (zfrom_nd _ _) rfl (by decide) (by decide) (Nat.le_of_ble_eq_true rfl) hn1 hn2 rW_f xW_rm ?_
  refine zR_icmp_eq C eL_law_291 (fun _ => ?_) (fun hne => absurd hS.1 hne)
  exact kk _ _ (RR_mono hS.2 (by omega))
theorem law_c4 (C : zC x g RL cL_law (some .boolean) 11) (S : zLS x b L xs) (hi : i + 5 ≤ L ∧ L ≤ 2560) (hB : B + 32000 < 2 ^ 30) (h : RR B e m) (hn1 : n.1 ≤ zmc x) (hn2 : n.2 ≤ zms x)
    (kk : ∀ e2 m2, RR (B + 27000) e2 m2 → zR x g post n 1004 [(3, .int (nI i)), (2, .ref (p 0)), (1, .ref (q 0)), (0, .ref b)] [] (xW g q p e2 m2)) : zR x g post n 296 [(3, .int (nI i)), (2, .ref (p 0)), (1, .ref (q 0)), (0, .ref b)] [] (xW g q p e m) := by
  obtain ⟨he, hs, hr, hl⟩ := RR_pre h
  have hS := S_release h (xs (i + 1)) (xs (i + 2)) (xs (i + 3))
  refine zR_aload_n C eL_law_296 2 rfl rfl ?_
  refine zR_aload_n C eL_law_297 3 rfl rfl ?_
  refine zR_iload_n C eL_law_298 0 rfl rfl ?_
  refine zR_iconst (v := 1) C eL_law_299 (by decide) ?_
  refine zR_iadd C eL_law_300 ?_
  refine zR_scld C S eL_law_301 (j := i + 1) (nI_add i 1) ⟨by omega, hi.2⟩ ?_
  refine zR_aload_n C eL_law_302 3 rfl rfl ?_
  refine zR_iload_n C eL_law_303 0 rfl rfl ?_
  refine zR_iconst (v := 2) C eL_law_304 (by decide) ?_
  refine zR_iadd C eL_law_305 ?_
  refine zR_scld C S eL_law_306 (j := i + 2) (nI_add i 2) ⟨by omega, hi.2⟩ ?_
  refine zR_aload_n C eL_law_307 3 rfl rfl ?_
  refine zR_iload_n C eL_law_308 0 rfl rfl ?_
  refine zR_iconst (v := 3) C eL_law_309 (by decide) ?_
  refine zR_iadd C eL_law_310 ?_
  refine zR_scld C S eL_law_311 (j := i + 3) (nI_add i 3) ⟨by omega, hi.2⟩ ?_
  refine zR_callV1 C kL_32 eL_law_312 (c_X5_release q e (xs (i + 1)) (xs (i + 2)) (xs (i + 3)) he) rfl 0 5 xW_g0 rfl rfl _ xW_ce (zfrom_nd _ _) rfl (by decide) (by decide) (Nat.le_of_ble_eq_true rfl) hn1 hn2 eW_f xW_re ?_
  refine zR_aload_n C eL_law_315 1 rfl rfl ?_
  refine zR_aload_n C eL_law_316 3 rfl rfl ?_
  refine zR_iload_n C eL_law_317 0 rfl rfl ?_
  refine zR_iconst (v := 1) C eL_law_318 (by decide) ?_
  refine zR_iadd C eL_law_319 ?_
  refine zR_scld C S eL_law_320 (j := i + 1) (nI_add i 1) ⟨by omega, hi.2⟩ ?_
  refine zR_aload_n C eL_law_321 3 rfl rfl ?_
  refine zR_iload_n C eL_law_322 0 rfl rfl ?_
  refine zR_iconst (v := 2) C eL_law_323 (by decide) ?_
  refine zR_iadd C eL_law_324 ?_
  refine zR_scld C S eL_law_325 (j := i + 2) (nI_add i 2) ⟨by omega, hi.2⟩ ?_
  refine zR_aload_n C eL_law_326 3 rfl rfl ?_
  refine zR_iload_n C eL_law_327 0 rfl rfl ?_
  refine zR_iconst (v := 3) C eL_law_328 (by decide) ?_
  refine zR_iadd C eL_law_329 ?_
  refine zR_scld C S eL_law_330 (j := i + 3) (nI_add i 3) ⟨by omega, hi.2⟩ ?_
  refine zR_callV1 C kL_35 eL_law_331 (c_X6_release p m (xs (i + 1)) (xs (i + 2)) (xs (i + 3)) hs hr) rfl 240 6 xW_gm rfl rfl _ xW_cm (zfrom_nd _ _) rfl (by decide) (by decide) (Nat.le_of_ble_eq_true rfl) hn1 hn2 rW_f xW_rm ?_
  refine zR_icmp_eq C eL_law_334 (fun _ => ?_) (fun hne => absurd hS.1 hne)
  exact kk _ _ (RR_mono hS.2 (by omega))
theorem law_c5 (C : zC x g RL cL_law (some .boolean) 11) (S : zLS x b L xs) (hi : i + 5 ≤ L ∧ L ≤ 2560) (hB : B + 32000 < 2 ^ 30) (h : RR B e m) (hn1 : n.1 ≤ zmc x) (hn2 : n.2 ≤ zms x)
    (kk : ∀ e2 m2, RR (B + 27000) e2 m2 → zR x g post n 1004 [(3, .int (nI i)), (2, .ref (p 0)), (1, .ref (q 0)), (0, .ref b)] [] (xW g q p e2 m2)) : zR x g post n 339 [(3, .int (nI i)), (2, .ref (p 0)), (1, .ref (q 0)), (0, .ref b)] [] (xW g q p e m) := by
  obtain ⟨he, hs, hr, hl⟩ := RR_pre h
  have hS := S_lend (by omega) h (xs (i + 1)) (xs (i + 2)) (xs (i + 3)) (xs (i + 4))
  refine zR_aload_n C eL_law_339 2 rfl rfl ?_
  refine zR_aload_n C eL_law_340 3 rfl rfl ?_
  refine zR_iload_n C eL_law_341 0 rfl rfl ?_
  refine zR_iconst (v := 1) C eL_law_342 (by decide) ?_
  refine zR_iadd C eL_law_343 ?_
  refine zR_scld C S eL_law_344 (j := i + 1) (nI_add i 1) ⟨by omega, hi.2⟩ ?_
  refine zR_aload_n C eL_law_345 3 rfl rfl ?_
  refine zR_iload_n C eL_law_346 0 rfl rfl ?_
  refine zR_iconst (v := 2) C eL_law_347 (by decide) ?_
  refine zR_iadd C eL_law_348 ?_
  refine zR_scld C S eL_law_349 (j := i + 2) (nI_add i 2) ⟨by omega, hi.2⟩ ?_
  refine zR_aload_n C eL_law_350 3 rfl rfl ?_
  refine zR_iload_n C eL_law_351 0 rfl rfl ?_
  refine zR_iconst (v := 3) C eL_law_352 (by decide) ?_
  refine zR_iadd C eL_law_353 ?_
  refine zR_scld C S eL_law_354 (j := i + 3) (nI_add i 3) ⟨by omega, hi.2⟩ ?_
  refine zR_aload_n C eL_law_355 3 rfl rfl ?_
  refine zR_iload_n C eL_law_356 0 rfl rfl ?_
  refine zR_iconst (v := 4) C eL_law_357 (by decide) ?_
  refine zR_iadd C eL_law_358 ?_
  refine zR_scld C S eL_law_359 (j := i + 4) (nI_add i 4) ⟨by omega, hi.2⟩ ?_
  refine zR_callV1 C kL_36 eL_law_360 (c_X5_lend q e (xs (i + 1)) (xs (i + 2)) (xs (i + 3)) (xs (i + 4)) he) rfl 0 5 xW_g0 rfl rfl _ xW_ce (zfrom_nd _ _) rfl (by decide) (by decide) (Nat.le_of_ble_eq_true rfl) hn1 hn2 eW_f xW_re ?_
  refine zR_aload_n C eL_law_363 1 rfl rfl ?_
  refine zR_aload_n C eL_law_364 3 rfl rfl ?_
  refine zR_iload_n C eL_law_365 0 rfl rfl ?_
  refine zR_iconst (v := 1) C eL_law_366 (by decide) ?_
  refine zR_iadd C eL_law_367 ?_
  refine zR_scld C S eL_law_368 (j := i + 1) (nI_add i 1) ⟨by omega, hi.2⟩ ?_
  refine zR_aload_n C eL_law_369 3 rfl rfl ?_
  refine zR_iload_n C eL_law_370 0 rfl rfl ?_
  refine zR_iconst (v := 2) C eL_law_371 (by decide) ?_
  refine zR_iadd C eL_law_372 ?_
  refine zR_scld C S eL_law_373 (j := i + 2) (nI_add i 2) ⟨by omega, hi.2⟩ ?_
  refine zR_aload_n C eL_law_374 3 rfl rfl ?_
  refine zR_iload_n C eL_law_375 0 rfl rfl ?_
  refine zR_iconst (v := 3) C eL_law_376 (by decide) ?_
  refine zR_iadd C eL_law_377 ?_
  refine zR_scld C S eL_law_378 (j := i + 3) (nI_add i 3) ⟨by omega, hi.2⟩ ?_
  refine zR_aload_n C eL_law_379 3 rfl rfl ?_
  refine zR_iload_n C eL_law_380 0 rfl rfl ?_
  refine zR_iconst (v := 4) C eL_law_381 (by decide) ?_
  refine zR_iadd C eL_law_382 ?_
  refine zR_scld C S eL_law_383 (j := i + 4) (nI_add i 4) ⟨by omega, hi.2⟩ ?_
  refine zR_callV1 C kL_40 eL_law_384 (c_X6_lend p m (xs (i + 1)) (xs (i + 2)) (xs (i + 3)) (xs (i + 4)) hs hr) rfl 240 6 xW_gm rfl rfl _ xW_cm (zfrom_nd _ _) rfl (by decide) (by decide) (Nat.le_of_ble_eq_true rfl) hn1 hn2 rW_f xW_rm ?_
  refine zR_icmp_eq C eL_law_387 (fun _ => ?_) (fun hne => absurd hS.1 hne)
  exact kk _ _ (RR_mono hS.2 (by omega))
theorem law_c6 (C : zC x g RL cL_law (some .boolean) 11) (S : zLS x b L xs) (hi : i + 5 ≤ L ∧ L ≤ 2560) (hB : B + 32000 < 2 ^ 30) (h : RR B e m) (hn1 : n.1 ≤ zmc x) (hn2 : n.2 ≤ zms x)
    (kk : ∀ e2 m2, RR (B + 27000) e2 m2 → zR x g post n 1004 [(3, .int (nI i)), (2, .ref (p 0)), (1, .ref (q 0)), (0, .ref b)] [] (xW g q p e2 m2)) : zR x g post n 392 [(3, .int (nI i)), (2, .ref (p 0)), (1, .ref (q 0)), (0, .ref b)] [] (xW g q p e m) := by
  obtain ⟨he, hs, hr, hl⟩ := RR_pre h
  have hS := S_repay h (xs (i + 1))
  refine zR_aload_n C eL_law_392 2 rfl rfl ?_
  refine zR_aload_n C eL_law_393 3 rfl rfl ?_
  refine zR_iload_n C eL_law_394 0 rfl rfl ?_
  refine zR_iconst (v := 1) C eL_law_395 (by decide) ?_
  refine zR_iadd C eL_law_396 ?_
  refine zR_scld C S eL_law_397 (j := i + 1) (nI_add i 1) ⟨by omega, hi.2⟩ ?_
  refine zR_callV1 C kL_41 eL_law_398 (c_X5_repay q e (xs (i + 1)) he) rfl 0 5 xW_g0 rfl rfl _ xW_ce (zfrom_nd _ _) rfl (by decide) (by decide) (Nat.le_of_ble_eq_true rfl) hn1 hn2 eW_f xW_re ?_
  refine zR_aload_n C eL_law_401 1 rfl rfl ?_
  refine zR_aload_n C eL_law_402 3 rfl rfl ?_
  refine zR_iload_n C eL_law_403 0 rfl rfl ?_
  refine zR_iconst (v := 1) C eL_law_404 (by decide) ?_
  refine zR_iadd C eL_law_405 ?_
  refine zR_scld C S eL_law_406 (j := i + 1) (nI_add i 1) ⟨by omega, hi.2⟩ ?_
  refine zR_callV1 C kL_44 eL_law_407 (c_X6_repay p m (xs (i + 1)) hs hr) rfl 240 6 xW_gm rfl rfl _ xW_cm (zfrom_nd _ _) rfl (by decide) (by decide) (Nat.le_of_ble_eq_true rfl) hn1 hn2 rW_f xW_rm ?_
  refine zR_icmp_eq C eL_law_410 (fun _ => ?_) (fun hne => absurd hS.1 hne)
  exact kk _ _ (RR_mono hS.2 (by omega))
theorem law_c7 (C : zC x g RL cL_law (some .boolean) 11) (S : zLS x b L xs) (hi : i + 5 ≤ L ∧ L ≤ 2560) (hB : B + 32000 < 2 ^ 30) (h : RR B e m) (hn1 : n.1 ≤ zmc x) (hn2 : n.2 ≤ zms x)
    (kk : ∀ e2 m2, RR (B + 27000) e2 m2 → zR x g post n 1004 [(3, .int (nI i)), (2, .ref (p 0)), (1, .ref (q 0)), (0, .ref b)] [] (xW g q p e2 m2)) : zR x g post n 415 [(3, .int (nI i)), (2, .ref (p 0)), (1, .ref (q 0)), (0, .ref b)] [] (xW g q p e m) := by
  obtain ⟨he, hs, hr, hl⟩ := RR_pre h
  have hS := S_plan (by omega) h (xs (i + 1)) (xs (i + 2)) (xs (i + 3)) (xs (i + 4))
  refine zR_aload_n C eL_law_415 2 rfl rfl ?_
  refine zR_aload_n C eL_law_416 3 rfl rfl ?_
  refine zR_iload_n C eL_law_417 0 rfl rfl ?_
  refine zR_iconst (v := 1) C eL_law_418 (by decide) ?_
  refine zR_iadd C eL_law_419 ?_
  refine zR_scld C S eL_law_420 (j := i + 1) (nI_add i 1) ⟨by omega, hi.2⟩ ?_
  refine zR_aload_n C eL_law_421 3 rfl rfl ?_
  refine zR_iload_n C eL_law_422 0 rfl rfl ?_
  refine zR_iconst (v := 2) C eL_law_423 (by decide) ?_
  refine zR_iadd C eL_law_424 ?_
  refine zR_scld C S eL_law_425 (j := i + 2) (nI_add i 2) ⟨by omega, hi.2⟩ ?_
  refine zR_aload_n C eL_law_426 3 rfl rfl ?_
  refine zR_iload_n C eL_law_427 0 rfl rfl ?_
  refine zR_iconst (v := 3) C eL_law_428 (by decide) ?_
  refine zR_iadd C eL_law_429 ?_
  refine zR_scld C S eL_law_430 (j := i + 3) (nI_add i 3) ⟨by omega, hi.2⟩ ?_
  refine zR_aload_n C eL_law_431 3 rfl rfl ?_
  refine zR_iload_n C eL_law_432 0 rfl rfl ?_
  refine zR_iconst (v := 4) C eL_law_433 (by decide) ?_
  refine zR_iadd C eL_law_434 ?_
  refine zR_scld C S eL_law_435 (j := i + 4) (nI_add i 4) ⟨by omega, hi.2⟩ ?_
  refine zR_callV1 C kL_45 eL_law_436 (c_X5_plan q e (xs (i + 1)) (xs (i + 2)) (xs (i + 3)) (xs (i + 4)) he) rfl 0 5 xW_g0 rfl rfl _ xW_ce (zfrom_nd _ _) rfl (by decide) (by decide) (Nat.le_of_ble_eq_true rfl) hn1 hn2 eW_f xW_re ?_
  refine zR_aload_n C eL_law_439 1 rfl rfl ?_
  refine zR_aload_n C eL_law_440 3 rfl rfl ?_
  refine zR_iload_n C eL_law_441 0 rfl rfl ?_
  refine zR_iconst (v := 1) C eL_law_442 (by decide) ?_
  refine zR_iadd C eL_law_443 ?_
  refine zR_scld C S eL_law_444 (j := i + 1) (nI_add i 1) ⟨by omega, hi.2⟩ ?_
  refine zR_aload_n C eL_law_445 3 rfl rfl ?_
  refine zR_iload_n C eL_law_446 0 rfl rfl ?_
  refine zR_iconst (v := 2) C eL_law_447 (by decide) ?_
  refine zR_iadd C eL_law_448 ?_
  refine zR_scld C S eL_law_449 (j := i + 2) (nI_add i 2) ⟨by omega, hi.2⟩ ?_
  refine zR_aload_n C eL_law_450 3 rfl rfl ?_
  refine zR_iload_n C eL_law_451 0 rfl rfl ?_
  refine zR_iconst (v := 3) C eL_law_452 (by decide) ?_
  refine zR_iadd C eL_law_453 ?_
  refine zR_scld C S eL_law_454 (j := i + 3) (nI_add i 3) ⟨by omega, hi.2⟩ ?_
  refine zR_aload_n C eL_law_455 3 rfl rfl ?_
  refine zR_iload_n C eL_law_456 0 rfl rfl ?_
  refine zR_iconst (v := 4) C eL_law_457 (by decide) ?_
  refine zR_iadd C eL_law_458 ?_
  refine zR_scld C S eL_law_459 (j := i + 4) (nI_add i 4) ⟨by omega, hi.2⟩ ?_
  refine zR_callV1 C kL_48 eL_law_460 (c_X6_plan p m (xs (i + 1)) (xs (i + 2)) (xs (i + 3)) (xs (i + 4)) hs hr) rfl 240 6 xW_gm rfl rfl _ xW_cm (zfrom_nd _ _) rfl (by decide) (by decide) (Nat.le_of_ble_eq_true rfl) hn1 hn2 rW_f xW_rm ?_
  refine zR_icmp_eq C eL_law_463 (fun _ => ?_) (fun hne => absurd hS.1 hne)
  exact kk _ _ (RR_mono hS.2 (by omega))
theorem law_c8 (C : zC x g RL cL_law (some .boolean) 11) (S : zLS x b L xs) (hi : i + 5 ≤ L ∧ L ≤ 2560) (hB : B + 32000 < 2 ^ 30) (h : RR B e m) (hn1 : n.1 ≤ zmc x) (hn2 : n.2 ≤ zms x)
    (kk : ∀ e2 m2, RR (B + 27000) e2 m2 → zR x g post n 1004 [(3, .int (nI i)), (2, .ref (p 0)), (1, .ref (q 0)), (0, .ref b)] [] (xW g q p e2 m2)) : zR x g post n 468 [(3, .int (nI i)), (2, .ref (p 0)), (1, .ref (q 0)), (0, .ref b)] [] (xW g q p e m) := by
  obtain ⟨he, hs, hr, hl⟩ := RR_pre h
  have hS := S_drop h (xs (i + 1))
  refine zR_aload_n C eL_law_468 2 rfl rfl ?_
  refine zR_aload_n C eL_law_469 3 rfl rfl ?_
  refine zR_iload_n C eL_law_470 0 rfl rfl ?_
  refine zR_iconst (v := 1) C eL_law_471 (by decide) ?_
  refine zR_iadd C eL_law_472 ?_
  refine zR_scld C S eL_law_473 (j := i + 1) (nI_add i 1) ⟨by omega, hi.2⟩ ?_
  refine zR_callV1 C kL_49 eL_law_474 (c_X5_drop q e (xs (i + 1)) he) rfl 0 5 xW_g0 rfl rfl _ xW_ce (zfrom_nd _ _) rfl (by decide) (by decide) (Nat.le_of_ble_eq_true rfl) hn1 hn2 eW_f xW_re ?_
  refine zR_aload_n C eL_law_477 1 rfl rfl ?_
  refine zR_aload_n C eL_law_478 3 rfl rfl ?_
  refine zR_iload_n C eL_law_479 0 rfl rfl ?_
  refine zR_iconst (v := 1) C eL_law_480 (by decide) ?_
  refine zR_iadd C eL_law_481 ?_
  refine zR_scld C S eL_law_482 (j := i + 1) (nI_add i 1) ⟨by omega, hi.2⟩ ?_
  refine zR_callV1 C kL_52 eL_law_483 (c_X6_drop p m (xs (i + 1)) hs hr) rfl 240 6 xW_gm rfl rfl _ xW_cm (zfrom_nd _ _) rfl (by decide) (by decide) (Nat.le_of_ble_eq_true rfl) hn1 hn2 rW_f xW_rm ?_
  refine zR_icmp_eq C eL_law_486 (fun _ => ?_) (fun hne => absurd hS.1 hne)
  exact kk _ _ (RR_mono hS.2 (by omega))
theorem law_c9 (C : zC x g RL cL_law (some .boolean) 11) (S : zLS x b L xs) (hi : i + 5 ≤ L ∧ L ≤ 2560) (hB : B + 32000 < 2 ^ 30) (h : RR B e m) (hn1 : n.1 ≤ zmc x) (hn2 : n.2 ≤ zms x)
    (kk : ∀ e2 m2, RR (B + 27000) e2 m2 → zR x g post n 1004 [(3, .int (nI i)), (2, .ref (p 0)), (1, .ref (q 0)), (0, .ref b)] [] (xW g q p e2 m2)) : zR x g post n 491 [(3, .int (nI i)), (2, .ref (p 0)), (1, .ref (q 0)), (0, .ref b)] [] (xW g q p e m) := by
  obtain ⟨he, hs, hr, hl⟩ := RR_pre h
  have hS := S_hours (by omega) h (xs (i + 1))
  refine zR_aload_n C eL_law_491 2 rfl rfl ?_
  refine zR_aload_n C eL_law_492 3 rfl rfl ?_
  refine zR_iload_n C eL_law_493 0 rfl rfl ?_
  refine zR_iconst (v := 1) C eL_law_494 (by decide) ?_
  refine zR_iadd C eL_law_495 ?_
  refine zR_scld C S eL_law_496 (j := i + 1) (nI_add i 1) ⟨by omega, hi.2⟩ ?_
  refine zR_callV1 C kL_53 eL_law_497 (c_X5_hours q e (xs (i + 1)) he) rfl 0 5 xW_g0 rfl rfl _ xW_ce (zfrom_nd _ _) rfl (by decide) (by decide) (Nat.le_of_ble_eq_true rfl) hn1 hn2 eW_f xW_re ?_
  refine zR_aload_n C eL_law_500 1 rfl rfl ?_
  refine zR_aload_n C eL_law_501 3 rfl rfl ?_
  refine zR_iload_n C eL_law_502 0 rfl rfl ?_
  refine zR_iconst (v := 1) C eL_law_503 (by decide) ?_
  refine zR_iadd C eL_law_504 ?_
  refine zR_scld C S eL_law_505 (j := i + 1) (nI_add i 1) ⟨by omega, hi.2⟩ ?_
  refine zR_callV1 C kL_56 eL_law_506 (c_X6_hours p m (xs (i + 1)) hs hS.2) rfl 240 6 xW_gm rfl rfl _ xW_cm (zfrom_nd _ _) rfl (by decide) (by decide) (Nat.le_of_ble_eq_true rfl) hn1 hn2 rW_f xW_rm ?_
  refine zR_icmp_eq C eL_law_509 (fun _ => ?_) (fun hne => absurd hS.1.1 hne)
  exact kk _ _ (RR_mono hS.1.2 (by omega))
theorem law_c10 (C : zC x g RL cL_law (some .boolean) 11) (S : zLS x b L xs) (hi : i + 5 ≤ L ∧ L ≤ 2560) (hB : B + 32000 < 2 ^ 30) (h : RR B e m) (hn1 : n.1 ≤ zmc x) (hn2 : n.2 ≤ zms x)
    (kk : ∀ e2 m2, RR (B + 27000) e2 m2 → zR x g post n 1004 [(3, .int (nI i)), (2, .ref (p 0)), (1, .ref (q 0)), (0, .ref b)] [] (xW g q p e2 m2)) : zR x g post n 514 [(3, .int (nI i)), (2, .ref (p 0)), (1, .ref (q 0)), (0, .ref b)] [] (xW g q p e m) := by
  obtain ⟨he, hs, hr, hl⟩ := RR_pre h
  have hS := S_ofService h (xs (i + 1)) (xs (i + 2))
  refine zR_aload_n C eL_law_514 2 rfl rfl ?_
  refine zR_aload_n C eL_law_515 3 rfl rfl ?_
  refine zR_iload_n C eL_law_516 0 rfl rfl ?_
  refine zR_iconst (v := 1) C eL_law_517 (by decide) ?_
  refine zR_iadd C eL_law_518 ?_
  refine zR_scld C S eL_law_519 (j := i + 1) (nI_add i 1) ⟨by omega, hi.2⟩ ?_
  refine zR_aload_n C eL_law_520 3 rfl rfl ?_
  refine zR_iload_n C eL_law_521 0 rfl rfl ?_
  refine zR_iconst (v := 2) C eL_law_522 (by decide) ?_
  refine zR_iadd C eL_law_523 ?_
  refine zR_scld C S eL_law_524 (j := i + 2) (nI_add i 2) ⟨by omega, hi.2⟩ ?_
  refine zR_callV1 C kL_57 eL_law_525 (c_X5_ofService q e (xs (i + 1)) (xs (i + 2)) he) rfl 0 5 xW_g0 rfl rfl _ xW_ce (zfrom_nd _ _) rfl (by decide) (by decide) (Nat.le_of_ble_eq_true rfl) hn1 hn2 eW_f xW_re ?_
  refine zR_aload_n C eL_law_528 1 rfl rfl ?_
  refine zR_aload_n C eL_law_529 3 rfl rfl ?_
  refine zR_iload_n C eL_law_530 0 rfl rfl ?_
  refine zR_iconst (v := 1) C eL_law_531 (by decide) ?_
  refine zR_iadd C eL_law_532 ?_
  refine zR_scld C S eL_law_533 (j := i + 1) (nI_add i 1) ⟨by omega, hi.2⟩ ?_
  refine zR_aload_n C eL_law_534 3 rfl rfl ?_
  refine zR_iload_n C eL_law_535 0 rfl rfl ?_
  refine zR_iconst (v := 2) C eL_law_536 (by decide) ?_
  refine zR_iadd C eL_law_537 ?_
  refine zR_scld C S eL_law_538 (j := i + 2) (nI_add i 2) ⟨by omega, hi.2⟩ ?_
  refine zR_callV1 C kL_60 eL_law_539 (c_X6_ofService p m (xs (i + 1)) (xs (i + 2)) hr) rfl 240 6 xW_gm rfl rfl _ xW_cm (zfrom_nd _ _) rfl (by decide) (by decide) (Nat.le_of_ble_eq_true rfl) hn1 hn2 rW_f xW_rm ?_
  refine zR_icmp_eq C eL_law_542 (fun _ => ?_) (fun hne => absurd hS hne)
  exact kk _ _ (RR_mono h (by omega))
theorem law_c11 (C : zC x g RL cL_law (some .boolean) 11) (S : zLS x b L xs) (hi : i + 5 ≤ L ∧ L ≤ 2560) (hB : B + 32000 < 2 ^ 30) (h : RR B e m) (hn1 : n.1 ≤ zmc x) (hn2 : n.2 ≤ zms x)
    (kk : ∀ e2 m2, RR (B + 27000) e2 m2 → zR x g post n 1004 [(3, .int (nI i)), (2, .ref (p 0)), (1, .ref (q 0)), (0, .ref b)] [] (xW g q p e2 m2)) : zR x g post n 547 [(3, .int (nI i)), (2, .ref (p 0)), (1, .ref (q 0)), (0, .ref b)] [] (xW g q p e m) := by
  obtain ⟨he, hs, hr, hl⟩ := RR_pre h
  have hS := S_account h (xs (i + 1)) (xs (i + 2))
  refine zR_aload_n C eL_law_547 2 rfl rfl ?_
  refine zR_aload_n C eL_law_548 3 rfl rfl ?_
  refine zR_iload_n C eL_law_549 0 rfl rfl ?_
  refine zR_iconst (v := 1) C eL_law_550 (by decide) ?_
  refine zR_iadd C eL_law_551 ?_
  refine zR_scld C S eL_law_552 (j := i + 1) (nI_add i 1) ⟨by omega, hi.2⟩ ?_
  refine zR_aload_n C eL_law_553 3 rfl rfl ?_
  refine zR_iload_n C eL_law_554 0 rfl rfl ?_
  refine zR_iconst (v := 2) C eL_law_555 (by decide) ?_
  refine zR_iadd C eL_law_556 ?_
  refine zR_scld C S eL_law_557 (j := i + 2) (nI_add i 2) ⟨by omega, hi.2⟩ ?_
  refine zR_callV1 C kL_61 eL_law_558 (c_X5_account q e (xs (i + 1)) (xs (i + 2)) he) rfl 0 5 xW_g0 rfl rfl _ xW_ce (zfrom_nd _ _) rfl (by decide) (by decide) (Nat.le_of_ble_eq_true rfl) hn1 hn2 eW_f xW_re ?_
  refine zR_aload_n C eL_law_561 1 rfl rfl ?_
  refine zR_aload_n C eL_law_562 3 rfl rfl ?_
  refine zR_iload_n C eL_law_563 0 rfl rfl ?_
  refine zR_iconst (v := 1) C eL_law_564 (by decide) ?_
  refine zR_iadd C eL_law_565 ?_
  refine zR_scld C S eL_law_566 (j := i + 1) (nI_add i 1) ⟨by omega, hi.2⟩ ?_
  refine zR_aload_n C eL_law_567 3 rfl rfl ?_
  refine zR_iload_n C eL_law_568 0 rfl rfl ?_
  refine zR_iconst (v := 2) C eL_law_569 (by decide) ?_
  refine zR_iadd C eL_law_570 ?_
  refine zR_scld C S eL_law_571 (j := i + 2) (nI_add i 2) ⟨by omega, hi.2⟩ ?_
  refine zR_callV1 C kL_65 eL_law_572 (c_X6_account p m (xs (i + 1)) (xs (i + 2)) hr) rfl 240 6 xW_gm rfl rfl _ xW_cm (zfrom_nd _ _) rfl (by decide) (by decide) (Nat.le_of_ble_eq_true rfl) hn1 hn2 rW_f xW_rm ?_
  refine zR_cifeq C eL_law_575 eL_law_576 (fun _ => ?_) (fun hne => absurd hS hne)
  exact kk _ _ (RR_mono h (by omega))
theorem law_c12 (C : zC x g RL cL_law (some .boolean) 11) (S : zLS x b L xs) (hi : i + 5 ≤ L ∧ L ≤ 2560) (hB : B + 32000 < 2 ^ 30) (h : RR B e m) (hn1 : n.1 ≤ zmc x) (hn2 : n.2 ≤ zms x)
    (kk : ∀ e2 m2, RR (B + 27000) e2 m2 → zR x g post n 1004 [(3, .int (nI i)), (2, .ref (p 0)), (1, .ref (q 0)), (0, .ref b)] [] (xW g q p e2 m2)) : zR x g post n 581 [(3, .int (nI i)), (2, .ref (p 0)), (1, .ref (q 0)), (0, .ref b)] [] (xW g q p e m) := by
  obtain ⟨he, hs, hr, hl⟩ := RR_pre h
  have hS := S_ofLoan h (xs (i + 1)) (xs (i + 2))
  refine zR_aload_n C eL_law_581 2 rfl rfl ?_
  refine zR_aload_n C eL_law_582 3 rfl rfl ?_
  refine zR_iload_n C eL_law_583 0 rfl rfl ?_
  refine zR_iconst (v := 1) C eL_law_584 (by decide) ?_
  refine zR_iadd C eL_law_585 ?_
  refine zR_scld C S eL_law_586 (j := i + 1) (nI_add i 1) ⟨by omega, hi.2⟩ ?_
  refine zR_aload_n C eL_law_587 3 rfl rfl ?_
  refine zR_iload_n C eL_law_588 0 rfl rfl ?_
  refine zR_iconst (v := 2) C eL_law_589 (by decide) ?_
  refine zR_iadd C eL_law_590 ?_
  refine zR_scld C S eL_law_591 (j := i + 2) (nI_add i 2) ⟨by omega, hi.2⟩ ?_
  refine zR_callV1 C kL_66 eL_law_592 (c_X5_ofLoan q e (xs (i + 1)) (xs (i + 2)) he) rfl 0 5 xW_g0 rfl rfl _ xW_ce (zfrom_nd _ _) rfl (by decide) (by decide) (Nat.le_of_ble_eq_true rfl) hn1 hn2 eW_f xW_re ?_
  refine zR_aload_n C eL_law_595 1 rfl rfl ?_
  refine zR_aload_n C eL_law_596 3 rfl rfl ?_
  refine zR_iload_n C eL_law_597 0 rfl rfl ?_
  refine zR_iconst (v := 1) C eL_law_598 (by decide) ?_
  refine zR_iadd C eL_law_599 ?_
  refine zR_scld C S eL_law_600 (j := i + 1) (nI_add i 1) ⟨by omega, hi.2⟩ ?_
  refine zR_aload_n C eL_law_601 3 rfl rfl ?_
  refine zR_iload_n C eL_law_602 0 rfl rfl ?_
  refine zR_iconst (v := 2) C eL_law_603 (by decide) ?_
  refine zR_iadd C eL_law_604 ?_
  refine zR_scld C S eL_law_605 (j := i + 2) (nI_add i 2) ⟨by omega, hi.2⟩ ?_
  refine zR_callV1 C kL_69 eL_law_606 (c_X6_ofLoan p m (xs (i + 1)) (xs (i + 2)) hr) rfl 240 6 xW_gm rfl rfl _ xW_cm (zfrom_nd _ _) rfl (by decide) (by decide) (Nat.le_of_ble_eq_true rfl) hn1 hn2 rW_f xW_rm ?_
  refine zR_icmp_eq C eL_law_609 (fun _ => ?_) (fun hne => absurd hS hne)
  exact kk _ _ (RR_mono h (by omega))
theorem law_c13 (C : zC x g RL cL_law (some .boolean) 11) (S : zLS x b L xs) (hi : i + 5 ≤ L ∧ L ≤ 2560) (hB : B + 32000 < 2 ^ 30) (h : RR B e m) (hn1 : n.1 ≤ zmc x) (hn2 : n.2 ≤ zms x)
    (kk : ∀ e2 m2, RR (B + 27000) e2 m2 → zR x g post n 1004 [(3, .int (nI i)), (2, .ref (p 0)), (1, .ref (q 0)), (0, .ref b)] [] (xW g q p e2 m2)) : zR x g post n 614 [(3, .int (nI i)), (2, .ref (p 0)), (1, .ref (q 0)), (0, .ref b)] [] (xW g q p e m) := by
  obtain ⟨he, hs, hr, hl⟩ := RR_pre h
  have hS := S_ofPlan h (xs (i + 1)) (xs (i + 2))
  refine zR_aload_n C eL_law_614 2 rfl rfl ?_
  refine zR_aload_n C eL_law_615 3 rfl rfl ?_
  refine zR_iload_n C eL_law_616 0 rfl rfl ?_
  refine zR_iconst (v := 1) C eL_law_617 (by decide) ?_
  refine zR_iadd C eL_law_618 ?_
  refine zR_scld C S eL_law_619 (j := i + 1) (nI_add i 1) ⟨by omega, hi.2⟩ ?_
  refine zR_aload_n C eL_law_620 3 rfl rfl ?_
  refine zR_iload_n C eL_law_621 0 rfl rfl ?_
  refine zR_iconst (v := 2) C eL_law_622 (by decide) ?_
  refine zR_iadd C eL_law_623 ?_
  refine zR_scld C S eL_law_624 (j := i + 2) (nI_add i 2) ⟨by omega, hi.2⟩ ?_
  refine zR_callV1 C kL_70 eL_law_625 (c_X5_ofPlan q e (xs (i + 1)) (xs (i + 2)) he) rfl 0 5 xW_g0 rfl rfl _ xW_ce (zfrom_nd _ _) rfl (by decide) (by decide) (Nat.le_of_ble_eq_true rfl) hn1 hn2 eW_f xW_re ?_
  refine zR_aload_n C eL_law_628 1 rfl rfl ?_
  refine zR_aload_n C eL_law_629 3 rfl rfl ?_
  refine zR_iload_n C eL_law_630 0 rfl rfl ?_
  refine zR_iconst (v := 1) C eL_law_631 (by decide) ?_
  refine zR_iadd C eL_law_632 ?_
  refine zR_scld C S eL_law_633 (j := i + 1) (nI_add i 1) ⟨by omega, hi.2⟩ ?_
  refine zR_aload_n C eL_law_634 3 rfl rfl ?_
  refine zR_iload_n C eL_law_635 0 rfl rfl ?_
  refine zR_iconst (v := 2) C eL_law_636 (by decide) ?_
  refine zR_iadd C eL_law_637 ?_
  refine zR_scld C S eL_law_638 (j := i + 2) (nI_add i 2) ⟨by omega, hi.2⟩ ?_
  refine zR_callV1 C kL_73 eL_law_639 (c_X6_ofPlan p m (xs (i + 1)) (xs (i + 2)) hr) rfl 240 6 xW_gm rfl rfl _ xW_cm (zfrom_nd _ _) rfl (by decide) (by decide) (Nat.le_of_ble_eq_true rfl) hn1 hn2 rW_f xW_rm ?_
  refine zR_icmp_eq C eL_law_642 (fun _ => ?_) (fun hne => absurd hS hne)
  exact kk _ _ (RR_mono h (by omega))
theorem law_c14 (C : zC x g RL cL_law (some .boolean) 11) (S : zLS x b L xs) (hi : i + 5 ≤ L ∧ L ≤ 2560) (hB : B + 32000 < 2 ^ 30) (h : RR B e m) (hn1 : n.1 ≤ zmc x) (hn2 : n.2 ≤ zms x)
    (kk : ∀ e2 m2, RR (B + 27000) e2 m2 → zR x g post n 1004 [(3, .int (nI i)), (2, .ref (p 0)), (1, .ref (q 0)), (0, .ref b)] [] (xW g q p e2 m2)) : zR x g post n 647 [(3, .int (nI i)), (2, .ref (p 0)), (1, .ref (q 0)), (0, .ref b)] [] (xW g q p e m) := by
  obtain ⟨he, hs, hr, hl⟩ := RR_pre h
  have hS := S_count h (xs (i + 1))
  refine zR_aload_n C eL_law_647 2 rfl rfl ?_
  refine zR_aload_n C eL_law_648 3 rfl rfl ?_
  refine zR_iload_n C eL_law_649 0 rfl rfl ?_
  refine zR_iconst (v := 1) C eL_law_650 (by decide) ?_
  refine zR_iadd C eL_law_651 ?_
  refine zR_scld C S eL_law_652 (j := i + 1) (nI_add i 1) ⟨by omega, hi.2⟩ ?_
  refine zR_callV1 C kL_74 eL_law_653 (c_X5_count q e (xs (i + 1)) he) rfl 0 5 xW_g0 rfl rfl _ xW_ce (zfrom_nd _ _) rfl (by decide) (by decide) (Nat.le_of_ble_eq_true rfl) hn1 hn2 eW_f xW_re ?_
  refine zR_aload_n C eL_law_656 1 rfl rfl ?_
  refine zR_aload_n C eL_law_657 3 rfl rfl ?_
  refine zR_iload_n C eL_law_658 0 rfl rfl ?_
  refine zR_iconst (v := 1) C eL_law_659 (by decide) ?_
  refine zR_iadd C eL_law_660 ?_
  refine zR_scld C S eL_law_661 (j := i + 1) (nI_add i 1) ⟨by omega, hi.2⟩ ?_
  refine zR_callV1 C kL_77 eL_law_662 (c_X6_count p m (xs (i + 1)) hr) rfl 240 6 xW_gm rfl rfl _ xW_cm (zfrom_nd _ _) rfl (by decide) (by decide) (Nat.le_of_ble_eq_true rfl) hn1 hn2 rW_f xW_rm ?_
  refine zR_icmp_eq C eL_law_665 (fun _ => ?_) (fun hne => absurd hS hne)
  exact kk _ _ (RR_mono h (by omega))
theorem law_c15 (C : zC x g RL cL_law (some .boolean) 11) (S : zLS x b L xs) (hi : i + 5 ≤ L ∧ L ≤ 2560) (hB : B + 32000 < 2 ^ 30) (h : RR B e m) (hn1 : n.1 ≤ zmc x) (hn2 : n.2 ≤ zms x)
    (kk : ∀ e2 m2, RR (B + 27000) e2 m2 → zR x g post n 1004 [(3, .int (nI i)), (2, .ref (p 0)), (1, .ref (q 0)), (0, .ref b)] [] (xW g q p e2 m2)) : zR x g post n 670 [(3, .int (nI i)), (2, .ref (p 0)), (1, .ref (q 0)), (0, .ref b)] [] (xW g q p e m) := by
  obtain ⟨he, hs, hr, hl⟩ := RR_pre h
  have hS := S_leftIn (by omega) h (xs (i + 1)) (xs (i + 2))
  refine zR_aload_n C eL_law_670 2 rfl rfl ?_
  refine zR_aload_n C eL_law_671 3 rfl rfl ?_
  refine zR_iload_n C eL_law_672 0 rfl rfl ?_
  refine zR_iconst (v := 1) C eL_law_673 (by decide) ?_
  refine zR_iadd C eL_law_674 ?_
  refine zR_scld C S eL_law_675 (j := i + 1) (nI_add i 1) ⟨by omega, hi.2⟩ ?_
  refine zR_aload_n C eL_law_676 3 rfl rfl ?_
  refine zR_iload_n C eL_law_677 0 rfl rfl ?_
  refine zR_iconst (v := 2) C eL_law_678 (by decide) ?_
  refine zR_iadd C eL_law_679 ?_
  refine zR_scld C S eL_law_680 (j := i + 2) (nI_add i 2) ⟨by omega, hi.2⟩ ?_
  refine zR_callV1 C kL_78 eL_law_681 (c_X5_leftIn q e (xs (i + 1)) (xs (i + 2)) he) rfl 0 5 xW_g0 rfl rfl _ xW_ce (zfrom_nd _ _) rfl (by decide) (by decide) (Nat.le_of_ble_eq_true rfl) hn1 hn2 eW_f xW_re ?_
  refine zR_aload_n C eL_law_684 1 rfl rfl ?_
  refine zR_aload_n C eL_law_685 3 rfl rfl ?_
  refine zR_iload_n C eL_law_686 0 rfl rfl ?_
  refine zR_iconst (v := 1) C eL_law_687 (by decide) ?_
  refine zR_iadd C eL_law_688 ?_
  refine zR_scld C S eL_law_689 (j := i + 1) (nI_add i 1) ⟨by omega, hi.2⟩ ?_
  refine zR_aload_n C eL_law_690 3 rfl rfl ?_
  refine zR_iload_n C eL_law_691 0 rfl rfl ?_
  refine zR_iconst (v := 2) C eL_law_692 (by decide) ?_
  refine zR_iadd C eL_law_693 ?_
  refine zR_scld C S eL_law_694 (j := i + 2) (nI_add i 2) ⟨by omega, hi.2⟩ ?_
  refine zR_callV1 C kL_81 eL_law_695 (c_X6_leftIn p m (xs (i + 1)) (xs (i + 2)) hr hS.2) rfl 240 6 xW_gm rfl rfl _ xW_cm (zfrom_nd _ _) rfl (by decide) (by decide) (Nat.le_of_ble_eq_true rfl) hn1 hn2 rW_f xW_rm ?_
  refine zR_cifeq C eL_law_698 eL_law_699 (fun _ => ?_) (fun hne => absurd hS.1.1 hne)
  exact kk _ _ (RR_mono hS.1.2 (by omega))
theorem law_c16 (C : zC x g RL cL_law (some .boolean) 11) (S : zLS x b L xs) (hi : i + 5 ≤ L ∧ L ≤ 2560) (hB : B + 32000 < 2 ^ 30) (h : RR B e m) (hn1 : n.1 ≤ zmc x) (hn2 : n.2 ≤ zms x)
    (kk : ∀ e2 m2, RR (B + 27000) e2 m2 → zR x g post n 1004 [(3, .int (nI i)), (2, .ref (p 0)), (1, .ref (q 0)), (0, .ref b)] [] (xW g q p e2 m2)) : zR x g post n 704 [(3, .int (nI i)), (2, .ref (p 0)), (1, .ref (q 0)), (0, .ref b)] [] (xW g q p e m) := by
  obtain ⟨he, hs, hr, hl⟩ := RR_pre h
  have hS := S_fin_ (by omega) h (xs (i + 1)) true
  refine zR_aload_n C eL_law_704 2 rfl rfl ?_
  refine zR_aload_n C eL_law_705 3 rfl rfl ?_
  refine zR_iload_n C eL_law_706 0 rfl rfl ?_
  refine zR_iconst (v := 1) C eL_law_707 (by decide) ?_
  refine zR_iadd C eL_law_708 ?_
  refine zR_scld C S eL_law_709 (j := i + 1) (nI_add i 1) ⟨by omega, hi.2⟩ ?_
  refine zR_callV1 C kL_82 eL_law_710 (c_X5_frozenIn q e (xs (i + 1)) he) rfl 0 5 xW_g0 rfl rfl _ xW_ce (zfrom_nd _ _) rfl (by decide) (by decide) (Nat.le_of_ble_eq_true rfl) hn1 hn2 eW_f xW_re ?_
  refine zR_aload_n C eL_law_713 1 rfl rfl ?_
  refine zR_aload_n C eL_law_714 3 rfl rfl ?_
  refine zR_iload_n C eL_law_715 0 rfl rfl ?_
  refine zR_iconst (v := 1) C eL_law_716 (by decide) ?_
  refine zR_iadd C eL_law_717 ?_
  refine zR_scld C S eL_law_718 (j := i + 1) (nI_add i 1) ⟨by omega, hi.2⟩ ?_
  refine zR_callV1 C kL_85 eL_law_719 (c_X6_frozenIn p m (xs (i + 1)) hr hS.2) rfl 240 6 xW_gm rfl rfl _ xW_cm (zfrom_nd _ _) rfl (by decide) (by decide) (Nat.le_of_ble_eq_true rfl) hn1 hn2 rW_f xW_rm ?_
  refine zR_icmp_eq C eL_law_722 (fun _ => ?_) (fun hne => absurd hS.1.1 hne)
  exact kk _ _ (RR_mono hS.1.2 (by omega))
theorem law_c17 (C : zC x g RL cL_law (some .boolean) 11) (S : zLS x b L xs) (hi : i + 5 ≤ L ∧ L ≤ 2560) (hB : B + 32000 < 2 ^ 30) (h : RR B e m) (hn1 : n.1 ≤ zmc x) (hn2 : n.2 ≤ zms x)
    (kk : ∀ e2 m2, RR (B + 27000) e2 m2 → zR x g post n 1004 [(3, .int (nI i)), (2, .ref (p 0)), (1, .ref (q 0)), (0, .ref b)] [] (xW g q p e2 m2)) : zR x g post n 727 [(3, .int (nI i)), (2, .ref (p 0)), (1, .ref (q 0)), (0, .ref b)] [] (xW g q p e m) := by
  obtain ⟨he, hs, hr, hl⟩ := RR_pre h
  have hS := S_fin_ (by omega) h (xs (i + 1)) false
  refine zR_aload_n C eL_law_727 2 rfl rfl ?_
  refine zR_aload_n C eL_law_728 3 rfl rfl ?_
  refine zR_iload_n C eL_law_729 0 rfl rfl ?_
  refine zR_iconst (v := 1) C eL_law_730 (by decide) ?_
  refine zR_iadd C eL_law_731 ?_
  refine zR_scld C S eL_law_732 (j := i + 1) (nI_add i 1) ⟨by omega, hi.2⟩ ?_
  refine zR_callV1 C kL_86 eL_law_733 (c_X5_thawsIn q e (xs (i + 1)) he) rfl 0 5 xW_g0 rfl rfl _ xW_ce (zfrom_nd _ _) rfl (by decide) (by decide) (Nat.le_of_ble_eq_true rfl) hn1 hn2 eW_f xW_re ?_
  refine zR_aload_n C eL_law_736 1 rfl rfl ?_
  refine zR_aload_n C eL_law_737 3 rfl rfl ?_
  refine zR_iload_n C eL_law_738 0 rfl rfl ?_
  refine zR_iconst (v := 1) C eL_law_739 (by decide) ?_
  refine zR_iadd C eL_law_740 ?_
  refine zR_scld C S eL_law_741 (j := i + 1) (nI_add i 1) ⟨by omega, hi.2⟩ ?_
  refine zR_callV1 C kL_89 eL_law_742 (c_X6_thawsIn p m (xs (i + 1)) hr hS.2) rfl 240 6 xW_gm rfl rfl _ xW_cm (zfrom_nd _ _) rfl (by decide) (by decide) (Nat.le_of_ble_eq_true rfl) hn1 hn2 rW_f xW_rm ?_
  refine zR_icmp_eq C eL_law_745 (fun _ => ?_) (fun hne => absurd hS.1.1 hne)
  exact kk _ _ (RR_mono hS.1.2 (by omega))
theorem law_c18 (C : zC x g RL cL_law (some .boolean) 11) (S : zLS x b L xs) (hi : i + 5 ≤ L ∧ L ≤ 2560) (hB : B + 32000 < 2 ^ 30) (h : RR B e m) (hn1 : n.1 ≤ zmc x) (hn2 : n.2 ≤ zms x)
    (kk : ∀ e2 m2, RR (B + 27000) e2 m2 → zR x g post n 1004 [(3, .int (nI i)), (2, .ref (p 0)), (1, .ref (q 0)), (0, .ref b)] [] (xW g q p e2 m2)) : zR x g post n 750 [(3, .int (nI i)), (2, .ref (p 0)), (1, .ref (q 0)), (0, .ref b)] [] (xW g q p e m) := by
  obtain ⟨he, hs, hr, hl⟩ := RR_pre h
  have hS := S_doneAt (by omega) h (xs (i + 1))
  refine zR_aload_n C eL_law_750 2 rfl rfl ?_
  refine zR_aload_n C eL_law_751 3 rfl rfl ?_
  refine zR_iload_n C eL_law_752 0 rfl rfl ?_
  refine zR_iconst (v := 1) C eL_law_753 (by decide) ?_
  refine zR_iadd C eL_law_754 ?_
  refine zR_scld C S eL_law_755 (j := i + 1) (nI_add i 1) ⟨by omega, hi.2⟩ ?_
  refine zR_callV1 C kL_90 eL_law_756 (c_X5_doneAt q e (xs (i + 1)) he) rfl 0 5 xW_g0 rfl rfl _ xW_ce (zfrom_nd _ _) rfl (by decide) (by decide) (Nat.le_of_ble_eq_true rfl) hn1 hn2 eW_f xW_re ?_
  refine zR_aload_n C eL_law_759 1 rfl rfl ?_
  refine zR_aload_n C eL_law_760 3 rfl rfl ?_
  refine zR_iload_n C eL_law_761 0 rfl rfl ?_
  refine zR_iconst (v := 1) C eL_law_762 (by decide) ?_
  refine zR_iadd C eL_law_763 ?_
  refine zR_scld C S eL_law_764 (j := i + 1) (nI_add i 1) ⟨by omega, hi.2⟩ ?_
  refine zR_callV1 C kL_93 eL_law_765 (c_X6_doneAt p m (xs (i + 1)) hS.2) rfl 240 6 xW_gm rfl rfl _ xW_cm (zfrom_nd _ _) rfl (by decide) (by decide) (Nat.le_of_ble_eq_true rfl) hn1 hn2 rW_f xW_rm ?_
  refine zR_icmp_eq C eL_law_768 (fun _ => ?_) (fun hne => absurd hS.1.1 hne)
  exact kk _ _ (RR_mono hS.1.2 (by omega))
theorem law_c19 (C : zC x g RL cL_law (some .boolean) 11) (S : zLS x b L xs) (hi : i + 5 ≤ L ∧ L ≤ 2560) (hB : B + 32000 < 2 ^ 30) (h : RR B e m) (hn1 : n.1 ≤ zmc x) (hn2 : n.2 ≤ zms x)
    (kk : ∀ e2 m2, RR (B + 27000) e2 m2 → zR x g post n 1004 [(3, .int (nI i)), (2, .ref (p 0)), (1, .ref (q 0)), (0, .ref b)] [] (xW g q p e2 m2)) : zR x g post n 773 [(3, .int (nI i)), (2, .ref (p 0)), (1, .ref (q 0)), (0, .ref b)] [] (xW g q p e m) := by
  obtain ⟨he, hs, hr, hl⟩ := RR_pre h
  have hS := S_best h (xs (i + 1)) (xs (i + 2))
  refine zR_aload_n C eL_law_773 2 rfl rfl ?_
  refine zR_aload_n C eL_law_774 3 rfl rfl ?_
  refine zR_iload_n C eL_law_775 0 rfl rfl ?_
  refine zR_iconst (v := 1) C eL_law_776 (by decide) ?_
  refine zR_iadd C eL_law_777 ?_
  refine zR_scld C S eL_law_778 (j := i + 1) (nI_add i 1) ⟨by omega, hi.2⟩ ?_
  refine zR_aload_n C eL_law_779 3 rfl rfl ?_
  refine zR_iload_n C eL_law_780 0 rfl rfl ?_
  refine zR_iconst (v := 2) C eL_law_781 (by decide) ?_
  refine zR_iadd C eL_law_782 ?_
  refine zR_scld C S eL_law_783 (j := i + 2) (nI_add i 2) ⟨by omega, hi.2⟩ ?_
  refine zR_callV1 C kL_94 eL_law_784 (c_X5_bestLender q e (xs (i + 1)) (xs (i + 2)) he) rfl 0 5 xW_g0 rfl rfl _ xW_ce (zfrom_nd _ _) rfl (by decide) (by decide) (Nat.le_of_ble_eq_true rfl) hn1 hn2 eW_f xW_re ?_
  refine zR_aload_n C eL_law_787 1 rfl rfl ?_
  refine zR_aload_n C eL_law_788 3 rfl rfl ?_
  refine zR_iload_n C eL_law_789 0 rfl rfl ?_
  refine zR_iconst (v := 1) C eL_law_790 (by decide) ?_
  refine zR_iadd C eL_law_791 ?_
  refine zR_scld C S eL_law_792 (j := i + 1) (nI_add i 1) ⟨by omega, hi.2⟩ ?_
  refine zR_aload_n C eL_law_793 3 rfl rfl ?_
  refine zR_iload_n C eL_law_794 0 rfl rfl ?_
  refine zR_iconst (v := 2) C eL_law_795 (by decide) ?_
  refine zR_iadd C eL_law_796 ?_
  refine zR_scld C S eL_law_797 (j := i + 2) (nI_add i 2) ⟨by omega, hi.2⟩ ?_
  refine zR_callV1 C kL_97 eL_law_798 (c_X6_bestLender p m (xs (i + 1)) (xs (i + 2)) hr) rfl 240 6 xW_gm rfl rfl _ xW_cm (zfrom_nd _ _) rfl (by decide) (by decide) (Nat.le_of_ble_eq_true rfl) hn1 hn2 rW_f xW_rm ?_
  refine zR_icmp_eq C eL_law_801 (fun _ => ?_) (fun hne => absurd hS hne)
  exact kk _ _ (RR_mono h (by omega))
theorem law_c20 (C : zC x g RL cL_law (some .boolean) 11) (S : zLS x b L xs) (hi : i + 5 ≤ L ∧ L ≤ 2560) (hB : B + 32000 < 2 ^ 30) (h : RR B e m) (hn1 : n.1 ≤ zmc x) (hn2 : n.2 ≤ zms x)
    (kk : ∀ e2 m2, RR (B + 27000) e2 m2 → zR x g post n 1004 [(3, .int (nI i)), (2, .ref (p 0)), (1, .ref (q 0)), (0, .ref b)] [] (xW g q p e2 m2)) : zR x g post n 806 [(3, .int (nI i)), (2, .ref (p 0)), (1, .ref (q 0)), (0, .ref b)] [] (xW g q p e m) := by
  obtain ⟨he, hs, hr, hl⟩ := RR_pre h
  have hS := S_least h (xs (i + 1))
  refine zR_aload_n C eL_law_806 2 rfl rfl ?_
  refine zR_aload_n C eL_law_807 3 rfl rfl ?_
  refine zR_iload_n C eL_law_808 0 rfl rfl ?_
  refine zR_iconst (v := 1) C eL_law_809 (by decide) ?_
  refine zR_iadd C eL_law_810 ?_
  refine zR_scld C S eL_law_811 (j := i + 1) (nI_add i 1) ⟨by omega, hi.2⟩ ?_
  refine zR_callV1 C kL_98 eL_law_812 (c_X5_leastLoan q e (xs (i + 1)) he) rfl 0 5 xW_g0 rfl rfl _ xW_ce (zfrom_nd _ _) rfl (by decide) (by decide) (Nat.le_of_ble_eq_true rfl) hn1 hn2 eW_f xW_re ?_
  refine zR_aload_n C eL_law_815 1 rfl rfl ?_
  refine zR_aload_n C eL_law_816 3 rfl rfl ?_
  refine zR_iload_n C eL_law_817 0 rfl rfl ?_
  refine zR_iconst (v := 1) C eL_law_818 (by decide) ?_
  refine zR_iadd C eL_law_819 ?_
  refine zR_scld C S eL_law_820 (j := i + 1) (nI_add i 1) ⟨by omega, hi.2⟩ ?_
  refine zR_callV1 C kL_102 eL_law_821 (c_X6_leastLoan p m (xs (i + 1)) hr) rfl 240 6 xW_gm rfl rfl _ xW_cm (zfrom_nd _ _) rfl (by decide) (by decide) (Nat.le_of_ble_eq_true rfl) hn1 hn2 rW_f xW_rm ?_
  refine zR_cifeq C eL_law_824 eL_law_825 (fun _ => ?_) (fun hne => absurd hS hne)
  exact kk _ _ (RR_mono h (by omega))
theorem law_c21 (C : zC x g RL cL_law (some .boolean) 11) (S : zLS x b L xs) (hi : i + 5 ≤ L ∧ L ≤ 2560) (hB : B + 32000 < 2 ^ 30) (h : RR B e m) (hn1 : n.1 ≤ zmc x) (hn2 : n.2 ≤ zms x)
    (kk : ∀ e2 m2, RR (B + 27000) e2 m2 → zR x g post n 1004 [(3, .int (nI i)), (2, .ref (p 0)), (1, .ref (q 0)), (0, .ref b)] [] (xW g q p e2 m2)) : zR x g post n 830 [(3, .int (nI i)), (2, .ref (p 0)), (1, .ref (q 0)), (0, .ref b)] [] (xW g q p e m) := by
  obtain ⟨he, hs, hr, hl⟩ := RR_pre h
  have hS := S_safe h (xs (i + 1))
  refine zR_aload_n C eL_law_830 2 rfl rfl ?_
  refine zR_aload_n C eL_law_831 3 rfl rfl ?_
  refine zR_iload_n C eL_law_832 0 rfl rfl ?_
  refine zR_iconst (v := 1) C eL_law_833 (by decide) ?_
  refine zR_iadd C eL_law_834 ?_
  refine zR_scld C S eL_law_835 (j := i + 1) (nI_add i 1) ⟨by omega, hi.2⟩ ?_
  refine zR_callV1 C kL_103 eL_law_836 (c_X5_safeSize q e (xs (i + 1)) he) rfl 0 5 xW_g0 rfl rfl _ xW_ce (zfrom_nd _ _) rfl (by decide) (by decide) (Nat.le_of_ble_eq_true rfl) hn1 hn2 eW_f xW_re ?_
  refine zR_aload_n C eL_law_839 1 rfl rfl ?_
  refine zR_aload_n C eL_law_840 3 rfl rfl ?_
  refine zR_iload_n C eL_law_841 0 rfl rfl ?_
  refine zR_iconst (v := 1) C eL_law_842 (by decide) ?_
  refine zR_iadd C eL_law_843 ?_
  refine zR_scld C S eL_law_844 (j := i + 1) (nI_add i 1) ⟨by omega, hi.2⟩ ?_
  refine zR_callV1 C kL_106 eL_law_845 (c_X6_safeSize p m (xs (i + 1)) hr) rfl 240 6 xW_gm rfl rfl _ xW_cm (zfrom_nd _ _) rfl (by decide) (by decide) (Nat.le_of_ble_eq_true rfl) hn1 hn2 rW_f xW_rm ?_
  refine zR_icmp_eq C eL_law_848 (fun _ => ?_) (fun hne => absurd hS hne)
  exact kk _ _ (RR_mono h (by omega))
theorem law_c22 (C : zC x g RL cL_law (some .boolean) 11) (S : zLS x b L xs) (hi : i + 5 ≤ L ∧ L ≤ 2560) (hB : B + 32000 < 2 ^ 30) (h : RR B e m) (hn1 : n.1 ≤ zmc x) (hn2 : n.2 ≤ zms x)
    (kk : ∀ e2 m2, RR (B + 27000) e2 m2 → zR x g post n 1004 [(3, .int (nI i)), (2, .ref (p 0)), (1, .ref (q 0)), (0, .ref b)] [] (xW g q p e2 m2)) : zR x g post n 853 [(3, .int (nI i)), (2, .ref (p 0)), (1, .ref (q 0)), (0, .ref b)] [] (xW g q p e m) := by
  obtain ⟨he, hs, hr, hl⟩ := RR_pre h
  have hS := S_put h (law_w (xs (i + 1)) (xs (i + 2)))
  refine zR_aload_n C eL_law_853 2 rfl rfl ?_
  refine zR_aload_n C eL_law_854 3 rfl rfl ?_
  refine zR_iload_n C eL_law_855 0 rfl rfl ?_
  refine zR_iconst (v := 1) C eL_law_856 (by decide) ?_
  refine zR_iadd C eL_law_857 ?_
  refine zR_scld C S eL_law_858 (j := i + 1) (nI_add i 1) ⟨by omega, hi.2⟩ ?_
  refine zR_i2l C eL_law_859 ?_
  refine zR_bipush (v := 32) C eL_law_860 (by decide) ?_
  refine zR_lshl C eL_law_862 ?_
  refine zR_aload_n C eL_law_863 3 rfl rfl ?_
  refine zR_iload_n C eL_law_864 0 rfl rfl ?_
  refine zR_iconst (v := 2) C eL_law_865 (by decide) ?_
  refine zR_iadd C eL_law_866 ?_
  refine zR_scld C S eL_law_867 (j := i + 2) (nI_add i 2) ⟨by omega, hi.2⟩ ?_
  refine zR_i2l C eL_law_868 ?_
  refine zR_ldc2 C qL_107 eL_law_869 ?_
  refine zR_land C eL_law_872 ?_
  refine zR_lor C eL_law_873 ?_
  refine zR_topl (b := law_w (xs (i + 1)) (xs (i + 2))) rfl ?_
  refine zR_callV1 C kL_109 eL_law_874 (c_X5_put q e (law_w (xs (i + 1)) (xs (i + 2))) he) rfl 0 5 xW_g0 rfl rfl _ xW_ce (zfrom_nd _ _) rfl (by decide) (by decide) (Nat.le_of_ble_eq_true rfl) hn1 hn2 eW_f xW_re ?_
  refine zR_aload_n C eL_law_877 1 rfl rfl ?_
  refine zR_aload_n C eL_law_878 3 rfl rfl ?_
  refine zR_iload_n C eL_law_879 0 rfl rfl ?_
  refine zR_iconst (v := 1) C eL_law_880 (by decide) ?_
  refine zR_iadd C eL_law_881 ?_
  refine zR_scld C S eL_law_882 (j := i + 1) (nI_add i 1) ⟨by omega, hi.2⟩ ?_
  refine zR_i2l C eL_law_883 ?_
  refine zR_bipush (v := 32) C eL_law_884 (by decide) ?_
  refine zR_lshl C eL_law_886 ?_
  refine zR_aload_n C eL_law_887 3 rfl rfl ?_
  refine zR_iload_n C eL_law_888 0 rfl rfl ?_
  refine zR_iconst (v := 2) C eL_law_889 (by decide) ?_
  refine zR_iadd C eL_law_890 ?_
  refine zR_scld C S eL_law_891 (j := i + 2) (nI_add i 2) ⟨by omega, hi.2⟩ ?_
  refine zR_i2l C eL_law_892 ?_
  refine zR_ldc2 C qL_107 eL_law_893 ?_
  refine zR_land C eL_law_896 ?_
  refine zR_lor C eL_law_897 ?_
  refine zR_topl (b := law_w (xs (i + 1)) (xs (i + 2))) rfl ?_
  refine zR_callV1 C kL_113 eL_law_898 (c_X6_put p m (law_w (xs (i + 1)) (xs (i + 2))) hl) rfl 240 6 xW_gm rfl rfl _ xW_cm (zfrom_nd _ _) rfl (by decide) (by decide) (Nat.le_of_ble_eq_true rfl) hn1 hn2 rW_f xW_rm ?_
  refine zR_icmp_eq C eL_law_901 (fun _ => ?_) (fun hne => absurd hS.1 hne)
  exact kk _ _ (RR_mono hS.2 (by omega))
theorem law_c23 (C : zC x g RL cL_law (some .boolean) 11) (S : zLS x b L xs) (hi : i + 5 ≤ L ∧ L ≤ 2560) (hB : B + 32000 < 2 ^ 30) (h : RR B e m) (hn1 : n.1 ≤ zmc x) (hn2 : n.2 ≤ zms x)
    (kk : ∀ e2 m2, RR (B + 27000) e2 m2 → zR x g post n 1004 [(3, .int (nI i)), (2, .ref (p 0)), (1, .ref (q 0)), (0, .ref b)] [] (xW g q p e2 m2)) : zR x g post n 906 [(3, .int (nI i)), (2, .ref (p 0)), (1, .ref (q 0)), (0, .ref b)] [] (xW g q p e m) := by
  obtain ⟨he, hs, hr, hl⟩ := RR_pre h
  have hS := S_wipe h 
  refine zR_aload_n C eL_law_906 2 rfl rfl ?_
  refine zR_callV1 C kL_114 eL_law_907 (c_X5_wipe q e  he) rfl 0 5 xW_g0 rfl rfl _ xW_ce (zfrom_nd _ _) rfl (by decide) (by decide) (Nat.le_of_ble_eq_true rfl) hn1 hn2 eW_f xW_re ?_
  refine zR_aload_n C eL_law_910 1 rfl rfl ?_
  refine zR_callV1 C kL_118 eL_law_911 (c_X6_wipe p m  ) rfl 240 6 xW_gm rfl rfl _ xW_cm (zfrom_nd _ _) rfl (by decide) (by decide) (Nat.le_of_ble_eq_true rfl) hn1 hn2 rW_f xW_rm ?_
  refine zR_icmp_eq C eL_law_914 (fun _ => ?_) (fun hne => absurd hS.1 hne)
  exact kk _ _ (RR_mono hS.2 (by omega))
theorem law_c24 (C : zC x g RL cL_law (some .boolean) 11) (S : zLS x b L xs) (hi : i + 5 ≤ L ∧ L ≤ 2560) (hB : B + 32000 < 2 ^ 30) (h : RR B e m) (hn1 : n.1 ≤ zmc x) (hn2 : n.2 ≤ zms x)
    (kk : ∀ e2 m2, RR (B + 27000) e2 m2 → zR x g post n 1004 [(3, .int (nI i)), (2, .ref (p 0)), (1, .ref (q 0)), (0, .ref b)] [] (xW g q p e2 m2)) : zR x g post n 919 [(3, .int (nI i)), (2, .ref (p 0)), (1, .ref (q 0)), (0, .ref b)] [] (xW g q p e m) := by
  obtain ⟨he, hs, hr, hl⟩ := RR_pre h
  have hS := S_fault h 
  refine zR_aload_n C eL_law_919 2 rfl rfl ?_
  refine zR_callV1 C kL_119 eL_law_920 (c_X5_fault q e  he) rfl 0 5 xW_g0 rfl rfl _ xW_ce (zfrom_nd _ _) rfl (by decide) (by decide) (Nat.le_of_ble_eq_true rfl) hn1 hn2 eW_f xW_re ?_
  refine zR_aload_n C eL_law_923 1 rfl rfl ?_
  refine zR_callV1 C kL_122 eL_law_924 (c_X6_fault p m  hl) rfl 240 6 xW_gm rfl rfl _ xW_cm (zfrom_nd _ _) rfl (by decide) (by decide) (Nat.le_of_ble_eq_true rfl) hn1 hn2 rW_f xW_rm ?_
  refine zR_icmp_eq C eL_law_927 (fun _ => ?_) (fun hne => absurd hS.1 hne)
  exact kk _ _ (RR_mono hS.2 (by omega))
theorem law_c25 (C : zC x g RL cL_law (some .boolean) 11) (S : zLS x b L xs) (hi : i + 5 ≤ L ∧ L ≤ 2560) (hB : B + 32000 < 2 ^ 30) (h : RR B e m) (hn1 : n.1 ≤ zmc x) (hn2 : n.2 ≤ zms x)
    (kk : ∀ e2 m2, RR (B + 27000) e2 m2 → zR x g post n 1004 [(3, .int (nI i)), (2, .ref (p 0)), (1, .ref (q 0)), (0, .ref b)] [] (xW g q p e2 m2)) : zR x g post n 932 [(3, .int (nI i)), (2, .ref (p 0)), (1, .ref (q 0)), (0, .ref b)] [] (xW g q p e m) := by
  obtain ⟨he, hs, hr, hl⟩ := RR_pre h
  have hS := S_carry (by omega) h 
  refine zR_aload_n C eL_law_932 2 rfl rfl ?_
  refine zR_callV1 C kL_123 eL_law_933 (c_X5_carryOut q e  he) rfl 0 5 xW_g0 rfl rfl _ xW_ce (zfrom_nd _ _) rfl (by decide) (by decide) (Nat.le_of_ble_eq_true rfl) hn1 hn2 eW_f xW_re ?_
  refine zR_aload_n C eL_law_936 1 rfl rfl ?_
  refine zR_callV1 C kL_126 eL_law_937 (c_X6_carryOut2 p m  hs hl hS.2) rfl 240 6 xW_gm rfl rfl _ xW_cm (zfrom_nd _ _) rfl (by decide) (by decide) (Nat.le_of_ble_eq_true rfl) hn1 hn2 rW_f xW_rm ?_
  refine zR_icmp_eq C eL_law_940 (fun _ => ?_) (fun hne => absurd hS.1.1 hne)
  exact kk _ _ (RR_mono hS.1.2 (by omega))
theorem law_c26 (C : zC x g RL cL_law (some .boolean) 11) (S : zLS x b L xs) (hi : i + 5 ≤ L ∧ L ≤ 2560) (hB : B + 32000 < 2 ^ 30) (h : RR B e m) (hn1 : n.1 ≤ zmc x) (hn2 : n.2 ≤ zms x)
    (kk : ∀ e2 m2, RR (B + 27000) e2 m2 → zR x g post n 1004 [(3, .int (nI i)), (2, .ref (p 0)), (1, .ref (q 0)), (0, .ref b)] [] (xW g q p e2 m2)) : zR x g post n 945 [(3, .int (nI i)), (2, .ref (p 0)), (1, .ref (q 0)), (0, .ref b)] [] (xW g q p e m) := by
  obtain ⟨he, hs, hr, hl⟩ := RR_pre h
  have hS := S_undo h 
  refine zR_aload_n C eL_law_945 2 rfl rfl ?_
  refine zR_callV1 C kL_127 eL_law_946 (c_X5_undo q e  he) rfl 0 5 xW_g0 rfl rfl _ xW_ce (zfrom_nd _ _) rfl (by decide) (by decide) (Nat.le_of_ble_eq_true rfl) hn1 hn2 eW_f xW_re ?_
  refine zR_aload_n C eL_law_949 1 rfl rfl ?_
  refine zR_callV1 C kL_130 eL_law_950 (c_X6_undo p m  hs) rfl 240 6 xW_gm rfl rfl _ xW_cm (zfrom_nd _ _) rfl (by decide) (by decide) (Nat.le_of_ble_eq_true rfl) hn1 hn2 rW_f xW_rm ?_
  refine zR_icmp_eq C eL_law_953 (fun _ => ?_) (fun hne => absurd hS.1 hne)
  exact kk _ _ (RR_mono hS.2 (by omega))
theorem law_c27 (C : zC x g RL cL_law (some .boolean) 11) (S : zLS x b L xs) (hi : i + 5 ≤ L ∧ L ≤ 2560) (hB : B + 32000 < 2 ^ 30) (h : RR B e m) (hn1 : n.1 ≤ zmc x) (hn2 : n.2 ≤ zms x)
    (kk : ∀ e2 m2, RR (B + 27000) e2 m2 → zR x g post n 1004 [(3, .int (nI i)), (2, .ref (p 0)), (1, .ref (q 0)), (0, .ref b)] [] (xW g q p e2 m2)) : zR x g post n 958 [(3, .int (nI i)), (2, .ref (p 0)), (1, .ref (q 0)), (0, .ref b)] [] (xW g q p e m) := by
  obtain ⟨he, hs, hr, hl⟩ := RR_pre h
  have hS := S_save h (xs (i + 1))
  refine zR_aload_n C eL_law_958 2 rfl rfl ?_
  refine zR_aload_n C eL_law_959 3 rfl rfl ?_
  refine zR_iload_n C eL_law_960 0 rfl rfl ?_
  refine zR_iconst (v := 1) C eL_law_961 (by decide) ?_
  refine zR_iadd C eL_law_962 ?_
  refine zR_scld C S eL_law_963 (j := i + 1) (nI_add i 1) ⟨by omega, hi.2⟩ ?_
  refine zR_callV1 C kL_131 eL_law_964 (c_X5_save q e (xs (i + 1)) he) rfl 0 5 xW_g0 rfl rfl _ xW_ce (zfrom_nd _ _) rfl (by decide) (by decide) (Nat.le_of_ble_eq_true rfl) hn1 hn2 eW_f xW_re ?_
  refine zR_aload_n C eL_law_967 1 rfl rfl ?_
  refine zR_aload_n C eL_law_968 3 rfl rfl ?_
  refine zR_iload_n C eL_law_969 0 rfl rfl ?_
  refine zR_iconst (v := 1) C eL_law_970 (by decide) ?_
  refine zR_iadd C eL_law_971 ?_
  refine zR_scld C S eL_law_972 (j := i + 1) (nI_add i 1) ⟨by omega, hi.2⟩ ?_
  refine zR_callV1 C kL_134 eL_law_973 (c_X6_save p m (xs (i + 1)) ) rfl 240 6 xW_gm rfl rfl _ xW_cm (zfrom_nd _ _) rfl (by decide) (by decide) (Nat.le_of_ble_eq_true rfl) hn1 hn2 rW_f xW_rm ?_
  refine zR_icmp_eq C eL_law_976 (fun _ => ?_) (fun hne => absurd hS.1 hne)
  exact kk _ _ (RR_mono hS.2 (by omega))
theorem law_c28 (C : zC x g RL cL_law (some .boolean) 11) (S : zLS x b L xs) (hi : i + 5 ≤ L ∧ L ≤ 2560) (hB : B + 32000 < 2 ^ 30) (h : RR B e m) (hn1 : n.1 ≤ zmc x) (hn2 : n.2 ≤ zms x)
    (kk : ∀ e2 m2, RR (B + 27000) e2 m2 → zR x g post n 1004 [(3, .int (nI i)), (2, .ref (p 0)), (1, .ref (q 0)), (0, .ref b)] [] (xW g q p e2 m2)) : zR x g post n 981 [(3, .int (nI i)), (2, .ref (p 0)), (1, .ref (q 0)), (0, .ref b)] [] (xW g q p e m) := by
  obtain ⟨he, hs, hr, hl⟩ := RR_pre h
  have hS := S_restore h (xs (i + 1))
  refine zR_aload_n C eL_law_981 2 rfl rfl ?_
  refine zR_aload_n C eL_law_982 3 rfl rfl ?_
  refine zR_iload_n C eL_law_983 0 rfl rfl ?_
  refine zR_iconst (v := 1) C eL_law_984 (by decide) ?_
  refine zR_iadd C eL_law_985 ?_
  refine zR_scld C S eL_law_986 (j := i + 1) (nI_add i 1) ⟨by omega, hi.2⟩ ?_
  refine zR_callV1 C kL_135 eL_law_987 (c_X5_restore q e (xs (i + 1)) he) rfl 0 5 xW_g0 rfl rfl _ xW_ce (zfrom_nd _ _) rfl (by decide) (by decide) (Nat.le_of_ble_eq_true rfl) hn1 hn2 eW_f xW_re ?_
  refine zR_aload_n C eL_law_990 1 rfl rfl ?_
  refine zR_aload_n C eL_law_991 3 rfl rfl ?_
  refine zR_iload_n C eL_law_992 0 rfl rfl ?_
  refine zR_iconst (v := 1) C eL_law_993 (by decide) ?_
  refine zR_iadd C eL_law_994 ?_
  refine zR_scld C S eL_law_995 (j := i + 1) (nI_add i 1) ⟨by omega, hi.2⟩ ?_
  refine zR_callV1 C kL_138 eL_law_996 (c_X6_restore p m (xs (i + 1)) hs) rfl 240 6 xW_gm rfl rfl _ xW_cm (zfrom_nd _ _) rfl (by decide) (by decide) (Nat.le_of_ble_eq_true rfl) hn1 hn2 rW_f xW_rm ?_
  refine zR_icmp_eq C eL_law_999 (fun _ => ?_) (fun hne => absurd hS.1 hne)
  exact kk _ _ (RR_mono hS.2 (by omega))
set_option maxHeartbeats 4000000 in
theorem law_loop (C : zC x g RL cL_law (some .boolean) 11) (S : zLS x b L xs) (hL : L ≤ 2560) (hn : zn x = 4) (hn1 : n.1 ≤ zmc x) (hn2 : n.2 ≤ zms x) : ∀ (f k : Nat), k + f = 513 → 5 * k ≤ L → ∀ (e : ED) (m : MD), RR (27000 * k) e m → zR x g (fun r _ => r = some (.int 1)) n 18 [(3, .int (nI (5 * k))), (2, .ref (p 0)), (1, .ref (q 0)), (0, .ref b)] [] (xW g q p e m) := by
  intro f
  induction f with
  | zero => intro k hk h5; omega
  | succ f ih =>
    intro k hk h5 e m h
    refine zR_iload_n C eL_law_18 0 rfl rfl ?_
    refine zR_aload_n C eL_law_19 3 rfl rfl ?_
    refine zR_sclen C S eL_law_20 ?_
    refine zR_iconst (v := 5) C eL_law_21 (by decide) ?_
    refine zR_isub C eL_law_22 ?_
    refine zR_icmp_gt C eL_law_23 (fun h23 => ?_) (fun h23 => ?_)
    · refine zR_iconst (v := 1) C eL_law_1010 (by decide) ?_
      exact zR_iret C rfl rfl eL_law_1011 hn1 hn2 rfl
    · have hi : 5 * k + 5 ≤ L := law_le (by omega) hL h23
      have kk : ∀ e2 m2, RR (27000 * k + 27000) e2 m2 → zR x g (fun r _ => r = some (.int 1)) n 1004 [(3, .int (nI (5 * k))), (2, .ref (p 0)), (1, .ref (q 0)), (0, .ref b)] [] (xW g q p e2 m2) := by
        intro e2 m2 h2
        refine zR_iinc (lv' := [(3, _), (2, _), (1, _), (0, _)]) (v' := nI (5 * (k + 1))) C eL_law_1004 0 rfl (nI_add (5 * k) 5) (by rw [hn]; decide) rfl ?_
        refine zR_goto C eL_law_1007 ?_
        exact ih (k + 1) (by omega) (by omega) e2 m2 h2
      have hB : 27000 * k + 32000 < 2 ^ 30 := by omega
      refine zR_aload_n C eL_law_26 3 rfl rfl ?_
      refine zR_iload_n C eL_law_27 0 rfl rfl ?_
      refine zR_scld C S eL_law_28 (j := 5 * k) rfl ⟨by omega, hL⟩ ?_
      refine zR_bipush (v := 31) C eL_law_29 (by decide) ?_
      refine zR_iand C eL_law_31 ?_
      generalize (xs (5 * k) &&& 31) = w
      refine zR_caseK 0 (fun _ => zR_tswIn C eL_law_32 (by decide) (by decide) (off := 132) (by decide) (tgt := 164) (by decide) (law_c0 C S ⟨hi, hL⟩ hB h hn1 hn2 kk)) (fun n0 => ?_)
      refine zR_caseK 1 (fun _ => zR_tswIn C eL_law_32 (by decide) (by decide) (off := 165) (by decide) (tgt := 197) (by decide) (law_c1 C S ⟨hi, hL⟩ hB h hn1 hn2 kk)) (fun n1 => ?_)
      refine zR_caseK 2 (fun _ => zR_tswIn C eL_law_32 (by decide) (by decide) (off := 188) (by decide) (tgt := 220) (by decide) (law_c2 C S ⟨hi, hL⟩ hB h hn1 hn2 kk)) (fun n2 => ?_)
      refine zR_caseK 3 (fun _ => zR_tswIn C eL_law_32 (by decide) (by decide) (off := 221) (by decide) (tgt := 253) (by decide) (law_c3 C S ⟨hi, hL⟩ hB h hn1 hn2 kk)) (fun n3 => ?_)
      refine zR_caseK 4 (fun _ => zR_tswIn C eL_law_32 (by decide) (by decide) (off := 264) (by decide) (tgt := 296) (by decide) (law_c4 C S ⟨hi, hL⟩ hB h hn1 hn2 kk)) (fun n4 => ?_)
      refine zR_caseK 5 (fun _ => zR_tswIn C eL_law_32 (by decide) (by decide) (off := 307) (by decide) (tgt := 339) (by decide) (law_c5 C S ⟨hi, hL⟩ hB h hn1 hn2 kk)) (fun n5 => ?_)
      refine zR_caseK 6 (fun _ => zR_tswIn C eL_law_32 (by decide) (by decide) (off := 360) (by decide) (tgt := 392) (by decide) (law_c6 C S ⟨hi, hL⟩ hB h hn1 hn2 kk)) (fun n6 => ?_)
      refine zR_caseK 7 (fun _ => zR_tswIn C eL_law_32 (by decide) (by decide) (off := 383) (by decide) (tgt := 415) (by decide) (law_c7 C S ⟨hi, hL⟩ hB h hn1 hn2 kk)) (fun n7 => ?_)
      refine zR_caseK 8 (fun _ => zR_tswIn C eL_law_32 (by decide) (by decide) (off := 436) (by decide) (tgt := 468) (by decide) (law_c8 C S ⟨hi, hL⟩ hB h hn1 hn2 kk)) (fun n8 => ?_)
      refine zR_caseK 9 (fun _ => zR_tswIn C eL_law_32 (by decide) (by decide) (off := 459) (by decide) (tgt := 491) (by decide) (law_c9 C S ⟨hi, hL⟩ hB h hn1 hn2 kk)) (fun n9 => ?_)
      refine zR_caseK 10 (fun _ => zR_tswIn C eL_law_32 (by decide) (by decide) (off := 482) (by decide) (tgt := 514) (by decide) (law_c10 C S ⟨hi, hL⟩ hB h hn1 hn2 kk)) (fun n10 => ?_)
      refine zR_caseK 11 (fun _ => zR_tswIn C eL_law_32 (by decide) (by decide) (off := 515) (by decide) (tgt := 547) (by decide) (law_c11 C S ⟨hi, hL⟩ hB h hn1 hn2 kk)) (fun n11 => ?_)
      refine zR_caseK 12 (fun _ => zR_tswIn C eL_law_32 (by decide) (by decide) (off := 549) (by decide) (tgt := 581) (by decide) (law_c12 C S ⟨hi, hL⟩ hB h hn1 hn2 kk)) (fun n12 => ?_)
      refine zR_caseK 13 (fun _ => zR_tswIn C eL_law_32 (by decide) (by decide) (off := 582) (by decide) (tgt := 614) (by decide) (law_c13 C S ⟨hi, hL⟩ hB h hn1 hn2 kk)) (fun n13 => ?_)
      refine zR_caseK 14 (fun _ => zR_tswIn C eL_law_32 (by decide) (by decide) (off := 615) (by decide) (tgt := 647) (by decide) (law_c14 C S ⟨hi, hL⟩ hB h hn1 hn2 kk)) (fun n14 => ?_)
      refine zR_caseK 15 (fun _ => zR_tswIn C eL_law_32 (by decide) (by decide) (off := 638) (by decide) (tgt := 670) (by decide) (law_c15 C S ⟨hi, hL⟩ hB h hn1 hn2 kk)) (fun n15 => ?_)
      refine zR_caseK 16 (fun _ => zR_tswIn C eL_law_32 (by decide) (by decide) (off := 672) (by decide) (tgt := 704) (by decide) (law_c16 C S ⟨hi, hL⟩ hB h hn1 hn2 kk)) (fun n16 => ?_)
      refine zR_caseK 17 (fun _ => zR_tswIn C eL_law_32 (by decide) (by decide) (off := 695) (by decide) (tgt := 727) (by decide) (law_c17 C S ⟨hi, hL⟩ hB h hn1 hn2 kk)) (fun n17 => ?_)
      refine zR_caseK 18 (fun _ => zR_tswIn C eL_law_32 (by decide) (by decide) (off := 718) (by decide) (tgt := 750) (by decide) (law_c18 C S ⟨hi, hL⟩ hB h hn1 hn2 kk)) (fun n18 => ?_)
      refine zR_caseK 19 (fun _ => zR_tswIn C eL_law_32 (by decide) (by decide) (off := 741) (by decide) (tgt := 773) (by decide) (law_c19 C S ⟨hi, hL⟩ hB h hn1 hn2 kk)) (fun n19 => ?_)
      refine zR_caseK 20 (fun _ => zR_tswIn C eL_law_32 (by decide) (by decide) (off := 774) (by decide) (tgt := 806) (by decide) (law_c20 C S ⟨hi, hL⟩ hB h hn1 hn2 kk)) (fun n20 => ?_)
      refine zR_caseK 21 (fun _ => zR_tswIn C eL_law_32 (by decide) (by decide) (off := 798) (by decide) (tgt := 830) (by decide) (law_c21 C S ⟨hi, hL⟩ hB h hn1 hn2 kk)) (fun n21 => ?_)
      refine zR_caseK 22 (fun _ => zR_tswIn C eL_law_32 (by decide) (by decide) (off := 821) (by decide) (tgt := 853) (by decide) (law_c22 C S ⟨hi, hL⟩ hB h hn1 hn2 kk)) (fun n22 => ?_)
      refine zR_caseK 23 (fun _ => zR_tswIn C eL_law_32 (by decide) (by decide) (off := 874) (by decide) (tgt := 906) (by decide) (law_c23 C S ⟨hi, hL⟩ hB h hn1 hn2 kk)) (fun n23 => ?_)
      refine zR_caseK 24 (fun _ => zR_tswIn C eL_law_32 (by decide) (by decide) (off := 887) (by decide) (tgt := 919) (by decide) (law_c24 C S ⟨hi, hL⟩ hB h hn1 hn2 kk)) (fun n24 => ?_)
      refine zR_caseK 25 (fun _ => zR_tswIn C eL_law_32 (by decide) (by decide) (off := 900) (by decide) (tgt := 932) (by decide) (law_c25 C S ⟨hi, hL⟩ hB h hn1 hn2 kk)) (fun n25 => ?_)
      refine zR_caseK 26 (fun _ => zR_tswIn C eL_law_32 (by decide) (by decide) (off := 913) (by decide) (tgt := 945) (by decide) (law_c26 C S ⟨hi, hL⟩ hB h hn1 hn2 kk)) (fun n26 => ?_)
      refine zR_caseK 27 (fun _ => zR_tswIn C eL_law_32 (by decide) (by decide) (off := 926) (by decide) (tgt := 958) (by decide) (law_c27 C S ⟨hi, hL⟩ hB h hn1 hn2 kk)) (fun n27 => ?_)
      refine zR_caseK 28 (fun _ => zR_tswIn C eL_law_32 (by decide) (by decide) (off := 949) (by decide) (tgt := 981) (by decide) (law_c28 C S ⟨hi, hL⟩ hB h hn1 hn2 kk)) (fun n28 => ?_)
      refine zR_tswOut C eL_law_32 (tgt := 1004) ?_ (by decide) (kk e m (RR_mono h (by omega)))
      have z0 := zsw_ne (k := 0) n0 (by decide) (by decide)
      have z1 := zsw_ne (k := 1) n1 (by decide) (by decide)
      have z2 := zsw_ne (k := 2) n2 (by decide) (by decide)
      have z3 := zsw_ne (k := 3) n3 (by decide) (by decide)
      have z4 := zsw_ne (k := 4) n4 (by decide) (by decide)
      have z5 := zsw_ne (k := 5) n5 (by decide) (by decide)
      have z6 := zsw_ne (k := 6) n6 (by decide) (by decide)
      have z7 := zsw_ne (k := 7) n7 (by decide) (by decide)
      have z8 := zsw_ne (k := 8) n8 (by decide) (by decide)
      have z9 := zsw_ne (k := 9) n9 (by decide) (by decide)
      have z10 := zsw_ne (k := 10) n10 (by decide) (by decide)
      have z11 := zsw_ne (k := 11) n11 (by decide) (by decide)
      have z12 := zsw_ne (k := 12) n12 (by decide) (by decide)
      have z13 := zsw_ne (k := 13) n13 (by decide) (by decide)
      have z14 := zsw_ne (k := 14) n14 (by decide) (by decide)
      have z15 := zsw_ne (k := 15) n15 (by decide) (by decide)
      have z16 := zsw_ne (k := 16) n16 (by decide) (by decide)
      have z17 := zsw_ne (k := 17) n17 (by decide) (by decide)
      have z18 := zsw_ne (k := 18) n18 (by decide) (by decide)
      have z19 := zsw_ne (k := 19) n19 (by decide) (by decide)
      have z20 := zsw_ne (k := 20) n20 (by decide) (by decide)
      have z21 := zsw_ne (k := 21) n21 (by decide) (by decide)
      have z22 := zsw_ne (k := 22) n22 (by decide) (by decide)
      have z23 := zsw_ne (k := 23) n23 (by decide) (by decide)
      have z24 := zsw_ne (k := 24) n24 (by decide) (by decide)
      have z25 := zsw_ne (k := 25) n25 (by decide) (by decide)
      have z26 := zsw_ne (k := 26) n26 (by decide) (by decide)
      have z27 := zsw_ne (k := 27) n27 (by decide) (by decide)
      have z28 := zsw_ne (k := 28) n28 (by decide) (by decide)
      omega
theorem law_body (C : zC x g RL cL_law (some .boolean) 11) (S : zLS x b L xs) (hL : L ≤ 2560) (hn : zn x = 4) (hmc : zmc x = 600000) (hms : zms x = 7302250) : zR x g (fun r _ => r = some (.int 1)) (0, 0) 0 [(0, .ref b)] [] [] := by
  refine zR_new C nL_7 eL_law_0 (by rw [hmc]; exact Nat.le_of_ble_eq_true rfl) (by rw [hms]; exact Nat.le_of_ble_eq_true rfl) (fun z => ?_)
  refine zR_dup C eL_law_3 rfl ?_
  refine zR_callI0 C kL_9 eL_law_4 (c_X5_init z) [0] (zlast_get (W := []) rfl) rfl rfl rfl (by decide) (by decide) (Nat.le_of_ble_eq_true rfl) (by rw [hmc]; exact Nat.le_of_ble_eq_true rfl) (by rw [hms]; exact Nat.le_of_ble_eq_true rfl) (fun r w h => ?_)
  obtain ⟨rfl, q, rfl, rfl⟩ := h
  refine ⟨(eW g q e_new).take 1, (eW g q e_new).drop 1, (List.take_append_drop 1 _).symm, rfl, ?_⟩
  refine zR_ws (eW g q e_new) (zrep_td (W := []) rfl (fun h => by have h := congrArg List.length h; rw [eW_len] at h; exact absurd h (by decide))) ?_
  refine zR_astore_n (lv' := [(1, _), (0, _)]) C eL_law_7 rfl (by rw [hn]; decide) rfl ?_
  refine zR_new C nL_10 eL_law_8 (by rw [hmc]; exact Nat.le_of_ble_eq_true rfl) (by rw [hms]; exact Nat.le_of_ble_eq_true rfl) (fun y => ?_)
  refine zR_dup C eL_law_11 rfl ?_
  refine zR_callI0 C kL_12 eL_law_12 (c_X6_init y) [240] (zlast_get (W := eW g q e_new) eW_len.symm) rfl rfl rfl (by decide) (by decide) (Nat.le_of_ble_eq_true rfl) (by rw [hmc]; exact Nat.le_of_ble_eq_true rfl) (by rw [hms]; exact Nat.le_of_ble_eq_true rfl) (fun r w h => ?_)
  obtain ⟨rfl, p, rfl, rfl⟩ := h
  refine ⟨(mW g p m_new).take 1, (mW g p m_new).drop 1, (List.take_append_drop 1 _).symm, rfl, ?_⟩
  refine zR_ws (xW g q p e_new m_new) (zrep_td (W := eW g q e_new) eW_len.symm (List.cons_ne_nil _ _)) ?_
  refine zR_astore_n (lv' := [(2, _), (1, _), (0, _)]) C eL_law_15 rfl (by rw [hn]; decide) rfl ?_
  refine zR_iconst (v := 0) C eL_law_16 (by decide) ?_
  refine zR_istore_n (lv' := [(3, _), (2, _), (1, _), (0, _)]) C eL_law_17 rfl (by rw [hn]; decide) rfl ?_
  exact law_loop C S hL hn (by rw [hmc]; exact Nat.le_of_ble_eq_true rfl) (by rw [hms]; exact Nat.le_of_ble_eq_true rfl) 513 0 rfl (Nat.zero_le _) e_new m_new RR_new
end LAW
