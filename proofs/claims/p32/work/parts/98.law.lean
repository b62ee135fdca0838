/-! THE LAW. -/
theorem e_set_cnt (e : ED) (s v : Int32) : h_cnt (e_now (e_set e s v).2) = h_cnt (e_now e) := by
  unfold e_set; repeat' split
  all_goals rfl
theorem QS.set {B c F : Nat} {r : RW} {e : ED} (hB : B + 4100 < 2 ^ 30) (hF : F + 80000 < 1000000000) (h : QS B r e) (iv : IV c F r) (s v : Int32) : ∃ r2, QS (B + 1000) r2 (e_set e s v).2 ∧ IV c (F + 80000) r2 := by
  have sp := h.sp hB hF iv (AC_set e s v)
  obtain ⟨r2, c2, -, hq, iv2⟩ := h.new sp
  have a := (HH_cnt h.hh iv.2.1 iv.1).1
  have b := (HH_cnt hq.hh iv2.2.1 iv2.1).1
  rw [e_set_cnt] at b
  have e1 : c2 = c := b.symm.trans a
  rw [e1] at iv2
  exact ⟨r2, hq, iv2⟩
theorem zrep_td {W t : va_W} {y : Nat × va_E} {k : Nat} (hk : k = W.length) (ht : t ≠ []) : zrep (W ++ [y]) [k] (t.take 1) ++ t.drop 1 = W ++ t := by
  cases t with
  | nil => exact absurd rfl ht
  | cons a t => exact zrep_last hk

set_option maxHeartbeats 1000000 in
set_option maxRecDepth 100000 in
theorem law_end {x : zX} {g : zG} {q : Nat → Nat} {n : Nat × Nat} (hn : zn x = 8) (C : zC x g RL cL_law (some .boolean) 9) (hn1 : n.1 ≤ zmc x) (hn2 : n.2 ≤ zms x) (hL : g.2.2.2.1 1 < 2 ^ 31) {r : RW} {B c F : Nat} {e : ED} (hB : B + 4100 < 2 ^ 30) (hF : F + 80000 < 1000000000) (h : QS B r e) (iv : IV c F r) : zR x g (fun r _ => r = some (.int 1)) n 218 [(1, .ref (q 0))] [] (eW g q e) := by
  have he := h.ok
  refine zR_aload_n C eL_law_218 0 rfl rfl ?_
  refine zR_callSE C kL_40 eL_law_219 (c_L_all q _ he) rfl rfl (by decide) (by decide) (Nat.le_of_ble_eq_true rfl) hn1 hn2 ?_
  refine zR_lstore_n (lv' := [(3, _), (1, _)]) C eL_law_222 rfl (by rw [hn]; decide) rfl ?_
  refine zR_aload_n C eL_law_223 1 rfl rfl ?_
  refine zR_iconst (v := 1) C eL_law_224 (by decide) ?_
  refine zR_callV1 C kL_123 eL_law_225 (c_X5_save q _ _ he) rfl 0 5 eW_g0 rfl rfl _ eW_call eW_nall rfl (by decide) (by decide) (Nat.le_of_ble_eq_true rfl) hn1 hn2 eW_f eW_rall ?_
  have sv := SAV h
  generalize e_save e 1 = V at sv ⊢
  have he1 := sv.2.1.ok
  refine zR_aload_n C eL_law_228 1 rfl rfl ?_
  refine zR_iconst (v := 0) C eL_law_229 (by decide) ?_
  refine zR_callV1 C kL_12 eL_law_230 (c_X5_count q _ _ he1) rfl 0 5 eW_g0 rfl rfl _ eW_call eW_nall rfl (by decide) (by decide) (Nat.le_of_ble_eq_true rfl) hn1 hn2 eW_f eW_rall ?_
  refine zR_icmp_ne C eL_law_233 (fun h233 => ?_) (fun h233 => ?_)
  · skip
    exact absurd sv.1 h233
  · skip
    refine zR_aload_n C eL_law_236 1 rfl rfl ?_
    refine zR_bipush (v := 7) C eL_law_237 (by decide) ?_
    refine zR_topi (show (7 : Int32) = nI 7 from rfl) ?_
    refine zR_callV1 C kL_55 eL_law_239 (c_X5_hours q _ _ he1) rfl 0 5 eW_g0 rfl rfl _ eW_call eW_nall rfl (by decide) (by decide) (Nat.le_of_ble_eq_true rfl) hn1 hn2 eW_f eW_rall ?_
    have sp := sv.2.1.sp hB hF iv (AC_hours V.2 (nI 7))
    have he2 := sp.ok
    have ft := (FT_hrs (k := 7) hB hF sv.2.1 iv (by decide) (by decide)).1
    obtain ⟨r7, c7, -, hq7, -⟩ := sv.2.1.new sp
    have st7 := sv.2.2.op sp.1
    generalize e_hours V.2 (nI 7) = E7 at he2 ft hq7 st7 ⊢
    refine zR_ifge C eL_law_242 (fun h242 => ?_) (fun h242 => ?_)
    · skip
      refine zR_aload_n C eL_law_247 1 rfl rfl ?_
      refine zR_iconst (v := 1) C eL_law_248 (by decide) ?_
      refine zR_callV1 C kL_126 eL_law_249 (c_X5_restore q _ _ he2) rfl 0 5 eW_g0 rfl rfl _ eW_call eW_nall rfl (by decide) (by decide) (Nat.le_of_ble_eq_true rfl) hn1 hn2 eW_f eW_rall ?_
      have rs := RES hq7 st7 (by omega)
      have hU := hq7.und2 rs.2.2.2.2 rs.2.1 rs.2.2.1
      generalize e_restore E7.2 1 = R at rs hU ⊢
      have he3 := rs.2.2.1.ok
      have he4 := hU.2.ok
      refine zR_aload_n C eL_law_252 1 rfl rfl ?_
      refine zR_iconst (v := 0) C eL_law_253 (by decide) ?_
      refine zR_callV1 C kL_12 eL_law_254 (c_X5_count q _ _ he3) rfl 0 5 eW_g0 rfl rfl _ eW_call eW_nall rfl (by decide) (by decide) (Nat.le_of_ble_eq_true rfl) hn1 hn2 eW_f eW_rall ?_
      refine zR_icmp_ne C eL_law_257 (fun h257 => ?_) (fun h257 => ?_)
      · skip
        exact absurd rs.1 h257
      · skip
        refine zR_aload_n C eL_law_260 1 rfl rfl ?_
        refine zR_callSE C kL_40 eL_law_261 (c_L_all q _ he3) rfl rfl (by decide) (by decide) (Nat.le_of_ble_eq_true rfl) hn1 hn2 ?_
        refine zR_lload_n C eL_law_264 0 rfl rfl ?_
        refine zR_cifne C eL_law_265 eL_law_266 (fun h265 => ?_) (fun h265 => ?_)
        · skip
          exact absurd (h.all rs.2.2.1) h265
        · skip
          refine zR_aload_n C eL_law_269 1 rfl rfl ?_
          refine zR_callV1 C kL_58 eL_law_270 (c_X5_undo q _ he3) rfl 0 5 eW_g0 rfl rfl _ eW_call eW_nall rfl (by decide) (by decide) (Nat.le_of_ble_eq_true rfl) hn1 hn2 eW_f eW_rall ?_
          refine zR_iflt C eL_law_273 (fun h273 => ?_) (fun h273 => ?_)
          · skip
            exact absurd h273 hU.1
          · skip
            refine zR_aload_n C eL_law_276 1 rfl rfl ?_
            refine zR_iconst (v := 1) C eL_law_277 (by decide) ?_
            refine zR_callV1 C kL_126 eL_law_278 (c_X5_restore q _ _ he4) rfl 0 5 eW_g0 rfl rfl _ eW_call eW_nall rfl (by decide) (by decide) (Nat.le_of_ble_eq_true rfl) hn1 hn2 eW_f eW_rall ?_
            have rs2 := RES hU.2 rs.2.2.2.1.und (by omega)
            generalize e_restore (e_undo R.2).2 1 = R2 at rs2 ⊢
            have he5 := rs2.2.2.1.ok
            have la := LAST rs2.2.2.1
            refine zR_iflt C eL_law_281 (fun h281 => ?_) (fun h281 => ?_)
            · skip
              exact absurd h281 rs2.2.1
            · skip
              refine zR_aload_n C eL_law_284 1 rfl rfl ?_
              refine zR_callSE C kL_40 eL_law_285 (c_L_all q _ he5) rfl rfl (by decide) (by decide) (Nat.le_of_ble_eq_true rfl) hn1 hn2 ?_
              refine zR_lload_n C eL_law_288 0 rfl rfl ?_
              refine zR_cifne C eL_law_289 eL_law_290 (fun h289 => ?_) (fun h289 => ?_)
              · skip
                exact absurd (h.all rs2.2.2.1) h289
              · skip
                refine zR_aload_n C eL_law_293 1 rfl rfl ?_
                refine zR_iconst (v := 0) C eL_law_294 (by decide) ?_
                refine zR_callV1 C kL_126 eL_law_295 (c_X5_restore q _ _ he5) rfl 0 5 eW_g0 rfl rfl _ eW_call eW_nall rfl (by decide) (by decide) (Nat.le_of_ble_eq_true rfl) hn1 hn2 eW_f eW_rall ?_
                rw [la.1]
                refine zR_topi (b := -1) rfl ?_
                refine zR_ws (eW g q R2.2) rfl ?_
                refine zR_iconst (v := -1) C eL_law_298 (by decide) ?_
                refine zR_icmp_ne C eL_law_299 (fun h => absurd h (by decide)) (fun _ => ?_)
                refine zR_aload_n C eL_law_302 1 rfl rfl ?_
                refine zR_iconst (v := 2) C eL_law_303 (by decide) ?_
                refine zR_callV1 C kL_123 eL_law_304 (c_X5_save q _ _ he5) rfl 0 5 eW_g0 rfl rfl _ eW_call eW_nall rfl (by decide) (by decide) (Nat.le_of_ble_eq_true rfl) hn1 hn2 eW_f eW_rall ?_
                rw [la.2.1]
                refine zR_topi (b := -1) rfl ?_
                refine zR_ws (eW g q R2.2) rfl ?_
                refine zR_iconst (v := -1) C eL_law_307 (by decide) ?_
                refine zR_icmp_ne C eL_law_308 (fun h => absurd h (by decide)) (fun _ => ?_)
                refine zR_aload_n C eL_law_311 1 rfl rfl ?_
                refine zR_bipush (v := 8) C eL_law_312 (by decide) ?_
                refine zR_iconst (v := 0) C eL_law_314 (by decide) ?_
                refine zR_callV1 C kL_88 eL_law_315 (c_X5_set q _ _ _ he5) rfl 0 5 eW_g0 rfl rfl _ eW_call eW_nall rfl (by decide) (by decide) (Nat.le_of_ble_eq_true rfl) hn1 hn2 eW_f eW_rall ?_
                rw [la.2.2.1]
                refine zR_topi (b := -2) rfl ?_
                refine zR_ws (eW g q R2.2) rfl ?_
                refine zR_bipush (v := -2) C eL_law_318 (by decide) ?_
                refine zR_icmp_ne C eL_law_320 (fun h => absurd h (by decide)) (fun _ => ?_)
                refine zR_aload_n C eL_law_323 1 rfl rfl ?_
                refine zR_iconst (v := 0) C eL_law_324 (by decide) ?_
                refine zR_bipush (v := 11) C eL_law_325 (by decide) ?_
                refine zR_callV1 C kL_88 eL_law_327 (c_X5_set q _ _ _ he5) rfl 0 5 eW_g0 rfl rfl _ eW_call eW_nall rfl (by decide) (by decide) (Nat.le_of_ble_eq_true rfl) hn1 hn2 eW_f eW_rall ?_
                rw [la.2.2.2.1]
                refine zR_topi (b := -2) rfl ?_
                refine zR_ws (eW g q R2.2) rfl ?_
                refine zR_bipush (v := -2) C eL_law_330 (by decide) ?_
                refine zR_icmp_ne C eL_law_332 (fun h => absurd h (by decide)) (fun _ => ?_)
                refine zR_aload_n C eL_law_335 1 rfl rfl ?_
                refine zR_bipush (v := 18) C eL_law_336 (by decide) ?_
                refine zR_callV1 C kL_12 eL_law_338 (c_X5_count q _ _ he5) rfl 0 5 eW_g0 rfl rfl _ eW_call eW_nall rfl (by decide) (by decide) (Nat.le_of_ble_eq_true rfl) hn1 hn2 eW_f eW_rall ?_
                refine zR_topi la.2.2.2.2.1 ?_
                refine zR_bipush (v := -2) C eL_law_341 (by decide) ?_
                refine zR_icmp_ne C eL_law_343 (fun h => absurd h (by decide)) (fun _ => ?_)
                refine zR_aload_n C eL_law_346 1 rfl rfl ?_
                refine zR_bipush (v := 8) C eL_law_347 (by decide) ?_
                refine zR_iconst (v := 0) C eL_law_349 (by decide) ?_
                refine zR_callV1 C kL_18 eL_law_350 (c_X5_ofService q _ _ _ he5) rfl 0 5 eW_g0 rfl rfl _ eW_call eW_nall rfl (by decide) (by decide) (Nat.le_of_ble_eq_true rfl) hn1 hn2 eW_f eW_rall ?_
                refine zR_topi la.2.2.2.2.2.1 ?_
                refine zR_iconst (v := -1) C eL_law_353 (by decide) ?_
                refine zR_icmp_ne C eL_law_354 (fun h => absurd h (by decide)) (fun _ => ?_)
                refine zR_aload_n C eL_law_357 1 rfl rfl ?_
                refine zR_bipush (v := 40) C eL_law_358 (by decide) ?_
                refine zR_iconst (v := 0) C eL_law_360 (by decide) ?_
                refine zR_callV1 C kL_26 eL_law_361 (c_X5_ofLoan q _ _ _ he5) rfl 0 5 eW_g0 rfl rfl _ eW_call eW_nall rfl (by decide) (by decide) (Nat.le_of_ble_eq_true rfl) hn1 hn2 eW_f eW_rall ?_
                refine zR_topi la.2.2.2.2.2.2.1 ?_
                refine zR_iconst (v := -1) C eL_law_364 (by decide) ?_
                refine zR_icmp_ne C eL_law_365 (fun h => absurd h (by decide)) (fun _ => ?_)
                refine zR_aload_n C eL_law_368 1 rfl rfl ?_
                refine zR_bipush (v := 30) C eL_law_369 (by decide) ?_
                refine zR_iconst (v := 0) C eL_law_371 (by decide) ?_
                refine zR_callV1 C kL_29 eL_law_372 (c_X5_ofPlan q _ _ _ he5) rfl 0 5 eW_g0 rfl rfl _ eW_call eW_nall rfl (by decide) (by decide) (Nat.le_of_ble_eq_true rfl) hn1 hn2 eW_f eW_rall ?_
                refine zR_topi la.2.2.2.2.2.2.2 ?_
                refine zR_iconst (v := -1) C eL_law_375 (by decide) ?_
                refine zR_icmp_ne C eL_law_376 (fun h => absurd h (by decide)) (fun _ => ?_)
                refine zR_iconst (v := 1) C eL_law_379 (by decide) ?_
                refine zR_goto C eL_law_380 ?_
                exact zR_iret C rfl rfl eL_law_384 hn1 hn2 rfl
    · skip
      exact absurd h242 ft
set_option maxHeartbeats 1000000 in
set_option maxRecDepth 100000 in
theorem law_g {x : zX} {g : zG} {q : Nat → Nat} {n : Nat × Nat} (hn : zn x = 8) (C : zC x g RL cL_law (some .boolean) 9) (hn1 : n.1 ≤ zmc x) (hn2 : n.2 ≤ zms x) (hL : g.2.2.2.1 1 < 2 ^ 31) {r : RW} {B Bz c F t : Nat} {e : ED} {y : Int32} (hBz : Bz + 4100 < 2 ^ 30) (hB : B + 16000 ≤ Bz) (hF : F + 80000 < 1000000000) (hc : 1 ≤ c) (h : QS B r e) (iv : IV c F r) (K : ∀ e3 r3, QS Bz r3 e3 → (∃ c3, 1 ≤ c3 ∧ IV c3 F r3) → zR x g (fun r _ => r = some (.int 1)) n 212 [(3, .int (nI t)), (1, .ref (q 0)), (0, .ref (g.2.2.2.1 0))] [] (eW g q e3)) : zR x g (fun r _ => r = some (.int 1)) n 155 [(4, .int y), (3, .int (nI t)), (1, .ref (q 0)), (0, .ref (g.2.2.2.1 0))] [] (eW g q e) := by
  have he := h.ok
  refine zR_iload_n C eL_law_155 1 rfl rfl ?_
  refine zR_iconst (v := 3) C eL_law_156 (by decide) ?_
  refine zR_irem C eL_law_157 (by decide) ?_
  refine zR_iconst (v := 1) C eL_law_158 (by decide) ?_
  refine zR_icmp_ne C eL_law_159 (fun h159 => ?_) (fun h159 => ?_)
  · skip
    refine zR_iload_n C eL_law_169 1 rfl rfl ?_
    refine zR_bipush (v := 8) C eL_law_170 (by decide) ?_
    refine zR_irem C eL_law_172 (by decide) ?_
    refine zR_iconst (v := 2) C eL_law_173 (by decide) ?_
    refine zR_icmp_ne C eL_law_174 (fun h174 => ?_) (fun h174 => ?_)
    · skip
      refine zR_iload_n C eL_law_189 1 rfl rfl ?_
      refine zR_bipush (v := 8) C eL_law_190 (by decide) ?_
      refine zR_irem C eL_law_192 (by decide) ?_
      refine zR_bipush (v := 6) C eL_law_193 (by decide) ?_
      refine zR_icmp_ne C eL_law_195 (fun h195 => ?_) (fun h195 => ?_)
      · skip
        refine zR_lv [(3, _), (1, _), (0, _)] [1, 2, 3] rfl ?_
        exact K _ _ (h.mono (by omega)) ⟨c, hc, iv⟩
      · skip
        refine zR_aload_n C eL_law_198 2 rfl rfl ?_
        refine zR_iload C eL_law_199 0 rfl ?_
        refine zR_bipush (v := 9) C eL_law_201 (by decide) ?_
        refine zR_ishr C eL_law_203 ?_
        refine zR_callSP C kL_120 eL_law_204 (c_L_isBest q _ _ (Bz := B + 16000) (by omega) (by omega) (by omega) hc iv h) rfl rfl (by decide) (by decide) (Nat.le_of_ble_eq_true rfl) hn1 hn2 (fun v w hv => ?_)
        obtain ⟨rfl, e4, rfl, h4⟩ := hv
        refine ⟨_, e4, rfl, rfl, ?_⟩
        refine zR_ifne_t C eL_law_207 (by decide) ?_
        refine zR_lv [(3, _), (1, _), (0, _)] [1, 2, 3] rfl ?_
        exact K _ _ (h4.mono (by omega)) ⟨c, hc, iv⟩
    · skip
      refine zR_aload_n C eL_law_177 2 rfl rfl ?_
      refine zR_iload C eL_law_178 0 rfl ?_
      refine zR_bipush (v := 7) C eL_law_180 (by decide) ?_
      refine zR_ishr C eL_law_182 ?_
      refine zR_callSP C kL_116 eL_law_183 (c_L_isForetold q _ _ (Bz := B + 4000) (by omega) (by omega) (by omega) hc iv h) rfl rfl (by decide) (by decide) (Nat.le_of_ble_eq_true rfl) hn1 hn2 (fun v w hv => ?_)
      obtain ⟨rfl, e3, rfl, h3⟩ := hv
      refine ⟨_, e3, rfl, rfl, ?_⟩
      refine zR_ifeq_f C eL_law_186 (by decide) ?_
      refine zR_iload_n C eL_law_189 1 rfl rfl ?_
      refine zR_bipush (v := 8) C eL_law_190 (by decide) ?_
      refine zR_irem C eL_law_192 (by decide) ?_
      refine zR_bipush (v := 6) C eL_law_193 (by decide) ?_
      refine zR_icmp_ne C eL_law_195 (fun h195 => ?_) (fun h195 => ?_)
      · skip
        refine zR_lv [(3, _), (1, _), (0, _)] [1, 2, 3] rfl ?_
        exact K _ _ (h3.mono (by omega)) ⟨c, hc, iv⟩
      · skip
        refine zR_aload_n C eL_law_198 2 rfl rfl ?_
        refine zR_iload C eL_law_199 0 rfl ?_
        refine zR_bipush (v := 9) C eL_law_201 (by decide) ?_
        refine zR_ishr C eL_law_203 ?_
        refine zR_callSP C kL_120 eL_law_204 (c_L_isBest q _ _ (Bz := B + 16000) (by omega) (by omega) (by omega) hc iv h3) rfl rfl (by decide) (by decide) (Nat.le_of_ble_eq_true rfl) hn1 hn2 (fun v w hv => ?_)
        obtain ⟨rfl, e4, rfl, h4⟩ := hv
        refine ⟨_, e4, rfl, rfl, ?_⟩
        refine zR_ifne_t C eL_law_207 (by decide) ?_
        refine zR_lv [(3, _), (1, _), (0, _)] [1, 2, 3] rfl ?_
        exact K _ _ (h4.mono (by omega)) ⟨c, hc, iv⟩
  · skip
    refine zR_aload_n C eL_law_162 2 rfl rfl ?_
    refine zR_callSE C kL_112 eL_law_163 (c_L_isSound q _ he (SND_of (by omega) h.hh iv)) rfl rfl (by decide) (by decide) (Nat.le_of_ble_eq_true rfl) hn1 hn2 ?_
    refine zR_ifeq_f C eL_law_166 (by decide) ?_
    refine zR_iload_n C eL_law_169 1 rfl rfl ?_
    refine zR_bipush (v := 8) C eL_law_170 (by decide) ?_
    refine zR_irem C eL_law_172 (by decide) ?_
    refine zR_iconst (v := 2) C eL_law_173 (by decide) ?_
    refine zR_icmp_ne C eL_law_174 (fun h174 => ?_) (fun h174 => ?_)
    · skip
      refine zR_iload_n C eL_law_189 1 rfl rfl ?_
      refine zR_bipush (v := 8) C eL_law_190 (by decide) ?_
      refine zR_irem C eL_law_192 (by decide) ?_
      refine zR_bipush (v := 6) C eL_law_193 (by decide) ?_
      refine zR_icmp_ne C eL_law_195 (fun h195 => ?_) (fun h195 => ?_)
      · skip
        refine zR_lv [(3, _), (1, _), (0, _)] [1, 2, 3] rfl ?_
        exact K _ _ (h.mono (by omega)) ⟨c, hc, iv⟩
      · skip
        refine zR_aload_n C eL_law_198 2 rfl rfl ?_
        refine zR_iload C eL_law_199 0 rfl ?_
        refine zR_bipush (v := 9) C eL_law_201 (by decide) ?_
        refine zR_ishr C eL_law_203 ?_
        refine zR_callSP C kL_120 eL_law_204 (c_L_isBest q _ _ (Bz := B + 16000) (by omega) (by omega) (by omega) hc iv h) rfl rfl (by decide) (by decide) (Nat.le_of_ble_eq_true rfl) hn1 hn2 (fun v w hv => ?_)
        obtain ⟨rfl, e4, rfl, h4⟩ := hv
        refine ⟨_, e4, rfl, rfl, ?_⟩
        refine zR_ifne_t C eL_law_207 (by decide) ?_
        refine zR_lv [(3, _), (1, _), (0, _)] [1, 2, 3] rfl ?_
        exact K _ _ (h4.mono (by omega)) ⟨c, hc, iv⟩
    · skip
      refine zR_aload_n C eL_law_177 2 rfl rfl ?_
      refine zR_iload C eL_law_178 0 rfl ?_
      refine zR_bipush (v := 7) C eL_law_180 (by decide) ?_
      refine zR_ishr C eL_law_182 ?_
      refine zR_callSP C kL_116 eL_law_183 (c_L_isForetold q _ _ (Bz := B + 4000) (by omega) (by omega) (by omega) hc iv h) rfl rfl (by decide) (by decide) (Nat.le_of_ble_eq_true rfl) hn1 hn2 (fun v w hv => ?_)
      obtain ⟨rfl, e3, rfl, h3⟩ := hv
      refine ⟨_, e3, rfl, rfl, ?_⟩
      refine zR_ifeq_f C eL_law_186 (by decide) ?_
      refine zR_iload_n C eL_law_189 1 rfl rfl ?_
      refine zR_bipush (v := 8) C eL_law_190 (by decide) ?_
      refine zR_irem C eL_law_192 (by decide) ?_
      refine zR_bipush (v := 6) C eL_law_193 (by decide) ?_
      refine zR_icmp_ne C eL_law_195 (fun h195 => ?_) (fun h195 => ?_)
      · skip
        refine zR_lv [(3, _), (1, _), (0, _)] [1, 2, 3] rfl ?_
        exact K _ _ (h3.mono (by omega)) ⟨c, hc, iv⟩
      · skip
        refine zR_aload_n C eL_law_198 2 rfl rfl ?_
        refine zR_iload C eL_law_199 0 rfl ?_
        refine zR_bipush (v := 9) C eL_law_201 (by decide) ?_
        refine zR_ishr C eL_law_203 ?_
        refine zR_callSP C kL_120 eL_law_204 (c_L_isBest q _ _ (Bz := B + 16000) (by omega) (by omega) (by omega) hc iv h3) rfl rfl (by decide) (by decide) (Nat.le_of_ble_eq_true rfl) hn1 hn2 (fun v w hv => ?_)
        obtain ⟨rfl, e4, rfl, h4⟩ := hv
        refine ⟨_, e4, rfl, rfl, ?_⟩
        refine zR_ifne_t C eL_law_207 (by decide) ?_
        refine zR_lv [(3, _), (1, _), (0, _)] [1, 2, 3] rfl ?_
        exact K _ _ (h4.mono (by omega)) ⟨c, hc, iv⟩
set_option maxHeartbeats 1000000 in
set_option maxRecDepth 100000 in
theorem law_loop {x : zX} {g : zG} {q : Nat → Nat} {n : Nat × Nat} (hn : zn x = 8) (C : zC x g RL cL_law (some .boolean) 9) (hn1 : n.1 ≤ zmc x) (hn2 : n.2 ≤ zms x) (hL : g.2.2.2.1 1 < 2 ^ 31) : ∀ f t : Nat, t + f = 24 → ∀ (e : ED) (r : RW) (c : Nat), QS (10000 + 22000 * t) r e → IV c (1000000 + 80000 * t) r → 1 ≤ c → zR x g (fun r _ => r = some (.int 1)) n 75 [(3, .int (nI t)), (1, .ref (q 0)), (0, .ref (g.2.2.2.1 0))] [] (eW g q e) := by
  intro f
  induction f with
  | zero =>
    intro t hk e r c h iv hc
    have ht : t = 24 := by omega
    subst ht
    refine zR_iload_n C eL_law_75 0 rfl rfl ?_
    refine zR_bipush (v := 24) C eL_law_76 (by decide) ?_
    refine zR_icmp_ge C eL_law_78 (fun h78 => ?_) (fun h78 => ?_)
    · skip
      refine zR_lv [(1, _)] [1] rfl ?_
      exact law_end hn C hn1 hn2 hL (by omega) (by omega) h iv
    · skip
      exact absurd h78 (by decide)
  | succ f ih =>
    intro t hk e r c h iv hc
    have he := h.ok
    have kk : ∀ e3 r3, QS (10000 + 22000 * (t + 1)) r3 e3 → (∃ c3, 1 ≤ c3 ∧ IV c3 (1000000 + 80000 * (t + 1)) r3) → zR x g (fun r _ => r = some (.int 1)) n 212 [(3, .int (nI t)), (1, .ref (q 0)), (0, .ref (g.2.2.2.1 0))] [] (eW g q e3) := by
      intro e3 r3 h3 hc3
      obtain ⟨c3, hc3, iv3⟩ := hc3
      refine zR_iinc (lv' := [(3, _), (1, _), (0, _)]) (v' := nI (t + 1)) C eL_law_212 0 rfl (zinc t) (by rw [hn]; decide) rfl ?_
      refine zR_goto C eL_law_215 ?_
      exact ih (t + 1) (by omega) e3 r3 c3 h3 iv3 hc3
    refine zR_iload_n C eL_law_75 0 rfl rfl ?_
    refine zR_bipush (v := 24) C eL_law_76 (by decide) ?_
    refine zR_icmp_ge C eL_law_78 (fun h78 => ?_) (fun h78 => ?_)
    · skip
      exact absurd (nI_lt (b := 24) (by omega) (by decide)) h78
    · skip
      refine zR_aload_n C eL_law_81 2 rfl rfl ?_
      refine zR_iconst (v := 1) C eL_law_82 (by decide) ?_
      refine zR_iload_n C eL_law_83 0 rfl rfl ?_
      refine zR_iadd C eL_law_84 ?_
      refine zR_topi (show 1 + nI t = nI (t + 1) by rw [Int32.add_comm, nI_succ]) ?_
      refine zR_callS1 C kL_104 eL_law_85 (c_L_cell _ (nI_pos (by omega)) hL) rfl rfl (by decide) (by decide) (Nat.le_of_ble_eq_true rfl) hn1 hn2 ?_
      generalize z_cell g (nI (t + 1)) = y
      refine zR_istore (lv' := [(4, _), (3, _), (1, _), (0, _)]) C eL_law_88 (by rw [hn]; decide) rfl ?_
      refine zR_aload_n C eL_law_90 2 rfl rfl ?_
      refine zR_callSE C kL_40 eL_law_91 (c_L_all q _ he) rfl rfl (by decide) (by decide) (Nat.le_of_ble_eq_true rfl) hn1 hn2 ?_
      refine zR_lstore (lv' := [(5, _), (4, _), (3, _), (1, _), (0, _)]) C eL_law_94 (by rw [hn]; decide) rfl ?_
      refine zR_aload_n C eL_law_96 3 rfl rfl ?_
      refine zR_iload C eL_law_97 1 rfl ?_
      refine zR_callSP C kL_108 eL_law_99 (c_L_acts q e y he) rfl rfl (by decide) (by decide) (Nat.le_of_ble_eq_true rfl) hn1 hn2 (fun v w hv => ?_)
      obtain ⟨E, rfl, rfl, hac⟩ := hv
      refine ⟨_, E.2, rfl, rfl, ?_⟩
      have sp := h.sp (by omega) (by omega) iv hac
      have hE := sp.ok
      refine zR_istore (lv' := [(7, _), (5, _), (4, _), (3, _), (1, _), (0, _)]) C eL_law_102 (by rw [hn]; decide) rfl ?_
      refine zR_iload C eL_law_104 0 rfl ?_
      refine zR_ifge C eL_law_106 (fun h106 => ?_) (fun h106 => ?_)
      · skip
        refine zR_iload C eL_law_121 0 rfl ?_
        refine zR_iflt C eL_law_123 (fun h123 => ?_) (fun h123 => ?_)
        · skip
          exact absurd h123 h106
        · skip
          refine zR_iload C eL_law_126 2 rfl ?_
          refine zR_bipush (v := 28) C eL_law_128 (by decide) ?_
          refine zR_ishr C eL_law_130 ?_
          refine zR_iconst (v := 3) C eL_law_131 (by decide) ?_
          refine zR_iand C eL_law_132 ?_
          refine zR_ifne C eL_law_133 (fun h133 => ?_) (fun h133 => ?_)
          · skip
            refine zR_lv [(4, _), (3, _), (1, _), (0, _)] [2, 3, 4, 5] rfl ?_
            obtain ⟨r2, c2, hc2, hq2, iv2⟩ := h.new sp
            exact law_g hn C hn1 hn2 hL (Bz := 10000 + 22000 * (t + 1)) (B := 10000 + 22000 * t + 1000) (F := 1000000 + 80000 * (t + 1)) (by omega) (by omega) (by omega) (by omega) hq2 (IV_mono iv2 (by omega)) kk
          · skip
            refine zR_aload_n C eL_law_136 4 rfl rfl ?_
            refine zR_callV1 C kL_58 eL_law_137 (c_X5_undo q _ hE) rfl 0 5 eW_g0 rfl rfl _ eW_call eW_nall rfl (by decide) (by decide) (Nat.le_of_ble_eq_true rfl) hn1 hn2 eW_f eW_rall ?_
            have hU := h.und sp h106
            have heU := hU.2.ok
            refine zR_iflt C eL_law_140 (fun h140 => ?_) (fun h140 => ?_)
            · skip
              exact absurd h140 hU.1
            · skip
              refine zR_aload_n C eL_law_143 4 rfl rfl ?_
              refine zR_callSE C kL_40 eL_law_144 (c_L_all q _ heU) rfl rfl (by decide) (by decide) (Nat.le_of_ble_eq_true rfl) hn1 hn2 ?_
              refine zR_lload C eL_law_147 1 rfl ?_
              refine zR_cifeq C eL_law_149 eL_law_150 (fun h149 => ?_) (fun h149 => ?_)
              · skip
                refine zR_lv [(4, _), (3, _), (1, _), (0, _)] [2, 3, 4, 5] rfl ?_
                exact law_g hn C hn1 hn2 hL (Bz := 10000 + 22000 * (t + 1)) (B := 10000 + 22000 * t + 1000) (F := 1000000 + 80000 * (t + 1)) (by omega) (by omega) (by omega) hc hU.2 (IV_mono iv (by omega)) kk
              · skip
                exact absurd (h.all hU.2) h149
      · skip
        refine zR_aload_n C eL_law_109 4 rfl rfl ?_
        refine zR_callSE C kL_40 eL_law_110 (c_L_all q _ hE) rfl rfl (by decide) (by decide) (Nat.le_of_ble_eq_true rfl) hn1 hn2 ?_
        refine zR_lload C eL_law_113 1 rfl ?_
        refine zR_cifeq C eL_law_115 eL_law_116 (fun h115 => ?_) (fun h115 => ?_)
        · skip
          refine zR_iload C eL_law_121 0 rfl ?_
          refine zR_iflt C eL_law_123 (fun h123 => ?_) (fun h123 => ?_)
          · skip
            refine zR_lv [(4, _), (3, _), (1, _), (0, _)] [2, 3, 4, 5] rfl ?_
            exact law_g hn C hn1 hn2 hL (Bz := 10000 + 22000 * (t + 1)) (B := 10000 + 22000 * t + 1000) (F := 1000000 + 80000 * (t + 1)) (by omega) (by omega) (by omega) hc (h.neg sp h106) (IV_mono iv (by omega)) kk
          · skip
            exact absurd h106 h123
        · skip
          exact absurd (h.all (h.neg sp h106)) h115
set_option maxHeartbeats 1000000 in
set_option maxRecDepth 100000 in
theorem law_srv {x : zX} {g : zG} {q : Nat → Nat} {n : Nat × Nat} (hn : zn x = 8) (C : zC x g RL cL_law (some .boolean) 9) (hn1 : n.1 ≤ zmc x) (hn2 : n.2 ≤ zms x) (hL : g.2.2.2.1 1 < 2 ^ 31) {z : Int32} {N : Nat} (N1 : 1 ≤ N) (N3 : N ≤ 3) (eN : 2 + z_low (z >>> ((5 : Int32) &&& 31)) 2 = nI N) : ∀ f k : Nat, k + f = N → ∀ (e : ED) (r : RW), QS (1000 * (k + 1)) r e → IV k (80000 * (k + 1)) r → zR x g (fun r _ => r = some (.int 1)) n 31 [(3, .int (nI k)), (2, .int z), (1, .ref (q 0)), (0, .ref (g.2.2.2.1 0))] [] (eW g q e) := by
  intro f
  induction f with
  | zero =>
    intro k hk e r h iv
    have hk2 : k = N := by omega
    subst hk2
    refine zR_iload_n C eL_law_31 0 rfl rfl ?_
    refine zR_iconst (v := 2) C eL_law_32 (by decide) ?_
    refine zR_iload_n C eL_law_33 1 rfl rfl ?_
    refine zR_iconst (v := 5) C eL_law_34 (by decide) ?_
    refine zR_ishr C eL_law_35 ?_
    refine zR_iconst (v := 2) C eL_law_36 (by decide) ?_
    refine zR_callS1 C kL_46 eL_law_37 (c_L_low _ _ (by decide)) rfl rfl (by decide) (by decide) (Nat.le_of_ble_eq_true rfl) hn1 hn2 ?_
    refine zR_iadd C eL_law_40 ?_
    refine zR_topi eN ?_
    refine zR_icmp_ge C eL_law_41 (fun h41 => ?_) (fun h41 => ?_)
    · skip
      refine zR_iconst (v := 0) C eL_law_73 (by decide) ?_
      refine zR_istore_n (lv' := [(3, _), (2, _), (1, _), (0, _)]) C eL_law_74 rfl (by rw [hn]; decide) rfl ?_
      refine zR_lv [(3, .int (nI 0)), (1, _), (0, _)] [0, 2, 3] rfl ?_
      exact law_loop hn C hn1 hn2 hL 24 0 rfl e r k (h.mono (by omega)) (IV_mono iv (by omega)) (by omega)
    · skip
      exact absurd h41 (nI_nlt (Nat.le_refl _) (by omega))
  | succ f ih =>
    intro k hk e r h iv
    have he := h.ok
    refine zR_iload_n C eL_law_31 0 rfl rfl ?_
    refine zR_iconst (v := 2) C eL_law_32 (by decide) ?_
    refine zR_iload_n C eL_law_33 1 rfl rfl ?_
    refine zR_iconst (v := 5) C eL_law_34 (by decide) ?_
    refine zR_ishr C eL_law_35 ?_
    refine zR_iconst (v := 2) C eL_law_36 (by decide) ?_
    refine zR_callS1 C kL_46 eL_law_37 (c_L_low _ _ (by decide)) rfl rfl (by decide) (by decide) (Nat.le_of_ble_eq_true rfl) hn1 hn2 ?_
    refine zR_iadd C eL_law_40 ?_
    refine zR_topi eN ?_
    refine zR_icmp_ge C eL_law_41 (fun h41 => ?_) (fun h41 => ?_)
    · skip
      exact absurd (nI_lt (by omega) (by omega)) h41
    · skip
      refine zR_aload_n C eL_law_44 2 rfl rfl ?_
      refine zR_bipush (v := 20) C eL_law_45 (by decide) ?_
      refine zR_iload_n C eL_law_47 1 rfl rfl ?_
      refine zR_bipush (v := 6) C eL_law_48 (by decide) ?_
      refine zR_bipush (v := 7) C eL_law_50 (by decide) ?_
      refine zR_iload_n C eL_law_52 0 rfl rfl ?_
      refine zR_imul C eL_law_53 ?_
      refine zR_iadd C eL_law_54 ?_
      refine zR_ishr C eL_law_55 ?_
      refine zR_sipush (v := 300) C eL_law_56 (by decide) ?_
      refine zR_callS1 C kL_46 eL_law_59 (c_L_low _ _ (by decide)) rfl rfl (by decide) (by decide) (Nat.le_of_ble_eq_true rfl) hn1 hn2 ?_
      refine zR_iadd C eL_law_62 ?_
      obtain ⟨j, hj, ej⟩ := z_low_r (z >>> (((6 : Int32) + 7 * nI k) &&& 31)) (n := 300) (by decide) (by decide)
      refine zR_topi (show 20 + z_low (z >>> (((6 : Int32) + 7 * nI k) &&& 31)) 300 = nI (20 + j) by rw [show (300 : Int32) = nI 300 from rfl, ej, show (20 : Int32) = nI 20 from rfl, nI_add]) ?_
      refine zR_callV1 C kL_82 eL_law_63 (c_X5_service q _ _ he) rfl 0 5 eW_g0 rfl rfl _ eW_call eW_nall rfl (by decide) (by decide) (Nat.le_of_ble_eq_true rfl) hn1 hn2 eW_f eW_rall ?_
      obtain ⟨r2, hq, iv2⟩ := h.srv iv (by omega) (show 10 ≤ 20 + j by omega) (by omega)
      generalize (e_service e (nI (20 + j))).2 = e2 at hq ⊢
      refine zR_pop C eL_law_66 rfl ?_
      refine zR_iinc (lv' := [(3, _), (2, _), (1, _), (0, _)]) (v' := nI (k + 1)) C eL_law_67 0 rfl (zinc k) (by rw [hn]; decide) rfl ?_
      refine zR_goto C eL_law_70 ?_
      refine zR_lv [(3, .int (nI (k + 1))), (2, _), (1, _), (0, _)] [0, 1, 2, 3] rfl ?_
      exact ih (k + 1) (by omega) _ r2 (hq.mono (by omega)) (IV_mono iv2 (by omega))
set_option maxHeartbeats 1000000 in
set_option maxRecDepth 100000 in
theorem law_b1 {x : zX} {g : zG} {q : Nat → Nat} {n : Nat × Nat} (hn : zn x = 8) (C : zC x g RL cL_law (some .boolean) 9) (hn1 : n.1 ≤ zmc x) (hn2 : n.2 ≤ zms x) (hL : g.2.2.2.1 1 < 2 ^ 31) : zR x g (fun r _ => r = some (.int 1)) n 7 [(0, .ref (g.2.2.2.1 0))] [.ref (q 0)] (eW g q e_new) := by
  refine zR_astore_n (lv' := [(1, _), (0, _)]) C eL_law_7 rfl (by rw [hn]; decide) rfl ?_
  refine zR_aload_n C eL_law_8 1 rfl rfl ?_
  refine zR_iconst (v := nI 0) C eL_law_9 (by decide) ?_
  refine zR_callS1 C kL_104 eL_law_10 (c_L_cell (nI 0) (nI_pos (by omega)) hL) rfl rfl (by decide) (by decide) (Nat.le_of_ble_eq_true rfl) hn1 hn2 ?_
  generalize z_cell g (nI 0) = z
  refine zR_istore_n (lv' := [(2, _), (1, _), (0, _)]) C eL_law_13 rfl (by rw [hn]; decide) rfl ?_
  refine zR_aload_n C eL_law_14 1 rfl rfl ?_
  refine zR_iconst (v := 0) C eL_law_15 (by decide) ?_
  refine zR_bipush (v := 12) C eL_law_16 (by decide) ?_
  refine zR_iload_n C eL_law_18 0 rfl rfl ?_
  refine zR_bipush (v := 60) C eL_law_19 (by decide) ?_
  refine zR_callS1 C kL_46 eL_law_21 (c_L_low _ _ (by decide)) rfl rfl (by decide) (by decide) (Nat.le_of_ble_eq_true rfl) hn1 hn2 ?_
  refine zR_iadd C eL_law_24 ?_
  refine zR_callV1 C kL_88 eL_law_25 (c_X5_set q _ _ _ e_ok_new) rfl 0 5 eW_g0 rfl rfl _ eW_call eW_nall rfl (by decide) (by decide) (Nat.le_of_ble_eq_true rfl) hn1 hn2 eW_f eW_rall ?_
  obtain ⟨r2, hq, iv2⟩ := QS_new.set (by decide) (by decide) IV_new 0 (12 + z_low z 60)
  generalize (e_set e_new 0 (12 + z_low z 60)).2 = e2 at hq ⊢
  refine zR_pop C eL_law_28 rfl ?_
  refine zR_iconst (v := 0) C eL_law_29 (by decide) ?_
  refine zR_istore_n (lv' := [(3, _), (2, _), (1, _), (0, _)]) C eL_law_30 rfl (by rw [hn]; decide) rfl ?_
  refine zR_lv [(3, .int (nI 0)), (2, _), (1, _), (0, _)] [0, 1, 2, 3] rfl ?_
  obtain ⟨j, hj, ej⟩ := z_low_r (z >>> ((5 : Int32) &&& 31)) (n := 2) (by decide) (by decide)
  exact law_srv hn C hn1 hn2 hL (N := 2 + j) (by omega) (by omega) (by rw [show (2 : Int32) + z_low (z >>> ((5 : Int32) &&& 31)) 2 = nI 2 + z_low (z >>> ((5 : Int32) &&& 31)) (nI 2) from rfl, ej, nI_add]) (2 + j) 0 (Nat.zero_add _) e2 r2 hq iv2
set_option maxHeartbeats 1000000 in
set_option maxRecDepth 100000 in
theorem law_body {x : zX} {g : zG} (hn : zn x = 8) (C : zC x g RL cL_law (some .boolean) 9) (hL : g.2.2.2.1 1 < 2 ^ 31) (hmc : zmc x = 600000) (hms : zms x = 7302250) : zR x g (fun r _ => r = some (.int 1)) (0, 0) 0 [(0, .ref (g.2.2.2.1 0))] [] [] := by
  refine zR_new C nL_13 eL_law_0 (by rw [hmc]; exact Nat.le_of_ble_eq_true rfl) (by rw [hms]; exact Nat.le_of_ble_eq_true rfl) (fun z => ?_)
  refine zR_dup C eL_law_3 rfl ?_
  refine zR_callI0 C kL_103 eL_law_4 (c_X5_init z) [0] (zlast_get (W := []) rfl) rfl rfl rfl (by decide) (by decide) (Nat.le_of_ble_eq_true rfl) (by rw [hmc]; exact Nat.le_of_ble_eq_true rfl) (by rw [hms]; exact Nat.le_of_ble_eq_true rfl) (fun r w h => ?_)
  obtain ⟨rfl, q, rfl, rfl⟩ := h
  refine ⟨(eW g q e_new).take 1, (eW g q e_new).drop 1, (List.take_append_drop 1 _).symm, rfl, ?_⟩
  refine zR_ws (eW g q e_new) (zrep_td (W := []) rfl (fun h => by have h := congrArg List.length h; rw [eW_len] at h; exact absurd h (by decide))) ?_
  exact law_b1 hn C (by rw [hmc]; exact Nat.le_of_ble_eq_true rfl) (by rw [hms]; exact Nat.le_of_ble_eq_true rfl) hL
