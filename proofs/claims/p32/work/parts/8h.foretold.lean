/-! The law: what is foretold comes true. -/
section ZLP
variable {x : zX} {g : zG} {own : String} {cc : ByteArray} {ret : Option FieldType} {f : Nat} {post : Option Value → va_W → Prop} {n : Nat × Nat} {pc pc' : Nat} {lv : List (Nat × Value)} {st rest : List Value} {ws : va_W} {q : Nat → Nat}
theorem zR_callSP (C : zC x g own cc ret f) {idx : Nat} {y : MethodName} {cc' : ByteArray} {nL' : Nat} {ret' : Option FieldType} {f' nn : Nat} {As : List Value} {e : ED} {cpost : Option Value → va_W → Prop} (K : zKs own idx y cc' nL' ret' nn) (d : zD cc pc (.invokestatic idx) 3 pc')
    (M : zM (zl x) g y cc' nL' ret' f' 0 0 As (eW g q e) cpost) (hst : st = As.reverse ++ rest) (hn : As.length = nn) (hf : f' + 1 ≤ f) (hnl : nL' ≤ 17) (hcat : (rest.map fun v => v.category).sum ≤ 8) (hr1 : n.1 ≤ zmc x) (hr2 : n.2 ≤ zms x)
    (k : ∀ r w, cpost r w → ∃ (v : Value) (e2 : ED), r = some v ∧ w = eW g q e2 ∧ zR x g post n pc' lv (v :: rest) (eW g q e2)) : zR x g post n pc lv st (eW g q e) :=
  zR_callS0 C K d M (zfrom 0 240) eW_call eW_nall hst hn hf hnl hcat hr1 hr2 (fun r w h => by
    obtain ⟨v, e2, h1, h2, h3⟩ := k r w h
    exact ⟨w, [], (List.append_nil _).symm, by rw [h2]; exact eW_f, by rw [List.append_nil, h1, h2, eW_rall]; exact h3⟩)
theorem zR_callSE (C : zC x g own cc ret f) {idx : Nat} {y : MethodName} {cc' : ByteArray} {nL' : Nat} {ret' : Option FieldType} {f' nn : Nat} {As : List Value} {e : ED} {v : Value} (K : zKs own idx y cc' nL' ret' nn) (d : zD cc pc (.invokestatic idx) 3 pc')
    (M : zM (zl x) g y cc' nL' ret' f' 0 0 As (eW g q e) (zE (some v) (eW g q e))) (hst : st = As.reverse ++ rest) (hn : As.length = nn) (hf : f' + 1 ≤ f) (hnl : nL' ≤ 17) (hcat : (rest.map fun v => v.category).sum ≤ 8) (hr1 : n.1 ≤ zmc x) (hr2 : n.2 ≤ zms x)
    (k : zR x g post n pc' lv (v :: rest) (eW g q e)) : zR x g post n pc lv st (eW g q e) :=
  zR_callSP C K d M hst hn hf hnl hcat hr1 hr2 (fun r w h => ⟨v, e, h.1, h.2, k⟩)
end ZLP
theorem AC_hours (e : ED) (k : Int32) : AC e (e_hours e k) := Or.inr (Or.inr (Or.inr (Or.inr (Or.inr (Or.inr (Or.inr (Or.inr (Or.inr ⟨k, rfl⟩))))))))
theorem AC_lend (e : ED) (a b i w : Int32) : AC e (e_lend e a b i w) := Or.inr (Or.inr (Or.inr (Or.inr (Or.inr (Or.inl ⟨a, b, i, w, rfl⟩)))))
theorem AC_release (e : ED) (s z x : Int32) : AC e (e_release e s z x) := Or.inr (Or.inr (Or.inr (Or.inr (Or.inl ⟨s, z, x, rfl⟩))))
theorem b_ne {x b : Bool} (h : ¬ x = b) : x = !b := by cases x <;> cases b <;> first | rfl | exact absurd rfl h
/-- the end of isForetold and of isBest -/
def PO (g : zG) (q : Nat → Nat) (B : Nat) (r : RW) : Option Value → va_W → Prop := fun v w => v = some (.int 1) ∧ ∃ e, w = eW g q e ∧ QS B r e

set_option maxHeartbeats 1000000 in
set_option maxRecDepth 100000 in
theorem c_L_isForetold_z {x : zX} {g : zG} {q : Nat → Nat} {r : RW} {B0 Bz c F : Nat} {e0 : ED} (hn : zn x = 17) (C : zC x g RL cL_isForetold (some .boolean) 7) (hBz : Bz + 4100 < 2 ^ 30) (hF : F + 80000 < 1000000000) (iv : IV c F r) (h0 : QS B0 r e0) {e : ED} (h : QS Bz r e) : zR x g (PO g q Bz r) (0, 0) 401 [(3, .long (allF e0)), (0, .ref (q 0))] [] (eW g q e) := by
  have he := h.ok
  refine zR_aload_n C eL_isForetold_401 1 rfl rfl ?_
  refine zR_callSE C kL_40 eL_isForetold_402 (c_L_all q _ he) rfl rfl (by decide) (by decide) (Nat.le_of_ble_eq_true rfl) (Nat.zero_le _) (Nat.zero_le _) ?_
  refine zR_lload_n C eL_isForetold_405 0 rfl rfl ?_
  refine zR_cifne C eL_isForetold_406 eL_isForetold_407 (fun h406 => ?_) (fun h406 => ?_)
  · skip
    exact absurd (h0.all h) h406
  · skip
    refine zR_iconst (v := 1) C eL_isForetold_410 (by decide) ?_
    refine zR_goto C eL_isForetold_411 ?_
    exact zR_iret C rfl rfl eL_isForetold_415 (Nat.zero_le _) (Nat.zero_le _) ⟨rfl, _, rfl, h⟩
set_option maxHeartbeats 1000000 in
set_option maxRecDepth 100000 in
theorem c_L_isForetold_p {x : zX} {g : zG} {q : Nat → Nat} {r : RW} {B0 Bz c F : Nat} {e0 : ED} (hn : zn x = 17) (C : zC x g RL cL_isForetold (some .boolean) 7) (hBz : Bz + 4100 < 2 ^ 30) (hF : F + 80000 < 1000000000) (iv : IV c F r) (h0 : QS B0 r e0) {e : ED} {y : Int32} {Bp : Nat} (hb : Bp + 1000 ≤ Bz) (h : QS Bp r e) : zR x g (PO g q Bz r) (0, 0) 284 [(1, .int y), (3, .long (allF e0)), (0, .ref (q 0))] [] (eW g q e) := by
  have he := h.ok
  obtain ⟨c1, c2, c3, ⟨n, n1, n2, n3, n4, n5⟩, ⟨kk, k1, k2, k3, k4, k5⟩⟩ := sn_cnt h.hh iv
  refine zR_aload_n C eL_isForetold_284 2 rfl rfl ?_
  refine zR_bipush (v := 6) C eL_isForetold_285 (by decide) ?_
  refine zR_callV1 C kL_12 eL_isForetold_287 (c_X5_count q _ _ he) rfl 0 5 eW_g0 rfl rfl _ eW_call eW_nall rfl (by decide) (by decide) (Nat.le_of_ble_eq_true rfl) (Nat.zero_le _) (Nat.zero_le _) eW_f eW_rall ?_
  refine zR_ifle C eL_isForetold_290 (fun h290 => ?_) (fun h290 => ?_)
  · skip
    refine zR_lv [(3, _), (0, _)] [1, 2] rfl ?_
    exact c_L_isForetold_z hn C hBz hF iv h0 (h.mono (by omega))
  · skip
    refine zR_iload_n C eL_isForetold_293 0 rfl rfl ?_
    refine zR_bipush (v := 9) C eL_isForetold_294 (by decide) ?_
    refine zR_ishr C eL_isForetold_296 ?_
    refine zR_aload_n C eL_isForetold_297 2 rfl rfl ?_
    refine zR_bipush (v := 6) C eL_isForetold_298 (by decide) ?_
    refine zR_callV1 C kL_12 eL_isForetold_300 (c_X5_count q _ _ he) rfl 0 5 eW_g0 rfl rfl _ eW_call eW_nall rfl (by decide) (by decide) (Nat.le_of_ble_eq_true rfl) (Nat.zero_le _) (Nat.zero_le _) eW_f eW_rall ?_
    refine zR_callS1 C kL_46 eL_isForetold_303 (c_L_low _ _ (fun z => h290 (by rw [z]; decide))) rfl rfl (by decide) (by decide) (Nat.le_of_ble_eq_true rfl) (Nat.zero_le _) (Nat.zero_le _) ?_
    have hkk : 0 < kk := by
      rcases Nat.eq_zero_or_pos kk with z | z
      · exact absurd (show e_count e 6 ≤ 0 by rw [k3, z]; decide) h290
      · exact z
    obtain ⟨p, hp, ep⟩ := z_low_r (y >>> ((9 : Int32) &&& 31)) hkk (by omega)
    rw [← k3] at ep
    refine zR_topi ep ?_
    obtain ⟨w, hw, ew, hD⟩ := FT_done (by omega) hF h iv (show p < zn64 (r 13) by rw [k4]; exact hp)
    refine zR_istore (lv' := [(13, _), (1, _), (3, _), (0, _)]) C eL_isForetold_306 (by rw [hn]; decide) rfl ?_
    refine zR_aload_n C eL_isForetold_308 3 rfl rfl ?_
    refine zR_iload C eL_isForetold_309 0 rfl ?_
    refine zR_iconst (v := 0) C eL_isForetold_311 (by decide) ?_
    refine zR_callV1 C kL_29 eL_isForetold_312 (c_X5_ofPlan q _ _ _ he) rfl 0 5 eW_g0 rfl rfl _ eW_call eW_nall rfl (by decide) (by decide) (Nat.le_of_ble_eq_true rfl) (Nat.zero_le _) (Nat.zero_le _) eW_f eW_rall ?_
    refine zR_topi ew ?_
    refine zR_istore (lv' := [(14, _), (13, _), (1, _), (3, _), (0, _)]) C eL_isForetold_315 (by rw [hn]; decide) rfl ?_
    refine zR_aload_n C eL_isForetold_317 4 rfl rfl ?_
    refine zR_iload C eL_isForetold_318 1 rfl ?_
    refine zR_callV1 C kL_62 eL_isForetold_320 (c_X5_doneAt q _ _ he) rfl 0 5 eW_g0 rfl rfl _ eW_call eW_nall rfl (by decide) (by decide) (Nat.le_of_ble_eq_true rfl) (Nat.zero_le _) (Nat.zero_le _) eW_f eW_rall ?_
    have h2 := h.done (nI p)
    generalize e_doneAt e (nI p) = V at h2 hD ⊢
    have he2 := h2.ok
    refine zR_istore (lv' := [(15, _), (14, _), (13, _), (1, _), (3, _), (0, _)]) C eL_isForetold_323 (by rw [hn]; decide) rfl ?_
    refine zR_aload_n C eL_isForetold_325 5 rfl rfl ?_
    refine zR_iload C eL_isForetold_326 1 rfl ?_
    refine zR_bipush (v := 8) C eL_isForetold_328 (by decide) ?_
    refine zR_callV1 C kL_18 eL_isForetold_330 (c_X5_ofService q _ _ _ he2) rfl 0 5 eW_g0 rfl rfl _ eW_call eW_nall rfl (by decide) (by decide) (Nat.le_of_ble_eq_true rfl) (Nat.zero_le _) (Nat.zero_le _) eW_f eW_rall ?_
    refine zR_istore (lv' := [(16, _), (15, _), (14, _), (13, _), (1, _), (3, _), (0, _)]) C eL_isForetold_333 (by rw [hn]; decide) rfl ?_
    refine zR_iload C eL_isForetold_335 1 rfl ?_
    refine zR_ifle C eL_isForetold_337 (fun h337 => ?_) (fun h337 => ?_)
    · skip
      refine zR_lv [(3, _), (0, _)] [5, 6] rfl ?_
      exact c_L_isForetold_z hn C hBz hF iv h0 (h2.mono (by omega))
    · skip
      obtain ⟨n2, q1, q2, q3, q4, q5, q6, q7⟩ := hD h337 V.2 h2
      refine zR_iload C eL_isForetold_340 1 rfl ?_
      refine zR_aload_n C eL_isForetold_342 6 rfl rfl ?_
      refine zR_iconst (v := 0) C eL_isForetold_343 (by decide) ?_
      refine zR_callV1 C kL_12 eL_isForetold_344 (c_X5_count q _ _ he2) rfl 0 5 eW_g0 rfl rfl _ eW_call eW_nall rfl (by decide) (by decide) (Nat.le_of_ble_eq_true rfl) (Nat.zero_le _) (Nat.zero_le _) eW_f eW_rall ?_
      refine zR_icmp_le C eL_isForetold_347 (fun h347 => ?_) (fun h347 => ?_)
      · skip
        exact absurd h347 q3
      · skip
        refine zR_iload C eL_isForetold_350 1 rfl ?_
        refine zR_aload_n C eL_isForetold_352 6 rfl rfl ?_
        refine zR_iload C eL_isForetold_353 3 rfl ?_
        refine zR_iconst (v := 1) C eL_isForetold_355 (by decide) ?_
        refine zR_callV1 C kL_29 eL_isForetold_356 (c_X5_ofPlan q _ _ _ he2) rfl 0 5 eW_g0 rfl rfl _ eW_call eW_nall rfl (by decide) (by decide) (Nat.le_of_ble_eq_true rfl) (Nat.zero_le _) (Nat.zero_le _) eW_f eW_rall ?_
        refine zR_icmp_lt C eL_isForetold_359 (fun h359 => ?_) (fun h359 => ?_)
        · skip
          exact absurd h359 q4
        · skip
          refine zR_aload_n C eL_isForetold_362 6 rfl rfl ?_
          refine zR_iload C eL_isForetold_363 1 rfl ?_
          refine zR_aload_n C eL_isForetold_365 6 rfl rfl ?_
          refine zR_iconst (v := 0) C eL_isForetold_366 (by decide) ?_
          refine zR_callV1 C kL_12 eL_isForetold_367 (c_X5_count q _ _ he2) rfl 0 5 eW_g0 rfl rfl _ eW_call eW_nall rfl (by decide) (by decide) (Nat.le_of_ble_eq_true rfl) (Nat.zero_le _) (Nat.zero_le _) eW_f eW_rall ?_
          refine zR_isub C eL_isForetold_370 ?_
          refine zR_topi q5 ?_
          refine zR_callV1 C kL_55 eL_isForetold_371 (c_X5_hours q _ _ he2) rfl 0 5 eW_g0 rfl rfl _ eW_call eW_nall rfl (by decide) (by decide) (Nat.le_of_ble_eq_true rfl) (Nat.zero_le _) (Nat.zero_le _) eW_f eW_rall ?_
          have sp := h2.sp (by omega) hF iv (AC_hours V.2 (nI n2))
          have he3 := sp.ok
          have hU := h2.und sp (FT_hrs (by omega) hF h2 iv q1 q2).1
          refine zR_iload C eL_isForetold_374 1 rfl ?_
          refine zR_icmp_ne C eL_isForetold_376 (fun h376 => ?_) (fun h376 => ?_)
          · skip
            exact absurd q6 h376
          · skip
            refine zR_aload_n C eL_isForetold_379 6 rfl rfl ?_
            refine zR_iload C eL_isForetold_380 2 rfl ?_
            refine zR_bipush (v := 8) C eL_isForetold_382 (by decide) ?_
            refine zR_callV1 C kL_18 eL_isForetold_384 (c_X5_ofService q _ _ _ he3) rfl 0 5 eW_g0 rfl rfl _ eW_call eW_nall rfl (by decide) (by decide) (Nat.le_of_ble_eq_true rfl) (Nat.zero_le _) (Nat.zero_le _) eW_f eW_rall ?_
            refine zR_iload C eL_isForetold_387 0 rfl ?_
            refine zR_icmp_le C eL_isForetold_389 (fun h389 => ?_) (fun h389 => ?_)
            · skip
              exact absurd h389 q7
            · skip
              refine zR_aload_n C eL_isForetold_392 6 rfl rfl ?_
              refine zR_callV1 C kL_58 eL_isForetold_393 (c_X5_undo q _ he3) rfl 0 5 eW_g0 rfl rfl _ eW_call eW_nall rfl (by decide) (by decide) (Nat.le_of_ble_eq_true rfl) (Nat.zero_le _) (Nat.zero_le _) eW_f eW_rall ?_
              refine zR_ifge C eL_isForetold_396 (fun h396 => ?_) (fun h396 => ?_)
              · skip
                refine zR_lv [(3, _), (0, _)] [5, 6] rfl ?_
                exact c_L_isForetold_z hn C hBz hF iv h0 (hU.2.mono (by omega))
              · skip
                exact absurd h396 hU.1
set_option maxHeartbeats 1000000 in
set_option maxRecDepth 100000 in
theorem c_L_isForetold_q {x : zX} {g : zG} {q : Nat → Nat} {r : RW} {B0 Bz c F : Nat} {e0 : ED} (hn : zn x = 17) (C : zC x g RL cL_isForetold (some .boolean) 7) (hBz : Bz + 4100 < 2 ^ 30) (hF : F + 80000 < 1000000000) (iv : IV c F r) (h0 : QS B0 r e0) {e : ED} {y : Int32} {Bp a j : Nat} {b : Bool} (hb : Bp + 2000 ≤ Bz) (h : QS Bp r e) (ha : a < c) (j1 : 1 ≤ j) (j2 : j ≤ 1000) (j4 : ¬ r_frz (Rr r j) a = b) : zR x g (PO g q Bz r) (0, 0) 245 [(12, .int (nI j)), (11, .int (zB b)), (5, .int (nI a)), (1, .int y), (3, .long (allF e0)), (0, .ref (q 0))] [] (eW g q e) := by
  have he := h.ok
  refine zR_aload_n C eL_isForetold_245 5 rfl rfl ?_
  refine zR_iload C eL_isForetold_246 0 rfl ?_
  refine zR_callV1 C kL_55 eL_isForetold_248 (c_X5_hours q _ _ he) rfl 0 5 eW_g0 rfl rfl _ eW_call eW_nall rfl (by decide) (by decide) (Nat.le_of_ble_eq_true rfl) (Nat.zero_le _) (Nat.zero_le _) eW_f eW_rall ?_
  have sp := h.sp (by omega) hF iv (AC_hours e (nI j))
  have he2 := sp.ok
  have ft := FT_hrs (by omega) hF h iv j1 j2
  have hU := h.und sp ft.1
  have ob := (ft.2 a ha).2
  rw [b_ne j4] at ob
  refine zR_iflt C eL_isForetold_251 (fun h251 => ?_) (fun h251 => ?_)
  · skip
    exact absurd h251 ft.1
  · skip
    refine zR_aload_n C eL_isForetold_254 5 rfl rfl ?_
    refine zR_iload C eL_isForetold_255 2 rfl ?_
    refine zR_iconst (v := 1) C eL_isForetold_257 (by decide) ?_
    refine zR_callV1 C kL_18 eL_isForetold_258 (c_X5_ofService q _ _ _ he2) rfl 0 5 eW_g0 rfl rfl _ eW_call eW_nall rfl (by decide) (by decide) (Nat.le_of_ble_eq_true rfl) (Nat.zero_le _) (Nat.zero_le _) eW_f eW_rall ?_
    refine zR_iconst (v := 1) C eL_isForetold_261 (by decide) ?_
    refine zR_icmp_ne C eL_isForetold_262 (fun h262 => ?_) (fun h262 => ?_)
    · skip
      refine zR_iconst (v := 0) C eL_isForetold_269 (by decide) ?_
      refine zR_iload C eL_isForetold_270 1 rfl ?_
      refine zR_icmp_eq C eL_isForetold_272 (fun h272 => ?_) (fun h272 => ?_)
      · skip
        cases b
        · exact absurd (ob.trans (by decide)) h262
        · exact absurd h272 (by decide)
      · skip
        refine zR_aload_n C eL_isForetold_275 5 rfl rfl ?_
        refine zR_callV1 C kL_58 eL_isForetold_276 (c_X5_undo q _ he2) rfl 0 5 eW_g0 rfl rfl _ eW_call eW_nall rfl (by decide) (by decide) (Nat.le_of_ble_eq_true rfl) (Nat.zero_le _) (Nat.zero_le _) eW_f eW_rall ?_
        refine zR_ifge C eL_isForetold_279 (fun h279 => ?_) (fun h279 => ?_)
        · skip
          refine zR_lv [(1, _), (3, _), (0, _)] [3, 4, 5] rfl ?_
          exact c_L_isForetold_p hn C hBz hF iv h0 (by omega) hU.2
        · skip
          exact absurd h279 hU.1
    · skip
      refine zR_iconst (v := 1) C eL_isForetold_265 (by decide) ?_
      refine zR_goto C eL_isForetold_266 ?_
      refine zR_iload C eL_isForetold_270 1 rfl ?_
      refine zR_icmp_eq C eL_isForetold_272 (fun h272 => ?_) (fun h272 => ?_)
      · skip
        cases b
        · exact absurd h272 (by decide)
        · exact absurd (ob.symm.trans h262) (by decide)
      · skip
        refine zR_aload_n C eL_isForetold_275 5 rfl rfl ?_
        refine zR_callV1 C kL_58 eL_isForetold_276 (c_X5_undo q _ he2) rfl 0 5 eW_g0 rfl rfl _ eW_call eW_nall rfl (by decide) (by decide) (Nat.le_of_ble_eq_true rfl) (Nat.zero_le _) (Nat.zero_le _) eW_f eW_rall ?_
        refine zR_ifge C eL_isForetold_279 (fun h279 => ?_) (fun h279 => ?_)
        · skip
          refine zR_lv [(1, _), (3, _), (0, _)] [3, 4, 5] rfl ?_
          exact c_L_isForetold_p hn C hBz hF iv h0 (by omega) hU.2
        · skip
          exact absurd h279 hU.1
set_option maxHeartbeats 1000000 in
set_option maxRecDepth 100000 in
theorem c_L_isForetold_n {x : zX} {g : zG} {q : Nat → Nat} {r : RW} {B0 Bz c F : Nat} {e0 : ED} (hn : zn x = 17) (C : zC x g RL cL_isForetold (some .boolean) 7) (hBz : Bz + 4100 < 2 ^ 30) (hF : F + 80000 < 1000000000) (iv : IV c F r) (h0 : QS B0 r e0) {e : ED} {y v : Int32} {Bp a : Nat} {b : Bool} (hb : Bp + 3000 ≤ Bz) (h : QS Bp r e) (ha : a < c) (hv : v ≤ 0 ∨ ∃ j, 1 ≤ j ∧ j ≤ 1000 ∧ v = nI j ∧ ¬ r_frz (Rr r j) a = b ∧ ∀ t, t < j → r_frz (Rr r t) a = b) : zR x g (PO g q Bz r) (0, 0) 195 [(12, .int v), (11, .int (zB b)), (5, .int (nI a)), (1, .int y), (3, .long (allF e0)), (0, .ref (q 0))] [] (eW g q e) := by
  have he := h.ok
  refine zR_iload C eL_isForetold_195 0 rfl ?_
  refine zR_ifle C eL_isForetold_197 (fun h197 => ?_) (fun h197 => ?_)
  · skip
    refine zR_lv [(1, _), (3, _), (0, _)] [3, 4, 5] rfl ?_
    exact c_L_isForetold_p hn C hBz hF iv h0 (by omega) h
  · skip
    rcases hv with hv | ⟨j, j1, j2, rfl, j4, j5⟩
    · exact absurd hv h197
    refine zR_iload C eL_isForetold_200 0 rfl ?_
    refine zR_iconst (v := 1) C eL_isForetold_202 (by decide) ?_
    refine zR_icmp_le C eL_isForetold_203 (fun h203 => ?_) (fun h203 => ?_)
    · skip
      refine zR_lv [(12, _), (11, _), (5, _), (1, _), (3, _), (0, _)] [0, 1, 2, 3, 4, 5] rfl ?_
      exact c_L_isForetold_q hn C hBz hF iv h0 (by omega) h ha j1 j2 j4
    · skip
      have j22 : 2 ≤ j := by
        rcases Nat.lt_or_ge j 2 with z | z
        · exact absurd ((nI_leI (b := 1) (by omega) (by decide)).mpr (by omega)) h203
        · exact z
      refine zR_aload_n C eL_isForetold_206 5 rfl rfl ?_
      refine zR_iload C eL_isForetold_207 0 rfl ?_
      refine zR_iconst (v := 1) C eL_isForetold_209 (by decide) ?_
      refine zR_isub C eL_isForetold_210 ?_
      refine zR_topi (show nI j - 1 = nI (j - 1) from pk_sub (b := 1) (by omega)) ?_
      refine zR_callV1 C kL_55 eL_isForetold_211 (c_X5_hours q _ _ he) rfl 0 5 eW_g0 rfl rfl _ eW_call eW_nall rfl (by decide) (by decide) (Nat.le_of_ble_eq_true rfl) (Nat.zero_le _) (Nat.zero_le _) eW_f eW_rall ?_
      have sp := h.sp (by omega) hF iv (AC_hours e (nI (j - 1)))
      have he2 := sp.ok
      have ft := FT_hrs (by omega) hF h iv (show 1 ≤ j - 1 by omega) (show j - 1 ≤ 1000 by omega)
      have hU := h.und sp ft.1
      have ob := (ft.2 a ha).2
      rw [j5 (j - 1) (by omega)] at ob
      refine zR_iflt C eL_isForetold_214 (fun h214 => ?_) (fun h214 => ?_)
      · skip
        exact absurd h214 ft.1
      · skip
        refine zR_aload_n C eL_isForetold_217 5 rfl rfl ?_
        refine zR_iload C eL_isForetold_218 2 rfl ?_
        refine zR_iconst (v := 1) C eL_isForetold_220 (by decide) ?_
        refine zR_callV1 C kL_18 eL_isForetold_221 (c_X5_ofService q _ _ _ he2) rfl 0 5 eW_g0 rfl rfl _ eW_call eW_nall rfl (by decide) (by decide) (Nat.le_of_ble_eq_true rfl) (Nat.zero_le _) (Nat.zero_le _) eW_f eW_rall ?_
        refine zR_iconst (v := 1) C eL_isForetold_224 (by decide) ?_
        refine zR_icmp_ne C eL_isForetold_225 (fun h225 => ?_) (fun h225 => ?_)
        · skip
          refine zR_iconst (v := 0) C eL_isForetold_232 (by decide) ?_
          refine zR_iload C eL_isForetold_233 1 rfl ?_
          refine zR_icmp_ne C eL_isForetold_235 (fun h235 => ?_) (fun h235 => ?_)
          · skip
            cases b
            · exact absurd rfl h235
            · exact absurd (ob.trans (by decide)) h225
          · skip
            refine zR_aload_n C eL_isForetold_238 5 rfl rfl ?_
            refine zR_callV1 C kL_58 eL_isForetold_239 (c_X5_undo q _ he2) rfl 0 5 eW_g0 rfl rfl _ eW_call eW_nall rfl (by decide) (by decide) (Nat.le_of_ble_eq_true rfl) (Nat.zero_le _) (Nat.zero_le _) eW_f eW_rall ?_
            refine zR_iflt C eL_isForetold_242 (fun h242 => ?_) (fun h242 => ?_)
            · skip
              exact absurd h242 hU.1
            · skip
              refine zR_lv [(12, _), (11, _), (5, _), (1, _), (3, _), (0, _)] [0, 1, 2, 3, 4, 5] rfl ?_
              exact c_L_isForetold_q hn C hBz hF iv h0 (by omega) hU.2 ha j1 j2 j4
        · skip
          refine zR_iconst (v := 1) C eL_isForetold_228 (by decide) ?_
          refine zR_goto C eL_isForetold_229 ?_
          refine zR_iload C eL_isForetold_233 1 rfl ?_
          refine zR_icmp_ne C eL_isForetold_235 (fun h235 => ?_) (fun h235 => ?_)
          · skip
            cases b
            · exact absurd (ob.symm.trans h225) (by decide)
            · exact absurd rfl h235
          · skip
            refine zR_aload_n C eL_isForetold_238 5 rfl rfl ?_
            refine zR_callV1 C kL_58 eL_isForetold_239 (c_X5_undo q _ he2) rfl 0 5 eW_g0 rfl rfl _ eW_call eW_nall rfl (by decide) (by decide) (Nat.le_of_ble_eq_true rfl) (Nat.zero_le _) (Nat.zero_le _) eW_f eW_rall ?_
            refine zR_iflt C eL_isForetold_242 (fun h242 => ?_) (fun h242 => ?_)
            · skip
              exact absurd h242 hU.1
            · skip
              refine zR_lv [(12, _), (11, _), (5, _), (1, _), (3, _), (0, _)] [0, 1, 2, 3, 4, 5] rfl ?_
              exact c_L_isForetold_q hn C hBz hF iv h0 (by omega) hU.2 ha j1 j2 j4
theorem FN {B c F a : Nat} {r : RW} {e : ED} {V : Int32 × ED} {b b2 : Bool} (hb : b2 = !b) (h : (r_frz r a = b2 ∧ V.1 = 0) ∨ (¬ r_frz r a = b2 ∧ (V.1 = -6 ∨ ∃ j, 1 ≤ j ∧ j ≤ 1000 ∧ V.1 = nI j ∧ r_frz (Rr r j) a = b2 ∧ ∀ t, t < j → ¬ r_frz (Rr r t) a = b2))) : V.1 ≤ 0 ∨ ∃ j, 1 ≤ j ∧ j ≤ 1000 ∧ V.1 = nI j ∧ ¬ r_frz (Rr r j) a = b ∧ ∀ t, t < j → r_frz (Rr r t) a = b := by
  subst hb
  rcases h with ⟨-, h⟩ | ⟨-, h | ⟨j, j1, j2, j3, j4, j5⟩⟩
  · exact Or.inl (by rw [h]; decide)
  · exact Or.inl (by rw [h]; decide)
  · refine Or.inr ⟨j, j1, j2, j3, by rw [j4]; cases b <;> decide, fun t ht => ?_⟩
    have := b_ne (j5 t ht)
    rw [this]; exact Bool.not_not b
theorem FZ {a : Nat} {r : RW} {V : Int32 × ED} {b2 : Bool} (h : (r_frz r a = b2 ∧ V.1 = 0) ∨ (¬ r_frz r a = b2 ∧ (V.1 = -6 ∨ ∃ j, 1 ≤ j ∧ j ≤ 1000 ∧ V.1 = nI j ∧ r_frz (Rr r j) a = b2 ∧ ∀ t, t < j → ¬ r_frz (Rr r t) a = b2))) : (r_frz r a = b2 → V.1 = 0) ∧ (¬ r_frz r a = b2 → ¬ V.1 = 0) := by
  rcases h with ⟨h1, h⟩ | ⟨h1, h | ⟨j, j1, j2, j3, j4, j5⟩⟩
  · exact ⟨fun _ => h, fun z => absurd h1 z⟩
  · exact ⟨fun z => absurd z h1, fun _ => by rw [h]; decide⟩
  · exact ⟨fun z => absurd z h1, fun _ => by rw [j3]; exact nI_ne0 (by omega) (by omega)⟩
set_option maxHeartbeats 1000000 in
set_option maxRecDepth 100000 in
theorem c_L_isForetold {l : Launch} {g : zG} (q : Nat → Nat) {r : RW} {B Bz c F : Nat} (e : ED) (y : Int32) (hBz : Bz + 4100 < 2 ^ 30) (hB : B + 4000 ≤ Bz) (hF : F + 80000 < 1000000000) (hc : 1 ≤ c) (iv : IV c F r) (h : QS B r e) : zM l g yL_isForetold cL_isForetold 17 (some .boolean) 7 0 0 [.ref (q 0), .int y] (eW g q e) (PO g q Bz r) := by
  refine zM_of (by decide +kernel) (Nat.le_of_ble_eq_true rfl) (fun x hl hn _ _ _ C => ?_)
  subst hl
  show zR x g _ (0, 0) 0 [(0, .ref (q 0)), (1, .int y)] [] _
  have he := h.ok
  have h0 := h
  have h8 := iv.1
  obtain ⟨c1, c2, c3, ⟨n, n1, n2, n3, n4, n5⟩, ⟨kk, k1, k2, k3, k4, k5⟩⟩ := sn_cnt h.hh iv
  refine zR_aload_n C eL_isForetold_0 0 rfl rfl ?_
  refine zR_iconst (v := 3) C eL_isForetold_1 (by decide) ?_
  refine zR_callV1 C kL_12 eL_isForetold_2 (c_X5_count q _ _ he) rfl 0 5 eW_g0 rfl rfl _ eW_call eW_nall rfl (by decide) (by decide) (Nat.le_of_ble_eq_true rfl) (Nat.zero_le _) (Nat.zero_le _) eW_f eW_rall ?_
  refine zR_istore_n (lv' := [(2, _), (0, _), (1, _)]) C eL_isForetold_5 rfl (by rw [hn]; decide) rfl ?_
  refine zR_iload_n C eL_isForetold_6 0 rfl rfl ?_
  refine zR_ifne C eL_isForetold_7 (fun h7 => ?_) (fun h7 => ?_)
  · skip
    refine zR_aload_n C eL_isForetold_39 1 rfl rfl ?_
    refine zR_callSE C kL_40 eL_isForetold_40 (c_L_all q _ he) rfl rfl (by decide) (by decide) (Nat.le_of_ble_eq_true rfl) (Nat.zero_le _) (Nat.zero_le _) ?_
    refine zR_lstore_n (lv' := [(3, _), (2, _), (0, _), (1, _)]) C eL_isForetold_43 rfl (by rw [hn]; decide) rfl ?_
    refine zR_iload_n C eL_isForetold_44 3 rfl rfl ?_
    refine zR_iload_n C eL_isForetold_45 1 rfl rfl ?_
    refine zR_callS1 C kL_46 eL_isForetold_46 (c_L_low _ _ h7) rfl rfl (by decide) (by decide) (Nat.le_of_ble_eq_true rfl) (Nat.zero_le _) (Nat.zero_le _) ?_
    obtain ⟨a, ha, ea⟩ := z_low_r y (show 0 < c by omega) (by omega)
    rw [← c1] at ea
    refine zR_topi ea ?_
    refine zR_istore (lv' := [(5, _), (3, _), (2, _), (0, _), (1, _)]) C eL_isForetold_49 (by rw [hn]; decide) rfl ?_
    refine zR_iconst (v := 1) C eL_isForetold_51 (by decide) ?_
    refine zR_iload_n C eL_isForetold_52 4 rfl rfl ?_
    refine zR_iconst (v := 4) C eL_isForetold_53 (by decide) ?_
    refine zR_ishr C eL_isForetold_54 ?_
    refine zR_sipush (v := 200) C eL_isForetold_55 (by decide) ?_
    refine zR_callS1 C kL_46 eL_isForetold_58 (c_L_low _ _ (by decide)) rfl rfl (by decide) (by decide) (Nat.le_of_ble_eq_true rfl) (Nat.zero_le _) (Nat.zero_le _) ?_
    refine zR_iadd C eL_isForetold_61 ?_
    obtain ⟨k0, hk0, ek0⟩ := z_low_r (y >>> ((4 : Int32) &&& 31)) (n := 200) (by decide) (by decide)
    refine zR_topi (show 1 + z_low (y >>> ((4 : Int32) &&& 31)) 200 = nI (k0 + 1) by rw [show (200 : Int32) = nI 200 from rfl, ek0, Int32.add_comm, nI_succ]) ?_
    refine zR_istore (lv' := [(6, _), (5, _), (3, _), (2, _), (0, _), (1, _)]) C eL_isForetold_62 (by rw [hn]; decide) rfl ?_
    refine zR_aload_n C eL_isForetold_64 4 rfl rfl ?_
    refine zR_iload C eL_isForetold_65 1 rfl ?_
    refine zR_iload C eL_isForetold_67 0 rfl ?_
    refine zR_callV1 C kL_32 eL_isForetold_69 (c_X5_leftIn q _ _ _ he) rfl 0 5 eW_g0 rfl rfl _ eW_call eW_nall rfl (by decide) (by decide) (Nat.le_of_ble_eq_true rfl) (Nat.zero_le _) (Nat.zero_le _) eW_f eW_rall ?_
    refine zR_topl (FT_left (by omega) h iv ha (show 1 ≤ k0 + 1 by omega) (show k0 + 1 ≤ 1000 by omega)) ?_
    have h1 := h.leftIn (nI a) (nI (k0 + 1))
    generalize (e_leftIn e (nI a) (nI (k0 + 1))).2 = e1 at h1 ⊢
    have he1 := h1.ok
    refine zR_lstore (lv' := [(7, _), (6, _), (5, _), (3, _), (2, _), (0, _), (1, _)]) C eL_isForetold_72 (by rw [hn]; decide) rfl ?_
    refine zR_aload_n C eL_isForetold_74 5 rfl rfl ?_
    refine zR_iload C eL_isForetold_75 2 rfl ?_
    refine zR_callV1 C kL_49 eL_isForetold_77 (c_X5_frozenIn q _ _ he1) rfl 0 5 eW_g0 rfl rfl _ eW_call eW_nall rfl (by decide) (by decide) (Nat.le_of_ble_eq_true rfl) (Nat.zero_le _) (Nat.zero_le _) eW_f eW_rall ?_
    have hf := FT_fin true (by omega) h1 iv ha
    have h2 := h1.fin (nI a) true
    generalize e_fin_ e1 (nI a) true = V1 at hf h2 ⊢
    have he2 := h2.ok
    have zf := FZ hf
    refine zR_istore (lv' := [(9, _), (7, _), (6, _), (5, _), (3, _), (2, _), (0, _), (1, _)]) C eL_isForetold_80 (by rw [hn]; decide) rfl ?_
    refine zR_aload_n C eL_isForetold_82 6 rfl rfl ?_
    refine zR_iload C eL_isForetold_83 3 rfl ?_
    refine zR_callV1 C kL_52 eL_isForetold_85 (c_X5_thawsIn q _ _ he2) rfl 0 5 eW_g0 rfl rfl _ eW_call eW_nall rfl (by decide) (by decide) (Nat.le_of_ble_eq_true rfl) (Nat.zero_le _) (Nat.zero_le _) eW_f eW_rall ?_
    have hg := FT_fin false (by omega) h2 iv ha
    have h3 := h2.fin (nI a) false
    generalize e_fin_ V1.2 (nI a) false = V2 at hg h3 ⊢
    have he3 := h3.ok
    have zg := FZ hg
    have ob := (sn_srv h3.hh iv ha).1.trans (frz_t (iv.2.2.1.1 a (by omega)))
    refine zR_istore (lv' := [(10, _), (9, _), (7, _), (6, _), (5, _), (3, _), (2, _), (0, _), (1, _)]) C eL_isForetold_88 (by rw [hn]; decide) rfl ?_
    refine zR_aload_n C eL_isForetold_90 7 rfl rfl ?_
    refine zR_iload C eL_isForetold_91 4 rfl ?_
    refine zR_iconst (v := 1) C eL_isForetold_93 (by decide) ?_
    refine zR_callV1 C kL_18 eL_isForetold_94 (c_X5_ofService q _ _ _ he3) rfl 0 5 eW_g0 rfl rfl _ eW_call eW_nall rfl (by decide) (by decide) (Nat.le_of_ble_eq_true rfl) (Nat.zero_le _) (Nat.zero_le _) eW_f eW_rall ?_
    refine zR_iconst (v := 1) C eL_isForetold_97 (by decide) ?_
    refine zR_icmp_ne C eL_isForetold_98 (fun h98 => ?_) (fun h98 => ?_)
    · skip
      refine zR_iconst (v := 0) C eL_isForetold_105 (by decide) ?_
      refine zR_istore (lv' := [(11, _), (10, _), (9, _), (7, _), (6, _), (5, _), (3, _), (2, _), (0, _), (1, _)]) C eL_isForetold_106 (by rw [hn]; decide) rfl ?_
      have fz : r_frz r a = false := by cases hq : r_frz r a <;> first | rfl | (rw [hq] at ob; exact absurd (ob.trans (by decide)) h98)
      refine zR_aload_n C eL_isForetold_108 8 rfl rfl ?_
      refine zR_callSE C kL_40 eL_isForetold_109 (c_L_all q _ he3) rfl rfl (by decide) (by decide) (Nat.le_of_ble_eq_true rfl) (Nat.zero_le _) (Nat.zero_le _) ?_
      refine zR_lload_n C eL_isForetold_112 6 rfl rfl ?_
      refine zR_cifne C eL_isForetold_113 eL_isForetold_114 (fun h113 => ?_) (fun h113 => ?_)
      · skip
        exact absurd (h.all h3) h113
      · skip
        refine zR_iload C eL_isForetold_117 0 rfl ?_
        refine zR_ifeq_t C eL_isForetold_119 (by decide) ?_
        refine zR_iload C eL_isForetold_132 0 rfl ?_
        refine zR_ifne_f C eL_isForetold_134 (by decide) ?_
        refine zR_iload C eL_isForetold_137 1 rfl ?_
        refine zR_ifne C eL_isForetold_139 (fun h139 => ?_) (fun h139 => ?_)
        · skip
          exact absurd (zg.1 fz) h139
        · skip
          refine zR_iload C eL_isForetold_142 2 rfl ?_
          refine zR_ifne C eL_isForetold_144 (fun h144 => ?_) (fun h144 => ?_)
          · skip
            refine zR_aload_n C eL_isForetold_149 8 rfl rfl ?_
            refine zR_iload C eL_isForetold_150 4 rfl ?_
            refine zR_callV1 C kL_55 eL_isForetold_152 (c_X5_hours q _ _ he3) rfl 0 5 eW_g0 rfl rfl _ eW_call eW_nall rfl (by decide) (by decide) (Nat.le_of_ble_eq_true rfl) (Nat.zero_le _) (Nat.zero_le _) eW_f eW_rall ?_
            have sp := h3.sp (by omega) hF iv (AC_hours V2.2 (nI (k0 + 1)))
            have he4 := sp.ok
            have ft := FT_hrs (by omega) hF h3 iv (show 1 ≤ k0 + 1 by omega) (show k0 + 1 ≤ 1000 by omega)
            have hU := h3.und sp ft.1
            refine zR_iflt C eL_isForetold_155 (fun h155 => ?_) (fun h155 => ?_)
            · skip
              exact absurd h155 ft.1
            · skip
              refine zR_aload_n C eL_isForetold_158 8 rfl rfl ?_
              refine zR_iload C eL_isForetold_159 5 rfl ?_
              refine zR_bipush (v := 8) C eL_isForetold_161 (by decide) ?_
              refine zR_callV1 C kL_22 eL_isForetold_163 (c_X5_account q _ _ _ he4) rfl 0 5 eW_g0 rfl rfl _ eW_call eW_nall rfl (by decide) (by decide) (Nat.le_of_ble_eq_true rfl) (Nat.zero_le _) (Nat.zero_le _) eW_f eW_rall ?_
              refine zR_lload C eL_isForetold_166 3 rfl ?_
              refine zR_cifne C eL_isForetold_168 eL_isForetold_169 (fun h168 => ?_) (fun h168 => ?_)
              · skip
                exact absurd (ft.2 a ha).1 h168
              · skip
                refine zR_aload_n C eL_isForetold_172 8 rfl rfl ?_
                refine zR_callV1 C kL_58 eL_isForetold_173 (c_X5_undo q _ he4) rfl 0 5 eW_g0 rfl rfl _ eW_call eW_nall rfl (by decide) (by decide) (Nat.le_of_ble_eq_true rfl) (Nat.zero_le _) (Nat.zero_le _) eW_f eW_rall ?_
                refine zR_ifge C eL_isForetold_176 (fun h176 => ?_) (fun h176 => ?_)
                · skip
                  refine zR_iload C eL_isForetold_181 0 rfl ?_
                  refine zR_ifeq_t C eL_isForetold_183 (by decide) ?_
                  refine zR_iload C eL_isForetold_191 2 rfl ?_
                  refine zR_istore (lv' := [(12, _), (11, _), (10, _), (9, _), (7, _), (6, _), (5, _), (3, _), (2, _), (0, _), (1, _)]) C eL_isForetold_193 (by rw [hn]; decide) rfl ?_
                  refine zR_lv [(12, _), (11, _), (5, _), (1, _), (3, _), (0, _)] [0, 1, 6, 10, 7, 9] rfl ?_
                  exact c_L_isForetold_n (b := false) hn C hBz hF iv h0 (by omega) hU.2 ha (FN (B := 0) (c := 0) (F := 0) (e := e) rfl hf)
                · skip
                  exact absurd h176 hU.1
          · skip
            exact absurd h144 (zf.2 (by rw [fz]; decide))
    · skip
      refine zR_iconst (v := 1) C eL_isForetold_101 (by decide) ?_
      refine zR_goto C eL_isForetold_102 ?_
      refine zR_istore (lv' := [(11, _), (10, _), (9, _), (7, _), (6, _), (5, _), (3, _), (2, _), (0, _), (1, _)]) C eL_isForetold_106 (by rw [hn]; decide) rfl ?_
      have fz : r_frz r a = true := by cases hq : r_frz r a <;> first | rfl | (rw [hq] at ob; exact absurd (ob.symm.trans h98) (by decide))
      refine zR_aload_n C eL_isForetold_108 8 rfl rfl ?_
      refine zR_callSE C kL_40 eL_isForetold_109 (c_L_all q _ he3) rfl rfl (by decide) (by decide) (Nat.le_of_ble_eq_true rfl) (Nat.zero_le _) (Nat.zero_le _) ?_
      refine zR_lload_n C eL_isForetold_112 6 rfl rfl ?_
      refine zR_cifne C eL_isForetold_113 eL_isForetold_114 (fun h113 => ?_) (fun h113 => ?_)
      · skip
        exact absurd (h.all h3) h113
      · skip
        refine zR_iload C eL_isForetold_117 0 rfl ?_
        refine zR_ifeq_f C eL_isForetold_119 (by decide) ?_
        refine zR_iload C eL_isForetold_122 2 rfl ?_
        refine zR_ifne C eL_isForetold_124 (fun h124 => ?_) (fun h124 => ?_)
        · skip
          exact absurd (zf.1 fz) h124
        · skip
          refine zR_iload C eL_isForetold_127 1 rfl ?_
          refine zR_ifeq C eL_isForetold_129 (fun h129 => ?_) (fun h129 => ?_)
          · skip
            exact absurd h129 (zg.2 (by rw [fz]; decide))
          · skip
            refine zR_iload C eL_isForetold_132 0 rfl ?_
            refine zR_ifne_t C eL_isForetold_134 (by decide) ?_
            refine zR_aload_n C eL_isForetold_149 8 rfl rfl ?_
            refine zR_iload C eL_isForetold_150 4 rfl ?_
            refine zR_callV1 C kL_55 eL_isForetold_152 (c_X5_hours q _ _ he3) rfl 0 5 eW_g0 rfl rfl _ eW_call eW_nall rfl (by decide) (by decide) (Nat.le_of_ble_eq_true rfl) (Nat.zero_le _) (Nat.zero_le _) eW_f eW_rall ?_
            have sp := h3.sp (by omega) hF iv (AC_hours V2.2 (nI (k0 + 1)))
            have he4 := sp.ok
            have ft := FT_hrs (by omega) hF h3 iv (show 1 ≤ k0 + 1 by omega) (show k0 + 1 ≤ 1000 by omega)
            have hU := h3.und sp ft.1
            refine zR_iflt C eL_isForetold_155 (fun h155 => ?_) (fun h155 => ?_)
            · skip
              exact absurd h155 ft.1
            · skip
              refine zR_aload_n C eL_isForetold_158 8 rfl rfl ?_
              refine zR_iload C eL_isForetold_159 5 rfl ?_
              refine zR_bipush (v := 8) C eL_isForetold_161 (by decide) ?_
              refine zR_callV1 C kL_22 eL_isForetold_163 (c_X5_account q _ _ _ he4) rfl 0 5 eW_g0 rfl rfl _ eW_call eW_nall rfl (by decide) (by decide) (Nat.le_of_ble_eq_true rfl) (Nat.zero_le _) (Nat.zero_le _) eW_f eW_rall ?_
              refine zR_lload C eL_isForetold_166 3 rfl ?_
              refine zR_cifne C eL_isForetold_168 eL_isForetold_169 (fun h168 => ?_) (fun h168 => ?_)
              · skip
                exact absurd (ft.2 a ha).1 h168
              · skip
                refine zR_aload_n C eL_isForetold_172 8 rfl rfl ?_
                refine zR_callV1 C kL_58 eL_isForetold_173 (c_X5_undo q _ he4) rfl 0 5 eW_g0 rfl rfl _ eW_call eW_nall rfl (by decide) (by decide) (Nat.le_of_ble_eq_true rfl) (Nat.zero_le _) (Nat.zero_le _) eW_f eW_rall ?_
                refine zR_ifge C eL_isForetold_176 (fun h176 => ?_) (fun h176 => ?_)
                · skip
                  refine zR_iload C eL_isForetold_181 0 rfl ?_
                  refine zR_ifeq_f C eL_isForetold_183 (by decide) ?_
                  refine zR_iload C eL_isForetold_186 1 rfl ?_
                  refine zR_goto C eL_isForetold_188 ?_
                  refine zR_istore (lv' := [(12, _), (11, _), (10, _), (9, _), (7, _), (6, _), (5, _), (3, _), (2, _), (0, _), (1, _)]) C eL_isForetold_193 (by rw [hn]; decide) rfl ?_
                  refine zR_lv [(12, _), (11, _), (5, _), (1, _), (3, _), (0, _)] [0, 1, 6, 10, 7, 9] rfl ?_
                  exact c_L_isForetold_n (b := true) hn C hBz hF iv h0 (by omega) hU.2 ha (FN (B := 0) (c := 0) (F := 0) (e := e) rfl hg)
                · skip
                  exact absurd h176 hU.1
  · skip
    rw [c1] at h7
    exact absurd h7 (nI_ne0 (by omega) (by omega))
