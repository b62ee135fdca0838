/-! The law: the best lender, the least loan, the safe size are just so. -/
section ZLE
variable {x : zX} {g : zG} {own : String} {cc : ByteArray} {ret : Option FieldType} {f : Nat} {post : Option Value → va_W → Prop} {n : Nat × Nat} {pc pc' : Nat} {lv : List (Nat × Value)} {st : List Value} {ws : va_W}
theorem zR_ifle_t (C : zC x g own cc ret f) {a : Int32} {off : Int} {tgt : Nat} (d : zJ cc pc (.ifCond .le off) off tgt 3 pc') (h : a ≤ 0) (k : zR x g post n tgt lv st ws) : zR x g post n pc lv (.int a :: st) ws := zR_ifle C d (fun _ => k) (fun z => absurd h z)
theorem zR_ifle_f (C : zC x g own cc ret f) {a : Int32} {off : Int} {tgt : Nat} (d : zJ cc pc (.ifCond .le off) off tgt 3 pc') (h : ¬ a ≤ 0) (k : zR x g post n pc' lv st ws) : zR x g post n pc lv (.int a :: st) ws := zR_ifle C d (fun z => absurd z h) (fun _ => k)
end ZLE
theorem i64_le_of {a b : Int64} (h : a.toInt ≤ b.toInt) : a ≤ b := Int64.le_iff_toInt_le.mpr h
set_option maxHeartbeats 1000000 in
set_option maxRecDepth 100000 in
theorem c_L_isBest_s1 {x : zX} {g : zG} {q : Nat → Nat} {r : RW} {Bz c F a : Nat} (hn : zn x = 11) (C : zC x g RL cL_isBest (some .boolean) 7) (hBz : Bz + 4100 < 2 ^ 30) (hF : F + 80000 < 1000000000) (iv : IV c F r) (ha : a < c) {e : ED} {Bs : Nat} (hb : Bs + 2000 ≤ Bz) (h : QS Bs r e) (fz : r_frz r a = true) : zR x g (PO g q Bz r) (0, 0) 336 [(8, .int 1), (3, .int (nI a)), (0, .ref (q 0))] [] (eW g q e) := by
  have he := h.ok
  refine zR_aload_n C eL_isBest_336 2 rfl rfl ?_
  refine zR_iload_n C eL_isBest_337 1 rfl rfl ?_
  refine zR_callV1 C kL_69 eL_isBest_338 (c_X5_safeSize q _ _ he) rfl 0 5 eW_g0 rfl rfl _ eW_call eW_nall rfl (by decide) (by decide) (Nat.le_of_ble_eq_true rfl) (Nat.zero_le _) (Nat.zero_le _) eW_f eW_rall ?_
  refine zR_topi ((LB4 (by omega) h iv ha).1 fz) ?_
  refine zR_istore (lv' := [(10, _), (8, _), (3, _), (0, _)]) C eL_isBest_341 (by rw [hn]; decide) rfl ?_
  refine zR_iload C eL_isBest_343 0 rfl ?_
  refine zR_ifle_t C eL_isBest_345 (by decide) ?_
  refine zR_iload C eL_isBest_378 1 rfl ?_
  refine zR_ifne_t C eL_isBest_380 (by decide) ?_
  refine zR_iconst (v := 1) C eL_isBest_430 (by decide) ?_
  refine zR_goto C eL_isBest_431 ?_
  exact zR_iret C rfl rfl eL_isBest_435 (Nat.zero_le _) (Nat.zero_le _) ⟨rfl, _, rfl, h.mono (by omega)⟩
set_option maxHeartbeats 1000000 in
set_option maxRecDepth 100000 in
theorem c_L_isBest_s0 {x : zX} {g : zG} {q : Nat → Nat} {r : RW} {Bz c F a : Nat} (hn : zn x = 11) (C : zC x g RL cL_isBest (some .boolean) 7) (hBz : Bz + 4100 < 2 ^ 30) (hF : F + 80000 < 1000000000) (iv : IV c F r) (ha : a < c) {e : ED} {Bs : Nat} (hb : Bs + 2000 ≤ Bz) (h : QS Bs r e) (fz : r_frz r a = false) : zR x g (PO g q Bz r) (0, 0) 336 [(8, .int 0), (3, .int (nI a)), (0, .ref (q 0))] [] (eW g q e) := by
  have he := h.ok
  refine zR_aload_n C eL_isBest_336 2 rfl rfl ?_
  refine zR_iload_n C eL_isBest_337 1 rfl rfl ?_
  refine zR_callV1 C kL_69 eL_isBest_338 (c_X5_safeSize q _ _ he) rfl 0 5 eW_g0 rfl rfl _ eW_call eW_nall rfl (by decide) (by decide) (Nat.le_of_ble_eq_true rfl) (Nat.zero_le _) (Nat.zero_le _) eW_f eW_rall ?_
  rcases (LB4 (by omega) h iv ha).2 fz with ⟨sv, sg⟩ | ⟨z, z1, z2, sv, sg⟩ | ⟨sv, sg⟩
  · skip
    refine zR_topi sv ?_
    refine zR_istore (lv' := [(10, _), (8, _), (3, _), (0, _)]) C eL_isBest_341 (by rw [hn]; decide) rfl ?_
    refine zR_iload C eL_isBest_343 0 rfl ?_
    refine zR_ifle_t C eL_isBest_345 (by decide) ?_
    refine zR_iload C eL_isBest_378 1 rfl ?_
    refine zR_ifne_f C eL_isBest_380 (by decide) ?_
    refine zR_iload C eL_isBest_383 0 rfl ?_
    refine zR_sipush (v := 199) C eL_isBest_385 (by decide) ?_
    refine zR_icmp_gt C eL_isBest_388 (fun h388 => ?_) (fun h388 => ?_)
    · skip
      exact absurd (by decide) h388
    · skip
      refine zR_aload_n C eL_isBest_391 3 rfl rfl ?_
      refine zR_iload_n C eL_isBest_392 2 rfl rfl ?_
      refine zR_iload C eL_isBest_393 0 rfl ?_
      refine zR_ifge_f C eL_isBest_395 (by decide) ?_
      refine zR_iconst (v := 1) C eL_isBest_398 (by decide) ?_
      refine zR_goto C eL_isBest_399 ?_
      refine zR_iconst (v := 0) C eL_isBest_406 (by decide) ?_
      refine zR_callV1 C kL_78 eL_isBest_407 (c_X5_release q _ _ _ _ he) rfl 0 5 eW_g0 rfl rfl _ eW_call eW_nall rfl (by decide) (by decide) (Nat.le_of_ble_eq_true rfl) (Nat.zero_le _) (Nat.zero_le _) eW_f eW_rall ?_
      have lb1 := LB5 (by omega) h iv ha fz (show 1 ≤ 1 by omega) (show 1 ≤ 200 by omega)
      have sp1 := h.sp (by omega) hF iv (AC_release _ (nI a) (nI 1) 0)
      have he1 := sp1.ok
      have hU1 := h.und sp1 (by rw [lb1.1]; decide)
      refine zR_ifne C eL_isBest_410 (fun h410 => ?_) (fun h410 => ?_)
      · skip
        exact absurd lb1.1 h410
      · skip
        refine zR_aload_n C eL_isBest_413 3 rfl rfl ?_
        refine zR_iload_n C eL_isBest_414 2 rfl rfl ?_
        refine zR_iconst (v := 1) C eL_isBest_415 (by decide) ?_
        refine zR_callV1 C kL_18 eL_isBest_416 (c_X5_ofService q _ _ _ he1) rfl 0 5 eW_g0 rfl rfl _ eW_call eW_nall rfl (by decide) (by decide) (Nat.le_of_ble_eq_true rfl) (Nat.zero_le _) (Nat.zero_le _) eW_f eW_rall ?_
        refine zR_iconst (v := 1) C eL_isBest_419 (by decide) ?_
        refine zR_icmp_ne C eL_isBest_420 (fun h420 => ?_) (fun h420 => ?_)
        · skip
          exact absurd (lb1.2.1 (by omega)) h420
        · skip
          refine zR_aload_n C eL_isBest_423 3 rfl rfl ?_
          refine zR_callV1 C kL_58 eL_isBest_424 (c_X5_undo q _ he1) rfl 0 5 eW_g0 rfl rfl _ eW_call eW_nall rfl (by decide) (by decide) (Nat.le_of_ble_eq_true rfl) (Nat.zero_le _) (Nat.zero_le _) eW_f eW_rall ?_
          refine zR_iflt C eL_isBest_427 (fun h427 => ?_) (fun h427 => ?_)
          · skip
            exact absurd h427 hU1.1
          · skip
            refine zR_iconst (v := 1) C eL_isBest_430 (by decide) ?_
            refine zR_goto C eL_isBest_431 ?_
            exact zR_iret C rfl rfl eL_isBest_435 (Nat.zero_le _) (Nat.zero_le _) ⟨rfl, _, rfl, hU1.2.mono (by omega)⟩
  · skip
    refine zR_topi sv ?_
    refine zR_istore (lv' := [(10, _), (8, _), (3, _), (0, _)]) C eL_isBest_341 (by rw [hn]; decide) rfl ?_
    refine zR_iload C eL_isBest_343 0 rfl ?_
    refine zR_ifle C eL_isBest_345 (fun h345 => ?_) (fun h345 => ?_)
    · skip
      exact absurd h345 (fun y => absurd ((nI_leI (b := 0) (by omega) (by decide)).mp y) (by omega))
    · skip
      refine zR_aload_n C eL_isBest_348 3 rfl rfl ?_
      refine zR_iload_n C eL_isBest_349 2 rfl rfl ?_
      refine zR_iload C eL_isBest_350 0 rfl ?_
      refine zR_iconst (v := 0) C eL_isBest_352 (by decide) ?_
      refine zR_callV1 C kL_78 eL_isBest_353 (c_X5_release q _ _ _ _ he) rfl 0 5 eW_g0 rfl rfl _ eW_call eW_nall rfl (by decide) (by decide) (Nat.le_of_ble_eq_true rfl) (Nat.zero_le _) (Nat.zero_le _) eW_f eW_rall ?_
      have lb1 := LB5 (by omega) h iv ha fz (show 1 ≤ z by omega) (show z ≤ 200 by omega)
      have sp1 := h.sp (by omega) hF iv (AC_release _ (nI a) (nI z) 0)
      have he1 := sp1.ok
      have hU1 := h.und sp1 (by rw [lb1.1]; decide)
      refine zR_ifne C eL_isBest_356 (fun h356 => ?_) (fun h356 => ?_)
      · skip
        exact absurd lb1.1 h356
      · skip
        refine zR_aload_n C eL_isBest_359 3 rfl rfl ?_
        refine zR_iload_n C eL_isBest_360 2 rfl rfl ?_
        refine zR_iconst (v := 1) C eL_isBest_361 (by decide) ?_
        refine zR_callV1 C kL_18 eL_isBest_362 (c_X5_ofService q _ _ _ he1) rfl 0 5 eW_g0 rfl rfl _ eW_call eW_nall rfl (by decide) (by decide) (Nat.le_of_ble_eq_true rfl) (Nat.zero_le _) (Nat.zero_le _) eW_f eW_rall ?_
        refine zR_iconst (v := 1) C eL_isBest_365 (by decide) ?_
        refine zR_icmp_eq C eL_isBest_366 (fun h366 => ?_) (fun h366 => ?_)
        · skip
          exact absurd ((lb1.2.2 (by omega)).symm.trans h366) (by decide)
        · skip
          refine zR_aload_n C eL_isBest_369 3 rfl rfl ?_
          refine zR_callV1 C kL_58 eL_isBest_370 (c_X5_undo q _ he1) rfl 0 5 eW_g0 rfl rfl _ eW_call eW_nall rfl (by decide) (by decide) (Nat.le_of_ble_eq_true rfl) (Nat.zero_le _) (Nat.zero_le _) eW_f eW_rall ?_
          refine zR_ifge C eL_isBest_373 (fun h373 => ?_) (fun h373 => ?_)
          · skip
            refine zR_iload C eL_isBest_378 1 rfl ?_
            refine zR_ifne_f C eL_isBest_380 (by decide) ?_
            refine zR_iload C eL_isBest_383 0 rfl ?_
            refine zR_sipush (v := 199) C eL_isBest_385 (by decide) ?_
            refine zR_icmp_gt C eL_isBest_388 (fun h388 => ?_) (fun h388 => ?_)
            · skip
              exact absurd ((nI_leI (b := 199) (by omega) (by decide)).mpr (by omega)) h388
            · skip
              refine zR_aload_n C eL_isBest_391 3 rfl rfl ?_
              refine zR_iload_n C eL_isBest_392 2 rfl rfl ?_
              refine zR_iload C eL_isBest_393 0 rfl ?_
              refine zR_ifge C eL_isBest_395 (fun h395 => ?_) (fun h395 => ?_)
              · skip
                refine zR_iload C eL_isBest_402 0 rfl ?_
                refine zR_iconst (v := 1) C eL_isBest_404 (by decide) ?_
                refine zR_iadd C eL_isBest_405 ?_
                refine zR_topi (show nI z + 1 = nI (z + 1) from (nI_succ z).symm) ?_
                refine zR_iconst (v := 0) C eL_isBest_406 (by decide) ?_
                refine zR_callV1 C kL_78 eL_isBest_407 (c_X5_release q _ _ _ _ hU1.2.ok) rfl 0 5 eW_g0 rfl rfl _ eW_call eW_nall rfl (by decide) (by decide) (Nat.le_of_ble_eq_true rfl) (Nat.zero_le _) (Nat.zero_le _) eW_f eW_rall ?_
                have lb2 := LB5 (by omega) hU1.2 iv ha fz (show 1 ≤ (z + 1) by omega) (show (z + 1) ≤ 200 by omega)
                have sp2 := hU1.2.sp (by omega) hF iv (AC_release _ (nI a) (nI (z + 1)) 0)
                have he2 := sp2.ok
                have hU2 := hU1.2.und sp2 (by rw [lb2.1]; decide)
                refine zR_ifne C eL_isBest_410 (fun h410 => ?_) (fun h410 => ?_)
                · skip
                  exact absurd lb2.1 h410
                · skip
                  refine zR_aload_n C eL_isBest_413 3 rfl rfl ?_
                  refine zR_iload_n C eL_isBest_414 2 rfl rfl ?_
                  refine zR_iconst (v := 1) C eL_isBest_415 (by decide) ?_
                  refine zR_callV1 C kL_18 eL_isBest_416 (c_X5_ofService q _ _ _ he2) rfl 0 5 eW_g0 rfl rfl _ eW_call eW_nall rfl (by decide) (by decide) (Nat.le_of_ble_eq_true rfl) (Nat.zero_le _) (Nat.zero_le _) eW_f eW_rall ?_
                  refine zR_iconst (v := 1) C eL_isBest_419 (by decide) ?_
                  refine zR_icmp_ne C eL_isBest_420 (fun h420 => ?_) (fun h420 => ?_)
                  · skip
                    exact absurd (lb2.2.1 (by omega)) h420
                  · skip
                    refine zR_aload_n C eL_isBest_423 3 rfl rfl ?_
                    refine zR_callV1 C kL_58 eL_isBest_424 (c_X5_undo q _ he2) rfl 0 5 eW_g0 rfl rfl _ eW_call eW_nall rfl (by decide) (by decide) (Nat.le_of_ble_eq_true rfl) (Nat.zero_le _) (Nat.zero_le _) eW_f eW_rall ?_
                    refine zR_iflt C eL_isBest_427 (fun h427 => ?_) (fun h427 => ?_)
                    · skip
                      exact absurd h427 hU2.1
                    · skip
                      refine zR_iconst (v := 1) C eL_isBest_430 (by decide) ?_
                      refine zR_goto C eL_isBest_431 ?_
                      exact zR_iret C rfl rfl eL_isBest_435 (Nat.zero_le _) (Nat.zero_le _) ⟨rfl, _, rfl, hU2.2.mono (by omega)⟩
              · skip
                exact absurd h395 (nI_pos (by omega))
          · skip
            exact absurd h373 hU1.1
  · skip
    refine zR_topi sv ?_
    refine zR_istore (lv' := [(10, _), (8, _), (3, _), (0, _)]) C eL_isBest_341 (by rw [hn]; decide) rfl ?_
    refine zR_iload C eL_isBest_343 0 rfl ?_
    refine zR_ifle_f C eL_isBest_345 (by decide) ?_
    refine zR_aload_n C eL_isBest_348 3 rfl rfl ?_
    refine zR_iload_n C eL_isBest_349 2 rfl rfl ?_
    refine zR_iload C eL_isBest_350 0 rfl ?_
    refine zR_iconst (v := 0) C eL_isBest_352 (by decide) ?_
    refine zR_callV1 C kL_78 eL_isBest_353 (c_X5_release q _ _ _ _ he) rfl 0 5 eW_g0 rfl rfl _ eW_call eW_nall rfl (by decide) (by decide) (Nat.le_of_ble_eq_true rfl) (Nat.zero_le _) (Nat.zero_le _) eW_f eW_rall ?_
    have lb1 := LB5 (by omega) h iv ha fz (show 1 ≤ 200 by omega) (show 200 ≤ 200 by omega)
    have sp1 := h.sp (by omega) hF iv (AC_release _ (nI a) (nI 200) 0)
    have he1 := sp1.ok
    have hU1 := h.und sp1 (by rw [lb1.1]; decide)
    refine zR_ifne C eL_isBest_356 (fun h356 => ?_) (fun h356 => ?_)
    · skip
      exact absurd lb1.1 h356
    · skip
      refine zR_aload_n C eL_isBest_359 3 rfl rfl ?_
      refine zR_iload_n C eL_isBest_360 2 rfl rfl ?_
      refine zR_iconst (v := 1) C eL_isBest_361 (by decide) ?_
      refine zR_callV1 C kL_18 eL_isBest_362 (c_X5_ofService q _ _ _ he1) rfl 0 5 eW_g0 rfl rfl _ eW_call eW_nall rfl (by decide) (by decide) (Nat.le_of_ble_eq_true rfl) (Nat.zero_le _) (Nat.zero_le _) eW_f eW_rall ?_
      refine zR_iconst (v := 1) C eL_isBest_365 (by decide) ?_
      refine zR_icmp_eq C eL_isBest_366 (fun h366 => ?_) (fun h366 => ?_)
      · skip
        exact absurd ((lb1.2.2 (by omega)).symm.trans h366) (by decide)
      · skip
        refine zR_aload_n C eL_isBest_369 3 rfl rfl ?_
        refine zR_callV1 C kL_58 eL_isBest_370 (c_X5_undo q _ he1) rfl 0 5 eW_g0 rfl rfl _ eW_call eW_nall rfl (by decide) (by decide) (Nat.le_of_ble_eq_true rfl) (Nat.zero_le _) (Nat.zero_le _) eW_f eW_rall ?_
        refine zR_ifge C eL_isBest_373 (fun h373 => ?_) (fun h373 => ?_)
        · skip
          refine zR_iload C eL_isBest_378 1 rfl ?_
          refine zR_ifne_f C eL_isBest_380 (by decide) ?_
          refine zR_iload C eL_isBest_383 0 rfl ?_
          refine zR_sipush (v := 199) C eL_isBest_385 (by decide) ?_
          refine zR_icmp_gt C eL_isBest_388 (fun h388 => ?_) (fun h388 => ?_)
          · skip
            refine zR_iconst (v := 1) C eL_isBest_430 (by decide) ?_
            refine zR_goto C eL_isBest_431 ?_
            exact zR_iret C rfl rfl eL_isBest_435 (Nat.zero_le _) (Nat.zero_le _) ⟨rfl, _, rfl, hU1.2.mono (by omega)⟩
          · skip
            exact absurd h388 (by decide)
        · skip
          exact absurd h373 hU1.1
set_option maxHeartbeats 1000000 in
set_option maxRecDepth 100000 in
theorem c_L_isBest_r {x : zX} {g : zG} {q : Nat → Nat} {r : RW} {Bz c F a : Nat} (hn : zn x = 11) (C : zC x g RL cL_isBest (some .boolean) 7) (hBz : Bz + 4100 < 2 ^ 30) (hF : F + 80000 < 1000000000) (iv : IV c F r) (ha : a < c) {e : ED} {Bs : Nat} (hb : Bs + 4000 ≤ Bz) (h : QS Bs r e) : zR x g (PO g q Bz r) (0, 0) 170 [(3, .int (nI a)), (0, .ref (q 0))] [] (eW g q e) := by
  have he := h.ok
  have h8 := iv.1
  have ob := (sn_srv h.hh iv ha).1.trans (frz_t (iv.2.2.1.1 a (by omega)))
  refine zR_aload_n C eL_isBest_170 1 rfl rfl ?_
  refine zR_iload_n C eL_isBest_171 0 rfl rfl ?_
  refine zR_callV1 C kL_65 eL_isBest_172 (c_X5_leastLoan q _ _ he) rfl 0 5 eW_g0 rfl rfl _ eW_call eW_nall rfl (by decide) (by decide) (Nat.le_of_ble_eq_true rfl) (Nat.zero_le _) (Nat.zero_le _) eW_f eW_rall ?_
  refine zR_lstore (lv' := [(6, _), (3, _), (0, _)]) C eL_isBest_175 (by rw [hn]; decide) rfl ?_
  refine zR_aload_n C eL_isBest_177 2 rfl rfl ?_
  refine zR_iload_n C eL_isBest_178 1 rfl rfl ?_
  refine zR_iconst (v := 1) C eL_isBest_179 (by decide) ?_
  refine zR_callV1 C kL_18 eL_isBest_180 (c_X5_ofService q _ _ _ (by assumption)) rfl 0 5 eW_g0 rfl rfl _ eW_call eW_nall rfl (by decide) (by decide) (Nat.le_of_ble_eq_true rfl) (Nat.zero_le _) (Nat.zero_le _) eW_f eW_rall ?_
  refine zR_iconst (v := 1) C eL_isBest_183 (by decide) ?_
  refine zR_icmp_ne C eL_isBest_184 (fun h184 => ?_) (fun h184 => ?_)
  · skip
    refine zR_iconst (v := 0) C eL_isBest_191 (by decide) ?_
    refine zR_istore (lv' := [(8, _), (6, _), (3, _), (0, _)]) C eL_isBest_192 (by rw [hn]; decide) rfl ?_
    have fz : r_frz r a = false := by cases hq : r_frz r a <;> first | rfl | (rw [hq] at ob; exact absurd (ob.trans (by decide)) h184)
    have l0 := (LB3 (by omega) h iv ha).1 fz
    refine zR_iload C eL_isBest_194 0 rfl ?_
    refine zR_lload C eL_isBest_196 1 rfl ?_
    refine zR_lconst (v := 0) C eL_isBest_198 (by decide) ?_
    refine zR_cifle C eL_isBest_199 eL_isBest_200 (fun h199 => ?_) (fun h199 => ?_)
    · skip
      refine zR_iconst (v := 0) C eL_isBest_207 (by decide) ?_
      refine zR_icmp_ne C eL_isBest_208 (fun h => absurd h (by decide)) (fun _ => ?_)
      refine zR_iload C eL_isBest_211 0 rfl ?_
      refine zR_ifeq_t C eL_isBest_213 (by decide) ?_
      refine zR_iload C eL_isBest_228 0 rfl ?_
      refine zR_ifeq_t C eL_isBest_230 (by decide) ?_
      refine zR_bipush (v := -6) C eL_isBest_253 (by decide) ?_
      refine zR_istore (lv' := [(9, _), (8, _), (6, _), (3, _), (0, _)]) C eL_isBest_255 (by rw [hn]; decide) rfl ?_
      refine zR_iload C eL_isBest_257 0 rfl ?_
      refine zR_iflt_t C eL_isBest_259 (by decide) ?_
      refine zR_lv [(8, _), (3, _), (0, _)] [1, 3, 4] rfl ?_
      exact c_L_isBest_s0 hn C hBz hF iv ha (by omega) h fz
    · skip
      refine zR_iconst (v := 1) C eL_isBest_203 (by decide) ?_
      refine zR_goto C eL_isBest_204 ?_
      refine zR_icmp_ne C eL_isBest_208 (fun _ => ?_) (fun h => absurd h (by decide))
      rw [l0] at h199
      exact absurd (by decide) h199
  · skip
    refine zR_iconst (v := 1) C eL_isBest_187 (by decide) ?_
    refine zR_goto C eL_isBest_188 ?_
    refine zR_istore (lv' := [(8, _), (6, _), (3, _), (0, _)]) C eL_isBest_192 (by rw [hn]; decide) rfl ?_
    have fz : r_frz r a = true := by cases hq : r_frz r a <;> first | rfl | (rw [hq] at ob; exact absurd (ob.symm.trans h184) (by decide))
    obtain ⟨Y, y1, y2, y3, y4⟩ := (LB3 (by omega) h iv ha).2 fz
    refine zR_iload C eL_isBest_194 0 rfl ?_
    refine zR_lload C eL_isBest_196 1 rfl ?_
    refine zR_lconst (v := 0) C eL_isBest_198 (by decide) ?_
    refine zR_cifle C eL_isBest_199 eL_isBest_200 (fun h199 => ?_) (fun h199 => ?_)
    · skip
      refine zR_iconst (v := 0) C eL_isBest_207 (by decide) ?_
      refine zR_icmp_ne C eL_isBest_208 (fun _ => ?_) (fun h => absurd h (by decide))
      have := t_le0.mp h199
      exact absurd y2 (by omega)
    · skip
      refine zR_iconst (v := 1) C eL_isBest_203 (by decide) ?_
      refine zR_goto C eL_isBest_204 ?_
      refine zR_icmp_ne C eL_isBest_208 (fun h => absurd h (by decide)) (fun _ => ?_)
      refine zR_iload C eL_isBest_211 0 rfl ?_
      refine zR_ifeq_f C eL_isBest_213 (by decide) ?_
      refine zR_aload_n C eL_isBest_216 3 rfl rfl ?_
      refine zR_iload_n C eL_isBest_217 2 rfl rfl ?_
      refine zR_callV1 C kL_69 eL_isBest_218 (c_X5_safeSize q _ _ he) rfl 0 5 eW_g0 rfl rfl _ eW_call eW_nall rfl (by decide) (by decide) (Nat.le_of_ble_eq_true rfl) (Nat.zero_le _) (Nat.zero_le _) eW_f eW_rall ?_
      refine zR_bipush (v := -6) C eL_isBest_221 (by decide) ?_
      refine zR_icmp_eq C eL_isBest_223 (fun h223 => ?_) (fun h223 => ?_)
      · skip
        refine zR_iload C eL_isBest_228 0 rfl ?_
        refine zR_ifeq_f C eL_isBest_230 (by decide) ?_
        refine zR_lload C eL_isBest_233 1 rfl ?_
        refine zR_ldc2 C qL_76 eL_isBest_235 ?_
        refine zR_cifge C eL_isBest_238 eL_isBest_239 (fun h238 => ?_) (fun h238 => ?_)
        · skip
          refine zR_bipush (v := -6) C eL_isBest_253 (by decide) ?_
          refine zR_istore (lv' := [(9, _), (8, _), (6, _), (3, _), (0, _)]) C eL_isBest_255 (by rw [hn]; decide) rfl ?_
          refine zR_iload C eL_isBest_257 0 rfl ?_
          refine zR_iflt_t C eL_isBest_259 (by decide) ?_
          refine zR_lv [(8, _), (3, _), (0, _)] [1, 3, 4] rfl ?_
          exact c_L_isBest_s1 hn C hBz hF iv ha (by omega) h fz
        · skip
          have yl := t_lt.mp h238
          rw [y1, show (5001 : Int64).toInt = 5001 by decide] at yl
          obtain ⟨k, ky, kl, kt⟩ := t_i32 (v := e_least e (nI a)) ⟨by omega, by omega⟩
          have k1 : 1 ≤ k := by omega
          have k2 : k ≤ 5000 := by omega
          have T := thw_t h.hh iv (show a < 8 by omega)
          refine zR_aload_n C eL_isBest_242 3 rfl rfl ?_
          refine zR_iload_n C eL_isBest_243 2 rfl rfl ?_
          refine zR_lload C eL_isBest_244 1 rfl ?_
          refine zR_l2i C eL_isBest_246 rfl ?_
          refine zR_topi kt ?_
          refine zR_callV1 C kL_37 eL_isBest_247 (c_X5_bestLender q _ _ _ he) rfl 0 5 eW_g0 rfl rfl _ eW_call eW_nall rfl (by decide) (by decide) (Nat.le_of_ble_eq_true rfl) (Nat.zero_le _) (Nat.zero_le _) eW_f eW_rall ?_
          refine zR_goto C eL_isBest_250 ?_
          refine zR_istore (lv' := [(9, _), (8, _), (6, _), (3, _), (0, _)]) C eL_isBest_255 (by rw [hn]; decide) rfl ?_
          refine zR_iload C eL_isBest_257 0 rfl ?_
          refine zR_iflt C eL_isBest_259 (fun h259 => ?_) (fun h259 => ?_)
          · skip
            refine zR_lv [(8, _), (3, _), (0, _)] [1, 3, 4] rfl ?_
            exact c_L_isBest_s1 hn C hBz hF iv ha (by omega) h fz
          · skip
            rcases LB2 h iv ha k1 k2 with ⟨w1, w2⟩ | ⟨j, j1, j2, j3, j4⟩
            · exact absurd (show e_best e (nI a) (nI k) < 0 by rw [w1]; decide) h259
            rw [j2]
            refine zR_aload_n C eL_isBest_262 4 rfl rfl ?_
            refine zR_iload C eL_isBest_263 0 rfl ?_
            refine zR_iload_n C eL_isBest_265 3 rfl rfl ?_
            refine zR_lload C eL_isBest_266 2 rfl ?_
            refine zR_l2i C eL_isBest_268 rfl ?_
            refine zR_topi kt ?_
            refine zR_iconst (v := 1) C eL_isBest_269 (by decide) ?_
            refine zR_callV1 C kL_72 eL_isBest_270 (c_X5_lend q _ _ _ _ _ he) rfl 0 5 eW_g0 rfl rfl _ eW_call eW_nall rfl (by decide) (by decide) (Nat.le_of_ble_eq_true rfl) (Nat.zero_le _) (Nat.zero_le _) eW_f eW_rall ?_
            have lb1 := (LB1 (by omega) h iv j1 ha k1 k2).1 j3
            have sp1 := h.sp (by omega) hF iv (AC_lend e (nI j) (nI a) (nI k) 1)
            have he1 := sp1.ok
            have hU1 := h.und sp1 lb1.1
            have ob1 := lb1.2
            rw [(LB6 (k := k) (by omega) iv ha k2 T).1 (by omega)] at ob1
            refine zR_iflt C eL_isBest_273 (fun h273 => ?_) (fun h273 => ?_)
            · skip
              exact absurd h273 lb1.1
            · skip
              refine zR_aload_n C eL_isBest_276 4 rfl rfl ?_
              refine zR_iload_n C eL_isBest_277 3 rfl rfl ?_
              refine zR_iconst (v := 1) C eL_isBest_278 (by decide) ?_
              refine zR_callV1 C kL_18 eL_isBest_279 (c_X5_ofService q _ _ _ he1) rfl 0 5 eW_g0 rfl rfl _ eW_call eW_nall rfl (by decide) (by decide) (Nat.le_of_ble_eq_true rfl) (Nat.zero_le _) (Nat.zero_le _) eW_f eW_rall ?_
              refine zR_iconst (v := 1) C eL_isBest_282 (by decide) ?_
              refine zR_icmp_eq C eL_isBest_283 (fun h283 => ?_) (fun h283 => ?_)
              · skip
                exact absurd (ob1.symm.trans h283) (by decide)
              · skip
                refine zR_aload_n C eL_isBest_286 4 rfl rfl ?_
                refine zR_callV1 C kL_58 eL_isBest_287 (c_X5_undo q _ he1) rfl 0 5 eW_g0 rfl rfl _ eW_call eW_nall rfl (by decide) (by decide) (Nat.le_of_ble_eq_true rfl) (Nat.zero_le _) (Nat.zero_le _) eW_f eW_rall ?_
                refine zR_ifge C eL_isBest_290 (fun h290 => ?_) (fun h290 => ?_)
                · skip
                  refine zR_lload C eL_isBest_295 2 rfl ?_
                  refine zR_lconst (v := 1) C eL_isBest_297 (by decide) ?_
                  refine zR_cifle C eL_isBest_298 eL_isBest_299 (fun h298 => ?_) (fun h298 => ?_)
                  · skip
                    refine zR_lv [(8, _), (3, _), (0, _)] [1, 3, 4] rfl ?_
                    exact c_L_isBest_s1 hn C hBz hF iv ha (by omega) hU1.2 fz
                  · skip
                    have yn : ¬ (e_least e (nI a)).toInt ≤ (1 : Int64).toInt := fun z => h298 (i64_le_of z)
                    rw [y1, show (1 : Int64).toInt = 1 by decide] at yn
                    have kk2 : 2 ≤ k := by omega
                    refine zR_aload_n C eL_isBest_302 4 rfl rfl ?_
                    refine zR_iload C eL_isBest_303 0 rfl ?_
                    refine zR_iload_n C eL_isBest_305 3 rfl rfl ?_
                    refine zR_lload C eL_isBest_306 2 rfl ?_
                    refine zR_l2i C eL_isBest_308 rfl ?_
                    refine zR_iconst (v := 1) C eL_isBest_309 (by decide) ?_
                    refine zR_isub C eL_isBest_310 ?_
                    refine zR_topi (show (e_least e (nI a)).toInt32 - 1 = nI (k - 1) by rw [kt]; exact pk_sub (b := 1) k1) ?_
                    refine zR_iconst (v := 1) C eL_isBest_311 (by decide) ?_
                    refine zR_callV1 C kL_72 eL_isBest_312 (c_X5_lend q _ _ _ _ _ hU1.2.ok) rfl 0 5 eW_g0 rfl rfl _ eW_call eW_nall rfl (by decide) (by decide) (Nat.le_of_ble_eq_true rfl) (Nat.zero_le _) (Nat.zero_le _) eW_f eW_rall ?_
                    have lb2 := (LB1 (k := k - 1) (by omega) hU1.2 iv j1 ha (by omega) (by omega)).1 (LB7 (by omega) iv j1 (thw_t h.hh iv (by omega)) kk2 k2 j3)
                    have sp2 := hU1.2.sp (by omega) hF iv (AC_lend _ (nI j) (nI a) (nI (k - 1)) 1)
                    have he2 := sp2.ok
                    have hU2 := hU1.2.und sp2 lb2.1
                    have ob2 := lb2.2
                    rw [(LB6 (k := k - 1) (by omega) iv ha (by omega) T).2 fz (by omega)] at ob2
                    refine zR_iflt C eL_isBest_315 (fun h315 => ?_) (fun h315 => ?_)
                    · skip
                      exact absurd h315 lb2.1
                    · skip
                      refine zR_aload_n C eL_isBest_318 4 rfl rfl ?_
                      refine zR_iload_n C eL_isBest_319 3 rfl rfl ?_
                      refine zR_iconst (v := 1) C eL_isBest_320 (by decide) ?_
                      refine zR_callV1 C kL_18 eL_isBest_321 (c_X5_ofService q _ _ _ he2) rfl 0 5 eW_g0 rfl rfl _ eW_call eW_nall rfl (by decide) (by decide) (Nat.le_of_ble_eq_true rfl) (Nat.zero_le _) (Nat.zero_le _) eW_f eW_rall ?_
                      refine zR_ifeq C eL_isBest_324 (fun h324 => ?_) (fun h324 => ?_)
                      · skip
                        exact absurd (ob2.symm.trans h324) (by decide)
                      · skip
                        refine zR_aload_n C eL_isBest_327 4 rfl rfl ?_
                        refine zR_callV1 C kL_58 eL_isBest_328 (c_X5_undo q _ he2) rfl 0 5 eW_g0 rfl rfl _ eW_call eW_nall rfl (by decide) (by decide) (Nat.le_of_ble_eq_true rfl) (Nat.zero_le _) (Nat.zero_le _) eW_f eW_rall ?_
                        refine zR_ifge C eL_isBest_331 (fun h331 => ?_) (fun h331 => ?_)
                        · skip
                          refine zR_lv [(8, _), (3, _), (0, _)] [1, 3, 4] rfl ?_
                          exact c_L_isBest_s1 hn C hBz hF iv ha (by omega) hU2.2 fz
                        · skip
                          exact absurd h331 hU2.1
                · skip
                  exact absurd h290 hU1.1
      · skip
        exact absurd ((LB4 (by omega) h iv ha).1 fz) h223
set_option maxHeartbeats 1000000 in
set_option maxRecDepth 100000 in
theorem c_L_isBest_l {x : zX} {g : zG} {q : Nat → Nat} {r : RW} {Bz c F a : Nat} (hn : zn x = 11) (C : zC x g RL cL_isBest (some .boolean) 7) (hBz : Bz + 4100 < 2 ^ 30) (hF : F + 80000 < 1000000000) (iv : IV c F r) (ha : a < c) {k Bs : Nat} {v : Int32} (k1 : 1 ≤ k) (k2 : k ≤ 5000) (hb : Bs + 1000 * c + 4000 ≤ Bz) (hv : (v = -6 ∧ ∀ i, i < c → ¬ CO r i a k) ∨ (∃ j, j < c ∧ v = nI j ∧ CO r j a k ∧ ∀ i, i < c → CO r i a k → (r_left r i).toInt ≤ (r_left r j).toInt ∧ ((r_left r i).toInt = (r_left r j).toInt → j ≤ i))) : ∀ n i : Nat, i + n = c → ∀ e, QS (Bs + 1000 * i) r e → zR x g (PO g q Bz r) (0, 0) 68 [(6, .int (nI i)), (5, .int v), (4, .int (nI k)), (3, .int (nI a)), (2, .int (nI c)), (0, .ref (q 0))] [] (eW g q e) := by
  have h8 := iv.1
  intro n
  induction n with
  | zero =>
    intro i hk e h
    have hi : i = c := by omega
    subst hi
    refine zR_iload C eL_isBest_68 0 rfl ?_
    refine zR_iload_n C eL_isBest_70 4 rfl rfl ?_
    refine zR_icmp_ge C eL_isBest_71 (fun h71 => ?_) (fun h71 => ?_)
    · skip
      refine zR_lv [(3, _), (0, _)] [3, 5] rfl ?_
      exact c_L_isBest_r hn C hBz hF iv ha (by omega) h
    · skip
      exact absurd h71 (nI_nlt (Nat.le_refl _) (by omega))
  | succ n ih =>
    intro i hk e h
    have hi : i < c := by omega
    have he := h.ok
    refine zR_iload C eL_isBest_68 0 rfl ?_
    refine zR_iload_n C eL_isBest_70 4 rfl rfl ?_
    refine zR_icmp_ge C eL_isBest_71 (fun h71 => ?_) (fun h71 => ?_)
    · skip
      exact absurd (nI_lt hi (by omega)) h71
    · skip
      refine zR_aload_n C eL_isBest_74 5 rfl rfl ?_
      refine zR_iload C eL_isBest_75 0 rfl ?_
      refine zR_iload_n C eL_isBest_77 3 rfl rfl ?_
      refine zR_iload C eL_isBest_78 2 rfl ?_
      refine zR_iconst (v := 1) C eL_isBest_80 (by decide) ?_
      refine zR_callV1 C kL_72 eL_isBest_81 (c_X5_lend q _ _ _ _ _ he) rfl 0 5 eW_g0 rfl rfl _ eW_call eW_nall rfl (by decide) (by decide) (Nat.le_of_ble_eq_true rfl) (Nat.zero_le _) (Nat.zero_le _) eW_f eW_rall ?_
      have lb := LB1 (by omega) h iv hi ha k1 k2
      have sp := h.sp (by omega) hF iv (AC_lend e (nI i) (nI a) (nI k) 1)
      have he2 := sp.ok
      refine zR_istore (lv' := [(7, _), (6, _), (5, _), (4, _), (3, _), (2, _), (0, _)]) C eL_isBest_84 (by rw [hn]; decide) rfl ?_
      refine zR_iload C eL_isBest_86 0 rfl ?_
      refine zR_iflt C eL_isBest_88 (fun h88 => ?_) (fun h88 => ?_)
      · skip
        refine zR_iload C eL_isBest_150 0 rfl ?_
        refine zR_ifge C eL_isBest_152 (fun h152 => ?_) (fun h152 => ?_)
        · skip
          exact absurd h88 h152
        · skip
          refine zR_iload C eL_isBest_155 1 rfl ?_
          refine zR_iload C eL_isBest_157 2 rfl ?_
          refine zR_icmp_ne C eL_isBest_159 (fun h159 => ?_) (fun h159 => ?_)
          · skip
            refine zR_iinc (lv' := [(6, _), (7, _), (5, _), (4, _), (3, _), (2, _), (0, _)]) (v' := nI (i + 1)) C eL_isBest_164 1 rfl (zinc i) (by rw [hn]; decide) rfl ?_
            refine zR_goto C eL_isBest_167 ?_
            refine zR_lv [(6, .int (nI (i + 1))), (5, _), (4, _), (3, _), (2, _), (0, _)] [0, 2, 3, 4, 5, 6] rfl ?_
            exact ih (i + 1) (by omega) _ ((h.neg sp h88).mono (by omega))
          · skip
            rcases hv with ⟨v1, v2⟩ | ⟨j, j1, j2, j3, j4⟩
            · exact absurd (h159.trans v1) (nI_ne6 (by omega))
            · have eij : i = j := (nI_eq (by omega) (by omega)).mp (h159.trans j2)
              exact absurd h88 (lb.1 (by rw [eij]; exact j3)).1
      · skip
        have hco : CO r i a k := Classical.byContradiction (fun z => h88 (lb.2 z))
        have hU := h.und sp h88
        refine zR_aload_n C eL_isBest_91 6 rfl rfl ?_
        refine zR_callV1 C kL_58 eL_isBest_92 (c_X5_undo q _ he2) rfl 0 5 eW_g0 rfl rfl _ eW_call eW_nall rfl (by decide) (by decide) (Nat.le_of_ble_eq_true rfl) (Nat.zero_le _) (Nat.zero_le _) eW_f eW_rall ?_
        refine zR_iflt C eL_isBest_95 (fun h95 => ?_) (fun h95 => ?_)
        · skip
          exact absurd h95 hU.1
        · skip
          rcases id hv with ⟨v1, v2⟩ | ⟨j, j1, j2, j3, j4⟩
          · exact absurd hco (v2 i hi)
          refine zR_iload C eL_isBest_98 2 rfl ?_
          refine zR_iflt C eL_isBest_100 (fun h100 => ?_) (fun h100 => ?_)
          · skip
            exact absurd h100 (by rw [j2]; exact nI_pos (by omega))
          · skip
            refine zR_aload_n C eL_isBest_103 6 rfl rfl ?_
            refine zR_iload C eL_isBest_104 1 rfl ?_
            refine zR_bipush (v := 8) C eL_isBest_106 (by decide) ?_
            refine zR_callV1 C kL_22 eL_isBest_108 (c_X5_account q _ _ _ hU.2.ok) rfl 0 5 eW_g0 rfl rfl _ eW_call eW_nall rfl (by decide) (by decide) (Nat.le_of_ble_eq_true rfl) (Nat.zero_le _) (Nat.zero_le _) eW_f eW_rall ?_
            refine zR_aload_n C eL_isBest_111 6 rfl rfl ?_
            refine zR_iload C eL_isBest_112 2 rfl ?_
            refine zR_bipush (v := 8) C eL_isBest_114 (by decide) ?_
            refine zR_callV1 C kL_22 eL_isBest_116 (c_X5_account q _ _ _ hU.2.ok) rfl 0 5 eW_g0 rfl rfl _ eW_call eW_nall rfl (by decide) (by decide) (Nat.le_of_ble_eq_true rfl) (Nat.zero_le _) (Nat.zero_le _) eW_f eW_rall ?_
            refine zR_cifgt C eL_isBest_119 eL_isBest_120 (fun h119 => ?_) (fun h119 => ?_)
            · skip
              rw [sn_left hU.2.hh iv hi, j2, sn_left hU.2.hh iv j1] at h119
              exact absurd (i64_le_of (j4 i hi hco).1) h119
            · skip
              refine zR_aload_n C eL_isBest_123 6 rfl rfl ?_
              refine zR_iload C eL_isBest_124 1 rfl ?_
              refine zR_bipush (v := 8) C eL_isBest_126 (by decide) ?_
              refine zR_callV1 C kL_22 eL_isBest_128 (c_X5_account q _ _ _ hU.2.ok) rfl 0 5 eW_g0 rfl rfl _ eW_call eW_nall rfl (by decide) (by decide) (Nat.le_of_ble_eq_true rfl) (Nat.zero_le _) (Nat.zero_le _) eW_f eW_rall ?_
              refine zR_aload_n C eL_isBest_131 6 rfl rfl ?_
              refine zR_iload C eL_isBest_132 2 rfl ?_
              refine zR_bipush (v := 8) C eL_isBest_134 (by decide) ?_
              refine zR_callV1 C kL_22 eL_isBest_136 (c_X5_account q _ _ _ hU.2.ok) rfl 0 5 eW_g0 rfl rfl _ eW_call eW_nall rfl (by decide) (by decide) (Nat.le_of_ble_eq_true rfl) (Nat.zero_le _) (Nat.zero_le _) eW_f eW_rall ?_
              refine zR_cifne C eL_isBest_139 eL_isBest_140 (fun h139 => ?_) (fun h139 => ?_)
              · skip
                refine zR_iload C eL_isBest_150 0 rfl ?_
                refine zR_ifge C eL_isBest_152 (fun h152 => ?_) (fun h152 => ?_)
                · skip
                  refine zR_iinc (lv' := [(6, _), (7, _), (5, _), (4, _), (3, _), (2, _), (0, _)]) (v' := nI (i + 1)) C eL_isBest_164 1 rfl (zinc i) (by rw [hn]; decide) rfl ?_
                  refine zR_goto C eL_isBest_167 ?_
                  refine zR_lv [(6, .int (nI (i + 1))), (5, _), (4, _), (3, _), (2, _), (0, _)] [0, 2, 3, 4, 5, 6] rfl ?_
                  exact ih (i + 1) (by omega) _ (hU.2.mono (by omega))
                · skip
                  exact absurd h152 h88
              · skip
                refine zR_iload C eL_isBest_143 1 rfl ?_
                refine zR_iload C eL_isBest_145 2 rfl ?_
                refine zR_icmp_lt C eL_isBest_147 (fun h147 => ?_) (fun h147 => ?_)
                · skip
                  rw [j2] at h147
                  rw [j2, sn_left hU.2.hh iv hi, sn_left hU.2.hh iv j1] at h139
                  have := (j4 i hi hco).2 (by show (r (14 + 15 * i + 1)).toInt = (r (14 + 15 * j + 1)).toInt; rw [h139])
                  exact absurd h147 (nI_nlt this (by omega))
                · skip
                  refine zR_iload C eL_isBest_150 0 rfl ?_
                  refine zR_ifge C eL_isBest_152 (fun h152 => ?_) (fun h152 => ?_)
                  · skip
                    refine zR_iinc (lv' := [(6, _), (7, _), (5, _), (4, _), (3, _), (2, _), (0, _)]) (v' := nI (i + 1)) C eL_isBest_164 1 rfl (zinc i) (by rw [hn]; decide) rfl ?_
                    refine zR_goto C eL_isBest_167 ?_
                    refine zR_lv [(6, .int (nI (i + 1))), (5, _), (4, _), (3, _), (2, _), (0, _)] [0, 2, 3, 4, 5, 6] rfl ?_
                    exact ih (i + 1) (by omega) _ (hU.2.mono (by omega))
                  · skip
                    exact absurd h152 h88
set_option maxHeartbeats 1000000 in
set_option maxRecDepth 100000 in
theorem c_L_isBest {l : Launch} {g : zG} (q : Nat → Nat) {r : RW} {B Bz c F : Nat} (e : ED) (y : Int32) (hBz : Bz + 4100 < 2 ^ 30) (hB : B + 12000 ≤ Bz) (hF : F + 80000 < 1000000000) (hc : 1 ≤ c) (iv : IV c F r) (h : QS B r e) : zM l g yL_isBest cL_isBest 11 (some .boolean) 7 0 0 [.ref (q 0), .int y] (eW g q e) (PO g q Bz r) := by
  refine zM_of (by decide +kernel) (Nat.le_of_ble_eq_true rfl) (fun x hl hn _ _ _ C => ?_)
  subst hl
  show zR x g _ (0, 0) 0 [(0, .ref (q 0)), (1, .int y)] [] _
  have he := h.ok
  have h8 := iv.1
  obtain ⟨c1, c2, c3, ⟨n, n1, n2, n3, n4, n5⟩, ⟨kk, kk1, kk2, kk3, kk4, kk5⟩⟩ := sn_cnt h.hh iv
  refine zR_aload_n C eL_isBest_0 0 rfl rfl ?_
  refine zR_iconst (v := 3) C eL_isBest_1 (by decide) ?_
  refine zR_callV1 C kL_12 eL_isBest_2 (c_X5_count q _ _ he) rfl 0 5 eW_g0 rfl rfl _ eW_call eW_nall rfl (by decide) (by decide) (Nat.le_of_ble_eq_true rfl) (Nat.zero_le _) (Nat.zero_le _) eW_f eW_rall ?_
  refine zR_istore_n (lv' := [(2, _), (0, _), (1, _)]) C eL_isBest_5 rfl (by rw [hn]; decide) rfl ?_
  refine zR_iload_n C eL_isBest_6 0 rfl rfl ?_
  refine zR_ifne C eL_isBest_7 (fun h7 => ?_) (fun h7 => ?_)
  · skip
    refine zR_iload_n C eL_isBest_37 2 rfl rfl ?_
    refine zR_iload_n C eL_isBest_38 0 rfl rfl ?_
    refine zR_callS1 C kL_46 eL_isBest_39 (c_L_low _ _ h7) rfl rfl (by decide) (by decide) (Nat.le_of_ble_eq_true rfl) (Nat.zero_le _) (Nat.zero_le _) ?_
    obtain ⟨a, ha, ea⟩ := z_low_r y (show 0 < c by omega) (by omega)
    rw [← c1] at ea
    refine zR_topi ea ?_
    refine zR_istore_n (lv' := [(3, _), (2, _), (0, _), (1, _)]) C eL_isBest_42 rfl (by rw [hn]; decide) rfl ?_
    refine zR_iconst (v := 1) C eL_isBest_43 (by decide) ?_
    refine zR_iload_n C eL_isBest_44 3 rfl rfl ?_
    refine zR_iconst (v := 4) C eL_isBest_45 (by decide) ?_
    refine zR_ishr C eL_isBest_46 ?_
    refine zR_sipush (v := 300) C eL_isBest_47 (by decide) ?_
    refine zR_callS1 C kL_46 eL_isBest_50 (c_L_low _ _ (by decide)) rfl rfl (by decide) (by decide) (Nat.le_of_ble_eq_true rfl) (Nat.zero_le _) (Nat.zero_le _) ?_
    refine zR_iadd C eL_isBest_53 ?_
    obtain ⟨k0, hk0, ek0⟩ := z_low_r (y >>> ((4 : Int32) &&& 31)) (n := 300) (by decide) (by decide)
    refine zR_topi (show 1 + z_low (y >>> ((4 : Int32) &&& 31)) 300 = nI (k0 + 1) by rw [show (300 : Int32) = nI 300 from rfl, ek0, Int32.add_comm, nI_succ]) ?_
    refine zR_istore (lv' := [(4, _), (3, _), (2, _), (0, _), (1, _)]) C eL_isBest_54 (by rw [hn]; decide) rfl ?_
    refine zR_aload_n C eL_isBest_56 3 rfl rfl ?_
    refine zR_iload_n C eL_isBest_57 1 rfl rfl ?_
    refine zR_iload C eL_isBest_58 0 rfl ?_
    refine zR_callV1 C kL_37 eL_isBest_60 (c_X5_bestLender q _ _ _ he) rfl 0 5 eW_g0 rfl rfl _ eW_call eW_nall rfl (by decide) (by decide) (Nat.le_of_ble_eq_true rfl) (Nat.zero_le _) (Nat.zero_le _) eW_f eW_rall ?_
    refine zR_istore (lv' := [(5, _), (4, _), (3, _), (2, _), (0, _), (1, _)]) C eL_isBest_63 (by rw [hn]; decide) rfl ?_
    refine zR_iconst (v := 0) C eL_isBest_65 (by decide) ?_
    refine zR_istore (lv' := [(6, _), (5, _), (4, _), (3, _), (2, _), (0, _), (1, _)]) C eL_isBest_66 (by rw [hn]; decide) rfl ?_
    refine zR_lv [(6, .int (nI 0)), (5, _), (4, _), (3, _), (2, .int (nI c)), (0, _)] [0, 1, 2, 3, 4, 5] (by rw [c1] <;> rfl) ?_
    exact c_L_isBest_l (Bs := B) hn C hBz hF iv ha (show 1 ≤ k0 + 1 by omega) (by omega) (by omega) (LB2 h iv ha (by omega) (by omega)) c 0 (Nat.zero_add _) e h
  · skip
    rw [c1] at h7
    exact absurd h7 (nI_ne0 (by omega) (by omega))
