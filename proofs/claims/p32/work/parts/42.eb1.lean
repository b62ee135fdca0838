/-! ErrorBudgets: the walks. -/
theorem eW_len {g : zG} {q : Nat → Nat} {e : ED} : (eW g q e).length = 240 := by
  unfold eW; simp only [List.length_append, hW_len, hsW_len]; rfl
theorem eW_f {g : zG} {q : Nat → Nat} {e e2 : ED} : (eW g q e2).map Prod.fst = (eW g q e).map Prod.fst := by
  unfold eW
  simp only [List.map_append]
  rw [hsW_fst g _ (y_st (e_his e2)) (y_st (e_his e)), hsW_fst g _ (e_sl e2) (e_sl e), hW_fst g _ (e_now e2) (e_now e), hW_fst g _ (e_tri e2) (e_tri e)]; rfl
theorem eW_call {g : zG} {q : Nat → Nat} {e : ED} : (zfrom 0 240).map (fun i => (eW g q e)[i]?) = (eW g q e).map some := zget_a (by rw [eW_len])
theorem eW_rall {g : zG} {q : Nat → Nat} {e e2 : ED} : zrep (eW g q e) (zfrom 0 240) (eW g q e2) = eW g q e2 := zrep_a (by rw [eW_len]) (by rw [eW_len, eW_len])
theorem eW_nall : va_nd (zfrom 0 240) = true := zfrom_nd _ _
theorem eW_gS {g : zG} {q : Nat → Nat} {e : ED} {i : Nat} (hi : i < 2) : ∃ fs, (eW g q e)[198 + 21 * i]? = some (q (198 + 21 * i), .inr (1, fs)) := ⟨_, zat_m _ _ _ (eW_bS hi).1 (j := 0) (by rw [(eW_bS hi).2]; rfl) rfl⟩
section ZE
variable {x : zX} {g : zG} {own : String} {cc : ByteArray} {ret : Option FieldType} {f : Nat} {post : Option Value → va_W → Prop} {n : Nat × Nat} {pc pc' : Nat} {lv : List (Nat × Value)} {st rest : List Value} {ws : va_W}
theorem zC_lo (C : zC x g own cc ret f) : va_Z "ErrorBudgets" "LOWEST" "[I" (.ref (g.2.2.1 1)) (zA x) (zs x) (zs x).heap ∧ va_T .int (g.2.2.1 1) 8 (fun j => .int (zLO j)) (zA x) (zs x) (zs x).heap := ⟨C.2.2.2.2.2.2.2.2.2.2.1, C.2.2.2.2.2.2.2.2.2.2.2.1⟩
theorem zC_hi (C : zC x g own cc ret f) : va_Z "ErrorBudgets" "HIGHEST" "[I" (.ref (g.2.2.1 2)) (zA x) (zs x) (zs x).heap ∧ va_T .int (g.2.2.1 2) 8 (fun j => .int (zHI j)) (zA x) (zs x) (zs x).heap := ⟨C.2.2.2.2.2.2.2.2.2.2.2.2.1, C.2.2.2.2.2.2.2.2.2.2.2.2.2.1⟩
theorem zR_glo (C : zC x g own cc ret f) {idx : Nat} (hl : Cond.fieldLink own idx "ErrorBudgets" "LOWEST" "[I" ∈ zTBL) (d : zD cc pc (.getstatic idx) 3 pc') (k : zR x g post n pc' lv (.ref (g.2.2.1 1) :: st) ws) : zR x g post n pc lv st ws := by
  obtain ⟨d, rfl⟩ := d
  exact fun H locs ls hP hD hS hl' => va_gets C.1.1 C.1.2.1 (zC_lo C).1 hS C.1.2.2.2 (C.2.1 _ hl) (fun _ h => h) d (k H locs ls hP hD hS hl')
theorem zR_ghi (C : zC x g own cc ret f) {idx : Nat} (hl : Cond.fieldLink own idx "ErrorBudgets" "HIGHEST" "[I" ∈ zTBL) (d : zD cc pc (.getstatic idx) 3 pc') (k : zR x g post n pc' lv (.ref (g.2.2.1 2) :: st) ws) : zR x g post n pc lv st ws := by
  obtain ⟨d, rfl⟩ := d
  exact fun H locs ls hP hD hS hl' => va_gets C.1.1 C.1.2.1 (zC_hi C).1 hS C.1.2.2.2 (C.2.1 _ hl) (fun _ h => h) d (k H locs ls hP hD hS hl')
theorem zR_tld1 (C : zC x g own cc ret f) {i : Int32} (d : zD cc pc .iaload 1 pc') (hi : vp_in i 8) (k : zR x g post n pc' lv (.int (zLO (zn32 i)) :: st) ws) : zR x g post n pc lv (.int i :: .ref (g.2.2.1 1) :: st) ws := by
  obtain ⟨d, rfl⟩ := d
  exact fun H locs ls hP hD hS hl' => va_ti C.1.1 C.1.2.1 (zC_lo C).2 hS hi rfl d (k H locs ls hP hD hS hl')
theorem zR_tld2 (C : zC x g own cc ret f) {i : Int32} (d : zD cc pc .iaload 1 pc') (hi : vp_in i 8) (k : zR x g post n pc' lv (.int (zHI (zn32 i)) :: st) ws) : zR x g post n pc lv (.int i :: .ref (g.2.2.1 2) :: st) ws := by
  obtain ⟨d, rfl⟩ := d
  exact fun H locs ls hP hD hS hl' => va_ti C.1.1 C.1.2.1 (zC_hi C).2 hS hi rfl d (k H locs ls hP hD hS hl')
end ZE
theorem vp_in8 {s : Int32} (h0 : ¬ s < 0) (h8 : s < 8) : vp_in s 8 := by
  obtain ⟨j, hj, rfl⟩ := nI_of h0
  rcases Nat.lt_or_ge j 8 with z | z
  · exact vp_in_nI z (by decide)
  · exact absurd h8 (nI_nlt (b := 8) z hj)
theorem vp_in2 {s : Int32} (h0 : ¬ s < 0) (h8 : s < 2) : s = nI (zn32 s) ∧ zn32 s < 2 := by
  obtain ⟨j, hj, rfl⟩ := nI_of h0
  rw [show zn32 (nI j) = j from nI_clamp hj]
  refine ⟨rfl, ?_⟩
  rcases Nat.lt_or_ge j 2 with z | z
  · exact z
  · exact absurd h8 (nI_nlt (b := 2) z hj)
theorem vp_in_w10 {w : Int32} (h0 : ¬ w < 10) (h8 : w - 10 < 8) : vp_in (w - 10) 8 ∧ w - 10 = nI (zn32 w - 10) := by
  obtain ⟨j, hj, rfl⟩ := nI_of (x := w) (fun z => h0 (Int32.lt_trans z (by decide)))
  have h10 : 10 ≤ j := by
    rcases Nat.lt_or_ge j 10 with z | z
    · exact absurd (nI_lt (b := 10) z (by decide)) h0
    · exact z
  have e : nI j - 10 = nI (j - 10) := pk_sub (b := 10) h10
  rw [show zn32 (nI j) = j from nI_clamp hj]
  refine ⟨?_, e⟩
  rw [e] at h8 ⊢
  rcases Nat.lt_or_ge (j - 10) 8 with z | z
  · exact vp_in_nI z (by decide)
  · exact absurd h8 (nI_nlt (b := 8) z (by omega))

theorem fsX5_45 : Cond.fieldLink RX5 45 "ErrorBudgets" "LOWEST" "[I" ∈ zTBL := (zT_in 289 (by decide +kernel) rfl)
theorem fsX5_49 : Cond.fieldLink RX5 49 "ErrorBudgets" "HIGHEST" "[I" ∈ zTBL := (zT_in 291 (by decide +kernel) rfl)
set_option maxHeartbeats 400000 in
set_option maxRecDepth 100000 in
theorem c_X5_refuse {l : Launch} {g : zG} (q : Nat → Nat) (e : ED) (w : Int32)  : zM l g yX5_refuse cX5_refuse 2 (some .int) 0 0 0 [.ref (q 0), .int w] (eW g q e) (zE (some (.int (-5))) (eW g q (e_srea e w))) := by
  refine zM_of (by decide +kernel) (Nat.le_of_ble_eq_true rfl) (fun x hl hn _ _ _ C => ?_)
  subst hl
  show zR x g _ (0, 0) 0 [(0, .ref (q 0)), (1, .int w)] [] _
  refine zR_aload_n C eX5_refuse_0 0 rfl rfl ?_
  refine zR_iload_n C eX5_refuse_1 1 rfl rfl ?_
  refine zR_put C pX5_41 eX5_refuse_2 0 eW_g0 (Nat.le_of_ble_eq_true rfl) eW_s0_6 ?_
  refine zR_bipush (v := -5) C eX5_refuse_5 (by decide) ?_
  exact zR_iret C rfl rfl eX5_refuse_7 (Nat.zero_le _) (Nat.zero_le _) ⟨rfl, rfl⟩
set_option maxHeartbeats 400000 in
set_option maxRecDepth 100000 in
theorem c_X5_sufferOutage {l : Launch} {g : zG} (q : Nat → Nat) (e : ED) (s : Int32) (m : Int32) (h : Int32) (he : e_ok e) : zM l g yX5_sufferOutage cX5_sufferOutage 4 (some .int) 2 0 0 [.ref (q 0), .int s, .int m, .int h] (eW g q e) (zE (some (.int (e_outi e s m h).1)) (eW g q (e_outi e s m h).2)) := by
  refine zM_of (by decide +kernel) (Nat.le_of_ble_eq_true rfl) (fun x hl hn _ _ _ C => ?_)
  subst hl
  show zR x g _ (0, 0) 0 [(0, .ref (q 0)), (1, .int s), (2, .int m), (3, .int h)] [] _
  refine zR_aload_n C eX5_sufferOutage_0 0 rfl rfl ?_
  refine zR_get C fX5_12 eX5_sufferOutage_1 0 eW_g0 rfl ?_
  refine zR_iload_n C eX5_sufferOutage_4 1 rfl rfl ?_
  refine zR_callV1 C kX5_73 eX5_sufferOutage_5 (c_X1_hasService (fun j => q (1 + j)) _ _ ) rfl 1 1 eW_g1 rfl rfl _ eW_c1 eW_n1 rfl (by decide) (by decide) (Nat.le_of_ble_eq_true rfl) (Nat.zero_le _) (Nat.zero_le _) hW_f eW_r1o ?_
  refine zR_bfne C eX5_sufferOutage_8 (fun h8 => ?_) (fun h8 => ?_)
  · skip
    refine zR_iload_n C eX5_sufferOutage_13 2 rfl rfl ?_
    refine zR_iconst (v := 1) C eX5_sufferOutage_14 (by decide) ?_
    refine zR_sipush (v := 600) C eX5_sufferOutage_15 (by decide) ?_
    refine zR_callS1 C kX5_52 eX5_sufferOutage_18 (c_X5_isWithin _ _ _ ) rfl rfl (by decide) (by decide) (Nat.le_of_ble_eq_true rfl) (Nat.zero_le _) (Nat.zero_le _) ?_
    refine zR_bfeq C eX5_sufferOutage_21 (fun h21 => ?_) (fun h21 => ?_)
    · skip
      refine zR_bipush (v := -2) C eX5_sufferOutage_34 (by decide) ?_
      exact zR_iret C rfl rfl eX5_sufferOutage_36 (Nat.zero_le _) (Nat.zero_le _) ⟨(by first | (unfold e_outi; rw [if_pos h8, if_neg h21]; first | done | (dsimp only [e_fin]; done) | rfl) | rfl | (simp only [e_outi, if_pos h8, if_neg h21]; first | done | rfl)), (by first | (unfold e_outi; rw [if_pos h8, if_neg h21]; first | done | (dsimp only [e_fin]; done) | rfl) | rfl | (simp only [e_outi, if_pos h8, if_neg h21]; first | done | rfl))⟩
    · skip
      refine zR_iload_n C eX5_sufferOutage_24 3 rfl rfl ?_
      refine zR_iconst (v := 1) C eX5_sufferOutage_25 (by decide) ?_
      refine zR_bipush (v := 100) C eX5_sufferOutage_26 (by decide) ?_
      refine zR_callS1 C kX5_52 eX5_sufferOutage_28 (c_X5_isWithin _ _ _ ) rfl rfl (by decide) (by decide) (Nat.le_of_ble_eq_true rfl) (Nat.zero_le _) (Nat.zero_le _) ?_
      refine zR_bfne C eX5_sufferOutage_31 (fun h31 => ?_) (fun h31 => ?_)
      · skip
        refine zR_aload_n C eX5_sufferOutage_37 0 rfl rfl ?_
        refine zR_get C fX5_12 eX5_sufferOutage_38 0 eW_g0 rfl ?_
        refine zR_iload_n C eX5_sufferOutage_41 1 rfl rfl ?_
        refine zR_iconst (v := 3) C eX5_sufferOutage_42 (by decide) ?_
        refine zR_iload_n C eX5_sufferOutage_43 2 rfl rfl ?_
        refine zR_iload_n C eX5_sufferOutage_44 3 rfl rfl ?_
        refine zR_imul C eX5_sufferOutage_45 ?_
        refine zR_bipush (v := 99) C eX5_sufferOutage_46 (by decide) ?_
        refine zR_iadd C eX5_sufferOutage_48 ?_
        refine zR_bipush (v := 100) C eX5_sufferOutage_49 (by decide) ?_
        refine zR_idiv C eX5_sufferOutage_51 (by decide) ?_
        refine zR_i2l C eX5_sufferOutage_52 ?_
        refine zR_callVv C kX5_119 eX5_sufferOutage_53 (c_X1_book (fun j => q (1 + j)) _ _ _ _ (by first | assumption | exact (h_has_in (by assumption) he.1.1).2.2 | exact vp_in_iff.mpr (by decide)) (vp_in_iff.mpr (by decide))) rfl 1 1 eW_g1 rfl rfl _ eW_c1 eW_n1 rfl (by decide) (by decide) (Nat.le_of_ble_eq_true rfl) (Nat.zero_le _) (Nat.zero_le _) hW_f eW_r1 ?_
        refine zR_ws (eW g q (e_out1 e s m h)) rfl ?_
        refine zR_aload_n C eX5_sufferOutage_56 0 rfl rfl ?_
        refine zR_get C fX5_12 eX5_sufferOutage_57 0 eW_g0 rfl ?_
        refine zR_iload_n C eX5_sufferOutage_60 1 rfl rfl ?_
        refine zR_callV1 C kX5_123 eX5_sufferOutage_61 (c_X1_isFrozen (fun j => q (1 + j)) _ _ ) rfl 1 1 eW_g1 rfl rfl _ eW_c1 eW_n1 rfl (by decide) (by decide) (Nat.le_of_ble_eq_true rfl) (Nat.zero_le _) (Nat.zero_le _) hW_f eW_r1o ?_
        refine zR_bfeq C eX5_sufferOutage_64 (fun h64 => ?_) (fun h64 => ?_)
        · skip
          refine zR_iconst (v := 0) C eX5_sufferOutage_71 (by decide) ?_
          exact zR_iret C rfl rfl eX5_sufferOutage_72 (Nat.zero_le _) (Nat.zero_le _) ⟨(by first | (unfold e_outi; rw [if_pos h8, if_pos h21, if_pos h31, if_neg h64]; first | done | (dsimp only [e_fin]; done) | rfl) | rfl | (simp only [e_outi, if_pos h8, if_pos h21, if_pos h31, if_neg h64]; first | done | rfl)), (by first | (unfold e_outi; rw [if_pos h8, if_pos h21, if_pos h31, if_neg h64]; first | done | (dsimp only [e_fin]; done) | rfl) | rfl | (simp only [e_outi, if_pos h8, if_pos h21, if_pos h31, if_neg h64]; first | done | rfl))⟩
        · skip
          refine zR_iconst (v := 1) C eX5_sufferOutage_67 (by decide) ?_
          refine zR_goto C eX5_sufferOutage_68 ?_
          exact zR_iret C rfl rfl eX5_sufferOutage_72 (Nat.zero_le _) (Nat.zero_le _) ⟨(by first | (unfold e_outi; rw [if_pos h8, if_pos h21, if_pos h31, if_pos h64]; first | done | (dsimp only [e_fin]; done) | rfl) | rfl | (simp only [e_outi, if_pos h8, if_pos h21, if_pos h31, if_pos h64]; first | done | rfl)), (by first | (unfold e_outi; rw [if_pos h8, if_pos h21, if_pos h31, if_pos h64]; first | done | (dsimp only [e_fin]; done) | rfl) | rfl | (simp only [e_outi, if_pos h8, if_pos h21, if_pos h31, if_pos h64]; first | done | rfl))⟩
      · skip
        refine zR_bipush (v := -2) C eX5_sufferOutage_34 (by decide) ?_
        exact zR_iret C rfl rfl eX5_sufferOutage_36 (Nat.zero_le _) (Nat.zero_le _) ⟨(by first | (unfold e_outi; rw [if_pos h8, if_pos h21, if_neg h31]; first | done | (dsimp only [e_fin]; done) | rfl) | rfl | (simp only [e_outi, if_pos h8, if_pos h21, if_neg h31]; first | done | rfl)), (by first | (unfold e_outi; rw [if_pos h8, if_pos h21, if_neg h31]; first | done | (dsimp only [e_fin]; done) | rfl) | rfl | (simp only [e_outi, if_pos h8, if_pos h21, if_neg h31]; first | done | rfl))⟩
  · skip
    refine zR_iconst (v := -1) C eX5_sufferOutage_11 (by decide) ?_
    exact zR_iret C rfl rfl eX5_sufferOutage_12 (Nat.zero_le _) (Nat.zero_le _) ⟨(by first | (unfold e_outi; rw [if_neg h8]; first | done | (dsimp only [e_fin]; done) | rfl) | rfl | (simp only [e_outi, if_neg h8]; first | done | rfl)), (by first | (unfold e_outi; rw [if_neg h8]; first | done | (dsimp only [e_fin]; done) | rfl) | rfl | (simp only [e_outi, if_neg h8]; first | done | rfl))⟩
set_option maxHeartbeats 400000 in
set_option maxRecDepth 100000 in
theorem c_X5_tryRelease {l : Launch} {g : zG} (q : Nat → Nat) (e : ED) (s : Int32) (z : Int32) (x0 : Int32) (he : e_ok e) : zM l g yX5_tryRelease cX5_tryRelease 5 (some .int) 3 0 0 [.ref (q 0), .int s, .int z, .int x0] (eW g q e) (zE (some (.int (e_reli e s z x0).1)) (eW g q (e_reli e s z x0).2)) := by
  refine zM_of (by decide +kernel) (Nat.le_of_ble_eq_true rfl) (fun x hl hn _ _ _ C => ?_)
  subst hl
  show zR x g _ (0, 0) 0 [(0, .ref (q 0)), (1, .int s), (2, .int z), (3, .int x0)] [] _
  refine zR_aload_n C eX5_tryRelease_0 0 rfl rfl ?_
  refine zR_get C fX5_12 eX5_tryRelease_1 0 eW_g0 rfl ?_
  refine zR_iload_n C eX5_tryRelease_4 1 rfl rfl ?_
  refine zR_callV1 C kX5_73 eX5_tryRelease_5 (c_X1_hasService (fun j => q (1 + j)) _ _ ) rfl 1 1 eW_g1 rfl rfl _ eW_c1 eW_n1 rfl (by decide) (by decide) (Nat.le_of_ble_eq_true rfl) (Nat.zero_le _) (Nat.zero_le _) hW_f eW_r1o ?_
  refine zR_bfne C eX5_tryRelease_8 (fun h8 => ?_) (fun h8 => ?_)
  · skip
    refine zR_iload_n C eX5_tryRelease_13 2 rfl rfl ?_
    refine zR_iconst (v := 1) C eX5_tryRelease_14 (by decide) ?_
    refine zR_sipush (v := 200) C eX5_tryRelease_15 (by decide) ?_
    refine zR_callS1 C kX5_52 eX5_tryRelease_18 (c_X5_isWithin _ _ _ ) rfl rfl (by decide) (by decide) (Nat.le_of_ble_eq_true rfl) (Nat.zero_le _) (Nat.zero_le _) ?_
    refine zR_bfeq C eX5_tryRelease_21 (fun h21 => ?_) (fun h21 => ?_)
    · skip
      refine zR_bipush (v := -2) C eX5_tryRelease_33 (by decide) ?_
      exact zR_iret C rfl rfl eX5_tryRelease_35 (Nat.zero_le _) (Nat.zero_le _) ⟨(by first | (unfold e_reli; rw [if_pos h8, if_neg h21]; first | done | (dsimp only [e_fin]; done) | rfl) | rfl | (simp only [e_reli, if_pos h8, if_neg h21]; first | done | rfl)), (by first | (unfold e_reli; rw [if_pos h8, if_neg h21]; first | done | (dsimp only [e_fin]; done) | rfl) | rfl | (simp only [e_reli, if_pos h8, if_neg h21]; first | done | rfl))⟩
    · skip
      refine zR_iload_n C eX5_tryRelease_24 3 rfl rfl ?_
      refine zR_iconst (v := 0) C eX5_tryRelease_25 (by decide) ?_
      refine zR_iconst (v := 1) C eX5_tryRelease_26 (by decide) ?_
      refine zR_callS1 C kX5_52 eX5_tryRelease_27 (c_X5_isWithin _ _ _ ) rfl rfl (by decide) (by decide) (Nat.le_of_ble_eq_true rfl) (Nat.zero_le _) (Nat.zero_le _) ?_
      refine zR_bfne C eX5_tryRelease_30 (fun h30 => ?_) (fun h30 => ?_)
      · skip
        refine zR_aload_n C eX5_tryRelease_36 0 rfl rfl ?_
        refine zR_get C fX5_12 eX5_tryRelease_37 0 eW_g0 rfl ?_
        refine zR_iload_n C eX5_tryRelease_40 1 rfl rfl ?_
        refine zR_callV1 C kX5_123 eX5_tryRelease_41 (c_X1_isFrozen (fun j => q (1 + j)) _ _ ) rfl 1 1 eW_g1 rfl rfl _ eW_c1 eW_n1 rfl (by decide) (by decide) (Nat.le_of_ble_eq_true rfl) (Nat.zero_le _) (Nat.zero_le _) hW_f eW_r1o ?_
        refine zR_istore (lv' := [(4, _), (0, _), (1, _), (2, _), (3, _)]) C eX5_tryRelease_44 (by rw [hn]; decide) rfl ?_
        refine zR_iload C eX5_tryRelease_46 0 rfl ?_
        refine zR_bfeq C eX5_tryRelease_48 (fun h48 => ?_) (fun h48 => ?_)
        · skip
          refine zR_iload C eX5_tryRelease_73 0 rfl ?_
          refine zR_bfeq C eX5_tryRelease_75 (fun _ => ?_) (fun h => absurd h h48)
          refine zR_aload_n C eX5_tryRelease_91 1 rfl rfl ?_
          refine zR_get C fX5_12 eX5_tryRelease_92 0 eW_g0 rfl ?_
          refine zR_iload_n C eX5_tryRelease_95 2 rfl rfl ?_
          refine zR_iload_n C eX5_tryRelease_96 3 rfl rfl ?_
          refine zR_callVv C kX5_132 eX5_tryRelease_97 (c_X1_doRelease (fun j => q (1 + j)) _ _ _ (by first | assumption | exact (h_has_in (by assumption) he.1.1).2.2 | exact vp_in_iff.mpr (by decide))) rfl 1 1 eW_g1 rfl rfl _ eW_c1 eW_n1 rfl (by decide) (by decide) (Nat.le_of_ble_eq_true rfl) (Nat.zero_le _) (Nat.zero_le _) hW_f eW_r1 ?_
          refine zR_ws (eW g q (e_dor _ s z)) rfl ?_
          refine zR_iload C eX5_tryRelease_100 0 rfl ?_
          refine zR_bfeq C eX5_tryRelease_102 (fun _ => ?_) (fun h => absurd h h48)
          refine zR_iconst (v := 0) C eX5_tryRelease_109 (by decide) ?_
          exact zR_iret C rfl rfl eX5_tryRelease_110 (Nat.zero_le _) (Nat.zero_le _) ⟨(by first | (unfold e_reli; rw [if_pos h8, if_pos h21, if_pos h30, if_neg h48]; first | done | (dsimp only [e_fin]; done) | rfl) | rfl | (simp only [e_reli, if_pos h8, if_pos h21, if_pos h30, if_neg h48]; first | done | rfl)), (by first | (unfold e_reli; rw [if_pos h8, if_pos h21, if_pos h30, if_neg h48]; first | done | (dsimp only [e_fin]; done) | rfl) | rfl | (simp only [e_reli, if_pos h8, if_pos h21, if_pos h30, if_neg h48]; first | done | rfl))⟩
        · skip
          refine zR_iload_n C eX5_tryRelease_51 4 rfl rfl ?_
          refine zR_ifeq C eX5_tryRelease_52 (fun h52 => ?_) (fun h52 => ?_)
          · skip
            refine zR_aload_n C eX5_tryRelease_67 1 rfl rfl ?_
            refine zR_iconst (v := 1) C eX5_tryRelease_68 (by decide) ?_
            refine zR_callV1 C kX5_129 eX5_tryRelease_69 (c_X5_refuse q _ _ ) rfl 0 5 eW_g0 rfl rfl _ eW_call eW_nall rfl (by decide) (by decide) (Nat.le_of_ble_eq_true rfl) (Nat.zero_le _) (Nat.zero_le _) eW_f eW_rall ?_
            exact zR_iret C rfl rfl eX5_tryRelease_72 (Nat.zero_le _) (Nat.zero_le _) ⟨(by first | (unfold e_reli; rw [if_pos h8, if_pos h21, if_pos h30, if_pos h48, if_pos h52]; first | done | (dsimp only [e_fin]; done) | rfl) | rfl | (simp only [e_reli, if_pos h8, if_pos h21, if_pos h30, if_pos h48, if_pos h52]; first | done | rfl)), (by first | (unfold e_reli; rw [if_pos h8, if_pos h21, if_pos h30, if_pos h48, if_pos h52]; first | done | (dsimp only [e_fin]; done) | rfl) | rfl | (simp only [e_reli, if_pos h8, if_pos h21, if_pos h30, if_pos h48, if_pos h52]; first | done | rfl))⟩
          · skip
            refine zR_aload_n C eX5_tryRelease_55 1 rfl rfl ?_
            refine zR_get C fX5_12 eX5_tryRelease_56 0 eW_g0 rfl ?_
            refine zR_get C fX5_126 eX5_tryRelease_59 1 eW_g1 rfl ?_
            refine zR_iload_n C eX5_tryRelease_62 2 rfl rfl ?_
            refine zR_iald C eX5_tryRelease_63 4 eW_g4 (by first | assumption | exact (h_has_in (by assumption) he.1.1).2.2 | exact vp_in_iff.mpr (by decide)) ?_
            refine zR_ifne C eX5_tryRelease_64 (fun h64 => ?_) (fun h64 => ?_)
            · skip
              refine zR_iload C eX5_tryRelease_73 0 rfl ?_
              refine zR_bfeq C eX5_tryRelease_75 (fun h => absurd h48 h) (fun _ => ?_)
              refine zR_aload_n C eX5_tryRelease_78 1 rfl rfl ?_
              refine zR_get C fX5_12 eX5_tryRelease_79 0 eW_g0 rfl ?_
              refine zR_get C fX5_126 eX5_tryRelease_82 1 eW_g1 rfl ?_
              refine zR_iload_n C eX5_tryRelease_85 2 rfl rfl ?_
              refine zR_dup2 C eX5_tryRelease_86 rfl rfl ?_
              refine zR_iald C eX5_tryRelease_87 4 eW_g4 (by first | assumption | exact (h_has_in (by assumption) he.1.1).2.2 | exact vp_in_iff.mpr (by decide)) ?_
              refine zR_iconst (v := 1) C eX5_tryRelease_88 (by decide) ?_
              refine zR_isub C eX5_tryRelease_89 ?_
              refine zR_iast C eX5_tryRelease_90 4 eW_g4 (by first | assumption | exact (h_has_in (by assumption) he.1.1).2.2 | exact vp_in_iff.mpr (by decide)) eW_s4 ?_
              refine zR_aload_n C eX5_tryRelease_91 1 rfl rfl ?_
              refine zR_get C fX5_12 eX5_tryRelease_92 0 eW_g0 rfl ?_
              refine zR_iload_n C eX5_tryRelease_95 2 rfl rfl ?_
              refine zR_iload_n C eX5_tryRelease_96 3 rfl rfl ?_
              refine zR_callVv C kX5_132 eX5_tryRelease_97 (c_X1_doRelease (fun j => q (1 + j)) _ _ _ (by first | assumption | exact (h_has_in (by assumption) he.1.1).2.2 | exact vp_in_iff.mpr (by decide))) rfl 1 1 eW_g1 rfl rfl _ eW_c1 eW_n1 rfl (by decide) (by decide) (Nat.le_of_ble_eq_true rfl) (Nat.zero_le _) (Nat.zero_le _) hW_f eW_r1 ?_
              refine zR_ws (eW g q (e_dor _ s z)) rfl ?_
              refine zR_iload C eX5_tryRelease_100 0 rfl ?_
              refine zR_bfeq C eX5_tryRelease_102 (fun h => absurd h48 h) (fun _ => ?_)
              refine zR_iconst (v := 1) C eX5_tryRelease_105 (by decide) ?_
              refine zR_goto C eX5_tryRelease_106 ?_
              exact zR_iret C rfl rfl eX5_tryRelease_110 (Nat.zero_le _) (Nat.zero_le _) ⟨(by first | (unfold e_reli; rw [if_pos h8, if_pos h21, if_pos h30, if_pos h48, if_neg h52, if_neg h64]; first | done | (dsimp only [e_fin]; done) | rfl) | rfl | (simp only [e_reli, if_pos h8, if_pos h21, if_pos h30, if_pos h48, if_neg h52, if_neg h64]; first | done | rfl)), (by first | (unfold e_reli; rw [if_pos h8, if_pos h21, if_pos h30, if_pos h48, if_neg h52, if_neg h64]; first | done | (dsimp only [e_fin]; done) | rfl) | rfl | (simp only [e_reli, if_pos h8, if_pos h21, if_pos h30, if_pos h48, if_neg h52, if_neg h64]; first | done | rfl))⟩
            · skip
              refine zR_aload_n C eX5_tryRelease_67 1 rfl rfl ?_
              refine zR_iconst (v := 1) C eX5_tryRelease_68 (by decide) ?_
              refine zR_callV1 C kX5_129 eX5_tryRelease_69 (c_X5_refuse q _ _ ) rfl 0 5 eW_g0 rfl rfl _ eW_call eW_nall rfl (by decide) (by decide) (Nat.le_of_ble_eq_true rfl) (Nat.zero_le _) (Nat.zero_le _) eW_f eW_rall ?_
              exact zR_iret C rfl rfl eX5_tryRelease_72 (Nat.zero_le _) (Nat.zero_le _) ⟨(by first | (unfold e_reli; rw [if_pos h8, if_pos h21, if_pos h30, if_pos h48, if_neg h52, if_pos h64]; first | done | (dsimp only [e_fin]; done) | rfl) | rfl | (simp only [e_reli, if_pos h8, if_pos h21, if_pos h30, if_pos h48, if_neg h52, if_pos h64]; first | done | rfl)), (by first | (unfold e_reli; rw [if_pos h8, if_pos h21, if_pos h30, if_pos h48, if_neg h52, if_pos h64]; first | done | (dsimp only [e_fin]; done) | rfl) | rfl | (simp only [e_reli, if_pos h8, if_pos h21, if_pos h30, if_pos h48, if_neg h52, if_pos h64]; first | done | rfl))⟩
      · skip
        refine zR_bipush (v := -2) C eX5_tryRelease_33 (by decide) ?_
        exact zR_iret C rfl rfl eX5_tryRelease_35 (Nat.zero_le _) (Nat.zero_le _) ⟨(by first | (unfold e_reli; rw [if_pos h8, if_pos h21, if_neg h30]; first | done | (dsimp only [e_fin]; done) | rfl) | rfl | (simp only [e_reli, if_pos h8, if_pos h21, if_neg h30]; first | done | rfl)), (by first | (unfold e_reli; rw [if_pos h8, if_pos h21, if_neg h30]; first | done | (dsimp only [e_fin]; done) | rfl) | rfl | (simp only [e_reli, if_pos h8, if_pos h21, if_neg h30]; first | done | rfl))⟩
  · skip
    refine zR_iconst (v := -1) C eX5_tryRelease_11 (by decide) ?_
    exact zR_iret C rfl rfl eX5_tryRelease_12 (Nat.zero_le _) (Nat.zero_le _) ⟨(by first | (unfold e_reli; rw [if_neg h8]; first | done | (dsimp only [e_fin]; done) | rfl) | rfl | (simp only [e_reli, if_neg h8]; first | done | rfl)), (by first | (unfold e_reli; rw [if_neg h8]; first | done | (dsimp only [e_fin]; done) | rfl) | rfl | (simp only [e_reli, if_neg h8]; first | done | rfl))⟩
set_option maxHeartbeats 400000 in
set_option maxRecDepth 100000 in
theorem c_X5_tryLoan {l : Launch} {g : zG} (q : Nat → Nat) (e : ED) (a : Int32) (b : Int32) (m : Int32) (w : Int32) (he : e_ok e) : zM l g yX5_tryLoan cX5_tryLoan 6 (some .int) 3 0 0 [.ref (q 0), .int a, .int b, .int m, .int w] (eW g q e) (zE (some (.int (e_leni e a b m w).1)) (eW g q (e_leni e a b m w).2)) := by
  refine zM_of (by decide +kernel) (Nat.le_of_ble_eq_true rfl) (fun x hl hn _ _ _ C => ?_)
  subst hl
  show zR x g _ (0, 0) 0 [(0, .ref (q 0)), (1, .int a), (2, .int b), (3, .int m), (4, .int w)] [] _
  refine zR_aload_n C eX5_tryLoan_0 0 rfl rfl ?_
  refine zR_get C fX5_12 eX5_tryLoan_1 0 eW_g0 rfl ?_
  refine zR_iload_n C eX5_tryLoan_4 1 rfl rfl ?_
  refine zR_callV1 C kX5_73 eX5_tryLoan_5 (c_X1_hasService (fun j => q (1 + j)) _ _ ) rfl 1 1 eW_g1 rfl rfl _ eW_c1 eW_n1 rfl (by decide) (by decide) (Nat.le_of_ble_eq_true rfl) (Nat.zero_le _) (Nat.zero_le _) hW_f eW_r1o ?_
  refine zR_bfeq C eX5_tryLoan_8 (fun h8 => ?_) (fun h8 => ?_)
  · skip
    refine zR_iconst (v := -1) C eX5_tryLoan_27 (by decide) ?_
    exact zR_iret C rfl rfl eX5_tryLoan_28 (Nat.zero_le _) (Nat.zero_le _) ⟨(by first | (unfold e_leni; rw [if_neg h8]; first | done | (dsimp only [e_fin]; done) | rfl) | rfl | (simp only [e_leni, if_neg h8]; first | done | rfl)), (by first | (unfold e_leni; rw [if_neg h8]; first | done | (dsimp only [e_fin]; done) | rfl) | rfl | (simp only [e_leni, if_neg h8]; first | done | rfl))⟩
  · skip
    refine zR_aload_n C eX5_tryLoan_11 0 rfl rfl ?_
    refine zR_get C fX5_12 eX5_tryLoan_12 0 eW_g0 rfl ?_
    refine zR_iload_n C eX5_tryLoan_15 2 rfl rfl ?_
    refine zR_callV1 C kX5_73 eX5_tryLoan_16 (c_X1_hasService (fun j => q (1 + j)) _ _ ) rfl 1 1 eW_g1 rfl rfl _ eW_c1 eW_n1 rfl (by decide) (by decide) (Nat.le_of_ble_eq_true rfl) (Nat.zero_le _) (Nat.zero_le _) hW_f eW_r1o ?_
    refine zR_bfeq C eX5_tryLoan_19 (fun h19 => ?_) (fun h19 => ?_)
    · skip
      refine zR_iconst (v := -1) C eX5_tryLoan_27 (by decide) ?_
      exact zR_iret C rfl rfl eX5_tryLoan_28 (Nat.zero_le _) (Nat.zero_le _) ⟨(by first | (unfold e_leni; rw [if_pos h8, if_neg h19]; first | done | (dsimp only [e_fin]; done) | rfl) | rfl | (simp only [e_leni, if_pos h8, if_neg h19]; first | done | rfl)), (by first | (unfold e_leni; rw [if_pos h8, if_neg h19]; first | done | (dsimp only [e_fin]; done) | rfl) | rfl | (simp only [e_leni, if_pos h8, if_neg h19]; first | done | rfl))⟩
    · skip
      refine zR_iload_n C eX5_tryLoan_22 1 rfl rfl ?_
      refine zR_iload_n C eX5_tryLoan_23 2 rfl rfl ?_
      refine zR_icmp_ne C eX5_tryLoan_24 (fun h24 => ?_) (fun h24 => ?_)
      · skip
        refine zR_iload_n C eX5_tryLoan_29 3 rfl rfl ?_
        refine zR_iconst (v := 1) C eX5_tryLoan_30 (by decide) ?_
        refine zR_sipush (v := 5000) C eX5_tryLoan_31 (by decide) ?_
        refine zR_callS1 C kX5_52 eX5_tryLoan_34 (c_X5_isWithin _ _ _ ) rfl rfl (by decide) (by decide) (Nat.le_of_ble_eq_true rfl) (Nat.zero_le _) (Nat.zero_le _) ?_
        refine zR_bfeq C eX5_tryLoan_37 (fun h37 => ?_) (fun h37 => ?_)
        · skip
          refine zR_bipush (v := -2) C eX5_tryLoan_51 (by decide) ?_
          exact zR_iret C rfl rfl eX5_tryLoan_53 (Nat.zero_le _) (Nat.zero_le _) ⟨(by first | (unfold e_leni; rw [if_pos h8, if_pos h19, if_neg h24, if_neg h37]; first | done | (dsimp only [e_fin]; done) | rfl) | rfl | (simp only [e_leni, if_pos h8, if_pos h19, if_neg h24, if_neg h37]; first | done | rfl)), (by first | (unfold e_leni; rw [if_pos h8, if_pos h19, if_neg h24, if_neg h37]; first | done | (dsimp only [e_fin]; done) | rfl) | rfl | (simp only [e_leni, if_pos h8, if_pos h19, if_neg h24, if_neg h37]; first | done | rfl))⟩
        · skip
          refine zR_iload C eX5_tryLoan_40 4 rfl ?_
          refine zR_iconst (v := 1) C eX5_tryLoan_42 (by decide) ?_
          refine zR_bipush (v := 9) C eX5_tryLoan_43 (by decide) ?_
          refine zR_callS1 C kX5_52 eX5_tryLoan_45 (c_X5_isWithin _ _ _ ) rfl rfl (by decide) (by decide) (Nat.le_of_ble_eq_true rfl) (Nat.zero_le _) (Nat.zero_le _) ?_
          refine zR_bfne C eX5_tryLoan_48 (fun h48 => ?_) (fun h48 => ?_)
          · skip
            refine zR_aload_n C eX5_tryLoan_54 0 rfl rfl ?_
            refine zR_get C fX5_12 eX5_tryLoan_55 0 eW_g0 rfl ?_
            refine zR_get C fX5_91 eX5_tryLoan_58 1 eW_g1 rfl ?_
            refine zR_get C fX5_136 eX5_tryLoan_61 9 eW_g9 rfl ?_
            refine zR_bipush (v := 40) C eX5_tryLoan_64 (by decide) ?_
            refine zR_icmp_lt C eX5_tryLoan_66 (fun h66 => ?_) (fun h66 => ?_)
            · skip
              refine zR_aload_n C eX5_tryLoan_72 0 rfl rfl ?_
              refine zR_get C fX5_12 eX5_tryLoan_73 0 eW_g0 rfl ?_
              refine zR_iload_n C eX5_tryLoan_76 1 rfl rfl ?_
              refine zR_iload_n C eX5_tryLoan_77 2 rfl rfl ?_
              refine zR_iload_n C eX5_tryLoan_78 3 rfl rfl ?_
              refine zR_callV1 C kX5_139 eX5_tryLoan_79 (c_X1_refusalOfLoan (fun j => q (1 + j)) _ _ _ _ (by first | assumption | exact (h_has_in (by assumption) he.1.1).2.2 | exact vp_in_iff.mpr (by decide)) (by exact he.1.2.1.1)) rfl 1 1 eW_g1 rfl rfl _ eW_c1 eW_n1 rfl (by decide) (by decide) (Nat.le_of_ble_eq_true rfl) (Nat.zero_le _) (Nat.zero_le _) hW_f eW_r1o ?_
              refine zR_istore (lv' := [(5, _), (0, _), (1, _), (2, _), (3, _), (4, _)]) C eX5_tryLoan_82 (by rw [hn]; decide) rfl ?_
              refine zR_iload C eX5_tryLoan_84 0 rfl ?_
              refine zR_ifeq C eX5_tryLoan_86 (fun h86 => ?_) (fun h86 => ?_)
              · skip
                refine zR_aload_n C eX5_tryLoan_96 1 rfl rfl ?_
                refine zR_get C fX5_12 eX5_tryLoan_97 0 eW_g0 rfl ?_
                refine zR_iload_n C eX5_tryLoan_100 2 rfl rfl ?_
                refine zR_iload_n C eX5_tryLoan_101 3 rfl rfl ?_
                refine zR_iload_n C eX5_tryLoan_102 4 rfl rfl ?_
                refine zR_iload C eX5_tryLoan_103 5 rfl ?_
                refine zR_callV1 C kX5_142 eX5_tryLoan_105 (c_X1_addLoan (fun j => q (1 + j)) _ _ _ _ _ (by first | assumption | exact (h_has_in (by assumption) he.1.1).2.2 | exact vp_in_iff.mpr (by decide)) (by first | assumption | exact (h_has_in (by assumption) he.1.1).2.2 | exact vp_in_iff.mpr (by decide)) (by exact zok_vp (zok_less (m := 39) he.1.2.1.1 (show l_num (h_lo (e_now e)) < 40 by assumption) (by decide) (by decide)) (by decide))) rfl 1 1 eW_g1 rfl rfl _ eW_c1 eW_n1 rfl (by decide) (by decide) (Nat.le_of_ble_eq_true rfl) (Nat.zero_le _) (Nat.zero_le _) hW_f eW_r1 ?_
                exact zR_iret C rfl rfl eX5_tryLoan_108 (Nat.zero_le _) (Nat.zero_le _) ⟨(by first | (unfold e_leni; rw [if_pos h8, if_pos h19, if_neg h24, if_pos h37, if_pos h48, if_pos h66, if_pos h86]; first | done | (dsimp only [e_fin]; done) | rfl) | rfl | (simp only [e_leni, if_pos h8, if_pos h19, if_neg h24, if_pos h37, if_pos h48, if_pos h66, if_pos h86]; first | done | rfl)), (by first | (unfold e_leni; rw [if_pos h8, if_pos h19, if_neg h24, if_pos h37, if_pos h48, if_pos h66, if_pos h86]; first | done | (dsimp only [e_fin]; done) | rfl) | rfl | (simp only [e_leni, if_pos h8, if_pos h19, if_neg h24, if_pos h37, if_pos h48, if_pos h66, if_pos h86]; first | done | rfl))⟩
              · skip
                refine zR_aload_n C eX5_tryLoan_89 1 rfl rfl ?_
                refine zR_iload C eX5_tryLoan_90 0 rfl ?_
                refine zR_callV1 C kX5_129 eX5_tryLoan_92 (c_X5_refuse q _ _ ) rfl 0 5 eW_g0 rfl rfl _ eW_call eW_nall rfl (by decide) (by decide) (Nat.le_of_ble_eq_true rfl) (Nat.zero_le _) (Nat.zero_le _) eW_f eW_rall ?_
                exact zR_iret C rfl rfl eX5_tryLoan_95 (Nat.zero_le _) (Nat.zero_le _) ⟨(by first | (unfold e_leni; rw [if_pos h8, if_pos h19, if_neg h24, if_pos h37, if_pos h48, if_pos h66, if_neg h86]; first | done | (dsimp only [e_fin]; done) | rfl) | rfl | (simp only [e_leni, if_pos h8, if_pos h19, if_neg h24, if_pos h37, if_pos h48, if_pos h66, if_neg h86]; first | done | rfl)), (by first | (unfold e_leni; rw [if_pos h8, if_pos h19, if_neg h24, if_pos h37, if_pos h48, if_pos h66, if_neg h86]; first | done | (dsimp only [e_fin]; done) | rfl) | rfl | (simp only [e_leni, if_pos h8, if_pos h19, if_neg h24, if_pos h37, if_pos h48, if_pos h66, if_neg h86]; first | done | rfl))⟩
            · skip
              refine zR_bipush (v := -4) C eX5_tryLoan_69 (by decide) ?_
              exact zR_iret C rfl rfl eX5_tryLoan_71 (Nat.zero_le _) (Nat.zero_le _) ⟨(by first | (unfold e_leni; rw [if_pos h8, if_pos h19, if_neg h24, if_pos h37, if_pos h48, if_neg h66]; first | done | (dsimp only [e_fin]; done) | rfl) | rfl | (simp only [e_leni, if_pos h8, if_pos h19, if_neg h24, if_pos h37, if_pos h48, if_neg h66]; first | done | rfl)), (by first | (unfold e_leni; rw [if_pos h8, if_pos h19, if_neg h24, if_pos h37, if_pos h48, if_neg h66]; first | done | (dsimp only [e_fin]; done) | rfl) | rfl | (simp only [e_leni, if_pos h8, if_pos h19, if_neg h24, if_pos h37, if_pos h48, if_neg h66]; first | done | rfl))⟩
          · skip
            refine zR_bipush (v := -2) C eX5_tryLoan_51 (by decide) ?_
            exact zR_iret C rfl rfl eX5_tryLoan_53 (Nat.zero_le _) (Nat.zero_le _) ⟨(by first | (unfold e_leni; rw [if_pos h8, if_pos h19, if_neg h24, if_pos h37, if_neg h48]; first | done | (dsimp only [e_fin]; done) | rfl) | rfl | (simp only [e_leni, if_pos h8, if_pos h19, if_neg h24, if_pos h37, if_neg h48]; first | done | rfl)), (by first | (unfold e_leni; rw [if_pos h8, if_pos h19, if_neg h24, if_pos h37, if_neg h48]; first | done | (dsimp only [e_fin]; done) | rfl) | rfl | (simp only [e_leni, if_pos h8, if_pos h19, if_neg h24, if_pos h37, if_neg h48]; first | done | rfl))⟩
      · skip
        refine zR_iconst (v := -1) C eX5_tryLoan_27 (by decide) ?_
        exact zR_iret C rfl rfl eX5_tryLoan_28 (Nat.zero_le _) (Nat.zero_le _) ⟨(by first | (unfold e_leni; rw [if_pos h8, if_pos h19, if_pos h24]; first | done | (dsimp only [e_fin]; done) | rfl) | rfl | (simp only [e_leni, if_pos h8, if_pos h19, if_pos h24]; first | done | rfl)), (by first | (unfold e_leni; rw [if_pos h8, if_pos h19, if_pos h24]; first | done | (dsimp only [e_fin]; done) | rfl) | rfl | (simp only [e_leni, if_pos h8, if_pos h19, if_pos h24]; first | done | rfl))⟩
set_option maxHeartbeats 400000 in
set_option maxRecDepth 100000 in
theorem c_X5_addPlan {l : Launch} {g : zG} (q : Nat → Nat) (e : ED) (s : Int32) (t : Int32) (z : Int32) (p : Int32) (he : e_ok e) : zM l g yX5_addPlan cX5_addPlan 5 (some .int) 3 0 0 [.ref (q 0), .int s, .int t, .int z, .int p] (eW g q e) (zE (some (.int (e_plani e s t z p).1)) (eW g q (e_plani e s t z p).2)) := by
  refine zM_of (by decide +kernel) (Nat.le_of_ble_eq_true rfl) (fun x hl hn _ _ _ C => ?_)
  subst hl
  show zR x g _ (0, 0) 0 [(0, .ref (q 0)), (1, .int s), (2, .int t), (3, .int z), (4, .int p)] [] _
  refine zR_aload_n C eX5_addPlan_0 0 rfl rfl ?_
  refine zR_get C fX5_12 eX5_addPlan_1 0 eW_g0 rfl ?_
  refine zR_iload_n C eX5_addPlan_4 1 rfl rfl ?_
  refine zR_callV1 C kX5_73 eX5_addPlan_5 (c_X1_hasService (fun j => q (1 + j)) _ _ ) rfl 1 1 eW_g1 rfl rfl _ eW_c1 eW_n1 rfl (by decide) (by decide) (Nat.le_of_ble_eq_true rfl) (Nat.zero_le _) (Nat.zero_le _) hW_f eW_r1o ?_
  refine zR_bfne C eX5_addPlan_8 (fun h8 => ?_) (fun h8 => ?_)
  · skip
    refine zR_iload_n C eX5_addPlan_13 2 rfl rfl ?_
    refine zR_aload_n C eX5_addPlan_14 0 rfl rfl ?_
    refine zR_get C fX5_12 eX5_addPlan_15 0 eW_g0 rfl ?_
    refine zR_get C fX5_145 eX5_addPlan_18 1 eW_g1 rfl ?_
    refine zR_iconst (v := 1) C eX5_addPlan_21 (by decide) ?_
    refine zR_iadd C eX5_addPlan_22 ?_
    refine zR_aload_n C eX5_addPlan_23 0 rfl rfl ?_
    refine zR_get C fX5_12 eX5_addPlan_24 0 eW_g0 rfl ?_
    refine zR_get C fX5_145 eX5_addPlan_27 1 eW_g1 rfl ?_
    refine zR_sipush (v := 2000) C eX5_addPlan_30 (by decide) ?_
    refine zR_iadd C eX5_addPlan_33 ?_
    refine zR_callS1 C kX5_52 eX5_addPlan_34 (c_X5_isWithin _ _ _ ) rfl rfl (by decide) (by decide) (Nat.le_of_ble_eq_true rfl) (Nat.zero_le _) (Nat.zero_le _) ?_
    refine zR_bfeq C eX5_addPlan_37 (fun h37 => ?_) (fun h37 => ?_)
    · skip
      refine zR_bipush (v := -2) C eX5_addPlan_62 (by decide) ?_
      exact zR_iret C rfl rfl eX5_addPlan_64 (Nat.zero_le _) (Nat.zero_le _) ⟨(by first | (unfold e_plani; rw [if_pos h8, if_neg h37]; first | done | (dsimp only [e_fin]; done) | rfl) | rfl | (simp only [e_plani, if_pos h8, if_neg h37]; first | done | rfl)), (by first | (unfold e_plani; rw [if_pos h8, if_neg h37]; first | done | (dsimp only [e_fin]; done) | rfl) | rfl | (simp only [e_plani, if_pos h8, if_neg h37]; first | done | rfl))⟩
    · skip
      refine zR_iload_n C eX5_addPlan_40 3 rfl rfl ?_
      refine zR_iconst (v := 1) C eX5_addPlan_41 (by decide) ?_
      refine zR_sipush (v := 200) C eX5_addPlan_42 (by decide) ?_
      refine zR_callS1 C kX5_52 eX5_addPlan_45 (c_X5_isWithin _ _ _ ) rfl rfl (by decide) (by decide) (Nat.le_of_ble_eq_true rfl) (Nat.zero_le _) (Nat.zero_le _) ?_
      refine zR_bfeq C eX5_addPlan_48 (fun h48 => ?_) (fun h48 => ?_)
      · skip
        refine zR_bipush (v := -2) C eX5_addPlan_62 (by decide) ?_
        exact zR_iret C rfl rfl eX5_addPlan_64 (Nat.zero_le _) (Nat.zero_le _) ⟨(by first | (unfold e_plani; rw [if_pos h8, if_pos h37, if_neg h48]; first | done | (dsimp only [e_fin]; done) | rfl) | rfl | (simp only [e_plani, if_pos h8, if_pos h37, if_neg h48]; first | done | rfl)), (by first | (unfold e_plani; rw [if_pos h8, if_pos h37, if_neg h48]; first | done | (dsimp only [e_fin]; done) | rfl) | rfl | (simp only [e_plani, if_pos h8, if_pos h37, if_neg h48]; first | done | rfl))⟩
      · skip
        refine zR_iload C eX5_addPlan_51 4 rfl ?_
        refine zR_iconst (v := 0) C eX5_addPlan_53 (by decide) ?_
        refine zR_bipush (v := 9) C eX5_addPlan_54 (by decide) ?_
        refine zR_callS1 C kX5_52 eX5_addPlan_56 (c_X5_isWithin _ _ _ ) rfl rfl (by decide) (by decide) (Nat.le_of_ble_eq_true rfl) (Nat.zero_le _) (Nat.zero_le _) ?_
        refine zR_bfne C eX5_addPlan_59 (fun h59 => ?_) (fun h59 => ?_)
        · skip
          refine zR_aload_n C eX5_addPlan_65 0 rfl rfl ?_
          refine zR_get C fX5_12 eX5_addPlan_66 0 eW_g0 rfl ?_
          refine zR_get C fX5_148 eX5_addPlan_69 1 eW_g1 rfl ?_
          refine zR_get C fX5_152 eX5_addPlan_72 15 eW_g15 rfl ?_
          refine zR_bipush (v := 30) C eX5_addPlan_75 (by decide) ?_
          refine zR_icmp_lt C eX5_addPlan_77 (fun h77 => ?_) (fun h77 => ?_)
          · skip
            refine zR_aload_n C eX5_addPlan_83 0 rfl rfl ?_
            refine zR_get C fX5_12 eX5_addPlan_84 0 eW_g0 rfl ?_
            refine zR_get C fX5_148 eX5_addPlan_87 1 eW_g1 rfl ?_
            refine zR_iload_n C eX5_addPlan_90 1 rfl rfl ?_
            refine zR_iload_n C eX5_addPlan_91 2 rfl rfl ?_
            refine zR_iload_n C eX5_addPlan_92 3 rfl rfl ?_
            refine zR_iload C eX5_addPlan_93 4 rfl ?_
            refine zR_callV1 C kX5_155 eX5_addPlan_95 (c_X4_add (fun j => (fun j => q (1 + j)) (14 + j)) _ _ _ _ _ (by exact zok_less (m := 29) he.1.2.2.1 (show p_num (h_pl (e_now e)) < 30 by assumption) (by decide) (by decide))) rfl 15 4 eW_g15 rfl rfl _ eW_c15 eW_n15 rfl (by decide) (by decide) (Nat.le_of_ble_eq_true rfl) (Nat.zero_le _) (Nat.zero_le _) pW_f eW_r15 ?_
            exact zR_iret C rfl rfl eX5_addPlan_98 (Nat.zero_le _) (Nat.zero_le _) ⟨(by first | (unfold e_plani; rw [if_pos h8, if_pos h37, if_pos h48, if_pos h59, if_pos h77]; first | done | (dsimp only [e_fin]; done) | rfl) | rfl | (simp only [e_plani, if_pos h8, if_pos h37, if_pos h48, if_pos h59, if_pos h77]; first | done | rfl)), (by first | (unfold e_plani; rw [if_pos h8, if_pos h37, if_pos h48, if_pos h59, if_pos h77]; first | done | (dsimp only [e_fin]; done) | rfl) | rfl | (simp only [e_plani, if_pos h8, if_pos h37, if_pos h48, if_pos h59, if_pos h77]; first | done | rfl))⟩
          · skip
            refine zR_bipush (v := -4) C eX5_addPlan_80 (by decide) ?_
            exact zR_iret C rfl rfl eX5_addPlan_82 (Nat.zero_le _) (Nat.zero_le _) ⟨(by first | (unfold e_plani; rw [if_pos h8, if_pos h37, if_pos h48, if_pos h59, if_neg h77]; first | done | (dsimp only [e_fin]; done) | rfl) | rfl | (simp only [e_plani, if_pos h8, if_pos h37, if_pos h48, if_pos h59, if_neg h77]; first | done | rfl)), (by first | (unfold e_plani; rw [if_pos h8, if_pos h37, if_pos h48, if_pos h59, if_neg h77]; first | done | (dsimp only [e_fin]; done) | rfl) | rfl | (simp only [e_plani, if_pos h8, if_pos h37, if_pos h48, if_pos h59, if_neg h77]; first | done | rfl))⟩
        · skip
          refine zR_bipush (v := -2) C eX5_addPlan_62 (by decide) ?_
          exact zR_iret C rfl rfl eX5_addPlan_64 (Nat.zero_le _) (Nat.zero_le _) ⟨(by first | (unfold e_plani; rw [if_pos h8, if_pos h37, if_pos h48, if_neg h59]; first | done | (dsimp only [e_fin]; done) | rfl) | rfl | (simp only [e_plani, if_pos h8, if_pos h37, if_pos h48, if_neg h59]; first | done | rfl)), (by first | (unfold e_plani; rw [if_pos h8, if_pos h37, if_pos h48, if_neg h59]; first | done | (dsimp only [e_fin]; done) | rfl) | rfl | (simp only [e_plani, if_pos h8, if_pos h37, if_pos h48, if_neg h59]; first | done | rfl))⟩
  · skip
    refine zR_iconst (v := -1) C eX5_addPlan_11 (by decide) ?_
    exact zR_iret C rfl rfl eX5_addPlan_12 (Nat.zero_le _) (Nat.zero_le _) ⟨(by first | (unfold e_plani; rw [if_neg h8]; first | done | (dsimp only [e_fin]; done) | rfl) | rfl | (simp only [e_plani, if_neg h8]; first | done | rfl)), (by first | (unfold e_plani; rw [if_neg h8]; first | done | (dsimp only [e_fin]; done) | rfl) | rfl | (simp only [e_plani, if_neg h8]; first | done | rfl))⟩
set_option maxHeartbeats 400000 in
set_option maxRecDepth 100000 in
theorem c_X5_removePlan {l : Launch} {g : zG} (q : Nat → Nat) (e : ED) (p : Int32) (he : e_ok e) : zM l g yX5_removePlan cX5_removePlan 2 (some .int) 3 0 0 [.ref (q 0), .int p] (eW g q e) (zE (some (.int (e_dropi e p).1)) (eW g q (e_dropi e p).2)) := by
  refine zM_of (by decide +kernel) (Nat.le_of_ble_eq_true rfl) (fun x hl hn _ _ _ C => ?_)
  subst hl
  show zR x g _ (0, 0) 0 [(0, .ref (q 0)), (1, .int p)] [] _
  refine zR_aload_n C eX5_removePlan_0 0 rfl rfl ?_
  refine zR_get C fX5_12 eX5_removePlan_1 0 eW_g0 rfl ?_
  refine zR_get C fX5_148 eX5_removePlan_4 1 eW_g1 rfl ?_
  refine zR_iload_n C eX5_removePlan_7 1 rfl rfl ?_
  refine zR_callV1 C kX5_158 eX5_removePlan_8 (c_X4_has (fun j => (fun j => q (1 + j)) (14 + j)) _ _ ) rfl 15 4 eW_g15 rfl rfl _ eW_c15 eW_n15 rfl (by decide) (by decide) (Nat.le_of_ble_eq_true rfl) (Nat.zero_le _) (Nat.zero_le _) pW_f eW_r15o ?_
  refine zR_bfne C eX5_removePlan_11 (fun h11 => ?_) (fun h11 => ?_)
  · skip
    refine zR_aload_n C eX5_removePlan_16 0 rfl rfl ?_
    refine zR_get C fX5_12 eX5_removePlan_17 0 eW_g0 rfl ?_
    refine zR_get C fX5_148 eX5_removePlan_20 1 eW_g1 rfl ?_
    refine zR_get C fX5_159 eX5_removePlan_23 15 eW_g15 rfl ?_
    refine zR_iload_n C eX5_removePlan_26 1 rfl rfl ?_
    refine zR_iconst (v := 2) C eX5_removePlan_27 (by decide) ?_
    refine zR_iast C eX5_removePlan_28 20 eW_g20 (by exact (p_has_in (by assumption) he.1.2.2.1).2.2.2) eW_s20 ?_
    refine zR_ws (eW g q (e_fate2 e p)) rfl ?_
    refine zR_aload_n C eX5_removePlan_29 0 rfl rfl ?_
    refine zR_get C fX5_12 eX5_removePlan_30 0 eW_g0 rfl ?_
    refine zR_get C fX5_148 eX5_removePlan_33 1 eW_g1 rfl ?_
    refine zR_callVv C kX5_162 eX5_removePlan_36 (c_X4_removeEnded (fun j => (fun j => q (1 + j)) (14 + j)) _ (by exact he.1.2.2.1)) rfl 15 4 eW_g15 rfl rfl _ eW_c15 eW_n15 rfl (by decide) (by decide) (Nat.le_of_ble_eq_true rfl) (Nat.zero_le _) (Nat.zero_le _) pW_f eW_r15 ?_
    refine zR_ws (eW g q (e_prem (e_fate2 e p))) rfl ?_
    refine zR_aload_n C eX5_removePlan_39 0 rfl rfl ?_
    refine zR_get C fX5_12 eX5_removePlan_40 0 eW_g0 rfl ?_
    refine zR_get C fX5_148 eX5_removePlan_43 1 eW_g1 rfl ?_
    refine zR_get C fX5_152 eX5_removePlan_46 15 eW_g15 rfl ?_
    exact zR_iret C rfl rfl eX5_removePlan_49 (Nat.zero_le _) (Nat.zero_le _) ⟨(by first | (unfold e_dropi; rw [if_pos h11]; first | done | (dsimp only [e_fin]; done) | rfl) | rfl | (simp only [e_dropi, if_pos h11]; first | done | rfl)), (by first | (unfold e_dropi; rw [if_pos h11]; first | done | (dsimp only [e_fin]; done) | rfl) | rfl | (simp only [e_dropi, if_pos h11]; first | done | rfl))⟩
  · skip
    refine zR_iconst (v := -1) C eX5_removePlan_14 (by decide) ?_
    exact zR_iret C rfl rfl eX5_removePlan_15 (Nat.zero_le _) (Nat.zero_le _) ⟨(by first | (unfold e_dropi; rw [if_neg h11]; first | done | (dsimp only [e_fin]; done) | rfl) | rfl | (simp only [e_dropi, if_neg h11]; first | done | rfl)), (by first | (unfold e_dropi; rw [if_neg h11]; first | done | (dsimp only [e_fin]; done) | rfl) | rfl | (simp only [e_dropi, if_neg h11]; first | done | rfl))⟩
