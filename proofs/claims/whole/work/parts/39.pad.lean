/-! The pad: the walks. -/
theorem a_at_in {d : AD} (hd : a_ok d) (h : a_at d < a_len d) : vp_in (a_at d) 80 := by
  have h1 := hd.1.2
  have h2 : zn32 (a_at d) < zn32 (a_len d) := by
    rcases Nat.lt_or_ge (zn32 (a_at d)) (zn32 (a_len d)) with z | z
    · exact z
    · exact absurd h (zlp_out2 hd.2.1 hd.1 z)
  rw [hd.2.1.1]; exact vp_in_nI (by omega) (by decide)
set_option maxHeartbeats 400000 in
set_option maxRecDepth 100000 in
theorem c_X3_signHere {l : Launch} {g : zG} (q : Nat → Nat) (d : AD)  (hd : a_ok d) : zM l g yX3_signHere cX3_signHere 1 (some .char) 0 0 0 [.ref (q 0)] (aW g q d) (zE (some (.int (a_here d))) (aW g q d)) := by
  refine zM_of (by decide +kernel) (Nat.le_of_ble_eq_true rfl) (fun x hl hn _ _ _ C => ?_)
  subst hl
  show zR x g _ (0, 0) 0 [(0, .ref (q 0))] [] _
  refine zR_aload_n C eX3_signHere_0 0 rfl rfl ?_
  refine zR_get C fX3_19 eX3_signHere_1 0 aW_g0 rfl ?_
  refine zR_aload_n C eX3_signHere_4 0 rfl rfl ?_
  refine zR_get C fX3_15 eX3_signHere_5 0 aW_g0 rfl ?_
  refine zR_icmp_ge C eX3_signHere_8 (fun h8 => ?_) (fun h8 => ?_)
  · skip
    refine zR_iconst (v := 0) C eX3_signHere_23 (by decide) ?_
    exact zR_iret C rfl (by first | exact hd.2.2.1 _ | rfl) eX3_signHere_24 (Nat.zero_le _) (Nat.zero_le _) ⟨(by first | (unfold a_here; rw [if_neg h8]; first | done | rfl) | rfl | (simp only [a_here, if_neg h8]; first | done | rfl)), rfl⟩
  · skip
    refine zR_aload_n C eX3_signHere_11 0 rfl rfl ?_
    refine zR_get C fX3_9 eX3_signHere_12 0 aW_g0 rfl ?_
    refine zR_aload_n C eX3_signHere_15 0 rfl rfl ?_
    refine zR_get C fX3_19 eX3_signHere_16 0 aW_g0 rfl ?_
    refine zR_cald C eX3_signHere_19 1 aW_g1 (a_at_in hd (by assumption)) ?_
    refine zR_goto C eX3_signHere_20 ?_
    exact zR_iret C rfl (by first | exact hd.2.2.1 _ | rfl) eX3_signHere_24 (Nat.zero_le _) (Nat.zero_le _) ⟨(by first | (unfold a_here; rw [if_pos h8]; first | done | rfl) | rfl | (simp only [a_here, if_pos h8]; first | done | rfl)), rfl⟩
set_option maxHeartbeats 400000 in
set_option maxRecDepth 100000 in
theorem c_X3_append {l : Launch} {g : zG} (q : Nat → Nat) (d : AD) (c : Int32) (hc : vp_nar .char c = c) (hl : vp_in (a_len d) 80) : zM l g yX3_append cX3_append 2 none 0 0 0 [.ref (q 0), .int c] (aW g q d) (zE none (aW g q (a_app d c))) := by
  refine zM_of (by decide +kernel) (Nat.le_of_ble_eq_true rfl) (fun x hl hn _ _ _ C => ?_)
  subst hl
  show zR x g _ (0, 0) 0 [(0, .ref (q 0)), (1, .int c)] [] _
  refine zR_aload_n C eX3_append_0 0 rfl rfl ?_
  refine zR_get C fX3_9 eX3_append_1 0 aW_g0 rfl ?_
  refine zR_aload_n C eX3_append_4 0 rfl rfl ?_
  refine zR_get C fX3_15 eX3_append_5 0 aW_g0 rfl ?_
  refine zR_iload_n C eX3_append_8 1 rfl rfl ?_
  refine zR_i2c C eX3_append_9 ((vp_nar_char c).symm.trans hc) ?_
  refine zR_cast C eX3_append_10 1 aW_g1 hl hc aW_s1 ?_
  refine zR_aload_n C eX3_append_11 0 rfl rfl ?_
  refine zR_dup C eX3_append_12 rfl ?_
  refine zR_get C fX3_15 eX3_append_13 0 aW_g0 rfl ?_
  refine zR_iconst (v := 1) C eX3_append_16 (by decide) ?_
  refine zR_iadd C eX3_append_17 ?_
  refine zR_put C pX3_15 eX3_append_18 0 aW_g0 (Nat.le_of_ble_eq_true rfl) aW_s0_1 ?_
  exact zR_vret C rfl eX3_append_21 (Nat.zero_le _) (Nat.zero_le _) ⟨rfl, rfl⟩
set_option maxHeartbeats 400000 in
set_option maxRecDepth 100000 in
theorem c_X3_kindOf {l : Launch} {g : zG} (q : Nat → Nat) (d : AD) (i : Nat) (hi : i < 27) (hk : a_okc (a_kin d)) : zM l g yX3_kindOf cX3_kindOf 2 (some .char) 0 0 0 [.ref (q 0), .int (nI i)] (aW g q d) (zE (some (.int (a_kin d i))) (aW g q d)) := by
  refine zM_of (by decide +kernel) (Nat.le_of_ble_eq_true rfl) (fun x hl hn _ _ _ C => ?_)
  subst hl
  show zR x g _ (0, 0) 0 [(0, .ref (q 0)), (1, .int (nI i))] [] _
  refine zR_aload_n C eX3_kindOf_0 0 rfl rfl ?_
  refine zR_get C fX3_25 eX3_kindOf_1 0 aW_g0 rfl ?_
  refine zR_iload_n C eX3_kindOf_4 1 rfl rfl ?_
  refine zR_caldN C eX3_kindOf_5 2 aW_g2 ⟨hi, by decide⟩ ?_
  exact zR_iret C rfl (hk _) eX3_kindOf_6 (Nat.zero_le _) (Nat.zero_le _) ⟨rfl, rfl⟩
theorem a_vix {i p : Nat} (hi : i < 27) (hp : p < 4) : vp_in (nI i * 4 + nI p) 108 := by
  rw [show (4 : Int32) = nI 4 from rfl, pk_mul, nI_add]; exact vp_in_nI (by omega) (by decide)
set_option maxHeartbeats 400000 in
set_option maxRecDepth 100000 in
theorem c_X3_valueOf {l : Launch} {g : zG} (q : Nat → Nat) (d : AD) (i : Nat) (p : Nat) (hi : i < 27) (hp : p < 4) : zM l g yX3_valueOf cX3_valueOf 3 (some .int) 0 0 0 [.ref (q 0), .int (nI i), .int (nI p)] (aW g q d) (zE (some (.int (a_val d (zn32 (nI i * 4 + nI p))))) (aW g q d)) := by
  refine zM_of (by decide +kernel) (Nat.le_of_ble_eq_true rfl) (fun x hl hn _ _ _ C => ?_)
  subst hl
  show zR x g _ (0, 0) 0 [(0, .ref (q 0)), (1, .int (nI i)), (2, .int (nI p))] [] _
  refine zR_aload_n C eX3_valueOf_0 0 rfl rfl ?_
  refine zR_get C fX3_28 eX3_valueOf_1 0 aW_g0 rfl ?_
  refine zR_iload_n C eX3_valueOf_4 1 rfl rfl ?_
  refine zR_iconst (v := 4) C eX3_valueOf_5 (by decide) ?_
  refine zR_imul C eX3_valueOf_6 ?_
  refine zR_iload_n C eX3_valueOf_7 2 rfl rfl ?_
  refine zR_iadd C eX3_valueOf_8 ?_
  refine zR_iald C eX3_valueOf_9 3 aW_g3 (a_vix hi hp) ?_
  exact zR_iret C rfl rfl eX3_valueOf_10 (Nat.zero_le _) (Nat.zero_le _) ⟨rfl, rfl⟩
set_option maxHeartbeats 400000 in
set_option maxRecDepth 100000 in
theorem c_X3_readSign {l : Launch} {g : zG} (q : Nat → Nat) (d : AD) (c : Int32) (hd : a_ok d) : zM l g yX3_readSign cX3_readSign 3 (some .boolean) 1 0 0 [.ref (q 0), .int c] (aW g q d) (zE (some (.int (zB (a_sign d c).1))) (aW g q (a_sign d c).2)) := by
  refine zM_of (by decide +kernel) (Nat.le_of_ble_eq_true rfl) (fun x hl hn _ _ _ C => ?_)
  subst hl
  show zR x g _ (0, 0) 0 [(0, .ref (q 0)), (1, .int c)] [] _
  refine zR_aload_n C eX3_readSign_0 0 rfl rfl ?_
  refine zR_callV1 C kX3_40 eX3_readSign_1 (c_X3_signHere q _ (by assumption)) rfl 0 3 aW_g0 rfl rfl _ aW_c aW_n rfl (by decide) (by decide) (Nat.le_of_ble_eq_true rfl) (Nat.zero_le _) (Nat.zero_le _) aW_f aW_r ?_
  refine zR_iload_n C eX3_readSign_4 1 rfl rfl ?_
  refine zR_icmp_ne C eX3_readSign_5 (fun h5 => ?_) (fun h5 => ?_)
  · skip
    refine zR_iconst (v := 0) C eX3_readSign_12 (by decide) ?_
    refine zR_istore_n (lv' := [(2, _), (0, _), (1, _)]) C eX3_readSign_13 rfl (by rw [hn]; decide) rfl ?_
    refine zR_iload_n C eX3_readSign_14 0 rfl rfl ?_
    refine zR_ifeq_t C eX3_readSign_15 (by decide) ?_
    refine zR_iload_n C eX3_readSign_28 0 rfl rfl ?_
    exact zR_iret C rfl rfl eX3_readSign_29 (Nat.zero_le _) (Nat.zero_le _) ⟨(by first | (unfold a_sign; rw [if_neg h5]; first | done | rfl) | rfl | (simp only [a_sign, if_neg h5]; first | done | rfl)), (by first | (unfold a_sign; rw [if_neg h5]; first | done | rfl) | rfl | (simp only [a_sign, if_neg h5]; first | done | rfl))⟩
  · skip
    refine zR_iconst (v := 1) C eX3_readSign_8 (by decide) ?_
    refine zR_goto C eX3_readSign_9 ?_
    refine zR_istore_n (lv' := [(2, _), (0, _), (1, _)]) C eX3_readSign_13 rfl (by rw [hn]; decide) rfl ?_
    refine zR_iload_n C eX3_readSign_14 0 rfl rfl ?_
    refine zR_ifeq_f C eX3_readSign_15 (by decide) ?_
    refine zR_aload_n C eX3_readSign_18 1 rfl rfl ?_
    refine zR_dup C eX3_readSign_19 rfl ?_
    refine zR_get C fX3_19 eX3_readSign_20 0 aW_g0 rfl ?_
    refine zR_iconst (v := 1) C eX3_readSign_23 (by decide) ?_
    refine zR_iadd C eX3_readSign_24 ?_
    refine zR_put C pX3_19 eX3_readSign_25 0 aW_g0 (Nat.le_of_ble_eq_true rfl) aW_s0_2 ?_
    refine zR_iload_n C eX3_readSign_28 0 rfl rfl ?_
    exact zR_iret C rfl rfl eX3_readSign_29 (Nat.zero_le _) (Nat.zero_le _) ⟨(by first | (unfold a_sign; rw [if_pos h5]; first | done | rfl) | rfl | (simp only [a_sign, if_pos h5]; first | done | rfl)), (by first | (unfold a_sign; rw [if_pos h5]; first | done | rfl) | rfl | (simp only [a_sign, if_pos h5]; first | done | rfl))⟩
set_option maxHeartbeats 400000 in
set_option maxRecDepth 100000 in
theorem c_X3_readDigit {l : Launch} {g : zG} (q : Nat → Nat) (d : AD) (m : Int32) (hd : a_ok d) : zM l g yX3_readDigit cX3_readDigit 3 (some .int) 1 0 0 [.ref (q 0), .int m] (aW g q d) (zE (some (.int (a_digit d m).1)) (aW g q (a_digit d m).2)) := by
  refine zM_of (by decide +kernel) (Nat.le_of_ble_eq_true rfl) (fun x hl hn _ _ _ C => ?_)
  subst hl
  show zR x g _ (0, 0) 0 [(0, .ref (q 0)), (1, .int m)] [] _
  refine zR_aload_n C eX3_readDigit_0 0 rfl rfl ?_
  refine zR_callV1 C kX3_40 eX3_readDigit_1 (c_X3_signHere q _ (by assumption)) rfl 0 3 aW_g0 rfl rfl _ aW_c aW_n rfl (by decide) (by decide) (Nat.le_of_ble_eq_true rfl) (Nat.zero_le _) (Nat.zero_le _) aW_f aW_r ?_
  refine zR_istore_n (lv' := [(2, _), (0, _), (1, _)]) C eX3_readDigit_4 rfl (by rw [hn]; decide) rfl ?_
  refine zR_iload_n C eX3_readDigit_5 0 rfl rfl ?_
  refine zR_bipush (v := 48) C eX3_readDigit_6 (by decide) ?_
  refine zR_icmp_lt C eX3_readDigit_8 (fun h8 => ?_) (fun h8 => ?_)
  · skip
    refine zR_iconst (v := -1) C eX3_readDigit_16 (by decide) ?_
    exact zR_iret C rfl rfl eX3_readDigit_17 (Nat.zero_le _) (Nat.zero_le _) ⟨(by first | (unfold a_digit; rw [if_pos h8]; first | done | rfl) | rfl | (simp only [a_digit, if_pos h8]; first | done | rfl)), (by first | (unfold a_digit; rw [if_pos h8]; first | done | rfl) | rfl | (simp only [a_digit, if_pos h8]; first | done | rfl))⟩
  · skip
    refine zR_iload_n C eX3_readDigit_11 0 rfl rfl ?_
    refine zR_iload_n C eX3_readDigit_12 2 rfl rfl ?_
    refine zR_icmp_le C eX3_readDigit_13 (fun h13 => ?_) (fun h13 => ?_)
    · skip
      refine zR_aload_n C eX3_readDigit_18 1 rfl rfl ?_
      refine zR_dup C eX3_readDigit_19 rfl ?_
      refine zR_get C fX3_19 eX3_readDigit_20 0 aW_g0 rfl ?_
      refine zR_iconst (v := 1) C eX3_readDigit_23 (by decide) ?_
      refine zR_iadd C eX3_readDigit_24 ?_
      refine zR_put C pX3_19 eX3_readDigit_25 0 aW_g0 (Nat.le_of_ble_eq_true rfl) aW_s0_2 ?_
      refine zR_iload_n C eX3_readDigit_28 0 rfl rfl ?_
      refine zR_bipush (v := 48) C eX3_readDigit_29 (by decide) ?_
      refine zR_isub C eX3_readDigit_31 ?_
      exact zR_iret C rfl rfl eX3_readDigit_32 (Nat.zero_le _) (Nat.zero_le _) ⟨(by first | (unfold a_digit; rw [if_neg h8, if_pos h13]; first | done | rfl) | rfl | (simp only [a_digit, if_neg h8, if_pos h13]; first | done | rfl)), (by first | (unfold a_digit; rw [if_neg h8, if_pos h13]; first | done | rfl) | rfl | (simp only [a_digit, if_neg h8, if_pos h13]; first | done | rfl))⟩
    · skip
      refine zR_iconst (v := -1) C eX3_readDigit_16 (by decide) ?_
      exact zR_iret C rfl rfl eX3_readDigit_17 (Nat.zero_le _) (Nat.zero_le _) ⟨(by first | (unfold a_digit; rw [if_neg h8, if_neg h13]; first | done | rfl) | rfl | (simp only [a_digit, if_neg h8, if_neg h13]; first | done | rfl)), (by first | (unfold a_digit; rw [if_neg h8, if_neg h13]; first | done | rfl) | rfl | (simp only [a_digit, if_neg h8, if_neg h13]; first | done | rfl))⟩
set_option maxHeartbeats 4000000 in
set_option maxRecDepth 100000 in
theorem c_X3_readNumber {l : Launch} {g : zG} (q : Nat → Nat) (d : AD)  (hd : a_ok d) : zM l g yX3_readNumber cX3_readNumber 4 (some .int) 2 0 0 [.ref (q 0)] (aW g q d) (zE (some (.int (a_num d).1)) (aW g q (a_num d).2)) := by
  refine zM_of (by decide +kernel) (Nat.le_of_ble_eq_true rfl) (fun x hl hn _ _ _ C => ?_)
  subst hl
  show zR x g _ (0, 0) 0 [(0, .ref (q 0))] [] _
  refine zR_aload_n C eX3_readNumber_0 0 rfl rfl ?_
  refine zR_bipush (v := 57) C eX3_readNumber_1 (by decide) ?_
  refine zR_callV1 C kX3_79 eX3_readNumber_3 (c_X3_readDigit q _ _ hd) rfl 0 3 aW_g0 rfl rfl _ aW_c aW_n rfl (by decide) (by decide) (Nat.le_of_ble_eq_true rfl) (Nat.zero_le _) (Nat.zero_le _) aW_f aW_r ?_
  refine zR_istore_n (lv' := [(1, _), (0, _)]) C eX3_readNumber_6 rfl (by rw [hn]; decide) rfl ?_
  refine zR_iconst (v := 1) C eX3_readNumber_7 (by decide) ?_
  refine zR_istore_n (lv' := [(2, _), (1, _), (0, _)]) C eX3_readNumber_8 rfl (by rw [hn]; decide) rfl ?_
  refine zR_iload_n C eX3_readNumber_9 0 rfl rfl ?_
  refine zR_iconst (v := 4) C eX3_readNumber_10 (by decide) ?_
  refine zR_icmp_ge C eX3_readNumber_11 (fun h => absurd h (by decide)) (fun _ => ?_)
  refine zR_iload_n C eX3_readNumber_14 1 rfl rfl ?_
  refine zR_ifle C eX3_readNumber_15 (fun h15 => ?_) (fun h15 => ?_)
  · skip
    refine zR_iload_n C eX3_readNumber_44 1 rfl rfl ?_
    exact zR_iret C rfl rfl eX3_readNumber_45 (Nat.zero_le _) (Nat.zero_le _) ⟨(by first | (unfold a_num a_nl; rw [if_pos h15]; first | done | rfl) | rfl | (simp only [a_num, a_nl, if_pos h15]; first | done | rfl)), (by first | (unfold a_num a_nl; rw [if_pos h15]; first | done | rfl) | rfl | (simp only [a_num, a_nl, if_pos h15]; first | done | rfl))⟩
  · skip
    refine zR_aload_n C eX3_readNumber_18 2 rfl rfl ?_
    refine zR_bipush (v := 57) C eX3_readNumber_19 (by decide) ?_
    refine zR_callV1 C kX3_79 eX3_readNumber_21 (c_X3_readDigit q _ _ (a_digit_ok hd).1) rfl 0 3 aW_g0 rfl rfl _ aW_c aW_n rfl (by decide) (by decide) (Nat.le_of_ble_eq_true rfl) (Nat.zero_le _) (Nat.zero_le _) aW_f aW_r ?_
    refine zR_istore_n (lv' := [(3, _), (2, _), (1, _), (0, _)]) C eX3_readNumber_24 rfl (by rw [hn]; decide) rfl ?_
    refine zR_iload_n C eX3_readNumber_25 0 rfl rfl ?_
    refine zR_ifge C eX3_readNumber_26 (fun h26 => ?_) (fun h26 => ?_)
    · skip
      refine zR_iload_n C eX3_readNumber_31 2 rfl rfl ?_
      refine zR_bipush (v := 10) C eX3_readNumber_32 (by decide) ?_
      refine zR_imul C eX3_readNumber_34 ?_
      refine zR_iload_n C eX3_readNumber_35 0 rfl rfl ?_
      refine zR_iadd C eX3_readNumber_36 ?_
      refine zR_istore_n (lv' := [(1, _), (3, _), (2, _), (0, _)]) C eX3_readNumber_37 rfl (by rw [hn]; decide) rfl ?_
      refine zR_iinc (lv' := [(2, _), (1, _), (3, _), (0, _)]) (v' := 2) C eX3_readNumber_38 2 rfl (by decide) (by rw [hn]; decide) rfl ?_
      refine zR_goto C eX3_readNumber_41 ?_
      refine zR_iload_n C eX3_readNumber_9 0 rfl rfl ?_
      refine zR_iconst (v := 4) C eX3_readNumber_10 (by decide) ?_
      refine zR_icmp_ge C eX3_readNumber_11 (fun h => absurd h (by decide)) (fun _ => ?_)
      refine zR_iload_n C eX3_readNumber_14 1 rfl rfl ?_
      refine zR_ifle C eX3_readNumber_15 (fun h15_i1 => ?_) (fun h15_i1 => ?_)
      · skip
        refine zR_iload_n C eX3_readNumber_44 1 rfl rfl ?_
        exact zR_iret C rfl rfl eX3_readNumber_45 (Nat.zero_le _) (Nat.zero_le _) ⟨(by first | (unfold a_num a_nl; rw [if_neg h15, if_neg h26, if_pos h15_i1]; first | done | rfl) | rfl | (simp only [a_num, a_nl, if_neg h15, if_neg h26, if_pos h15_i1]; first | done | rfl)), (by first | (unfold a_num a_nl; rw [if_neg h15, if_neg h26, if_pos h15_i1]; first | done | rfl) | rfl | (simp only [a_num, a_nl, if_neg h15, if_neg h26, if_pos h15_i1]; first | done | rfl))⟩
      · skip
        refine zR_aload_n C eX3_readNumber_18 3 rfl rfl ?_
        refine zR_bipush (v := 57) C eX3_readNumber_19 (by decide) ?_
        refine zR_callV1 C kX3_79 eX3_readNumber_21 (c_X3_readDigit q _ _ (a_digit_ok (a_digit_ok hd).1).1) rfl 0 3 aW_g0 rfl rfl _ aW_c aW_n rfl (by decide) (by decide) (Nat.le_of_ble_eq_true rfl) (Nat.zero_le _) (Nat.zero_le _) aW_f aW_r ?_
        refine zR_istore_n (lv' := [(3, _), (2, _), (1, _), (0, _)]) C eX3_readNumber_24 rfl (by rw [hn]; decide) rfl ?_
        refine zR_iload_n C eX3_readNumber_25 0 rfl rfl ?_
        refine zR_ifge C eX3_readNumber_26 (fun h26_i1 => ?_) (fun h26_i1 => ?_)
        · skip
          refine zR_iload_n C eX3_readNumber_31 2 rfl rfl ?_
          refine zR_bipush (v := 10) C eX3_readNumber_32 (by decide) ?_
          refine zR_imul C eX3_readNumber_34 ?_
          refine zR_iload_n C eX3_readNumber_35 0 rfl rfl ?_
          refine zR_iadd C eX3_readNumber_36 ?_
          refine zR_istore_n (lv' := [(1, _), (3, _), (2, _), (0, _)]) C eX3_readNumber_37 rfl (by rw [hn]; decide) rfl ?_
          refine zR_iinc (lv' := [(2, _), (1, _), (3, _), (0, _)]) (v' := 3) C eX3_readNumber_38 2 rfl (by decide) (by rw [hn]; decide) rfl ?_
          refine zR_goto C eX3_readNumber_41 ?_
          refine zR_iload_n C eX3_readNumber_9 0 rfl rfl ?_
          refine zR_iconst (v := 4) C eX3_readNumber_10 (by decide) ?_
          refine zR_icmp_ge C eX3_readNumber_11 (fun h => absurd h (by decide)) (fun _ => ?_)
          refine zR_iload_n C eX3_readNumber_14 1 rfl rfl ?_
          refine zR_ifle C eX3_readNumber_15 (fun h15_i2 => ?_) (fun h15_i2 => ?_)
          · skip
            refine zR_iload_n C eX3_readNumber_44 1 rfl rfl ?_
            exact zR_iret C rfl rfl eX3_readNumber_45 (Nat.zero_le _) (Nat.zero_le _) ⟨(by first | (unfold a_num a_nl; rw [if_neg h15, if_neg h26, if_neg h15_i1, if_neg h26_i1, if_pos h15_i2]; first | done | rfl) | rfl | (simp only [a_num, a_nl, if_neg h15, if_neg h26, if_neg h15_i1, if_neg h26_i1, if_pos h15_i2]; first | done | rfl)), (by first | (unfold a_num a_nl; rw [if_neg h15, if_neg h26, if_neg h15_i1, if_neg h26_i1, if_pos h15_i2]; first | done | rfl) | rfl | (simp only [a_num, a_nl, if_neg h15, if_neg h26, if_neg h15_i1, if_neg h26_i1, if_pos h15_i2]; first | done | rfl))⟩
          · skip
            refine zR_aload_n C eX3_readNumber_18 3 rfl rfl ?_
            refine zR_bipush (v := 57) C eX3_readNumber_19 (by decide) ?_
            refine zR_callV1 C kX3_79 eX3_readNumber_21 (c_X3_readDigit q _ _ (a_digit_ok (a_digit_ok (a_digit_ok hd).1).1).1) rfl 0 3 aW_g0 rfl rfl _ aW_c aW_n rfl (by decide) (by decide) (Nat.le_of_ble_eq_true rfl) (Nat.zero_le _) (Nat.zero_le _) aW_f aW_r ?_
            refine zR_istore_n (lv' := [(3, _), (2, _), (1, _), (0, _)]) C eX3_readNumber_24 rfl (by rw [hn]; decide) rfl ?_
            refine zR_iload_n C eX3_readNumber_25 0 rfl rfl ?_
            refine zR_ifge C eX3_readNumber_26 (fun h26_i2 => ?_) (fun h26_i2 => ?_)
            · skip
              refine zR_iload_n C eX3_readNumber_31 2 rfl rfl ?_
              refine zR_bipush (v := 10) C eX3_readNumber_32 (by decide) ?_
              refine zR_imul C eX3_readNumber_34 ?_
              refine zR_iload_n C eX3_readNumber_35 0 rfl rfl ?_
              refine zR_iadd C eX3_readNumber_36 ?_
              refine zR_istore_n (lv' := [(1, _), (3, _), (2, _), (0, _)]) C eX3_readNumber_37 rfl (by rw [hn]; decide) rfl ?_
              refine zR_iinc (lv' := [(2, _), (1, _), (3, _), (0, _)]) (v' := 4) C eX3_readNumber_38 2 rfl (by decide) (by rw [hn]; decide) rfl ?_
              refine zR_goto C eX3_readNumber_41 ?_
              refine zR_iload_n C eX3_readNumber_9 0 rfl rfl ?_
              refine zR_iconst (v := 4) C eX3_readNumber_10 (by decide) ?_
              refine zR_icmp_ge C eX3_readNumber_11 (fun _ => ?_) (fun h => absurd h (by decide))
              refine zR_iload_n C eX3_readNumber_44 1 rfl rfl ?_
              exact zR_iret C rfl rfl eX3_readNumber_45 (Nat.zero_le _) (Nat.zero_le _) ⟨(by first | (unfold a_num a_nl; rw [if_neg h15, if_neg h26, if_neg h15_i1, if_neg h26_i1, if_neg h15_i2, if_neg h26_i2]; first | done | rfl) | rfl | (simp only [a_num, a_nl, if_neg h15, if_neg h26, if_neg h15_i1, if_neg h26_i1, if_neg h15_i2, if_neg h26_i2]; first | done | rfl)), (by first | (unfold a_num a_nl; rw [if_neg h15, if_neg h26, if_neg h15_i1, if_neg h26_i1, if_neg h15_i2, if_neg h26_i2]; first | done | rfl) | rfl | (simp only [a_num, a_nl, if_neg h15, if_neg h26, if_neg h15_i1, if_neg h26_i1, if_neg h15_i2, if_neg h26_i2]; first | done | rfl))⟩
            · skip
              refine zR_iload_n C eX3_readNumber_29 2 rfl rfl ?_
              exact zR_iret C rfl rfl eX3_readNumber_30 (Nat.zero_le _) (Nat.zero_le _) ⟨(by first | (unfold a_num a_nl; rw [if_neg h15, if_neg h26, if_neg h15_i1, if_neg h26_i1, if_neg h15_i2, if_pos h26_i2]; first | done | rfl) | rfl | (simp only [a_num, a_nl, if_neg h15, if_neg h26, if_neg h15_i1, if_neg h26_i1, if_neg h15_i2, if_pos h26_i2]; first | done | rfl)), (by first | (unfold a_num a_nl; rw [if_neg h15, if_neg h26, if_neg h15_i1, if_neg h26_i1, if_neg h15_i2, if_pos h26_i2]; first | done | rfl) | rfl | (simp only [a_num, a_nl, if_neg h15, if_neg h26, if_neg h15_i1, if_neg h26_i1, if_neg h15_i2, if_pos h26_i2]; first | done | rfl))⟩
        · skip
          refine zR_iload_n C eX3_readNumber_29 2 rfl rfl ?_
          exact zR_iret C rfl rfl eX3_readNumber_30 (Nat.zero_le _) (Nat.zero_le _) ⟨(by first | (unfold a_num a_nl; rw [if_neg h15, if_neg h26, if_neg h15_i1, if_pos h26_i1]; first | done | rfl) | rfl | (simp only [a_num, a_nl, if_neg h15, if_neg h26, if_neg h15_i1, if_pos h26_i1]; first | done | rfl)), (by first | (unfold a_num a_nl; rw [if_neg h15, if_neg h26, if_neg h15_i1, if_pos h26_i1]; first | done | rfl) | rfl | (simp only [a_num, a_nl, if_neg h15, if_neg h26, if_neg h15_i1, if_pos h26_i1]; first | done | rfl))⟩
    · skip
      refine zR_iload_n C eX3_readNumber_29 2 rfl rfl ?_
      exact zR_iret C rfl rfl eX3_readNumber_30 (Nat.zero_le _) (Nat.zero_le _) ⟨(by first | (unfold a_num a_nl; rw [if_neg h15, if_pos h26]; first | done | rfl) | rfl | (simp only [a_num, a_nl, if_neg h15, if_pos h26]; first | done | rfl)), (by first | (unfold a_num a_nl; rw [if_neg h15, if_pos h26]; first | done | rfl) | rfl | (simp only [a_num, a_nl, if_neg h15, if_pos h26]; first | done | rfl))⟩
set_option maxHeartbeats 400000 in
set_option maxRecDepth 100000 in
theorem c_X3_isValue {l : Launch} {g : zG} (c : Int32)  : zM l g yX3_isValue cX3_isValue 1 (some .boolean) 0 0 0 [.int c] [] (zE (some (.int (zB (a_isv c)))) []) := by
  refine zM_of (by decide +kernel) (Nat.le_of_ble_eq_true rfl) (fun x hl hn _ _ _ C => ?_)
  subst hl
  show zR x g _ (0, 0) 0 [(0, .int c)] [] _
  refine zR_iload_n C eX3_isValue_0 0 rfl rfl ?_
  refine zR_bipush (v := 115) C eX3_isValue_1 (by decide) ?_
  refine zR_icmp_eq C eX3_isValue_3 (fun h3 => ?_) (fun h3 => ?_)
  · skip
    refine zR_iconst (v := 1) C eX3_isValue_24 (by decide) ?_
    refine zR_goto C eX3_isValue_25 ?_
    exact zR_iret C rfl rfl eX3_isValue_29 (Nat.zero_le _) (Nat.zero_le _) ⟨(by first | (unfold a_isv; rw [if_pos h3]; first | done | rfl) | rfl | (simp only [a_isv, if_pos h3]; first | done | rfl)), (by first | (unfold a_isv; rw [if_pos h3]; first | done | rfl) | rfl | (simp only [a_isv, if_pos h3]; first | done | rfl))⟩
  · skip
    refine zR_iload_n C eX3_isValue_6 0 rfl rfl ?_
    refine zR_bipush (v := 100) C eX3_isValue_7 (by decide) ?_
    refine zR_icmp_eq C eX3_isValue_9 (fun h9 => ?_) (fun h9 => ?_)
    · skip
      refine zR_iconst (v := 1) C eX3_isValue_24 (by decide) ?_
      refine zR_goto C eX3_isValue_25 ?_
      exact zR_iret C rfl rfl eX3_isValue_29 (Nat.zero_le _) (Nat.zero_le _) ⟨(by first | (unfold a_isv; rw [if_neg h3, if_pos h9]; first | done | rfl) | rfl | (simp only [a_isv, if_neg h3, if_pos h9]; first | done | rfl)), (by first | (unfold a_isv; rw [if_neg h3, if_pos h9]; first | done | rfl) | rfl | (simp only [a_isv, if_neg h3, if_pos h9]; first | done | rfl))⟩
    · skip
      refine zR_iload_n C eX3_isValue_12 0 rfl rfl ?_
      refine zR_bipush (v := 110) C eX3_isValue_13 (by decide) ?_
      refine zR_icmp_eq C eX3_isValue_15 (fun h15 => ?_) (fun h15 => ?_)
      · skip
        refine zR_iconst (v := 1) C eX3_isValue_24 (by decide) ?_
        refine zR_goto C eX3_isValue_25 ?_
        exact zR_iret C rfl rfl eX3_isValue_29 (Nat.zero_le _) (Nat.zero_le _) ⟨(by first | (unfold a_isv; rw [if_neg h3, if_neg h9, if_pos h15]; first | done | rfl) | rfl | (simp only [a_isv, if_neg h3, if_neg h9, if_pos h15]; first | done | rfl)), (by first | (unfold a_isv; rw [if_neg h3, if_neg h9, if_pos h15]; first | done | rfl) | rfl | (simp only [a_isv, if_neg h3, if_neg h9, if_pos h15]; first | done | rfl))⟩
      · skip
        refine zR_iload_n C eX3_isValue_18 0 rfl rfl ?_
        refine zR_bipush (v := 33) C eX3_isValue_19 (by decide) ?_
        refine zR_icmp_ne C eX3_isValue_21 (fun h21 => ?_) (fun h21 => ?_)
        · skip
          refine zR_iconst (v := 0) C eX3_isValue_28 (by decide) ?_
          exact zR_iret C rfl rfl eX3_isValue_29 (Nat.zero_le _) (Nat.zero_le _) ⟨(by first | (unfold a_isv; rw [if_neg h3, if_neg h9, if_neg h15, if_neg h21]; first | done | rfl) | rfl | (simp only [a_isv, if_neg h3, if_neg h9, if_neg h15, if_neg h21]; first | done | rfl)), (by first | (unfold a_isv; rw [if_neg h3, if_neg h9, if_neg h15, if_neg h21]; first | done | rfl) | rfl | (simp only [a_isv, if_neg h3, if_neg h9, if_neg h15, if_neg h21]; first | done | rfl))⟩
        · skip
          refine zR_iconst (v := 1) C eX3_isValue_24 (by decide) ?_
          refine zR_goto C eX3_isValue_25 ?_
          exact zR_iret C rfl rfl eX3_isValue_29 (Nat.zero_le _) (Nat.zero_le _) ⟨(by first | (unfold a_isv; rw [if_neg h3, if_neg h9, if_neg h15, if_pos h21]; first | done | rfl) | rfl | (simp only [a_isv, if_neg h3, if_neg h9, if_neg h15, if_pos h21]; first | done | rfl)), (by first | (unfold a_isv; rw [if_neg h3, if_neg h9, if_neg h15, if_pos h21]; first | done | rfl) | rfl | (simp only [a_isv, if_neg h3, if_neg h9, if_neg h15, if_pos h21]; first | done | rfl))⟩
set_option maxHeartbeats 400000 in
set_option maxRecDepth 100000 in
theorem c_X3_shapeOf {l : Launch} {g : zG} (c : Int32)  : zM l g yX3_shapeOf cX3_shapeOf 1 (some (.object "java/lang/String")) 0 0 0 [.int c] [] (zE (some (.ref (g.2.2.2.1 (a_shape c)))) []) := by
  refine zM_of (by decide +kernel) (Nat.le_of_ble_eq_true rfl) (fun x hl hn _ _ _ C => ?_)
  subst hl
  show zR x g _ (0, 0) 0 [(0, .int c)] [] _
  refine zR_iload_n C eX3_shapeOf_0 0 rfl rfl ?_
  refine zR_caseK (104) (fun h1_104 => ?_) (fun h1_104 => ?_)
  · skip
    refine zR_tswIn (off := 98) (tgt := 99) C eX3_shapeOf_1 (by decide) (by decide) (by decide) (by decide) ?_
    refine zR_ldcS C 4 (by decide) eX3_shapeOf_99 ?_
    exact zR_aret C rfl eX3_shapeOf_101 (Nat.zero_le _) (Nat.zero_le _) ⟨(by first | (unfold a_shape; rw [if_pos h1_104]; first | done | rfl) | rfl | (simp only [a_shape, if_pos h1_104]; first | done | rfl)), rfl⟩
  · skip
    refine zR_caseK (108) (fun h1_108 => ?_) (fun h1_108 => ?_)
    · skip
      refine zR_tswIn (off := 89) (tgt := 90) C eX3_shapeOf_1 (by decide) (by decide) (by decide) (by decide) ?_
      refine zR_ldcS C 2 (by decide) eX3_shapeOf_90 ?_
      exact zR_aret C rfl eX3_shapeOf_92 (Nat.zero_le _) (Nat.zero_le _) ⟨(by first | (unfold a_shape; rw [if_neg h1_104, if_pos h1_108]; first | done | rfl) | rfl | (simp only [a_shape, if_neg h1_104, if_pos h1_108]; first | done | rfl)), rfl⟩
    · skip
      refine zR_caseK (111) (fun h1_111 => ?_) (fun h1_111 => ?_)
      · skip
        refine zR_tswIn (off := 83) (tgt := 84) C eX3_shapeOf_1 (by decide) (by decide) (by decide) (by decide) ?_
        refine zR_ldcS C 0 (by decide) eX3_shapeOf_84 ?_
        exact zR_aret C rfl eX3_shapeOf_86 (Nat.zero_le _) (Nat.zero_le _) ⟨(by first | (unfold a_shape; rw [if_neg h1_104, if_neg h1_108, if_pos h1_111]; first | done | rfl) | rfl | (simp only [a_shape, if_neg h1_104, if_neg h1_108, if_pos h1_111]; first | done | rfl)), rfl⟩
      · skip
        refine zR_caseK (112) (fun h1_112 => ?_) (fun h1_112 => ?_)
        · skip
          refine zR_tswIn (off := 92) (tgt := 93) C eX3_shapeOf_1 (by decide) (by decide) (by decide) (by decide) ?_
          refine zR_ldcS C 3 (by decide) eX3_shapeOf_93 ?_
          exact zR_aret C rfl eX3_shapeOf_95 (Nat.zero_le _) (Nat.zero_le _) ⟨(by first | (unfold a_shape; rw [if_neg h1_104, if_neg h1_108, if_neg h1_111, if_pos h1_112]; first | done | rfl) | rfl | (simp only [a_shape, if_neg h1_104, if_neg h1_108, if_neg h1_111, if_pos h1_112]; first | done | rfl)), rfl⟩
        · skip
          refine zR_caseK (114) (fun h1_114 => ?_) (fun h1_114 => ?_)
          · skip
            refine zR_tswIn (off := 86) (tgt := 87) C eX3_shapeOf_1 (by decide) (by decide) (by decide) (by decide) ?_
            refine zR_ldcS C 1 (by decide) eX3_shapeOf_87 ?_
            exact zR_aret C rfl eX3_shapeOf_89 (Nat.zero_le _) (Nat.zero_le _) ⟨(by first | (unfold a_shape; rw [if_neg h1_104, if_neg h1_108, if_neg h1_111, if_neg h1_112, if_pos h1_114]; first | done | rfl) | rfl | (simp only [a_shape, if_neg h1_104, if_neg h1_108, if_neg h1_111, if_neg h1_112, if_pos h1_114]; first | done | rfl)), rfl⟩
          · skip
            refine zR_caseK (120) (fun h1_120 => ?_) (fun h1_120 => ?_)
            · skip
              refine zR_tswIn (off := 95) (tgt := 96) C eX3_shapeOf_1 (by decide) (by decide) (by decide) (by decide) ?_
              refine zR_ldcS C 4 (by decide) eX3_shapeOf_96 ?_
              exact zR_aret C rfl eX3_shapeOf_98 (Nat.zero_le _) (Nat.zero_le _) ⟨(by first | (unfold a_shape; rw [if_neg h1_104, if_neg h1_108, if_neg h1_111, if_neg h1_112, if_neg h1_114, if_pos h1_120]; first | done | rfl) | rfl | (simp only [a_shape, if_neg h1_104, if_neg h1_108, if_neg h1_111, if_neg h1_112, if_neg h1_114, if_pos h1_120]; first | done | rfl)), rfl⟩
            · skip
              refine zR_tswD (tgt := 102) C eX3_shapeOf_1 (fun j hj => match j, hj with | 0, _ => Or.inr (zsw_ne h1_104 (by decide) (by decide)) | 1, _ => Or.inl rfl | 2, _ => Or.inl rfl | 3, _ => Or.inl rfl | 4, _ => Or.inr (zsw_ne h1_108 (by decide) (by decide)) | 5, _ => Or.inl rfl | 6, _ => Or.inl rfl | 7, _ => Or.inr (zsw_ne h1_111 (by decide) (by decide)) | 8, _ => Or.inr (zsw_ne h1_112 (by decide) (by decide)) | 9, _ => Or.inl rfl | 10, _ => Or.inr (zsw_ne h1_114 (by decide) (by decide)) | 11, _ => Or.inl rfl | 12, _ => Or.inl rfl | 13, _ => Or.inl rfl | 14, _ => Or.inl rfl | 15, _ => Or.inl rfl | 16, _ => Or.inr (zsw_ne h1_120 (by decide) (by decide)) | _ + 17, hj => absurd hj (by simp)) (by decide) (by decide) ?_
              refine zR_ldcS C 5 (by decide) eX3_shapeOf_102 ?_
              exact zR_aret C rfl eX3_shapeOf_104 (Nat.zero_le _) (Nat.zero_le _) ⟨(by first | (unfold a_shape; rw [if_neg h1_104, if_neg h1_108, if_neg h1_111, if_neg h1_112, if_neg h1_114, if_neg h1_120]; first | done | rfl) | rfl | (simp only [a_shape, if_neg h1_104, if_neg h1_108, if_neg h1_111, if_neg h1_112, if_neg h1_114, if_neg h1_120]; first | done | rfl)), rfl⟩
set_option maxHeartbeats 400000 in
set_option maxRecDepth 100000 in
theorem c_X3_readPart {l : Launch} {g : zG} (q : Nat → Nat) (d : AD) (c : Int32) (hd : a_ok d) : zM l g yX3_readPart cX3_readPart 2 (some .int) 3 0 0 [.ref (q 0), .int c] (aW g q d) (zE (some (.int (a_part d c).1)) (aW g q (a_part d c).2)) := by
  refine zM_of (by decide +kernel) (Nat.le_of_ble_eq_true rfl) (fun x hl hn _ _ _ C => ?_)
  subst hl
  show zR x g _ (0, 0) 0 [(0, .ref (q 0)), (1, .int c)] [] _
  refine zR_iload_n C eX3_readPart_0 1 rfl rfl ?_
  refine zR_caseK (33) (fun h1_33 => ?_) (fun h1_33 => ?_)
  · skip
    refine zR_lsw (off := 62) (tgt := 63) C eX3_readPart_1 (by decide) (by decide) (by decide) ?_
    refine zR_aload_n C eX3_readPart_63 0 rfl rfl ?_
    refine zR_bipush (v := 33) C eX3_readPart_64 (by decide) ?_
    refine zR_callV1 C kX3_36 eX3_readPart_66 (c_X3_readSign q _ _ (by assumption)) rfl 0 3 aW_g0 rfl rfl _ aW_c aW_n rfl (by decide) (by decide) (Nat.le_of_ble_eq_true rfl) (Nat.zero_le _) (Nat.zero_le _) aW_f aW_r ?_
    refine zR_bfeq C eX3_readPart_69 (fun h69 => ?_) (fun h69 => ?_)
    · skip
      refine zR_iconst (v := 0) C eX3_readPart_76 (by decide) ?_
      exact zR_iret C rfl rfl eX3_readPart_77 (Nat.zero_le _) (Nat.zero_le _) ⟨(by first | (unfold a_part; rw [if_pos h1_33, if_neg h69]; first | done | rfl) | rfl | (simp only [a_part, if_pos h1_33, if_neg h69]; first | done | rfl)), (by first | (unfold a_part; rw [if_pos h1_33, if_neg h69]; first | done | rfl) | rfl | (simp only [a_part, if_pos h1_33, if_neg h69]; first | done | rfl))⟩
    · skip
      refine zR_iconst (v := 1) C eX3_readPart_72 (by decide) ?_
      refine zR_goto C eX3_readPart_73 ?_
      exact zR_iret C rfl rfl eX3_readPart_77 (Nat.zero_le _) (Nat.zero_le _) ⟨(by first | (unfold a_part; rw [if_pos h1_33, if_pos h69]; first | done | rfl) | rfl | (simp only [a_part, if_pos h1_33, if_pos h69]; first | done | rfl)), (by first | (unfold a_part; rw [if_pos h1_33, if_pos h69]; first | done | rfl) | rfl | (simp only [a_part, if_pos h1_33, if_pos h69]; first | done | rfl))⟩
  · skip
    refine zR_caseK (100) (fun h1_100 => ?_) (fun h1_100 => ?_)
    · skip
      refine zR_lsw (off := 50) (tgt := 51) C eX3_readPart_1 (by decide) (by decide) (by decide) ?_
      refine zR_aload_n C eX3_readPart_51 0 rfl rfl ?_
      refine zR_bipush (v := 57) C eX3_readPart_52 (by decide) ?_
      refine zR_callV1 C kX3_79 eX3_readPart_54 (c_X3_readDigit q _ _ (by assumption)) rfl 0 3 aW_g0 rfl rfl _ aW_c aW_n rfl (by decide) (by decide) (Nat.le_of_ble_eq_true rfl) (Nat.zero_le _) (Nat.zero_le _) aW_f aW_r ?_
      exact zR_iret C rfl rfl eX3_readPart_57 (Nat.zero_le _) (Nat.zero_le _) ⟨(by first | (unfold a_part; rw [if_neg h1_33, if_pos h1_100]; first | done | rfl) | rfl | (simp only [a_part, if_neg h1_33, if_pos h1_100]; first | done | rfl)), (by first | (unfold a_part; rw [if_neg h1_33, if_pos h1_100]; first | done | rfl) | rfl | (simp only [a_part, if_neg h1_33, if_pos h1_100]; first | done | rfl))⟩
    · skip
      refine zR_caseK (110) (fun h1_110 => ?_) (fun h1_110 => ?_)
      · skip
        refine zR_lsw (off := 57) (tgt := 58) C eX3_readPart_1 (by decide) (by decide) (by decide) ?_
        refine zR_aload_n C eX3_readPart_58 0 rfl rfl ?_
        refine zR_callV1 C kX3_82 eX3_readPart_59 (c_X3_readNumber q _ (by assumption)) rfl 0 3 aW_g0 rfl rfl _ aW_c aW_n rfl (by decide) (by decide) (Nat.le_of_ble_eq_true rfl) (Nat.zero_le _) (Nat.zero_le _) aW_f aW_r ?_
        exact zR_iret C rfl rfl eX3_readPart_62 (Nat.zero_le _) (Nat.zero_le _) ⟨(by first | (unfold a_part; rw [if_neg h1_33, if_neg h1_100, if_pos h1_110]; first | done | rfl) | rfl | (simp only [a_part, if_neg h1_33, if_neg h1_100, if_pos h1_110]; first | done | rfl)), (by first | (unfold a_part; rw [if_neg h1_33, if_neg h1_100, if_pos h1_110]; first | done | rfl) | rfl | (simp only [a_part, if_neg h1_33, if_neg h1_100, if_pos h1_110]; first | done | rfl))⟩
      · skip
        refine zR_caseK (115) (fun h1_115 => ?_) (fun h1_115 => ?_)
        · skip
          refine zR_lsw (off := 43) (tgt := 44) C eX3_readPart_1 (by decide) (by decide) (by decide) ?_
          refine zR_aload_n C eX3_readPart_44 0 rfl rfl ?_
          refine zR_bipush (v := 55) C eX3_readPart_45 (by decide) ?_
          refine zR_callV1 C kX3_79 eX3_readPart_47 (c_X3_readDigit q _ _ (by assumption)) rfl 0 3 aW_g0 rfl rfl _ aW_c aW_n rfl (by decide) (by decide) (Nat.le_of_ble_eq_true rfl) (Nat.zero_le _) (Nat.zero_le _) aW_f aW_r ?_
          exact zR_iret C rfl rfl eX3_readPart_50 (Nat.zero_le _) (Nat.zero_le _) ⟨(by first | (unfold a_part; rw [if_neg h1_33, if_neg h1_100, if_neg h1_110, if_pos h1_115]; first | done | rfl) | rfl | (simp only [a_part, if_neg h1_33, if_neg h1_100, if_neg h1_110, if_pos h1_115]; first | done | rfl)), (by first | (unfold a_part; rw [if_neg h1_33, if_neg h1_100, if_neg h1_110, if_pos h1_115]; first | done | rfl) | rfl | (simp only [a_part, if_neg h1_33, if_neg h1_100, if_neg h1_110, if_pos h1_115]; first | done | rfl))⟩
        · skip
          refine zR_lsw (off := 77) (tgt := 78) C eX3_readPart_1 (by decide) (by simp only [Op.lookupswitch.offset, Ne.symm (zsw_ne h1_33 (k := 33) (by decide) (by decide)), Ne.symm (zsw_ne h1_100 (k := 100) (by decide) (by decide)), Ne.symm (zsw_ne h1_110 (k := 110) (by decide) (by decide)), Ne.symm (zsw_ne h1_115 (k := 115) (by decide) (by decide)), if_false]) (by decide) ?_
          refine zR_aload_n C eX3_readPart_78 0 rfl rfl ?_
          refine zR_iload_n C eX3_readPart_79 1 rfl rfl ?_
          refine zR_callV1 C kX3_36 eX3_readPart_80 (c_X3_readSign q _ _ (by assumption)) rfl 0 3 aW_g0 rfl rfl _ aW_c aW_n rfl (by decide) (by decide) (Nat.le_of_ble_eq_true rfl) (Nat.zero_le _) (Nat.zero_le _) aW_f aW_r ?_
          refine zR_bfeq C eX3_readPart_83 (fun h83 => ?_) (fun h83 => ?_)
          · skip
            refine zR_iconst (v := -1) C eX3_readPart_90 (by decide) ?_
            exact zR_iret C rfl rfl eX3_readPart_91 (Nat.zero_le _) (Nat.zero_le _) ⟨(by first | (unfold a_part; rw [if_neg h1_33, if_neg h1_100, if_neg h1_110, if_neg h1_115, if_neg h83]; first | done | rfl) | rfl | (simp only [a_part, if_neg h1_33, if_neg h1_100, if_neg h1_110, if_neg h1_115, if_neg h83]; first | done | rfl)), (by first | (unfold a_part; rw [if_neg h1_33, if_neg h1_100, if_neg h1_110, if_neg h1_115, if_neg h83]; first | done | rfl) | rfl | (simp only [a_part, if_neg h1_33, if_neg h1_100, if_neg h1_110, if_neg h1_115, if_neg h83]; first | done | rfl))⟩
          · skip
            refine zR_iconst (v := 0) C eX3_readPart_86 (by decide) ?_
            refine zR_goto C eX3_readPart_87 ?_
            exact zR_iret C rfl rfl eX3_readPart_91 (Nat.zero_le _) (Nat.zero_le _) ⟨(by first | (unfold a_part; rw [if_neg h1_33, if_neg h1_100, if_neg h1_110, if_neg h1_115, if_pos h83]; first | done | rfl) | rfl | (simp only [a_part, if_neg h1_33, if_neg h1_100, if_neg h1_110, if_neg h1_115, if_pos h83]; first | done | rfl)), (by first | (unfold a_part; rw [if_neg h1_33, if_neg h1_100, if_neg h1_110, if_neg h1_115, if_pos h83]; first | done | rfl) | rfl | (simp only [a_part, if_neg h1_33, if_neg h1_100, if_neg h1_110, if_neg h1_115, if_pos h83]; first | done | rfl))⟩
theorem a_vix2 {d : AD} {p : Nat} (hd : a_ok d) (ho : zn32 (a_ord d) < 27) (hp : p ≤ 7) (h : nI p < 4) : vp_in (a_ord d * 4 + nI p) 108 := by
  have h4 : p < 4 := by
    rcases Nat.lt_or_ge p 4 with z | z
    · exact z
    · exact absurd h (nI_nlt (a := p) (b := 4) z (by omega))
  rw [hd.2.2.2.2.1]; exact a_vix ho h4
set_option maxHeartbeats 4000000 in
set_option maxRecDepth 100000 in
theorem c_X3_readOrder_lp {x : zX} {g : zG} {q : Nat → Nat} (hn : zn x = 6) (C : zC x g RX3 cX3_readOrder (some .boolean) 5) {i : Nat} (hi : i < 6) : ∀ (k j p : Nat) (d : AD), j + k = zSlen.getD i 0 → p ≤ j → a_ok d → zn32 (a_ord d) < 27 → zR x g (zE (some (.int (zB (a_rl i k j p d).1))) (aW g q (a_rl i k j p d).2)) (0, 0) 44 [(0, .ref (q 0)), (1, .ref (g.2.2.2.1 i)), (2, .int (nI p)), (3, .int (nI j))] [] (aW g q d) := by
  have h7 := zSlen_le i hi
  intro k
  induction k with
  | zero =>
    intro j p d hk hp hd ho
    refine zR_iload_n C eX3_readOrder_44 3 rfl rfl ?_
    refine zR_aload_n C eX3_readOrder_45 1 rfl rfl ?_
    refine zR_callVs C kX3_53 eX3_readOrder_46 hi rfl (c_J0_length _ hi) rfl rfl (by decide) (by decide) (Nat.le_of_ble_eq_true rfl) (Nat.zero_le _) (Nat.zero_le _) ?_
    refine zR_icmp_ge C eX3_readOrder_49 (fun h49 => ?_) (fun h49 => ?_)
    · skip
      refine zR_iconst (v := 1) C eX3_readOrder_111 (by decide) ?_
      exact zR_iret C rfl rfl eX3_readOrder_112 (Nat.zero_le _) (Nat.zero_le _) ⟨rfl, rfl⟩
    · skip
      exact absurd h49 (nI_nlt (by omega) (by omega))
  | succ k ih =>
    intro j p d hk hp hd ho
    have hj : j < zSlen.getD i 0 := by omega
    have hpo := a_part_ok hd (zsC_ne i hi j hj)
    refine zR_iload_n C eX3_readOrder_44 3 rfl rfl ?_
    refine zR_aload_n C eX3_readOrder_45 1 rfl rfl ?_
    refine zR_callVs C kX3_53 eX3_readOrder_46 hi rfl (c_J0_length _ hi) rfl rfl (by decide) (by decide) (Nat.le_of_ble_eq_true rfl) (Nat.zero_le _) (Nat.zero_le _) ?_
    refine zR_icmp_ge C eX3_readOrder_49 (fun h49 => ?_) (fun h49 => ?_)
    · skip
      exact absurd (nI_lt hj (by omega)) h49
    · skip
      refine zR_aload_n C eX3_readOrder_52 1 rfl rfl ?_
      refine zR_iload_n C eX3_readOrder_53 3 rfl rfl ?_
      refine zR_callVs C kX3_56 eX3_readOrder_54 hi rfl (c_J0_charAt _ j hi hj) rfl rfl (by decide) (by decide) (Nat.le_of_ble_eq_true rfl) (Nat.zero_le _) (Nat.zero_le _) ?_
      refine zR_istore (lv' := [(4, _), (0, _), (1, _), (2, _), (3, _)]) C eX3_readOrder_57 (by rw [hn]; decide) rfl ?_
      refine zR_aload_n C eX3_readOrder_59 1 rfl rfl ?_
      refine zR_iload C eX3_readOrder_60 0 rfl ?_
      refine zR_callV1 C kX3_60 eX3_readOrder_62 (c_X3_readPart q _ _ hd) rfl 0 3 aW_g0 rfl rfl _ aW_c aW_n rfl (by decide) (by decide) (Nat.le_of_ble_eq_true rfl) (Nat.zero_le _) (Nat.zero_le _) aW_f aW_r ?_
      refine zR_istore (lv' := [(5, _), (4, _), (0, _), (1, _), (2, _), (3, _)]) C eX3_readOrder_65 (by rw [hn]; decide) rfl ?_
      refine zR_iload C eX3_readOrder_67 0 rfl ?_
      refine zR_ifge C eX3_readOrder_69 (fun h69 => ?_) (fun h69 => ?_)
      · skip
        refine zR_iload C eX3_readOrder_74 1 rfl ?_
        refine zR_callS1 C kX3_64 eX3_readOrder_76 (c_X3_isValue _ ) rfl rfl (by decide) (by decide) (Nat.le_of_ble_eq_true rfl) (Nat.zero_le _) (Nat.zero_le _) ?_
        refine zR_bfeq C eX3_readOrder_79 (fun h79 => ?_) (fun h79 => ?_)
        · skip
          refine zR_iinc (lv' := [(3, _), (5, _), (4, _), (0, _), (1, _), (2, _)]) (v' := nI (j + 1)) C eX3_readOrder_105 5 rfl (zinc j) (by rw [hn]; decide) rfl ?_
          refine zR_goto C eX3_readOrder_108 ?_
          have e1 : a_rl i (k + 1) j p d = a_rl i k (j + 1) p (a_part d (zsC i j)).2 := by rw [a_rl, if_neg h69, if_neg h79]
          rw [e1]
          refine zR_lv [(0, _), (1, _), (2, _), (3, _)] [3, 4, 5, 0] rfl ?_
          exact ih (j + 1) p _ (by omega) (by omega) hpo.1 (by rw [hpo.2.2.2.2.1]; exact ho)
        · skip
          refine zR_iload_n C eX3_readOrder_82 4 rfl rfl ?_
          refine zR_iconst (v := 4) C eX3_readOrder_83 (by decide) ?_
          refine zR_icmp_ge C eX3_readOrder_84 (fun h84 => ?_) (fun h84 => ?_)
          · skip
            refine zR_iinc (lv' := [(3, _), (5, _), (4, _), (0, _), (1, _), (2, _)]) (v' := nI (j + 1)) C eX3_readOrder_105 5 rfl (zinc j) (by rw [hn]; decide) rfl ?_
            refine zR_goto C eX3_readOrder_108 ?_
            have e1 : a_rl i (k + 1) j p d = a_rl i k (j + 1) p (a_part d (zsC i j)).2 := by rw [a_rl, if_neg h69, if_pos h79, if_neg h84]
            rw [e1]
            refine zR_lv [(0, _), (1, _), (2, _), (3, _)] [3, 4, 5, 0] rfl ?_
            exact ih (j + 1) p _ (by omega) (by omega) hpo.1 (by rw [hpo.2.2.2.2.1]; exact ho)
          · skip
            refine zR_aload_n C eX3_readOrder_87 2 rfl rfl ?_
            refine zR_get C fX3_28 eX3_readOrder_88 0 aW_g0 rfl ?_
            refine zR_aload_n C eX3_readOrder_91 2 rfl rfl ?_
            refine zR_get C fX3_22 eX3_readOrder_92 0 aW_g0 rfl ?_
            refine zR_iconst (v := 4) C eX3_readOrder_95 (by decide) ?_
            refine zR_imul C eX3_readOrder_96 ?_
            refine zR_iload_n C eX3_readOrder_97 4 rfl rfl ?_
            refine zR_iadd C eX3_readOrder_98 ?_
            refine zR_iload C eX3_readOrder_99 0 rfl ?_
            refine zR_iast C eX3_readOrder_101 3 aW_g3 (a_vix2 hpo.1 (by rw [hpo.2.2.2.2.1]; exact ho) (by omega) h84) aW_s3 ?_
            refine zR_iinc (lv' := [(2, _), (5, _), (4, _), (0, _), (1, _), (3, _)]) (v' := nI (p + 1)) C eX3_readOrder_102 4 rfl (zinc p) (by rw [hn]; decide) rfl ?_
            refine zR_iinc (lv' := [(3, _), (2, _), (5, _), (4, _), (0, _), (1, _)]) (v' := nI (j + 1)) C eX3_readOrder_105 5 rfl (zinc j) (by rw [hn]; decide) rfl ?_
            refine zR_goto C eX3_readOrder_108 ?_
            have e1 : a_rl i (k + 1) j p d = a_rl i k (j + 1) (p + 1) (a_store (a_part d (zsC i j)).2 p (a_part d (zsC i j)).1) := by rw [a_rl, if_neg h69, if_pos h79, if_pos h84]
            rw [e1]
            refine zR_lv [(0, _), (1, _), (2, _), (3, _)] [4, 5, 1, 0] rfl ?_
            exact ih (j + 1) (p + 1) _ (by omega) (by omega) (show a_ok (a_store _ _ _) from hpo.1) (by show zn32 (a_ord (a_part d (zsC i j)).2) < 27; rw [hpo.2.2.2.2.1]; exact ho)
      · skip
        refine zR_iconst (v := 0) C eX3_readOrder_72 (by decide) ?_
        have e1 : a_rl i (k + 1) j p d = (false, (a_part d (zsC i j)).2) := by rw [a_rl, if_pos h69]
        rw [e1]
        exact zR_iret C rfl rfl eX3_readOrder_73 (Nat.zero_le _) (Nat.zero_le _) ⟨rfl, rfl⟩
set_option maxHeartbeats 400000 in
set_option maxRecDepth 100000 in
theorem c_X3_readOrder {l : Launch} {g : zG} (q : Nat → Nat) (d : AD)  (hd : a_ok d) (ho : zn32 (a_ord d) < 27) : zM l g yX3_readOrder cX3_readOrder 6 (some .boolean) 5 0 0 [.ref (q 0)] (aW g q d) (zE (some (.int (zB (a_order d).1))) (aW g q (a_order d).2)) := by
  refine zM_of (by decide +kernel) (Nat.le_of_ble_eq_true rfl) (fun x hl hn _ _ _ C => ?_)
  subst hl
  show zR x g _ (0, 0) 0 [(0, .ref (q 0))] [] _
  refine zR_aload_n C eX3_readOrder_0 0 rfl rfl ?_
  refine zR_callV1 C kX3_40 eX3_readOrder_1 (c_X3_signHere q _ hd) rfl 0 3 aW_g0 rfl rfl _ aW_c aW_n rfl (by decide) (by decide) (Nat.le_of_ble_eq_true rfl) (Nat.zero_le _) (Nat.zero_le _) aW_f aW_r ?_
  refine zR_callS1 C kX3_44 eX3_readOrder_4 (c_X3_shapeOf _) rfl rfl (by decide) (by decide) (Nat.le_of_ble_eq_true rfl) (Nat.zero_le _) (Nat.zero_le _) ?_
  refine zR_astore_n (lv' := [(1, _), (0, _)]) C eX3_readOrder_7 rfl (by rw [hn]; decide) rfl ?_
  refine zR_aload_n C eX3_readOrder_8 0 rfl rfl ?_
  refine zR_callVs C kX3_48 eX3_readOrder_9 (a_shape_lt _) rfl (c_J0_isEmpty _ (a_shape_lt _)) rfl rfl (by decide) (by decide) (Nat.le_of_ble_eq_true rfl) (Nat.zero_le _) (Nat.zero_le _) ?_
  refine zR_bfeq C eX3_readOrder_12 (fun h12 => ?_) (fun h12 => ?_)
  · skip
    refine zR_aload_n C eX3_readOrder_17 1 rfl rfl ?_
    refine zR_get C fX3_25 eX3_readOrder_18 0 aW_g0 rfl ?_
    refine zR_aload_n C eX3_readOrder_21 1 rfl rfl ?_
    refine zR_get C fX3_22 eX3_readOrder_22 0 aW_g0 rfl ?_
    refine zR_aload_n C eX3_readOrder_25 1 rfl rfl ?_
    refine zR_callV1 C kX3_40 eX3_readOrder_26 (c_X3_signHere q _ hd) rfl 0 3 aW_g0 rfl rfl _ aW_c aW_n rfl (by decide) (by decide) (Nat.le_of_ble_eq_true rfl) (Nat.zero_le _) (Nat.zero_le _) aW_f aW_r ?_
    refine zR_cast C eX3_readOrder_29 2 aW_g2 (by rw [hd.2.2.2.2.1]; exact vp_in_nI ho (by decide)) (by have := a_here_char hd; show vp_nar .char (a_here d) = _; unfold vp_nar; rw [this]) aW_s2 ?_
    refine zR_aload_n C eX3_readOrder_30 1 rfl rfl ?_
    refine zR_dup C eX3_readOrder_31 rfl ?_
    refine zR_get C fX3_19 eX3_readOrder_32 0 aW_g0 rfl ?_
    refine zR_iconst (v := 1) C eX3_readOrder_35 (by decide) ?_
    refine zR_iadd C eX3_readOrder_36 ?_
    refine zR_put C pX3_19 eX3_readOrder_37 0 aW_g0 (Nat.le_of_ble_eq_true rfl) aW_s0_2 ?_
    refine zR_iconst (v := 0) C eX3_readOrder_40 (by decide) ?_
    refine zR_istore_n (lv' := [(2, _), (1, _), (0, _)]) C eX3_readOrder_41 rfl (by rw [hn]; decide) rfl ?_
    refine zR_iconst (v := 0) C eX3_readOrder_42 (by decide) ?_
    refine zR_istore_n (lv' := [(3, _), (2, _), (1, _), (0, _)]) C eX3_readOrder_43 rfl (by rw [hn]; decide) rfl ?_
    have h5 : ¬ a_shape (a_here d) = 5 := fun z => h12 (decide_eq_true z)
    have e1 : a_order d = a_rl (a_shape (a_here d)) (zSlen.getD (a_shape (a_here d)) 0) 0 0 (a_kind d) := if_neg h12
    rw [e1]
    refine zR_lv [(0, _), (1, _), (2, .int (nI 0)), (3, .int (nI 0))] [3, 2, 1, 0] rfl ?_
    exact c_X3_readOrder_lp hn C (a_shape_lt _) _ 0 0 (a_kind d) (by omega) (Nat.le_refl _) (a_kind_ok hd (a_shape_0 h5)) ho
  · skip
    refine zR_iconst (v := 0) C eX3_readOrder_15 (by decide) ?_
    exact zR_iret C rfl rfl eX3_readOrder_16 (Nat.zero_le _) (Nat.zero_le _) ⟨(by first | (unfold a_order; rw [if_pos h12]; first | done | rfl) | rfl | (simp only [a_order, if_pos h12]; first | done | rfl)), (by first | (unfold a_order; rw [if_pos h12]; first | done | rfl) | rfl | (simp only [a_order, if_pos h12]; first | done | rfl))⟩
set_option maxHeartbeats 4000000 in
set_option maxRecDepth 100000 in
theorem c_X3_readOrders_lp {x : zX} {g : zG} {q : Nat → Nat} (hn : zn x = 1) (C : zC x g RX3 cX3_readOrders (some .int) 6) : ∀ (k : Nat) (d : AD), a_ok d → zn32 (a_ord d) + k = 27 → zR x g (zE (some (.int (a_oloop k d).1)) (aW g q (a_oloop k d).2)) (0, 0) 10 [(0, .ref (q 0))] [] (aW g q d) := by
  intro k
  induction k with
  | zero =>
    intro d hd ho
    refine zR_aload_n C eX3_readOrders_10 0 rfl rfl ?_
    refine zR_get C fX3_22 eX3_readOrders_11 0 aW_g0 rfl ?_
    refine zR_bipush (v := 27) C eX3_readOrders_14 (by decide) ?_
    refine zR_icmp_ge C eX3_readOrders_16 (fun h16 => ?_) (fun h16 => ?_)
    · skip
      refine zR_aload_n C eX3_readOrders_69 0 rfl rfl ?_
      refine zR_get C fX3_19 eX3_readOrders_70 0 aW_g0 rfl ?_
      exact zR_iret C rfl rfl eX3_readOrders_73 (Nat.zero_le _) (Nat.zero_le _) ⟨rfl, rfl⟩
    · skip
      exact absurd h16 (by rw [hd.2.2.2.2.1, show zn32 (a_ord d) = 27 by omega]; decide)
  | succ k ih =>
    intro d hd ho
    have h1 := a_order_ok hd
    have h2 := a_next_ok h1.1 (by rw [h1.2.2.2]; omega)
    have h3 := a_sign_ok (c := 59) h2 (by decide)
    refine zR_aload_n C eX3_readOrders_10 0 rfl rfl ?_
    refine zR_get C fX3_22 eX3_readOrders_11 0 aW_g0 rfl ?_
    refine zR_bipush (v := 27) C eX3_readOrders_14 (by decide) ?_
    refine zR_icmp_ge C eX3_readOrders_16 (fun h16 => ?_) (fun h16 => ?_)
    · skip
      exact absurd (by rw [hd.2.2.2.2.1]; exact nI_lt (b := 27) (by omega) (by decide)) h16
    · skip
      refine zR_aload_n C eX3_readOrders_19 0 rfl rfl ?_
      refine zR_callV1 C kX3_32 eX3_readOrders_20 (c_X3_readOrder q _ hd (by omega)) rfl 0 3 aW_g0 rfl rfl _ aW_c aW_n rfl (by decide) (by decide) (Nat.le_of_ble_eq_true rfl) (Nat.zero_le _) (Nat.zero_le _) aW_f aW_r ?_
      refine zR_bfne C eX3_readOrders_23 (fun h23 => ?_) (fun h23 => ?_)
      · skip
        refine zR_aload_n C eX3_readOrders_31 0 rfl rfl ?_
        refine zR_dup C eX3_readOrders_32 rfl ?_
        refine zR_get C fX3_22 eX3_readOrders_33 0 aW_g0 rfl ?_
        refine zR_iconst (v := 1) C eX3_readOrders_36 (by decide) ?_
        refine zR_iadd C eX3_readOrders_37 ?_
        refine zR_put C pX3_22 eX3_readOrders_38 0 aW_g0 (Nat.le_of_ble_eq_true rfl) aW_s0_3 ?_
        refine zR_ws (aW g q (a_next (a_order d).2)) rfl ?_
        refine zR_aload_n C eX3_readOrders_41 0 rfl rfl ?_
        refine zR_get C fX3_19 eX3_readOrders_42 0 aW_g0 rfl ?_
        refine zR_aload_n C eX3_readOrders_45 0 rfl rfl ?_
        refine zR_get C fX3_15 eX3_readOrders_46 0 aW_g0 rfl ?_
        refine zR_icmp_lt C eX3_readOrders_49 (fun h49 => ?_) (fun h49 => ?_)
        · skip
          refine zR_aload_n C eX3_readOrders_55 0 rfl rfl ?_
          refine zR_bipush (v := 59) C eX3_readOrders_56 (by decide) ?_
          refine zR_callV1 C kX3_36 eX3_readOrders_58 (c_X3_readSign q _ _ (by exact h2)) rfl 0 3 aW_g0 rfl rfl _ aW_c aW_n rfl (by decide) (by decide) (Nat.le_of_ble_eq_true rfl) (Nat.zero_le _) (Nat.zero_le _) aW_f aW_r ?_
          refine zR_bfne C eX3_readOrders_61 (fun h61 => ?_) (fun h61 => ?_)
          · skip
            rw [a_oloop, if_pos h23, if_pos h49, if_pos h61]
            refine ih _ h3.1 ?_
            have e1 : a_ord (a_sign (a_next (a_order d).2) 59).2 = a_ord d + 1 := by rw [h3.2.2.2.2.1, (a_next_k _).2.2, h1.2.2.2]
            have e2 : zn32 (a_ord d + 1) = zn32 (a_ord d) + 1 := by
              show (a_ord d + 1).toNatClampNeg = _
              rw [show a_ord d + 1 = nI (zn32 (a_ord d) + 1) by rw [nI_succ, ← hd.2.2.2.2.1], nI_clamp (by omega)]
            rw [e1, e2]; omega
          · skip
            refine zR_aload_n C eX3_readOrders_64 0 rfl rfl ?_
            refine zR_get C fX3_19 eX3_readOrders_65 0 aW_g0 rfl ?_
            rw [a_oloop, if_pos h23, if_pos h49, if_neg h61]
            exact zR_iret C rfl rfl eX3_readOrders_68 (Nat.zero_le _) (Nat.zero_le _) ⟨rfl, rfl⟩
        · skip
          refine zR_bipush (v := -6) C eX3_readOrders_52 (by decide) ?_
          rw [a_oloop, if_pos h23, if_neg h49]
          exact zR_iret C rfl rfl eX3_readOrders_54 (Nat.zero_le _) (Nat.zero_le _) ⟨rfl, rfl⟩
      · skip
        refine zR_aload_n C eX3_readOrders_26 0 rfl rfl ?_
        refine zR_get C fX3_19 eX3_readOrders_27 0 aW_g0 rfl ?_
        rw [a_oloop, if_neg h23]
        exact zR_iret C rfl rfl eX3_readOrders_30 (Nat.zero_le _) (Nat.zero_le _) ⟨rfl, rfl⟩
set_option maxHeartbeats 400000 in
set_option maxRecDepth 100000 in
theorem c_X3_readOrders {l : Launch} {g : zG} (q : Nat → Nat) (d : AD)  (hd : a_ok0 d) : zM l g yX3_readOrders cX3_readOrders 1 (some .int) 6 0 0 [.ref (q 0)] (aW g q d) (zE (some (.int (a_orders d).1)) (aW g q (a_orders d).2)) := by
  refine zM_of (by decide +kernel) (Nat.le_of_ble_eq_true rfl) (fun x hl hn _ _ _ C => ?_)
  subst hl
  show zR x g _ (0, 0) 0 [(0, .ref (q 0))] [] _
  refine zR_aload_n C eX3_readOrders_0 0 rfl rfl ?_
  refine zR_iconst (v := 0) C eX3_readOrders_1 (by decide) ?_
  refine zR_put C pX3_19 eX3_readOrders_2 0 aW_g0 (Nat.le_of_ble_eq_true rfl) aW_s0_2 ?_
  refine zR_aload_n C eX3_readOrders_5 0 rfl rfl ?_
  refine zR_iconst (v := 0) C eX3_readOrders_6 (by decide) ?_
  refine zR_put C pX3_22 eX3_readOrders_7 0 aW_g0 (Nat.le_of_ble_eq_true rfl) aW_s0_3 ?_
  exact c_X3_readOrders_lp hn C 27 (a_sord (a_sat d 0) 0) (a_start_ok hd) (by show zn32 0 + 27 = 27; decide)
