/-! The house: the hour. -/
theorem vp_nI {v : Int32} {n : Nat} (h : vp_in v n) (hn : n < 2 ^ 31) : v = nI (zn32 v) ∧ zn32 v < n := by
  obtain ⟨j, hj, rfl⟩ := vp_in_of h hn
  have e : zn32 (nI j) = j := nI_clamp (by omega)
  exact ⟨by rw [e], by rw [e]; exact hj⟩
set_option maxHeartbeats 400000 in
set_option maxRecDepth 100000 in
theorem c_X1_fateOf {l : Launch} {g : zG} (q : Nat → Nat) (d : HD) (p : Nat) (hp : p < 30) : zM l g yX1_fateOf cX1_fateOf 3 (some .int) 1 0 0 [.ref (q 0), .int (nI p)] (hW g q d) (zE (some (.int (h_fate d p))) (hW g q d)) := by
  refine zM_of (by decide +kernel) (Nat.le_of_ble_eq_true rfl) (fun x hl hn _ _ _ C => ?_)
  subst hl
  show zR x g _ (0, 0) 0 [(0, .ref (q 0)), (1, .int (nI p))] [] _
  refine zR_aload_n C eX1_fateOf_0 0 rfl rfl ?_
  refine zR_get C fX1_23 eX1_fateOf_1 0 hW_g0 rfl ?_
  refine zR_aload_n C eX1_fateOf_4 0 rfl rfl ?_
  refine zR_get C fX1_68 eX1_fateOf_5 0 hW_g0 rfl ?_
  refine zR_get C fX1_185 eX1_fateOf_8 14 hW_g14 rfl ?_
  refine zR_iload_n C eX1_fateOf_11 1 rfl rfl ?_
  refine zR_ialdN C eX1_fateOf_12 16 hW_g16 ⟨hp, by decide⟩ ?_
  refine zR_isub C eX1_fateOf_13 ?_
  refine zR_istore_n (lv' := [(2, _), (0, _), (1, _)]) C eX1_fateOf_14 rfl (by rw [hn]; decide) rfl ?_
  refine zR_iload_n C eX1_fateOf_15 0 rfl rfl ?_
  refine zR_ifge C eX1_fateOf_16 (fun h16 => ?_) (fun h16 => ?_)
  · skip
    refine zR_aload_n C eX1_fateOf_21 1 rfl rfl ?_
    refine zR_aload_n C eX1_fateOf_22 1 rfl rfl ?_
    refine zR_get C fX1_68 eX1_fateOf_23 0 hW_g0 rfl ?_
    refine zR_get C fX1_172 eX1_fateOf_26 14 hW_g14 rfl ?_
    refine zR_iload_n C eX1_fateOf_29 2 rfl rfl ?_
    refine zR_ialdN C eX1_fateOf_30 15 hW_g15 ⟨hp, by decide⟩ ?_
    refine zR_callV1 C kX1_96 eX1_fateOf_31 (c_X1_isFrozen q _ _ ) rfl 0 1 hW_g0 rfl rfl _ hW_c hW_n rfl (by decide) (by decide) (Nat.le_of_ble_eq_true rfl) (Nat.zero_le _) (Nat.zero_le _) hW_f hW_r ?_
    refine zR_bfne C eX1_fateOf_34 (fun h34 => ?_) (fun h34 => ?_)
    · skip
      refine zR_iload_n C eX1_fateOf_39 0 rfl rfl ?_
      refine zR_aload_n C eX1_fateOf_40 1 rfl rfl ?_
      refine zR_get C fX1_18 eX1_fateOf_41 0 hW_g0 rfl ?_
      refine zR_iconst (v := 5) C eX1_fateOf_44 (by decide) ?_
      refine zR_ialdK C eX1_fateOf_45 1 hW_g1 5 rfl (vp_in_iff.mpr (by decide)) ?_
      refine zR_icmp_lt C eX1_fateOf_46 (fun h46 => ?_) (fun h46 => ?_)
      · skip
        refine zR_iconst (v := 0) C eX1_fateOf_53 (by decide) ?_
        exact zR_iret C rfl rfl eX1_fateOf_54 (Nat.zero_le _) (Nat.zero_le _) ⟨(by first | (unfold h_fate; rw [if_neg h16, if_pos h34, if_pos h46]; first | done | rfl) | rfl | (simp only [h_fate, if_neg h16, if_pos h34, if_pos h46]; first | done | rfl)), (by first | (unfold h_fate; rw [if_neg h16, if_pos h34, if_pos h46]; first | done | rfl) | rfl | (simp only [h_fate, if_neg h16, if_pos h34, if_pos h46]; first | done | rfl))⟩
      · skip
        refine zR_iconst (v := 2) C eX1_fateOf_49 (by decide) ?_
        refine zR_goto C eX1_fateOf_50 ?_
        exact zR_iret C rfl rfl eX1_fateOf_54 (Nat.zero_le _) (Nat.zero_le _) ⟨(by first | (unfold h_fate; rw [if_neg h16, if_pos h34, if_neg h46]; first | done | rfl) | rfl | (simp only [h_fate, if_neg h16, if_pos h34, if_neg h46]; first | done | rfl)), (by first | (unfold h_fate; rw [if_neg h16, if_pos h34, if_neg h46]; first | done | rfl) | rfl | (simp only [h_fate, if_neg h16, if_pos h34, if_neg h46]; first | done | rfl))⟩
    · skip
      refine zR_iconst (v := 1) C eX1_fateOf_37 (by decide) ?_
      exact zR_iret C rfl rfl eX1_fateOf_38 (Nat.zero_le _) (Nat.zero_le _) ⟨(by first | (unfold h_fate; rw [if_neg h16, if_neg h34]; first | done | rfl) | rfl | (simp only [h_fate, if_neg h16, if_neg h34]; first | done | rfl)), (by first | (unfold h_fate; rw [if_neg h16, if_neg h34]; first | done | rfl) | rfl | (simp only [h_fate, if_neg h16, if_neg h34]; first | done | rfl))⟩
  · skip
    refine zR_iconst (v := 0) C eX1_fateOf_19 (by decide) ?_
    exact zR_iret C rfl rfl eX1_fateOf_20 (Nat.zero_le _) (Nat.zero_le _) ⟨(by first | (unfold h_fate; rw [if_pos h16]; first | done | rfl) | rfl | (simp only [h_fate, if_pos h16]; first | done | rfl)), (by first | (unfold h_fate; rw [if_pos h16]; first | done | rfl) | rfl | (simp only [h_fate, if_pos h16]; first | done | rfl))⟩
set_option maxHeartbeats 400000 in
set_option maxRecDepth 100000 in
theorem c_X1_beginWindow_lp {x : zX} {g : zG} {q : Nat → Nat} {d : HD} (hn : zn x = 6) (C : zC x g RX1 cX1_beginWindow none 2) (hd : zok (h_cnt d) 8) : ∀ k i : Nat, i + k = zn32 (h_cnt d) → zR x g (zE none (hW g q (h_begin d))) (0, 0) 20 [(0, .ref (q 0)), (1, .int (nI i))] [] (hW g q (zit h_gstep (h_beg0 d) i)) := by
  intro k
  induction k with
  | zero =>
    intro i hk
    have hi : i = zn32 (h_cnt d) := by omega
    have hm := (h_begin_k d i).2.2
    have hok : zok (h_cnt (zit h_gstep (h_beg0 d) i)) 8 := by rw [hm]; exact hd
    have hi1 : i = zn32 (h_cnt (zit h_gstep (h_beg0 d) i)) := by rw [hm]; exact hi
    refine zR_iload_n C eX1_beginWindow_20 1 rfl rfl ?_
    refine zR_aload_n C eX1_beginWindow_21 0 rfl rfl ?_
    refine zR_get C fX1_33 eX1_beginWindow_22 0 hW_g0 rfl ?_
    refine zR_icmp_ge C eX1_beginWindow_25 (fun h25 => ?_) (fun h25 => ?_)
    · skip
      subst hi
      exact zR_vret C rfl eX1_beginWindow_108 (Nat.zero_le _) (Nat.zero_le _) ⟨rfl, rfl⟩
    · skip
      exact absurd h25 (zlp_out hok hi1)
  | succ k ih =>
    intro i hk
    have hlt : i < zn32 (h_cnt d) := by omega
    have hm := (h_begin_k d i).2.2
    have hok : zok (h_cnt (zit h_gstep (h_beg0 d) i)) 8 := by rw [hm]; exact hd
    have hlt1 : i < zn32 (h_cnt (zit h_gstep (h_beg0 d) i)) := by rw [hm]; exact hlt
    have hi8 : i < 8 := (zok_lt hok hlt1 (by decide)).1
    refine zR_iload_n C eX1_beginWindow_20 1 rfl rfl ?_
    refine zR_aload_n C eX1_beginWindow_21 0 rfl rfl ?_
    refine zR_get C fX1_33 eX1_beginWindow_22 0 hW_g0 rfl ?_
    refine zR_icmp_ge C eX1_beginWindow_25 (fun h25 => ?_) (fun h25 => ?_)
    · skip
      exact absurd (zlp_in hok (by decide) hlt1) h25
    · skip
      refine zR_lconst (v := 0) C eX1_beginWindow_28 (by decide) ?_
      refine zR_aload_n C eX1_beginWindow_29 0 rfl rfl ?_
      refine zR_iload_n C eX1_beginWindow_30 1 rfl rfl ?_
      refine zR_bipush (v := 8) C eX1_beginWindow_31 (by decide) ?_
      refine zR_callV1 C kX1_92 eX1_beginWindow_33 (c_X1_minutesOf q _ _ _ (vp_in_nI hi8 (by decide)) (vp_in_iff.mpr (by decide))) rfl 0 1 hW_g0 rfl rfl _ hW_c hW_n rfl (by decide) (by decide) (Nat.le_of_ble_eq_true rfl) (Nat.zero_le _) (Nat.zero_le _) hW_f hW_r ?_
      refine zR_mmaxl C kX1_140 eX1_beginWindow_36 (by decide) (Nat.le_of_ble_eq_true rfl) (Nat.zero_le _) (Nat.zero_le _) ?_
      refine zR_topl (b := h_left0 (zit h_gstep (h_beg0 d) i) (nI i)) rfl ?_
      refine zR_lstore_n (lv' := [(2, _), (0, _), (1, _)]) C eX1_beginWindow_39 rfl (by rw [hn]; decide) rfl ?_
      refine zR_lload_n C eX1_beginWindow_40 0 rfl rfl ?_
      refine zR_aload_n C eX1_beginWindow_41 1 rfl rfl ?_
      refine zR_get C fX1_39 eX1_beginWindow_42 0 hW_g0 rfl ?_
      refine zR_iload_n C eX1_beginWindow_45 2 rfl rfl ?_
      refine zR_ialdN C eX1_beginWindow_46 2 hW_g2 ⟨hi8, by decide⟩ ?_
      refine zR_i2l C eX1_beginWindow_47 ?_
      refine zR_mminl C kX1_118 eX1_beginWindow_48 (by decide) (Nat.le_of_ble_eq_true rfl) (Nat.zero_le _) (Nat.zero_le _) ?_
      refine zR_aload_n C eX1_beginWindow_51 1 rfl rfl ?_
      refine zR_get C fX1_18 eX1_beginWindow_52 0 hW_g0 rfl ?_
      refine zR_iconst (v := 1) C eX1_beginWindow_55 (by decide) ?_
      refine zR_ialdK C eX1_beginWindow_56 1 hW_g1 1 rfl (vp_in_iff.mpr (by decide)) ?_
      refine zR_i2l C eX1_beginWindow_57 ?_
      refine zR_lmul C eX1_beginWindow_58 ?_
      refine zR_ldc2 C qX1_143 eX1_beginWindow_59 ?_
      refine zR_ldiv C eX1_beginWindow_62 (by decide) ?_
      refine zR_topl (b := h_carry (zit h_gstep (h_beg0 d) i) i (h_left0 (zit h_gstep (h_beg0 d) i) (nI i))) rfl ?_
      refine zR_lstore (lv' := [(4, _), (2, _), (0, _), (1, _)]) C eX1_beginWindow_63 (by rw [hn]; decide) rfl ?_
      refine zR_aload_n C eX1_beginWindow_65 2 rfl rfl ?_
      refine zR_iload_n C eX1_beginWindow_66 3 rfl rfl ?_
      refine zR_bipush (v := 7) C eX1_beginWindow_67 (by decide) ?_
      refine zR_lload_n C eX1_beginWindow_69 1 rfl rfl ?_
      refine zR_lload C eX1_beginWindow_70 0 rfl ?_
      refine zR_lsub C eX1_beginWindow_72 ?_
      refine zR_callVv C kX1_89 eX1_beginWindow_73 (c_X1_enter q _ _ _ _ (vp_in_nI hi8 (by decide)) (vp_in_iff.mpr (by decide))) rfl 0 1 hW_g0 rfl rfl _ hW_c hW_n rfl (by decide) (by decide) (Nat.le_of_ble_eq_true rfl) (Nat.zero_le _) (Nat.zero_le _) hW_f hW_r ?_
      refine zR_ws (hW g q (h_gr1 (zit h_gstep (h_beg0 d) i) i)) rfl ?_
      refine zR_aload_n C eX1_beginWindow_76 2 rfl rfl ?_
      refine zR_iload_n C eX1_beginWindow_77 3 rfl rfl ?_
      refine zR_iconst (v := 0) C eX1_beginWindow_78 (by decide) ?_
      refine zR_aload_n C eX1_beginWindow_79 2 rfl rfl ?_
      refine zR_get C fX1_39 eX1_beginWindow_80 0 hW_g0 rfl ?_
      refine zR_iload_n C eX1_beginWindow_83 3 rfl rfl ?_
      refine zR_ialdN C eX1_beginWindow_84 2 hW_g2 ⟨hi8, by decide⟩ ?_
      refine zR_i2l C eX1_beginWindow_85 ?_
      refine zR_callVv C kX1_85 eX1_beginWindow_86 (c_X1_book q _ _ _ _ (vp_in_nI hi8 (by decide)) (vp_in_iff.mpr (by decide))) rfl 0 1 hW_g0 rfl rfl _ hW_c hW_n rfl (by decide) (by decide) (Nat.le_of_ble_eq_true rfl) (Nat.zero_le _) (Nat.zero_le _) hW_f hW_r ?_
      refine zR_ws (hW g q (h_gr2 (h_gr1 (zit h_gstep (h_beg0 d) i) i) i)) rfl ?_
      refine zR_aload_n C eX1_beginWindow_89 2 rfl rfl ?_
      refine zR_get C fX1_42 eX1_beginWindow_90 0 hW_g0 rfl ?_
      refine zR_iload_n C eX1_beginWindow_93 3 rfl rfl ?_
      refine zR_aload_n C eX1_beginWindow_94 2 rfl rfl ?_
      refine zR_get C fX1_18 eX1_beginWindow_95 0 hW_g0 rfl ?_
      refine zR_bipush (v := 7) C eX1_beginWindow_98 (by decide) ?_
      refine zR_ialdK C eX1_beginWindow_100 1 hW_g1 7 rfl (vp_in_iff.mpr (by decide)) ?_
      refine zR_iastN C eX1_beginWindow_101 3 hW_g3 ⟨hi8, by decide⟩ hW_s3 ?_
      refine zR_iinc (lv' := [(1, _), (4, _), (2, _), (0, _)]) (v' := nI (i + 1)) C eX1_beginWindow_102 3 rfl (zinc i) (by rw [hn]; decide) rfl ?_
      refine zR_goto C eX1_beginWindow_105 ?_
      refine zR_lv [(0, _), (1, _)] [3, 0] rfl ?_
      exact ih (i + 1) (by omega)
set_option maxHeartbeats 400000 in
set_option maxRecDepth 100000 in
theorem c_X1_beginWindow {l : Launch} {g : zG} (q : Nat → Nat) (d : HD)  (hd : zok (h_cnt d) 8) : zM l g yX1_beginWindow cX1_beginWindow 6 none 2 0 0 [.ref (q 0)] (hW g q d) (zE none (hW g q (h_begin d))) := by
  refine zM_of (by decide +kernel) (Nat.le_of_ble_eq_true rfl) (fun x hl hn _ _ _ C => ?_)
  subst hl
  show zR x g _ (0, 0) 0 [(0, .ref (q 0))] [] _
  refine zR_aload_n C eX1_beginWindow_0 0 rfl rfl ?_
  refine zR_dup C eX1_beginWindow_1 rfl ?_
  refine zR_get C fX1_27 eX1_beginWindow_2 0 hW_g0 rfl ?_
  refine zR_iconst (v := 1) C eX1_beginWindow_5 (by decide) ?_
  refine zR_iadd C eX1_beginWindow_6 ?_
  refine zR_put C pX1_27 eX1_beginWindow_7 0 hW_g0 (Nat.le_of_ble_eq_true rfl) hW_s0_2 ?_
  refine zR_aload_n C eX1_beginWindow_10 0 rfl rfl ?_
  refine zR_aload_n C eX1_beginWindow_11 0 rfl rfl ?_
  refine zR_get C fX1_23 eX1_beginWindow_12 0 hW_g0 rfl ?_
  refine zR_put C pX1_30 eX1_beginWindow_15 0 hW_g0 (Nat.le_of_ble_eq_true rfl) hW_s0_3 ?_
  refine zR_iconst (v := 0) C eX1_beginWindow_18 (by decide) ?_
  refine zR_istore_n (lv' := [(1, _), (0, _)]) C eX1_beginWindow_19 rfl (by rw [hn]; decide) rfl ?_
  refine zR_ws (hW g q (zit h_gstep (h_beg0 d) 0)) rfl ?_
  refine zR_lv [(0, _), (1, .int (nI 0))] [1, 0] rfl ?_
  exact c_X1_beginWindow_lp hn C hd _ 0 (Nat.zero_add _)
set_option maxHeartbeats 400000 in
set_option maxRecDepth 100000 in
theorem c_X1_payDueLoans_lp {x : zX} {g : zG} {q : Nat → Nat} {d : HD} (hn : zn x = 3) (C : zC x g RX1 cX1_payDueLoans none 3) (hd : h_ok d) : ∀ k i : Nat, i + k = zn32 (l_num (h_lo d)) → zR x g (zE none (hW g q (h_due d))) (0, 0) 2 [(0, .ref (q 0)), (1, .int (nI i))] [] (hW g q (h_dloop d i)) := by
  intro k
  induction k with
  | zero =>
    intro i hk
    have hi : i = zn32 (l_num (h_lo d)) := by omega
    have hm := h_dloop_ok hd i
    have hok : zok (l_num (h_lo (h_dloop d i))) 40 := hm.1.2.1.1
    have hi1 : i = zn32 (l_num (h_lo (h_dloop d i))) := by rw [hm.2]; exact hi
    refine zR_iload_n C eX1_payDueLoans_2 1 rfl rfl ?_
    refine zR_aload_n C eX1_payDueLoans_3 0 rfl rfl ?_
    refine zR_get C fX1_61 eX1_payDueLoans_4 0 hW_g0 rfl ?_
    refine zR_get C fX1_145 eX1_payDueLoans_7 8 hW_g8 rfl ?_
    refine zR_icmp_ge C eX1_payDueLoans_10 (fun h10 => ?_) (fun h10 => ?_)
    · skip
      refine zR_aload_n C eX1_payDueLoans_92 0 rfl rfl ?_
      refine zR_get C fX1_61 eX1_payDueLoans_93 0 hW_g0 rfl ?_
      refine zR_callVv C kX1_159 eX1_payDueLoans_96 (c_X2_removePaid (fun j => q (8 + j)) _ (by exact hok)) rfl 8 2 hW_g8 rfl rfl _ hW_c8 hW_n8 rfl (by decide) (by decide) (Nat.le_of_ble_eq_true rfl) (Nat.zero_le _) (Nat.zero_le _) lW_f hW_r8 ?_
      subst hi
      exact zR_vret C rfl eX1_payDueLoans_99 (Nat.zero_le _) (Nat.zero_le _) ⟨rfl, rfl⟩
    · skip
      exact absurd h10 (zlp_out hok hi1)
  | succ k ih =>
    intro i hk
    have hlt : i < zn32 (l_num (h_lo d)) := by omega
    have hm := h_dloop_ok hd i
    have hok : zok (l_num (h_lo (h_dloop d i))) 40 := hm.1.2.1.1
    have hlt1 : i < zn32 (l_num (h_lo (h_dloop d i))) := by rw [hm.2]; exact hlt
    refine zR_iload_n C eX1_payDueLoans_2 1 rfl rfl ?_
    refine zR_aload_n C eX1_payDueLoans_3 0 rfl rfl ?_
    refine zR_get C fX1_61 eX1_payDueLoans_4 0 hW_g0 rfl ?_
    refine zR_get C fX1_145 eX1_payDueLoans_7 8 hW_g8 rfl ?_
    refine zR_icmp_ge C eX1_payDueLoans_10 (fun h10 => ?_) (fun h10 => ?_)
    · skip
      exact absurd (zlp_in hok (by decide) hlt1) h10
    · skip
      refine zR_aload_n C eX1_payDueLoans_13 0 rfl rfl ?_
      refine zR_get C fX1_61 eX1_payDueLoans_14 0 hW_g0 rfl ?_
      refine zR_get C fX1_148 eX1_payDueLoans_17 8 hW_g8 rfl ?_
      refine zR_iload_n C eX1_payDueLoans_20 1 rfl rfl ?_
      refine zR_ialdN C eX1_payDueLoans_21 13 hW_g13 (zok_lt hok hlt1 (by decide)) ?_
      refine zR_aload_n C eX1_payDueLoans_22 0 rfl rfl ?_
      refine zR_get C fX1_27 eX1_payDueLoans_23 0 hW_g0 rfl ?_
      refine zR_icmp_gt C eX1_payDueLoans_26 (fun h26 => ?_) (fun h26 => ?_)
      · skip
        refine zR_iinc (lv' := [(1, _), (0, _)]) (v' := nI (i + 1)) C eX1_payDueLoans_86 1 rfl (zinc i) (by rw [hn]; decide) rfl ?_
        refine zR_goto C eX1_payDueLoans_89 ?_
        have e1 : h_dloop d (i + 1) = (h_dloop d i) := if_neg h26
        refine zR_ws (hW g q (h_dloop d (i + 1))) (by rw [e1] <;> rfl) ?_
        refine zR_lv [(0, _), (1, _)] [1, 0] rfl ?_
        exact ih (i + 1) (by omega)
      · skip
        refine zR_aload_n C eX1_payDueLoans_29 0 rfl rfl ?_
        refine zR_iload_n C eX1_payDueLoans_30 1 rfl rfl ?_
        refine zR_callVv C kX1_151 eX1_payDueLoans_31 (c_X1_payBack q _ _ (by exact (zok_lt hok hlt1 (by decide)).1) (by exact (hm.1.2.1.2 i hlt1).2) (by exact (hm.1.2.1.2 i hlt1).1)) rfl 0 1 hW_g0 rfl rfl _ hW_c hW_n rfl (by decide) (by decide) (Nat.le_of_ble_eq_true rfl) (Nat.zero_le _) (Nat.zero_le _) hW_f hW_r ?_
        refine zR_aload_n C eX1_payDueLoans_34 0 rfl rfl ?_
        refine zR_get C fX1_61 eX1_payDueLoans_35 0 hW_g0 rfl ?_
        refine zR_get C fX1_115 eX1_payDueLoans_38 8 hW_g8 rfl ?_
        refine zR_iload_n C eX1_payDueLoans_41 1 rfl rfl ?_
        refine zR_ialdN C eX1_payDueLoans_42 12 hW_g12 (zok_lt hok hlt1 (by decide)) ?_
        refine zR_istore_n (lv' := [(2, _), (0, _), (1, _)]) C eX1_payDueLoans_43 rfl (by rw [hn]; decide) rfl ?_
        refine zR_aload_n C eX1_payDueLoans_44 1 rfl rfl ?_
        refine zR_get C fX1_61 eX1_payDueLoans_45 0 hW_g0 rfl ?_
        refine zR_get C fX1_115 eX1_payDueLoans_48 8 hW_g8 rfl ?_
        refine zR_iload_n C eX1_payDueLoans_51 2 rfl rfl ?_
        refine zR_ldc C qX1_155 eX1_payDueLoans_52 ?_
        refine zR_iload_n C eX1_payDueLoans_54 0 rfl rfl ?_
        refine zR_iload_n C eX1_payDueLoans_55 0 rfl rfl ?_
        refine zR_aload_n C eX1_payDueLoans_56 1 rfl rfl ?_
        refine zR_get C fX1_18 eX1_payDueLoans_57 0 hW_g0 rfl ?_
        refine zR_iconst (v := 4) C eX1_payDueLoans_60 (by decide) ?_
        refine zR_ialdK C eX1_payDueLoans_61 1 hW_g1 4 rfl (vp_in_iff.mpr (by decide)) ?_
        refine zR_imul C eX1_payDueLoans_62 ?_
        refine zR_bipush (v := 100) C eX1_payDueLoans_63 (by decide) ?_
        refine zR_idiv C eX1_payDueLoans_65 (by decide) ?_
        refine zR_iadd C eX1_payDueLoans_66 ?_
        refine zR_mmini C kX1_156 eX1_payDueLoans_67 (by decide) (Nat.le_of_ble_eq_true rfl) (Nat.zero_le _) (Nat.zero_le _) ?_
        refine zR_iastN C eX1_payDueLoans_70 12 hW_g12 (zok_lt hok hlt1 (by decide)) hW_s12 ?_
        refine zR_ws (hW g q (h_due1 (h_pay (h_dloop d i) i) i)) rfl ?_
        refine zR_aload_n C eX1_payDueLoans_71 1 rfl rfl ?_
        refine zR_get C fX1_61 eX1_payDueLoans_72 0 hW_g0 rfl ?_
        refine zR_get C fX1_148 eX1_payDueLoans_75 8 hW_g8 rfl ?_
        refine zR_iload_n C eX1_payDueLoans_78 2 rfl rfl ?_
        refine zR_aload_n C eX1_payDueLoans_79 1 rfl rfl ?_
        refine zR_get C fX1_27 eX1_payDueLoans_80 0 hW_g0 rfl ?_
        refine zR_iconst (v := 1) C eX1_payDueLoans_83 (by decide) ?_
        refine zR_iadd C eX1_payDueLoans_84 ?_
        refine zR_iastN C eX1_payDueLoans_85 13 hW_g13 (zok_lt hok hlt1 (by decide)) hW_s13 ?_
        refine zR_iinc (lv' := [(1, _), (2, _), (0, _)]) (v' := nI (i + 1)) C eX1_payDueLoans_86 2 rfl (zinc i) (by rw [hn]; decide) rfl ?_
        refine zR_goto C eX1_payDueLoans_89 ?_
        have e1 : h_dloop d (i + 1) = h_due2 (h_due1 (h_pay (h_dloop d i) i) i) i := if_pos h26
        refine zR_ws (hW g q (h_dloop d (i + 1))) (by rw [e1] <;> rfl) ?_
        refine zR_lv [(0, _), (1, _)] [2, 0] rfl ?_
        exact ih (i + 1) (by omega)
set_option maxHeartbeats 400000 in
set_option maxRecDepth 100000 in
theorem c_X1_payDueLoans {l : Launch} {g : zG} (q : Nat → Nat) (d : HD)  (hd : h_ok d) : zM l g yX1_payDueLoans cX1_payDueLoans 3 none 3 0 0 [.ref (q 0)] (hW g q d) (zE none (hW g q (h_due d))) := by
  refine zM_of (by decide +kernel) (Nat.le_of_ble_eq_true rfl) (fun x hl hn _ _ _ C => ?_)
  subst hl
  show zR x g _ (0, 0) 0 [(0, .ref (q 0))] [] _
  refine zR_iconst (v := 0) C eX1_payDueLoans_0 (by decide) ?_
  refine zR_istore_n (lv' := [(1, _), (0, _)]) C eX1_payDueLoans_1 rfl (by rw [hn]; decide) rfl ?_
  refine zR_ws (hW g q (h_dloop d 0)) rfl ?_
  refine zR_lv [(0, _), (1, .int (nI 0))] [1, 0] rfl ?_
  exact c_X1_payDueLoans_lp hn C hd _ 0 (Nat.zero_add _)
set_option maxHeartbeats 400000 in
set_option maxRecDepth 100000 in
theorem c_X1_takePlans_lp {x : zX} {g : zG} {q : Nat → Nat} {d : HD} (hn : zn x = 5) (C : zC x g RX1 cX1_takePlans none 3) (hd : h_ok d) : ∀ k i : Nat, i + k = zn32 (p_num (h_pl d)) → zR x g (zE none (hW g q (h_take d))) (0, 0) 4 [(0, .ref (q 0)), (1, .int (zB (h_tloop d i).2)), (2, .int (nI i))] [] (hW g q (h_tloop d i).1) := by
  intro k
  induction k with
  | zero =>
    intro i hk
    have hi : i = zn32 (p_num (h_pl d)) := by omega
    have hm := h_tloop_k d i
    have ho := h_tloop_ok hd i
    have hok : zok (p_num (h_pl (h_tloop d i).1)) 30 := ho.2.2.1
    have hi1 : i = zn32 (p_num (h_pl (h_tloop d i).1)) := by rw [hm.2.2.1]; exact hi
    refine zR_iload_n C eX1_takePlans_4 2 rfl rfl ?_
    refine zR_aload_n C eX1_takePlans_5 0 rfl rfl ?_
    refine zR_get C fX1_68 eX1_takePlans_6 0 hW_g0 rfl ?_
    refine zR_get C fX1_162 eX1_takePlans_9 14 hW_g14 rfl ?_
    refine zR_icmp_ge C eX1_takePlans_12 (fun h12 => ?_) (fun h12 => ?_)
    · skip
      refine zR_iload_n C eX1_takePlans_119 1 rfl rfl ?_
      refine zR_bfeq C eX1_takePlans_120 (fun h120 => ?_) (fun h120 => ?_)
      · skip
        subst hi
        exact zR_vret C rfl eX1_takePlans_130 (Nat.zero_le _) (Nat.zero_le _) ⟨rfl, by unfold h_take; rw [if_neg h120]⟩
      · skip
        refine zR_aload_n C eX1_takePlans_123 0 rfl rfl ?_
        refine zR_get C fX1_68 eX1_takePlans_124 0 hW_g0 rfl ?_
        refine zR_callVv C kX1_182 eX1_takePlans_127 (c_X4_removeEnded (fun j => q (14 + j)) _ (by exact hok)) rfl 14 4 hW_g14 rfl rfl _ hW_c14 hW_n14 rfl (by decide) (by decide) (Nat.le_of_ble_eq_true rfl) (Nat.zero_le _) (Nat.zero_le _) pW_f hW_r14 ?_
        subst hi
        exact zR_vret C rfl eX1_takePlans_130 (Nat.zero_le _) (Nat.zero_le _) ⟨rfl, by unfold h_take; rw [if_pos h120]⟩
    · skip
      exact absurd h12 (zlp_out hok hi1)
  | succ k ih =>
    intro i hk
    have hlt : i < zn32 (p_num (h_pl d)) := by omega
    have hm := h_tloop_k d i
    have ho := h_tloop_ok hd i
    have hok : zok (p_num (h_pl (h_tloop d i).1)) 30 := ho.2.2.1
    have hlt1 : i < zn32 (p_num (h_pl (h_tloop d i).1)) := by rw [hm.2.2.1]; exact hlt
    obtain ⟨hpe, hpn⟩ := vp_nI (ho.2.2.2 i hlt1).2 (by have := hok.2; omega)
    have hp30 : (zn32 (p_turn (h_pl (h_tloop d i).1) i)) < 30 := Nat.lt_of_lt_of_le hpn hok.2
    have hsv : vp_in (p_srv (h_pl (h_tloop d i).1) (zn32 (p_turn (h_pl (h_tloop d i).1) i))) 8 := (ho.2.2.2 _ hpn).1
    refine zR_iload_n C eX1_takePlans_4 2 rfl rfl ?_
    refine zR_aload_n C eX1_takePlans_5 0 rfl rfl ?_
    refine zR_get C fX1_68 eX1_takePlans_6 0 hW_g0 rfl ?_
    refine zR_get C fX1_162 eX1_takePlans_9 14 hW_g14 rfl ?_
    refine zR_icmp_ge C eX1_takePlans_12 (fun h12 => ?_) (fun h12 => ?_)
    · skip
      exact absurd (zlp_in hok (by decide) hlt1) h12
    · skip
      refine zR_aload_n C eX1_takePlans_15 0 rfl rfl ?_
      refine zR_get C fX1_68 eX1_takePlans_16 0 hW_g0 rfl ?_
      refine zR_get C fX1_163 eX1_takePlans_19 14 hW_g14 rfl ?_
      refine zR_iload_n C eX1_takePlans_22 2 rfl rfl ?_
      refine zR_ialdN C eX1_takePlans_23 20 hW_g20 (zok_lt hok hlt1 (by decide)) ?_
      refine zR_topi hpe ?_
      refine zR_istore_n (lv' := [(3, _), (0, _), (1, _), (2, _)]) C eX1_takePlans_24 rfl (by rw [hn]; decide) rfl ?_
      refine zR_aload_n C eX1_takePlans_25 1 rfl rfl ?_
      refine zR_iload_n C eX1_takePlans_26 0 rfl rfl ?_
      refine zR_callV1 C kX1_166 eX1_takePlans_27 (c_X1_fateOf q _ _ hp30) rfl 0 1 hW_g0 rfl rfl _ hW_c hW_n rfl (by decide) (by decide) (Nat.le_of_ble_eq_true rfl) (Nat.zero_le _) (Nat.zero_le _) hW_f hW_r ?_
      refine zR_istore (lv' := [(4, _), (3, _), (0, _), (1, _), (2, _)]) C eX1_takePlans_30 (by rw [hn]; decide) rfl ?_
      refine zR_aload_n C eX1_takePlans_32 2 rfl rfl ?_
      refine zR_get C fX1_68 eX1_takePlans_33 0 hW_g0 rfl ?_
      refine zR_get C fX1_169 eX1_takePlans_36 14 hW_g14 rfl ?_
      refine zR_iload_n C eX1_takePlans_39 1 rfl rfl ?_
      refine zR_iload C eX1_takePlans_40 0 rfl ?_
      refine zR_iastN C eX1_takePlans_42 19 hW_g19 ⟨hp30, by decide⟩ hW_s19 ?_
      refine zR_ws (hW g q (h_t1 (h_tloop d i).1 (zn32 (p_turn (h_pl (h_tloop d i).1) i)))) rfl ?_
      refine zR_iload C eX1_takePlans_43 0 rfl ?_
      refine zR_iconst (v := 1) C eX1_takePlans_45 (by decide) ?_
      refine zR_icmp_ne C eX1_takePlans_46 (fun h46 => ?_) (fun h46 => ?_)
      · skip
        refine zR_iload C eX1_takePlans_74 0 rfl ?_
        refine zR_iconst (v := 2) C eX1_takePlans_76 (by decide) ?_
        refine zR_icmp_ne C eX1_takePlans_77 (fun h77 => ?_) (fun h77 => ?_)
        · skip
          refine zR_iload_n C eX1_takePlans_98 3 rfl rfl ?_
          refine zR_bfne C eX1_takePlans_99 (fun h99 => ?_) (fun h99 => ?_)
          · skip
            refine zR_iconst (v := 1) C eX1_takePlans_107 (by decide) ?_
            refine zR_goto C eX1_takePlans_108 ?_
            refine zR_istore_n (lv' := [(1, _), (4, _), (3, _), (0, _), (2, _)]) C eX1_takePlans_112 rfl (by rw [hn]; decide) rfl ?_
            refine zR_iinc (lv' := [(2, _), (1, _), (4, _), (3, _), (0, _)]) (v' := nI (i + 1)) C eX1_takePlans_113 4 rfl (zinc i) (by rw [hn]; decide) rfl ?_
            refine zR_goto C eX1_takePlans_116 ?_
            have e1 : h_tloop d (i + 1) = (h_t1 (h_tloop d i).1 (zn32 (p_turn (h_pl (h_tloop d i).1) i)), true) := by
              show h_tstep i (h_tloop d i) = _
              unfold h_tstep
              dsimp only
              rw [if_neg h46, if_neg h77, if_pos h99]
            refine zR_lv [(0, .ref (q 0)), (1, .int (zB (h_tloop d (i + 1)).2)), (2, .int (nI (i + 1)))] [4, 1, 0] (by rw [e1] <;> rfl) ?_
            refine zR_ws (hW g q (h_tloop d (i + 1)).1) (by rw [e1] <;> rfl) ?_
            exact ih (i + 1) (by omega)
          · skip
            refine zR_iload C eX1_takePlans_102 0 rfl ?_
            refine zR_ifeq C eX1_takePlans_104 (fun h104 => ?_) (fun h104 => ?_)
            · skip
              refine zR_iconst (v := 0) C eX1_takePlans_111 (by decide) ?_
              refine zR_istore_n (lv' := [(1, _), (4, _), (3, _), (0, _), (2, _)]) C eX1_takePlans_112 rfl (by rw [hn]; decide) rfl ?_
              refine zR_iinc (lv' := [(2, _), (1, _), (4, _), (3, _), (0, _)]) (v' := nI (i + 1)) C eX1_takePlans_113 4 rfl (zinc i) (by rw [hn]; decide) rfl ?_
              refine zR_goto C eX1_takePlans_116 ?_
              have e1 : h_tloop d (i + 1) = (h_t1 (h_tloop d i).1 (zn32 (p_turn (h_pl (h_tloop d i).1) i)), false) := by
                show h_tstep i (h_tloop d i) = _
                unfold h_tstep
                dsimp only
                rw [if_neg h46, if_neg h77, if_neg h99, if_pos h104]
              refine zR_lv [(0, .ref (q 0)), (1, .int (zB (h_tloop d (i + 1)).2)), (2, .int (nI (i + 1)))] [4, 1, 0] (by rw [e1] <;> rfl) ?_
              refine zR_ws (hW g q (h_tloop d (i + 1)).1) (by rw [e1] <;> rfl) ?_
              exact ih (i + 1) (by omega)
            · skip
              refine zR_iconst (v := 1) C eX1_takePlans_107 (by decide) ?_
              refine zR_goto C eX1_takePlans_108 ?_
              refine zR_istore_n (lv' := [(1, _), (4, _), (3, _), (0, _), (2, _)]) C eX1_takePlans_112 rfl (by rw [hn]; decide) rfl ?_
              refine zR_iinc (lv' := [(2, _), (1, _), (4, _), (3, _), (0, _)]) (v' := nI (i + 1)) C eX1_takePlans_113 4 rfl (zinc i) (by rw [hn]; decide) rfl ?_
              refine zR_goto C eX1_takePlans_116 ?_
              have e1 : h_tloop d (i + 1) = (h_t1 (h_tloop d i).1 (zn32 (p_turn (h_pl (h_tloop d i).1) i)), true) := by
                show h_tstep i (h_tloop d i) = _
                unfold h_tstep
                dsimp only
                rw [if_neg h46, if_neg h77, if_neg h99, if_neg h104]
              refine zR_lv [(0, .ref (q 0)), (1, .int (zB (h_tloop d (i + 1)).2)), (2, .int (nI (i + 1)))] [4, 1, 0] (by rw [e1] <;> rfl) ?_
              refine zR_ws (hW g q (h_tloop d (i + 1)).1) (by rw [e1] <;> rfl) ?_
              exact ih (i + 1) (by omega)
        · skip
          refine zR_aload_n C eX1_takePlans_80 2 rfl rfl ?_
          refine zR_get C fX1_48 eX1_takePlans_81 0 hW_g0 rfl ?_
          refine zR_aload_n C eX1_takePlans_84 2 rfl rfl ?_
          refine zR_get C fX1_68 eX1_takePlans_85 0 hW_g0 rfl ?_
          refine zR_get C fX1_172 eX1_takePlans_88 14 hW_g14 rfl ?_
          refine zR_iload_n C eX1_takePlans_91 1 rfl rfl ?_
          refine zR_ialdN C eX1_takePlans_92 15 hW_g15 ⟨hp30, by decide⟩ ?_
          refine zR_dup2 C eX1_takePlans_93 rfl rfl ?_
          refine zR_iald C eX1_takePlans_94 5 hW_g5 hsv ?_
          refine zR_iconst (v := 1) C eX1_takePlans_95 (by decide) ?_
          refine zR_iadd C eX1_takePlans_96 ?_
          refine zR_iast C eX1_takePlans_97 5 hW_g5 hsv hW_s5 ?_
          refine zR_iload_n C eX1_takePlans_98 3 rfl rfl ?_
          refine zR_bfne C eX1_takePlans_99 (fun h99 => ?_) (fun h99 => ?_)
          · skip
            refine zR_iconst (v := 1) C eX1_takePlans_107 (by decide) ?_
            refine zR_goto C eX1_takePlans_108 ?_
            refine zR_istore_n (lv' := [(1, _), (4, _), (3, _), (0, _), (2, _)]) C eX1_takePlans_112 rfl (by rw [hn]; decide) rfl ?_
            refine zR_iinc (lv' := [(2, _), (1, _), (4, _), (3, _), (0, _)]) (v' := nI (i + 1)) C eX1_takePlans_113 4 rfl (zinc i) (by rw [hn]; decide) rfl ?_
            refine zR_goto C eX1_takePlans_116 ?_
            have e1 : h_tloop d (i + 1) = (h_sdrp (h_t1 (h_tloop d i).1 (zn32 (p_turn (h_pl (h_tloop d i).1) i))) (upd (h_drp (h_t1 (h_tloop d i).1 (zn32 (p_turn (h_pl (h_tloop d i).1) i)))) (zn32 (p_srv (h_pl (h_t1 (h_tloop d i).1 (zn32 (p_turn (h_pl (h_tloop d i).1) i)))) (zn32 (p_turn (h_pl (h_tloop d i).1) i)))) (h_drp (h_t1 (h_tloop d i).1 (zn32 (p_turn (h_pl (h_tloop d i).1) i))) (zn32 (p_srv (h_pl (h_t1 (h_tloop d i).1 (zn32 (p_turn (h_pl (h_tloop d i).1) i)))) (zn32 (p_turn (h_pl (h_tloop d i).1) i)))) + 1)), true) := by
              show h_tstep i (h_tloop d i) = _
              unfold h_tstep
              dsimp only
              rw [if_neg h46, if_pos h77, if_pos h99]
            refine zR_lv [(0, .ref (q 0)), (1, .int (zB (h_tloop d (i + 1)).2)), (2, .int (nI (i + 1)))] [4, 1, 0] (by rw [e1] <;> rfl) ?_
            refine zR_ws (hW g q (h_tloop d (i + 1)).1) (by rw [e1] <;> rfl) ?_
            exact ih (i + 1) (by omega)
          · skip
            refine zR_iload C eX1_takePlans_102 0 rfl ?_
            refine zR_ifeq C eX1_takePlans_104 (fun h104 => ?_) (fun h104 => ?_)
            · skip
              exact absurd (h77.symm.trans h104) (by decide)
            · skip
              refine zR_iconst (v := 1) C eX1_takePlans_107 (by decide) ?_
              refine zR_goto C eX1_takePlans_108 ?_
              refine zR_istore_n (lv' := [(1, _), (4, _), (3, _), (0, _), (2, _)]) C eX1_takePlans_112 rfl (by rw [hn]; decide) rfl ?_
              refine zR_iinc (lv' := [(2, _), (1, _), (4, _), (3, _), (0, _)]) (v' := nI (i + 1)) C eX1_takePlans_113 4 rfl (zinc i) (by rw [hn]; decide) rfl ?_
              refine zR_goto C eX1_takePlans_116 ?_
              have e1 : h_tloop d (i + 1) = (h_sdrp (h_t1 (h_tloop d i).1 (zn32 (p_turn (h_pl (h_tloop d i).1) i))) (upd (h_drp (h_t1 (h_tloop d i).1 (zn32 (p_turn (h_pl (h_tloop d i).1) i)))) (zn32 (p_srv (h_pl (h_t1 (h_tloop d i).1 (zn32 (p_turn (h_pl (h_tloop d i).1) i)))) (zn32 (p_turn (h_pl (h_tloop d i).1) i)))) (h_drp (h_t1 (h_tloop d i).1 (zn32 (p_turn (h_pl (h_tloop d i).1) i))) (zn32 (p_srv (h_pl (h_t1 (h_tloop d i).1 (zn32 (p_turn (h_pl (h_tloop d i).1) i)))) (zn32 (p_turn (h_pl (h_tloop d i).1) i)))) + 1)), true) := by
                show h_tstep i (h_tloop d i) = _
                unfold h_tstep
                dsimp only
                rw [if_neg h46, if_pos h77, if_neg h99, if_neg h104]
              refine zR_lv [(0, .ref (q 0)), (1, .int (zB (h_tloop d (i + 1)).2)), (2, .int (nI (i + 1)))] [4, 1, 0] (by rw [e1] <;> rfl) ?_
              refine zR_ws (hW g q (h_tloop d (i + 1)).1) (by rw [e1] <;> rfl) ?_
              exact ih (i + 1) (by omega)
      · skip
        refine zR_aload_n C eX1_takePlans_49 2 rfl rfl ?_
        refine zR_aload_n C eX1_takePlans_50 2 rfl rfl ?_
        refine zR_get C fX1_68 eX1_takePlans_51 0 hW_g0 rfl ?_
        refine zR_get C fX1_172 eX1_takePlans_54 14 hW_g14 rfl ?_
        refine zR_iload_n C eX1_takePlans_57 1 rfl rfl ?_
        refine zR_ialdN C eX1_takePlans_58 15 hW_g15 ⟨hp30, by decide⟩ ?_
        refine zR_aload_n C eX1_takePlans_59 2 rfl rfl ?_
        refine zR_get C fX1_68 eX1_takePlans_60 0 hW_g0 rfl ?_
        refine zR_get C fX1_175 eX1_takePlans_63 14 hW_g14 rfl ?_
        refine zR_iload_n C eX1_takePlans_66 1 rfl rfl ?_
        refine zR_ialdN C eX1_takePlans_67 17 hW_g17 ⟨hp30, by decide⟩ ?_
        refine zR_callVv C kX1_178 eX1_takePlans_68 (c_X1_doRelease q _ _ _ (by exact hsv)) rfl 0 1 hW_g0 rfl rfl _ hW_c hW_n rfl (by decide) (by decide) (Nat.le_of_ble_eq_true rfl) (Nat.zero_le _) (Nat.zero_le _) hW_f hW_r ?_
        refine zR_goto C eX1_takePlans_71 ?_
        refine zR_iload_n C eX1_takePlans_98 3 rfl rfl ?_
        refine zR_bfne C eX1_takePlans_99 (fun h99 => ?_) (fun h99 => ?_)
        · skip
          refine zR_iconst (v := 1) C eX1_takePlans_107 (by decide) ?_
          refine zR_goto C eX1_takePlans_108 ?_
          refine zR_istore_n (lv' := [(1, _), (4, _), (3, _), (0, _), (2, _)]) C eX1_takePlans_112 rfl (by rw [hn]; decide) rfl ?_
          refine zR_iinc (lv' := [(2, _), (1, _), (4, _), (3, _), (0, _)]) (v' := nI (i + 1)) C eX1_takePlans_113 4 rfl (zinc i) (by rw [hn]; decide) rfl ?_
          refine zR_goto C eX1_takePlans_116 ?_
          have e1 : h_tloop d (i + 1) = (h_dorel (h_t1 (h_tloop d i).1 (zn32 (p_turn (h_pl (h_tloop d i).1) i))) (p_srv (h_pl (h_t1 (h_tloop d i).1 (zn32 (p_turn (h_pl (h_tloop d i).1) i)))) (zn32 (p_turn (h_pl (h_tloop d i).1) i))) (p_sz (h_pl (h_t1 (h_tloop d i).1 (zn32 (p_turn (h_pl (h_tloop d i).1) i)))) (zn32 (p_turn (h_pl (h_tloop d i).1) i))), true) := by
            show h_tstep i (h_tloop d i) = _
            unfold h_tstep
            dsimp only
            rw [if_pos h46, if_pos h99]
          refine zR_lv [(0, .ref (q 0)), (1, .int (zB (h_tloop d (i + 1)).2)), (2, .int (nI (i + 1)))] [4, 1, 0] (by rw [e1] <;> rfl) ?_
          refine zR_ws (hW g q (h_tloop d (i + 1)).1) (by rw [e1] <;> rfl) ?_
          exact ih (i + 1) (by omega)
        · skip
          refine zR_iload C eX1_takePlans_102 0 rfl ?_
          refine zR_ifeq C eX1_takePlans_104 (fun h104 => ?_) (fun h104 => ?_)
          · skip
            exact absurd (h46.symm.trans h104) (by decide)
          · skip
            refine zR_iconst (v := 1) C eX1_takePlans_107 (by decide) ?_
            refine zR_goto C eX1_takePlans_108 ?_
            refine zR_istore_n (lv' := [(1, _), (4, _), (3, _), (0, _), (2, _)]) C eX1_takePlans_112 rfl (by rw [hn]; decide) rfl ?_
            refine zR_iinc (lv' := [(2, _), (1, _), (4, _), (3, _), (0, _)]) (v' := nI (i + 1)) C eX1_takePlans_113 4 rfl (zinc i) (by rw [hn]; decide) rfl ?_
            refine zR_goto C eX1_takePlans_116 ?_
            have e1 : h_tloop d (i + 1) = (h_dorel (h_t1 (h_tloop d i).1 (zn32 (p_turn (h_pl (h_tloop d i).1) i))) (p_srv (h_pl (h_t1 (h_tloop d i).1 (zn32 (p_turn (h_pl (h_tloop d i).1) i)))) (zn32 (p_turn (h_pl (h_tloop d i).1) i))) (p_sz (h_pl (h_t1 (h_tloop d i).1 (zn32 (p_turn (h_pl (h_tloop d i).1) i)))) (zn32 (p_turn (h_pl (h_tloop d i).1) i))), true) := by
              show h_tstep i (h_tloop d i) = _
              unfold h_tstep
              dsimp only
              rw [if_pos h46, if_neg h99, if_neg h104]
            refine zR_lv [(0, .ref (q 0)), (1, .int (zB (h_tloop d (i + 1)).2)), (2, .int (nI (i + 1)))] [4, 1, 0] (by rw [e1] <;> rfl) ?_
            refine zR_ws (hW g q (h_tloop d (i + 1)).1) (by rw [e1] <;> rfl) ?_
            exact ih (i + 1) (by omega)
set_option maxHeartbeats 400000 in
set_option maxRecDepth 100000 in
theorem c_X1_takePlans {l : Launch} {g : zG} (q : Nat → Nat) (d : HD)  (hd : h_ok d) : zM l g yX1_takePlans cX1_takePlans 5 none 3 0 0 [.ref (q 0)] (hW g q d) (zE none (hW g q (h_take d))) := by
  refine zM_of (by decide +kernel) (Nat.le_of_ble_eq_true rfl) (fun x hl hn _ _ _ C => ?_)
  subst hl
  show zR x g _ (0, 0) 0 [(0, .ref (q 0))] [] _
  refine zR_iconst (v := 0) C eX1_takePlans_0 (by decide) ?_
  refine zR_istore_n (lv' := [(1, _), (0, _)]) C eX1_takePlans_1 rfl (by rw [hn]; decide) rfl ?_
  refine zR_iconst (v := 0) C eX1_takePlans_2 (by decide) ?_
  refine zR_istore_n (lv' := [(2, _), (1, _), (0, _)]) C eX1_takePlans_3 rfl (by rw [hn]; decide) rfl ?_
  refine zR_lv [(0, _), (1, .int (zB (h_tloop d 0).2)), (2, .int (nI 0))] [2, 1, 0] rfl ?_
  exact c_X1_takePlans_lp hn C hd _ 0 (Nat.zero_add _)
