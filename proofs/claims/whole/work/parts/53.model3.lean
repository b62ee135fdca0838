/-! The reference: the walks, third part. -/
set_option maxHeartbeats 1000000 in
set_option maxRecDepth 100000 in
theorem c_X6_pay {l : Launch} {g : zG} (q : Nat → Nat) (m : MD) (r : RW) (l0 : Nat) (hl : l0 < 40) (ha : zinl (r (134 + 5 * l0 + 0)) 8) (hb : zinl (r (134 + 5 * l0 + 1)) 8) : zM l g yX6_pay cX6_pay 10 none 4 0 0 [.ref (q 0), .int (nI l0)] (rW g q m r) (zE none (rW g q m (r_pay r l0))) := by
  refine zM_of (by decide +kernel) (Nat.le_of_ble_eq_true rfl) (fun x hl hn _ _ _ C => ?_)
  subst hl
  show zR x g _ (0, 0) 0 [(0, .ref (q 0)), (1, .int (nI l0))] [] _
  have hva := (zinl_i ha (by decide)).2.1
  have hvb := (zinl_i hb (by decide)).2.1
  have hza := vp_lt hva (by decide)
  have hzb := vp_lt hvb (by decide)
  refine zR_aload_n C eX6_pay_0 0 rfl rfl ?_
  refine zR_iload_n C eX6_pay_1 1 rfl rfl ?_
  refine zR_iconst (v := 0) C eX6_pay_2 (by decide) ?_
  refine zR_callS1 C kX6_138 eX6_pay_3 (c_X6_ofLoanAtN _ 0 (by assumption) (by decide)) rfl rfl (by decide) (by decide) (Nat.le_of_ble_eq_true rfl) (Nat.zero_le _) (Nat.zero_le _) ?_
  refine zR_callV1 C kX6_60 eX6_pay_6 (c_X6_number q _ _ _ (by omega)) rfl 0 6 rW_g0 rfl rfl _ rW_c rW_n rfl (by decide) (by decide) (Nat.le_of_ble_eq_true rfl) (Nat.zero_le _) (Nat.zero_le _) rW_f rW_r ?_
  refine zR_istore_n (lv' := [(2, _), (0, _), (1, _)]) C eX6_pay_9 rfl (by rw [hn]; decide) rfl ?_
  refine zR_aload_n C eX6_pay_10 1 rfl rfl ?_
  refine zR_iload_n C eX6_pay_11 2 rfl rfl ?_
  refine zR_iconst (v := 1) C eX6_pay_12 (by decide) ?_
  refine zR_callS1 C kX6_138 eX6_pay_13 (c_X6_ofLoanAtN _ 1 (by assumption) (by decide)) rfl rfl (by decide) (by decide) (Nat.le_of_ble_eq_true rfl) (Nat.zero_le _) (Nat.zero_le _) ?_
  refine zR_callV1 C kX6_60 eX6_pay_16 (c_X6_number q _ _ _ (by omega)) rfl 0 6 rW_g0 rfl rfl _ rW_c rW_n rfl (by decide) (by decide) (Nat.le_of_ble_eq_true rfl) (Nat.zero_le _) (Nat.zero_le _) rW_f rW_r ?_
  refine zR_istore_n (lv' := [(3, _), (2, _), (0, _), (1, _)]) C eX6_pay_19 rfl (by rw [hn]; decide) rfl ?_
  refine zR_aload_n C eX6_pay_20 2 rfl rfl ?_
  refine zR_get C fX6_7 eX6_pay_21 0 rW_g0 rfl ?_
  refine zR_iload_n C eX6_pay_24 3 rfl rfl ?_
  refine zR_iconst (v := 3) C eX6_pay_25 (by decide) ?_
  refine zR_callS1 C kX6_138 eX6_pay_26 (c_X6_ofLoanAtN _ 3 (by assumption) (by decide)) rfl rfl (by decide) (by decide) (Nat.le_of_ble_eq_true rfl) (Nat.zero_le _) (Nat.zero_le _) ?_
  refine zR_laldN C eX6_pay_29 1 rW_g1 ⟨by omega, by decide⟩ ?_
  refine zR_lstore (lv' := [(4, _), (3, _), (2, _), (0, _), (1, _)]) C eX6_pay_30 (by rw [hn]; decide) rfl ?_
  refine zR_aload_n C eX6_pay_32 3 rfl rfl ?_
  refine zR_iload_n C eX6_pay_33 1 rfl rfl ?_
  refine zR_callV1 C kX6_90 eX6_pay_34 (c_X6_left q _ _ _ (by assumption)) rfl 0 6 rW_g0 rfl rfl _ rW_c rW_n rfl (by decide) (by decide) (Nat.le_of_ble_eq_true rfl) (Nat.zero_le _) (Nat.zero_le _) rW_f rW_r ?_
  refine zR_lconst (v := 0) C eX6_pay_37 (by decide) ?_
  refine zR_cifle C eX6_pay_38 eX6_pay_39 (fun h38 => ?_) (fun h38 => ?_)
  · skip
    refine zR_lconst (v := 0) C eX6_pay_50 (by decide) ?_
    refine zR_topl (b := r_can r (r_lp r l0 1)) (if_pos h38).symm ?_
    refine zR_lstore (lv' := [(6, _), (4, _), (3, _), (2, _), (0, _), (1, _)]) C eX6_pay_51 (by rw [hn]; decide) rfl ?_
    refine zR_lload C eX6_pay_53 1 rfl ?_
    refine zR_lload C eX6_pay_55 0 rfl ?_
    refine zR_cifge C eX6_pay_57 eX6_pay_58 (fun h57 => ?_) (fun h57 => ?_)
    · skip
      refine zR_lload C eX6_pay_66 0 rfl ?_
      refine zR_topl (b := r_paid r l0) (if_neg h57).symm ?_
      refine zR_lstore (lv' := [(8, _), (6, _), (4, _), (3, _), (2, _), (0, _), (1, _)]) C eX6_pay_68 (by rw [hn]; decide) rfl ?_
      refine zR_aload_n C eX6_pay_70 5 rfl rfl ?_
      refine zR_get C fX6_7 eX6_pay_71 0 rW_g0 rfl ?_
      refine zR_iload_n C eX6_pay_74 6 rfl rfl ?_
      refine zR_iconst (v := 3) C eX6_pay_75 (by decide) ?_
      refine zR_callS1 C kX6_138 eX6_pay_76 (c_X6_ofLoanAtN _ 3 (by assumption) (by decide)) rfl rfl (by decide) (by decide) (Nat.le_of_ble_eq_true rfl) (Nat.zero_le _) (Nat.zero_le _) ?_
      refine zR_dup2 C eX6_pay_79 rfl rfl ?_
      refine zR_laldN C eX6_pay_80 1 rW_g1 ⟨by omega, by decide⟩ ?_
      refine zR_lload C eX6_pay_81 0 rfl ?_
      refine zR_lsub C eX6_pay_83 ?_
      refine zR_lastN C eX6_pay_84 1 rW_g1 ⟨by omega, by decide⟩ rW_s1 ?_
      refine zR_aload_n C eX6_pay_85 5 rfl rfl ?_
      refine zR_get C fX6_7 eX6_pay_86 0 rW_g0 rfl ?_
      refine zR_iload_n C eX6_pay_89 3 rfl rfl ?_
      refine zR_bipush (v := 6) C eX6_pay_90 (by decide) ?_
      refine zR_callS1 C kX6_105 eX6_pay_92 (c_X6_accountOf _ 6 (by assumption) (by decide)) rfl rfl (by decide) (by decide) (Nat.le_of_ble_eq_true rfl) (Nat.zero_le _) (Nat.zero_le _) ?_
      refine zR_dup2 C eX6_pay_95 rfl rfl ?_
      refine zR_laldN C eX6_pay_96 1 rW_g1 ⟨by omega, by decide⟩ ?_
      refine zR_lload C eX6_pay_97 0 rfl ?_
      refine zR_ladd C eX6_pay_99 ?_
      refine zR_lastN C eX6_pay_100 1 rW_g1 ⟨by omega, by decide⟩ rW_s1 ?_
      refine zR_aload_n C eX6_pay_101 5 rfl rfl ?_
      refine zR_get C fX6_7 eX6_pay_102 0 rW_g0 rfl ?_
      refine zR_iload_n C eX6_pay_105 4 rfl rfl ?_
      refine zR_iconst (v := 2) C eX6_pay_106 (by decide) ?_
      refine zR_callS1 C kX6_105 eX6_pay_107 (c_X6_accountOf _ 2 (by assumption) (by decide)) rfl rfl (by decide) (by decide) (Nat.le_of_ble_eq_true rfl) (Nat.zero_le _) (Nat.zero_le _) ?_
      refine zR_dup2 C eX6_pay_110 rfl rfl ?_
      refine zR_laldN C eX6_pay_111 1 rW_g1 ⟨by omega, by decide⟩ ?_
      refine zR_lload C eX6_pay_112 0 rfl ?_
      refine zR_ladd C eX6_pay_114 ?_
      refine zR_lastN C eX6_pay_115 1 rW_g1 ⟨by omega, by decide⟩ rW_s1 ?_
      refine zR_ws (rW g q m (r_pay3 r l0 (r_lp r l0 0) (r_lp r l0 1) (r_paid r l0))) rfl ?_
      refine zR_lload C eX6_pay_116 0 rfl ?_
      refine zR_lconst (v := 0) C eX6_pay_118 (by decide) ?_
      refine zR_cifle C eX6_pay_119 eX6_pay_120 (fun h119 => ?_) (fun h119 => ?_)
      · skip
        exact zR_vret C rfl eX6_pay_138 (Nat.zero_le _) (Nat.zero_le _) ⟨rfl, (by first | (unfold r_pay r_pay4; rw [if_pos h119]; first | done | rfl) | rfl | (simp only [r_pay, r_pay4, if_pos h119]; first | done | rfl))⟩
      · skip
        refine zR_aload_n C eX6_pay_123 5 rfl rfl ?_
        refine zR_iload_n C eX6_pay_124 3 rfl rfl ?_
        refine zR_lload C eX6_pay_125 0 rfl ?_
        refine zR_lneg C eX6_pay_127 ?_
        refine zR_callVv C kX6_111 eX6_pay_128 (c_X6_change q _ _ _ _ (by assumption)) rfl 0 6 rW_g0 rfl rfl _ rW_c rW_n rfl (by decide) (by decide) (Nat.le_of_ble_eq_true rfl) (Nat.zero_le _) (Nat.zero_le _) rW_f rW_r ?_
        refine zR_aload_n C eX6_pay_131 5 rfl rfl ?_
        refine zR_iload_n C eX6_pay_132 4 rfl rfl ?_
        refine zR_lload C eX6_pay_133 0 rfl ?_
        refine zR_callVv C kX6_111 eX6_pay_135 (c_X6_change q _ _ _ _ (by assumption)) rfl 0 6 rW_g0 rfl rfl _ rW_c rW_n rfl (by decide) (by decide) (Nat.le_of_ble_eq_true rfl) (Nat.zero_le _) (Nat.zero_le _) rW_f rW_r ?_
        exact zR_vret C rfl eX6_pay_138 (Nat.zero_le _) (Nat.zero_le _) ⟨rfl, (by first | (unfold r_pay r_pay4; rw [if_neg h119]; first | done | rfl) | rfl | (simp only [r_pay, r_pay4, if_neg h119]; first | done | rfl))⟩
    · skip
      refine zR_lload C eX6_pay_61 1 rfl ?_
      refine zR_goto C eX6_pay_63 ?_
      refine zR_topl (b := r_paid r l0) (if_pos h57).symm ?_
      refine zR_lstore (lv' := [(8, _), (6, _), (4, _), (3, _), (2, _), (0, _), (1, _)]) C eX6_pay_68 (by rw [hn]; decide) rfl ?_
      refine zR_aload_n C eX6_pay_70 5 rfl rfl ?_
      refine zR_get C fX6_7 eX6_pay_71 0 rW_g0 rfl ?_
      refine zR_iload_n C eX6_pay_74 6 rfl rfl ?_
      refine zR_iconst (v := 3) C eX6_pay_75 (by decide) ?_
      refine zR_callS1 C kX6_138 eX6_pay_76 (c_X6_ofLoanAtN _ 3 (by assumption) (by decide)) rfl rfl (by decide) (by decide) (Nat.le_of_ble_eq_true rfl) (Nat.zero_le _) (Nat.zero_le _) ?_
      refine zR_dup2 C eX6_pay_79 rfl rfl ?_
      refine zR_laldN C eX6_pay_80 1 rW_g1 ⟨by omega, by decide⟩ ?_
      refine zR_lload C eX6_pay_81 0 rfl ?_
      refine zR_lsub C eX6_pay_83 ?_
      refine zR_lastN C eX6_pay_84 1 rW_g1 ⟨by omega, by decide⟩ rW_s1 ?_
      refine zR_aload_n C eX6_pay_85 5 rfl rfl ?_
      refine zR_get C fX6_7 eX6_pay_86 0 rW_g0 rfl ?_
      refine zR_iload_n C eX6_pay_89 3 rfl rfl ?_
      refine zR_bipush (v := 6) C eX6_pay_90 (by decide) ?_
      refine zR_callS1 C kX6_105 eX6_pay_92 (c_X6_accountOf _ 6 (by assumption) (by decide)) rfl rfl (by decide) (by decide) (Nat.le_of_ble_eq_true rfl) (Nat.zero_le _) (Nat.zero_le _) ?_
      refine zR_dup2 C eX6_pay_95 rfl rfl ?_
      refine zR_laldN C eX6_pay_96 1 rW_g1 ⟨by omega, by decide⟩ ?_
      refine zR_lload C eX6_pay_97 0 rfl ?_
      refine zR_ladd C eX6_pay_99 ?_
      refine zR_lastN C eX6_pay_100 1 rW_g1 ⟨by omega, by decide⟩ rW_s1 ?_
      refine zR_aload_n C eX6_pay_101 5 rfl rfl ?_
      refine zR_get C fX6_7 eX6_pay_102 0 rW_g0 rfl ?_
      refine zR_iload_n C eX6_pay_105 4 rfl rfl ?_
      refine zR_iconst (v := 2) C eX6_pay_106 (by decide) ?_
      refine zR_callS1 C kX6_105 eX6_pay_107 (c_X6_accountOf _ 2 (by assumption) (by decide)) rfl rfl (by decide) (by decide) (Nat.le_of_ble_eq_true rfl) (Nat.zero_le _) (Nat.zero_le _) ?_
      refine zR_dup2 C eX6_pay_110 rfl rfl ?_
      refine zR_laldN C eX6_pay_111 1 rW_g1 ⟨by omega, by decide⟩ ?_
      refine zR_lload C eX6_pay_112 0 rfl ?_
      refine zR_ladd C eX6_pay_114 ?_
      refine zR_lastN C eX6_pay_115 1 rW_g1 ⟨by omega, by decide⟩ rW_s1 ?_
      refine zR_ws (rW g q m (r_pay3 r l0 (r_lp r l0 0) (r_lp r l0 1) (r_paid r l0))) rfl ?_
      refine zR_lload C eX6_pay_116 0 rfl ?_
      refine zR_lconst (v := 0) C eX6_pay_118 (by decide) ?_
      refine zR_cifle C eX6_pay_119 eX6_pay_120 (fun h119 => ?_) (fun h119 => ?_)
      · skip
        exact zR_vret C rfl eX6_pay_138 (Nat.zero_le _) (Nat.zero_le _) ⟨rfl, (by first | (unfold r_pay r_pay4; rw [if_pos h119]; first | done | rfl) | rfl | (simp only [r_pay, r_pay4, if_pos h119]; first | done | rfl))⟩
      · skip
        refine zR_aload_n C eX6_pay_123 5 rfl rfl ?_
        refine zR_iload_n C eX6_pay_124 3 rfl rfl ?_
        refine zR_lload C eX6_pay_125 0 rfl ?_
        refine zR_lneg C eX6_pay_127 ?_
        refine zR_callVv C kX6_111 eX6_pay_128 (c_X6_change q _ _ _ _ (by assumption)) rfl 0 6 rW_g0 rfl rfl _ rW_c rW_n rfl (by decide) (by decide) (Nat.le_of_ble_eq_true rfl) (Nat.zero_le _) (Nat.zero_le _) rW_f rW_r ?_
        refine zR_aload_n C eX6_pay_131 5 rfl rfl ?_
        refine zR_iload_n C eX6_pay_132 4 rfl rfl ?_
        refine zR_lload C eX6_pay_133 0 rfl ?_
        refine zR_callVv C kX6_111 eX6_pay_135 (c_X6_change q _ _ _ _ (by assumption)) rfl 0 6 rW_g0 rfl rfl _ rW_c rW_n rfl (by decide) (by decide) (Nat.le_of_ble_eq_true rfl) (Nat.zero_le _) (Nat.zero_le _) rW_f rW_r ?_
        exact zR_vret C rfl eX6_pay_138 (Nat.zero_le _) (Nat.zero_le _) ⟨rfl, (by first | (unfold r_pay r_pay4; rw [if_neg h119]; first | done | rfl) | rfl | (simp only [r_pay, r_pay4, if_neg h119]; first | done | rfl))⟩
  · skip
    refine zR_aload_n C eX6_pay_42 3 rfl rfl ?_
    refine zR_iload_n C eX6_pay_43 1 rfl rfl ?_
    refine zR_callV1 C kX6_90 eX6_pay_44 (c_X6_left q _ _ _ (by assumption)) rfl 0 6 rW_g0 rfl rfl _ rW_c rW_n rfl (by decide) (by decide) (Nat.le_of_ble_eq_true rfl) (Nat.zero_le _) (Nat.zero_le _) rW_f rW_r ?_
    refine zR_goto C eX6_pay_47 ?_
    refine zR_topl (b := r_can r (r_lp r l0 1)) (if_neg h38).symm ?_
    refine zR_lstore (lv' := [(6, _), (4, _), (3, _), (2, _), (0, _), (1, _)]) C eX6_pay_51 (by rw [hn]; decide) rfl ?_
    refine zR_lload C eX6_pay_53 1 rfl ?_
    refine zR_lload C eX6_pay_55 0 rfl ?_
    refine zR_cifge C eX6_pay_57 eX6_pay_58 (fun h57 => ?_) (fun h57 => ?_)
    · skip
      refine zR_lload C eX6_pay_66 0 rfl ?_
      refine zR_topl (b := r_paid r l0) (if_neg h57).symm ?_
      refine zR_lstore (lv' := [(8, _), (6, _), (4, _), (3, _), (2, _), (0, _), (1, _)]) C eX6_pay_68 (by rw [hn]; decide) rfl ?_
      refine zR_aload_n C eX6_pay_70 5 rfl rfl ?_
      refine zR_get C fX6_7 eX6_pay_71 0 rW_g0 rfl ?_
      refine zR_iload_n C eX6_pay_74 6 rfl rfl ?_
      refine zR_iconst (v := 3) C eX6_pay_75 (by decide) ?_
      refine zR_callS1 C kX6_138 eX6_pay_76 (c_X6_ofLoanAtN _ 3 (by assumption) (by decide)) rfl rfl (by decide) (by decide) (Nat.le_of_ble_eq_true rfl) (Nat.zero_le _) (Nat.zero_le _) ?_
      refine zR_dup2 C eX6_pay_79 rfl rfl ?_
      refine zR_laldN C eX6_pay_80 1 rW_g1 ⟨by omega, by decide⟩ ?_
      refine zR_lload C eX6_pay_81 0 rfl ?_
      refine zR_lsub C eX6_pay_83 ?_
      refine zR_lastN C eX6_pay_84 1 rW_g1 ⟨by omega, by decide⟩ rW_s1 ?_
      refine zR_aload_n C eX6_pay_85 5 rfl rfl ?_
      refine zR_get C fX6_7 eX6_pay_86 0 rW_g0 rfl ?_
      refine zR_iload_n C eX6_pay_89 3 rfl rfl ?_
      refine zR_bipush (v := 6) C eX6_pay_90 (by decide) ?_
      refine zR_callS1 C kX6_105 eX6_pay_92 (c_X6_accountOf _ 6 (by assumption) (by decide)) rfl rfl (by decide) (by decide) (Nat.le_of_ble_eq_true rfl) (Nat.zero_le _) (Nat.zero_le _) ?_
      refine zR_dup2 C eX6_pay_95 rfl rfl ?_
      refine zR_laldN C eX6_pay_96 1 rW_g1 ⟨by omega, by decide⟩ ?_
      refine zR_lload C eX6_pay_97 0 rfl ?_
      refine zR_ladd C eX6_pay_99 ?_
      refine zR_lastN C eX6_pay_100 1 rW_g1 ⟨by omega, by decide⟩ rW_s1 ?_
      refine zR_aload_n C eX6_pay_101 5 rfl rfl ?_
      refine zR_get C fX6_7 eX6_pay_102 0 rW_g0 rfl ?_
      refine zR_iload_n C eX6_pay_105 4 rfl rfl ?_
      refine zR_iconst (v := 2) C eX6_pay_106 (by decide) ?_
      refine zR_callS1 C kX6_105 eX6_pay_107 (c_X6_accountOf _ 2 (by assumption) (by decide)) rfl rfl (by decide) (by decide) (Nat.le_of_ble_eq_true rfl) (Nat.zero_le _) (Nat.zero_le _) ?_
      refine zR_dup2 C eX6_pay_110 rfl rfl ?_
      refine zR_laldN C eX6_pay_111 1 rW_g1 ⟨by omega, by decide⟩ ?_
      refine zR_lload C eX6_pay_112 0 rfl ?_
      refine zR_ladd C eX6_pay_114 ?_
      refine zR_lastN C eX6_pay_115 1 rW_g1 ⟨by omega, by decide⟩ rW_s1 ?_
      refine zR_ws (rW g q m (r_pay3 r l0 (r_lp r l0 0) (r_lp r l0 1) (r_paid r l0))) rfl ?_
      refine zR_lload C eX6_pay_116 0 rfl ?_
      refine zR_lconst (v := 0) C eX6_pay_118 (by decide) ?_
      refine zR_cifle C eX6_pay_119 eX6_pay_120 (fun h119 => ?_) (fun h119 => ?_)
      · skip
        exact zR_vret C rfl eX6_pay_138 (Nat.zero_le _) (Nat.zero_le _) ⟨rfl, (by first | (unfold r_pay r_pay4; rw [if_pos h119]; first | done | rfl) | rfl | (simp only [r_pay, r_pay4, if_pos h119]; first | done | rfl))⟩
      · skip
        refine zR_aload_n C eX6_pay_123 5 rfl rfl ?_
        refine zR_iload_n C eX6_pay_124 3 rfl rfl ?_
        refine zR_lload C eX6_pay_125 0 rfl ?_
        refine zR_lneg C eX6_pay_127 ?_
        refine zR_callVv C kX6_111 eX6_pay_128 (c_X6_change q _ _ _ _ (by assumption)) rfl 0 6 rW_g0 rfl rfl _ rW_c rW_n rfl (by decide) (by decide) (Nat.le_of_ble_eq_true rfl) (Nat.zero_le _) (Nat.zero_le _) rW_f rW_r ?_
        refine zR_aload_n C eX6_pay_131 5 rfl rfl ?_
        refine zR_iload_n C eX6_pay_132 4 rfl rfl ?_
        refine zR_lload C eX6_pay_133 0 rfl ?_
        refine zR_callVv C kX6_111 eX6_pay_135 (c_X6_change q _ _ _ _ (by assumption)) rfl 0 6 rW_g0 rfl rfl _ rW_c rW_n rfl (by decide) (by decide) (Nat.le_of_ble_eq_true rfl) (Nat.zero_le _) (Nat.zero_le _) rW_f rW_r ?_
        exact zR_vret C rfl eX6_pay_138 (Nat.zero_le _) (Nat.zero_le _) ⟨rfl, (by first | (unfold r_pay r_pay4; rw [if_neg h119]; first | done | rfl) | rfl | (simp only [r_pay, r_pay4, if_neg h119]; first | done | rfl))⟩
    · skip
      refine zR_lload C eX6_pay_61 1 rfl ?_
      refine zR_goto C eX6_pay_63 ?_
      refine zR_topl (b := r_paid r l0) (if_pos h57).symm ?_
      refine zR_lstore (lv' := [(8, _), (6, _), (4, _), (3, _), (2, _), (0, _), (1, _)]) C eX6_pay_68 (by rw [hn]; decide) rfl ?_
      refine zR_aload_n C eX6_pay_70 5 rfl rfl ?_
      refine zR_get C fX6_7 eX6_pay_71 0 rW_g0 rfl ?_
      refine zR_iload_n C eX6_pay_74 6 rfl rfl ?_
      refine zR_iconst (v := 3) C eX6_pay_75 (by decide) ?_
      refine zR_callS1 C kX6_138 eX6_pay_76 (c_X6_ofLoanAtN _ 3 (by assumption) (by decide)) rfl rfl (by decide) (by decide) (Nat.le_of_ble_eq_true rfl) (Nat.zero_le _) (Nat.zero_le _) ?_
      refine zR_dup2 C eX6_pay_79 rfl rfl ?_
      refine zR_laldN C eX6_pay_80 1 rW_g1 ⟨by omega, by decide⟩ ?_
      refine zR_lload C eX6_pay_81 0 rfl ?_
      refine zR_lsub C eX6_pay_83 ?_
      refine zR_lastN C eX6_pay_84 1 rW_g1 ⟨by omega, by decide⟩ rW_s1 ?_
      refine zR_aload_n C eX6_pay_85 5 rfl rfl ?_
      refine zR_get C fX6_7 eX6_pay_86 0 rW_g0 rfl ?_
      refine zR_iload_n C eX6_pay_89 3 rfl rfl ?_
      refine zR_bipush (v := 6) C eX6_pay_90 (by decide) ?_
      refine zR_callS1 C kX6_105 eX6_pay_92 (c_X6_accountOf _ 6 (by assumption) (by decide)) rfl rfl (by decide) (by decide) (Nat.le_of_ble_eq_true rfl) (Nat.zero_le _) (Nat.zero_le _) ?_
      refine zR_dup2 C eX6_pay_95 rfl rfl ?_
      refine zR_laldN C eX6_pay_96 1 rW_g1 ⟨by omega, by decide⟩ ?_
      refine zR_lload C eX6_pay_97 0 rfl ?_
      refine zR_ladd C eX6_pay_99 ?_
      refine zR_lastN C eX6_pay_100 1 rW_g1 ⟨by omega, by decide⟩ rW_s1 ?_
      refine zR_aload_n C eX6_pay_101 5 rfl rfl ?_
      refine zR_get C fX6_7 eX6_pay_102 0 rW_g0 rfl ?_
      refine zR_iload_n C eX6_pay_105 4 rfl rfl ?_
      refine zR_iconst (v := 2) C eX6_pay_106 (by decide) ?_
      refine zR_callS1 C kX6_105 eX6_pay_107 (c_X6_accountOf _ 2 (by assumption) (by decide)) rfl rfl (by decide) (by decide) (Nat.le_of_ble_eq_true rfl) (Nat.zero_le _) (Nat.zero_le _) ?_
      refine zR_dup2 C eX6_pay_110 rfl rfl ?_
      refine zR_laldN C eX6_pay_111 1 rW_g1 ⟨by omega, by decide⟩ ?_
      refine zR_lload C eX6_pay_112 0 rfl ?_
      refine zR_ladd C eX6_pay_114 ?_
      refine zR_lastN C eX6_pay_115 1 rW_g1 ⟨by omega, by decide⟩ rW_s1 ?_
      refine zR_ws (rW g q m (r_pay3 r l0 (r_lp r l0 0) (r_lp r l0 1) (r_paid r l0))) rfl ?_
      refine zR_lload C eX6_pay_116 0 rfl ?_
      refine zR_lconst (v := 0) C eX6_pay_118 (by decide) ?_
      refine zR_cifle C eX6_pay_119 eX6_pay_120 (fun h119 => ?_) (fun h119 => ?_)
      · skip
        exact zR_vret C rfl eX6_pay_138 (Nat.zero_le _) (Nat.zero_le _) ⟨rfl, (by first | (unfold r_pay r_pay4; rw [if_pos h119]; first | done | rfl) | rfl | (simp only [r_pay, r_pay4, if_pos h119]; first | done | rfl))⟩
      · skip
        refine zR_aload_n C eX6_pay_123 5 rfl rfl ?_
        refine zR_iload_n C eX6_pay_124 3 rfl rfl ?_
        refine zR_lload C eX6_pay_125 0 rfl ?_
        refine zR_lneg C eX6_pay_127 ?_
        refine zR_callVv C kX6_111 eX6_pay_128 (c_X6_change q _ _ _ _ (by assumption)) rfl 0 6 rW_g0 rfl rfl _ rW_c rW_n rfl (by decide) (by decide) (Nat.le_of_ble_eq_true rfl) (Nat.zero_le _) (Nat.zero_le _) rW_f rW_r ?_
        refine zR_aload_n C eX6_pay_131 5 rfl rfl ?_
        refine zR_iload_n C eX6_pay_132 4 rfl rfl ?_
        refine zR_lload C eX6_pay_133 0 rfl ?_
        refine zR_callVv C kX6_111 eX6_pay_135 (c_X6_change q _ _ _ _ (by assumption)) rfl 0 6 rW_g0 rfl rfl _ rW_c rW_n rfl (by decide) (by decide) (Nat.le_of_ble_eq_true rfl) (Nat.zero_le _) (Nat.zero_le _) rW_f rW_r ?_
        exact zR_vret C rfl eX6_pay_138 (Nat.zero_le _) (Nat.zero_le _) ⟨rfl, (by first | (unfold r_pay r_pay4; rw [if_neg h119]; first | done | rfl) | rfl | (simp only [r_pay, r_pay4, if_neg h119]; first | done | rfl))⟩
theorem r_mv1_ne {r : RW} {i j k : Nat} (h : k ≠ j) : r_mv1 r i j k = r k := pk_uLn h
theorem r_mv5_ne {r : RW} {i j k : Nat} (h : k < 134 + 5 * j ∨ 134 + 5 * j + 5 ≤ k) : r_mv5 r i j k = r k := by
  unfold r_mv5
  rw [r_mv1_ne (by omega), r_mv1_ne (by omega), r_mv1_ne (by omega), r_mv1_ne (by omega), r_mv1_ne (by omega)]
theorem r_cloop_k (r : RW) : ∀ i : Nat, (r_cloop r i).1 12 = r 12 ∧ (r_cloop r i).2 ≤ i
  | 0 => ⟨rfl, Nat.le_refl _⟩
  | i + 1 => by
    have ih := r_cloop_k r i
    show (r_cstep i (r_cloop r i)).1 12 = _ ∧ (r_cstep i (r_cloop r i)).2 ≤ _
    unfold r_cstep; split
    · exact ⟨ih.1, by omega⟩
    · exact ⟨by show r_mv5 _ _ _ 12 = _; rw [r_mv5_ne (by omega)]; exact ih.1, by show (r_cloop r i).2 + 1 ≤ _; omega⟩
set_option maxHeartbeats 4000000 in
set_option maxRecDepth 100000 in
theorem c_X6_clearLoans_lp {x : zX} {g : zG} {q : Nat → Nat} {m : MD} {r : RW} (hn : zn x = 4) (C : zC x g RX6 cX6_clearLoans none 1) (hr : zokl (r 12) 40) : ∀ k i : Nat, i + k = zn64 (r 12) → zR x g (zE none (rW g q m (r_clear r))) (0, 0) 4 [(2, .int (nI i)), (0, .ref (q 0)), (1, .int (nI (r_cloop r i).2))] [] (rW g q m (r_cloop r i).1) := by
  intro k
  induction k with
  | zero =>
    intro i hk
    have hi : i = zn64 (r 12) := by omega
    have hm := r_cloop_k r i
    have hok : zokl ((r_cloop r i).1 12) 40 := by rw [hm.1]; exact hr
    have hi1 : i = zn64 ((r_cloop r i).1 12) := by rw [hm.1]; exact hi
    refine zR_iload_n C eX6_clearLoans_4 0 rfl rfl ?_
    refine zR_i2l C eX6_clearLoans_5 ?_
    refine zR_aload_n C eX6_clearLoans_6 1 rfl rfl ?_
    refine zR_get C fX6_7 eX6_clearLoans_7 0 rW_g0 rfl ?_
    refine zR_bipush (v := 12) C eX6_clearLoans_10 (by decide) ?_
    refine zR_laldK C eX6_clearLoans_12 1 rW_g1 12 rfl (vp_in_iff.mpr (by decide)) ?_
    refine zR_cifge C eX6_clearLoans_13 eX6_clearLoans_14 (fun h13 => ?_) (fun h13 => ?_)
    · skip
      refine zR_aload_n C eX6_clearLoans_74 1 rfl rfl ?_
      refine zR_get C fX6_7 eX6_clearLoans_75 0 rW_g0 rfl ?_
      refine zR_bipush (v := 12) C eX6_clearLoans_78 (by decide) ?_
      refine zR_iload_n C eX6_clearLoans_80 2 rfl rfl ?_
      refine zR_i2l C eX6_clearLoans_81 ?_
      refine zR_lastK C eX6_clearLoans_82 1 rW_g1 12 rfl (vp_in_iff.mpr (by decide)) rW_s1 ?_
      subst hi
      exact zR_vret C rfl eX6_clearLoans_83 (Nat.zero_le _) (Nat.zero_le _) ⟨rfl, rfl⟩
    · skip
      exact absurd h13 (zlpl_out hok (by decide) hi1)
  | succ k ih =>
    intro i hk
    have hlt : i < zn64 (r 12) := by omega
    have hm := r_cloop_k r i
    have hok : zokl ((r_cloop r i).1 12) 40 := by rw [hm.1]; exact hr
    have hlt1 : i < zn64 ((r_cloop r i).1 12) := by rw [hm.1]; exact hlt
    have hi40 : i < 40 := Nat.lt_of_lt_of_le hlt1 hok.2
    have hj40 : (r_cloop r i).2 < 40 := Nat.lt_of_le_of_lt hm.2 hi40
    refine zR_iload_n C eX6_clearLoans_4 0 rfl rfl ?_
    refine zR_i2l C eX6_clearLoans_5 ?_
    refine zR_aload_n C eX6_clearLoans_6 1 rfl rfl ?_
    refine zR_get C fX6_7 eX6_clearLoans_7 0 rW_g0 rfl ?_
    refine zR_bipush (v := 12) C eX6_clearLoans_10 (by decide) ?_
    refine zR_laldK C eX6_clearLoans_12 1 rW_g1 12 rfl (vp_in_iff.mpr (by decide)) ?_
    refine zR_cifge C eX6_clearLoans_13 eX6_clearLoans_14 (fun h13 => ?_) (fun h13 => ?_)
    · skip
      exact absurd (zlpl_in hok (by decide) hlt1) h13
    · skip
      refine zR_aload_n C eX6_clearLoans_17 1 rfl rfl ?_
      refine zR_get C fX6_7 eX6_clearLoans_18 0 rW_g0 rfl ?_
      refine zR_iload_n C eX6_clearLoans_21 0 rfl rfl ?_
      refine zR_iconst (v := 3) C eX6_clearLoans_22 (by decide) ?_
      refine zR_callS1 C kX6_138 eX6_clearLoans_23 (c_X6_ofLoanAtN _ 3 (by assumption) (by decide)) rfl rfl (by decide) (by decide) (Nat.le_of_ble_eq_true rfl) (Nat.zero_le _) (Nat.zero_le _) ?_
      refine zR_laldN C eX6_clearLoans_26 1 rW_g1 ⟨by omega, by decide⟩ ?_
      refine zR_lconst (v := 0) C eX6_clearLoans_27 (by decide) ?_
      refine zR_cifle C eX6_clearLoans_28 eX6_clearLoans_29 (fun h28 => ?_) (fun h28 => ?_)
      · skip
        refine zR_iinc (lv' := [(2, _), (0, _), (1, _)]) (v' := nI (i + 1)) C eX6_clearLoans_68 0 rfl (zinc i) (by rw [hn]; decide) rfl ?_
        refine zR_goto C eX6_clearLoans_71 ?_
        have e1 : r_cloop r (i + 1) = (r_cloop r i) := if_pos h28
        refine zR_lv [(2, .int (nI (i + 1))), (0, .ref (q 0)), (1, .int (nI (r_cloop r (i + 1)).2))] [0, 1, 2] (by rw [e1] <;> rfl) ?_
        refine zR_ws (rW g q m (r_cloop r (i + 1)).1) (by rw [e1] <;> rfl) ?_
        exact ih (i + 1) (by omega)
      · skip
        refine zR_iconst (v := 0) C eX6_clearLoans_32 (by decide) ?_
        refine zR_istore_n (lv' := [(3, _), (2, _), (0, _), (1, _)]) C eX6_clearLoans_33 rfl (by rw [hn]; decide) rfl ?_
        refine zR_iload_n C eX6_clearLoans_34 0 rfl rfl ?_
        refine zR_iconst (v := 5) C eX6_clearLoans_35 (by decide) ?_
        refine zR_icmp_ge C eX6_clearLoans_36 (fun h => absurd h (by decide)) (fun _ => ?_)
        refine zR_aload_n C eX6_clearLoans_39 2 rfl rfl ?_
        refine zR_get C fX6_7 eX6_clearLoans_40 0 rW_g0 rfl ?_
        refine zR_iload_n C eX6_clearLoans_43 3 rfl rfl ?_
        refine zR_iload_n C eX6_clearLoans_44 0 rfl rfl ?_
        refine zR_callS1 C kX6_138 eX6_clearLoans_45 (c_X6_ofLoanAtN _ 0 (by assumption) (by decide)) rfl rfl (by decide) (by decide) (Nat.le_of_ble_eq_true rfl) (Nat.zero_le _) (Nat.zero_le _) ?_
        refine zR_aload_n C eX6_clearLoans_48 2 rfl rfl ?_
        refine zR_get C fX6_7 eX6_clearLoans_49 0 rW_g0 rfl ?_
        refine zR_iload_n C eX6_clearLoans_52 1 rfl rfl ?_
        refine zR_iload_n C eX6_clearLoans_53 0 rfl rfl ?_
        refine zR_callS1 C kX6_138 eX6_clearLoans_54 (c_X6_ofLoanAtN _ 0 (by assumption) (by decide)) rfl rfl (by decide) (by decide) (Nat.le_of_ble_eq_true rfl) (Nat.zero_le _) (Nat.zero_le _) ?_
        refine zR_laldN C eX6_clearLoans_57 1 rW_g1 ⟨by omega, by decide⟩ ?_
        refine zR_lastN C eX6_clearLoans_58 1 rW_g1 ⟨by omega, by decide⟩ rW_s1 ?_
        refine zR_iinc (lv' := [(3, _), (2, _), (0, _), (1, _)]) (v' := 1) C eX6_clearLoans_59 0 rfl (by decide) (by rw [hn]; decide) rfl ?_
        refine zR_goto C eX6_clearLoans_62 ?_
        refine zR_iload_n C eX6_clearLoans_34 0 rfl rfl ?_
        refine zR_iconst (v := 5) C eX6_clearLoans_35 (by decide) ?_
        refine zR_icmp_ge C eX6_clearLoans_36 (fun h => absurd h (by decide)) (fun _ => ?_)
        refine zR_aload_n C eX6_clearLoans_39 2 rfl rfl ?_
        refine zR_get C fX6_7 eX6_clearLoans_40 0 rW_g0 rfl ?_
        refine zR_iload_n C eX6_clearLoans_43 3 rfl rfl ?_
        refine zR_iload_n C eX6_clearLoans_44 0 rfl rfl ?_
        refine zR_callS1 C kX6_138 eX6_clearLoans_45 (c_X6_ofLoanAtN _ 1 (by assumption) (by decide)) rfl rfl (by decide) (by decide) (Nat.le_of_ble_eq_true rfl) (Nat.zero_le _) (Nat.zero_le _) ?_
        refine zR_aload_n C eX6_clearLoans_48 2 rfl rfl ?_
        refine zR_get C fX6_7 eX6_clearLoans_49 0 rW_g0 rfl ?_
        refine zR_iload_n C eX6_clearLoans_52 1 rfl rfl ?_
        refine zR_iload_n C eX6_clearLoans_53 0 rfl rfl ?_
        refine zR_callS1 C kX6_138 eX6_clearLoans_54 (c_X6_ofLoanAtN _ 1 (by assumption) (by decide)) rfl rfl (by decide) (by decide) (Nat.le_of_ble_eq_true rfl) (Nat.zero_le _) (Nat.zero_le _) ?_
        refine zR_laldN C eX6_clearLoans_57 1 rW_g1 ⟨by omega, by decide⟩ ?_
        refine zR_lastN C eX6_clearLoans_58 1 rW_g1 ⟨by omega, by decide⟩ rW_s1 ?_
        refine zR_iinc (lv' := [(3, _), (2, _), (0, _), (1, _)]) (v' := 2) C eX6_clearLoans_59 0 rfl (by decide) (by rw [hn]; decide) rfl ?_
        refine zR_goto C eX6_clearLoans_62 ?_
        refine zR_iload_n C eX6_clearLoans_34 0 rfl rfl ?_
        refine zR_iconst (v := 5) C eX6_clearLoans_35 (by decide) ?_
        refine zR_icmp_ge C eX6_clearLoans_36 (fun h => absurd h (by decide)) (fun _ => ?_)
        refine zR_aload_n C eX6_clearLoans_39 2 rfl rfl ?_
        refine zR_get C fX6_7 eX6_clearLoans_40 0 rW_g0 rfl ?_
        refine zR_iload_n C eX6_clearLoans_43 3 rfl rfl ?_
        refine zR_iload_n C eX6_clearLoans_44 0 rfl rfl ?_
        refine zR_callS1 C kX6_138 eX6_clearLoans_45 (c_X6_ofLoanAtN _ 2 (by assumption) (by decide)) rfl rfl (by decide) (by decide) (Nat.le_of_ble_eq_true rfl) (Nat.zero_le _) (Nat.zero_le _) ?_
        refine zR_aload_n C eX6_clearLoans_48 2 rfl rfl ?_
        refine zR_get C fX6_7 eX6_clearLoans_49 0 rW_g0 rfl ?_
        refine zR_iload_n C eX6_clearLoans_52 1 rfl rfl ?_
        refine zR_iload_n C eX6_clearLoans_53 0 rfl rfl ?_
        refine zR_callS1 C kX6_138 eX6_clearLoans_54 (c_X6_ofLoanAtN _ 2 (by assumption) (by decide)) rfl rfl (by decide) (by decide) (Nat.le_of_ble_eq_true rfl) (Nat.zero_le _) (Nat.zero_le _) ?_
        refine zR_laldN C eX6_clearLoans_57 1 rW_g1 ⟨by omega, by decide⟩ ?_
        refine zR_lastN C eX6_clearLoans_58 1 rW_g1 ⟨by omega, by decide⟩ rW_s1 ?_
        refine zR_iinc (lv' := [(3, _), (2, _), (0, _), (1, _)]) (v' := 3) C eX6_clearLoans_59 0 rfl (by decide) (by rw [hn]; decide) rfl ?_
        refine zR_goto C eX6_clearLoans_62 ?_
        refine zR_iload_n C eX6_clearLoans_34 0 rfl rfl ?_
        refine zR_iconst (v := 5) C eX6_clearLoans_35 (by decide) ?_
        refine zR_icmp_ge C eX6_clearLoans_36 (fun h => absurd h (by decide)) (fun _ => ?_)
        refine zR_aload_n C eX6_clearLoans_39 2 rfl rfl ?_
        refine zR_get C fX6_7 eX6_clearLoans_40 0 rW_g0 rfl ?_
        refine zR_iload_n C eX6_clearLoans_43 3 rfl rfl ?_
        refine zR_iload_n C eX6_clearLoans_44 0 rfl rfl ?_
        refine zR_callS1 C kX6_138 eX6_clearLoans_45 (c_X6_ofLoanAtN _ 3 (by assumption) (by decide)) rfl rfl (by decide) (by decide) (Nat.le_of_ble_eq_true rfl) (Nat.zero_le _) (Nat.zero_le _) ?_
        refine zR_aload_n C eX6_clearLoans_48 2 rfl rfl ?_
        refine zR_get C fX6_7 eX6_clearLoans_49 0 rW_g0 rfl ?_
        refine zR_iload_n C eX6_clearLoans_52 1 rfl rfl ?_
        refine zR_iload_n C eX6_clearLoans_53 0 rfl rfl ?_
        refine zR_callS1 C kX6_138 eX6_clearLoans_54 (c_X6_ofLoanAtN _ 3 (by assumption) (by decide)) rfl rfl (by decide) (by decide) (Nat.le_of_ble_eq_true rfl) (Nat.zero_le _) (Nat.zero_le _) ?_
        refine zR_laldN C eX6_clearLoans_57 1 rW_g1 ⟨by omega, by decide⟩ ?_
        refine zR_lastN C eX6_clearLoans_58 1 rW_g1 ⟨by omega, by decide⟩ rW_s1 ?_
        refine zR_iinc (lv' := [(3, _), (2, _), (0, _), (1, _)]) (v' := 4) C eX6_clearLoans_59 0 rfl (by decide) (by rw [hn]; decide) rfl ?_
        refine zR_goto C eX6_clearLoans_62 ?_
        refine zR_iload_n C eX6_clearLoans_34 0 rfl rfl ?_
        refine zR_iconst (v := 5) C eX6_clearLoans_35 (by decide) ?_
        refine zR_icmp_ge C eX6_clearLoans_36 (fun h => absurd h (by decide)) (fun _ => ?_)
        refine zR_aload_n C eX6_clearLoans_39 2 rfl rfl ?_
        refine zR_get C fX6_7 eX6_clearLoans_40 0 rW_g0 rfl ?_
        refine zR_iload_n C eX6_clearLoans_43 3 rfl rfl ?_
        refine zR_iload_n C eX6_clearLoans_44 0 rfl rfl ?_
        refine zR_callS1 C kX6_138 eX6_clearLoans_45 (c_X6_ofLoanAtN _ 4 (by assumption) (by decide)) rfl rfl (by decide) (by decide) (Nat.le_of_ble_eq_true rfl) (Nat.zero_le _) (Nat.zero_le _) ?_
        refine zR_aload_n C eX6_clearLoans_48 2 rfl rfl ?_
        refine zR_get C fX6_7 eX6_clearLoans_49 0 rW_g0 rfl ?_
        refine zR_iload_n C eX6_clearLoans_52 1 rfl rfl ?_
        refine zR_iload_n C eX6_clearLoans_53 0 rfl rfl ?_
        refine zR_callS1 C kX6_138 eX6_clearLoans_54 (c_X6_ofLoanAtN _ 4 (by assumption) (by decide)) rfl rfl (by decide) (by decide) (Nat.le_of_ble_eq_true rfl) (Nat.zero_le _) (Nat.zero_le _) ?_
        refine zR_laldN C eX6_clearLoans_57 1 rW_g1 ⟨by omega, by decide⟩ ?_
        refine zR_lastN C eX6_clearLoans_58 1 rW_g1 ⟨by omega, by decide⟩ rW_s1 ?_
        refine zR_iinc (lv' := [(3, _), (2, _), (0, _), (1, _)]) (v' := 5) C eX6_clearLoans_59 0 rfl (by decide) (by rw [hn]; decide) rfl ?_
        refine zR_goto C eX6_clearLoans_62 ?_
        refine zR_iload_n C eX6_clearLoans_34 0 rfl rfl ?_
        refine zR_iconst (v := 5) C eX6_clearLoans_35 (by decide) ?_
        refine zR_icmp_ge C eX6_clearLoans_36 (fun _ => ?_) (fun h => absurd h (by decide))
        refine zR_iinc (lv' := [(1, _), (3, _), (2, _), (0, _)]) (v' := nI ((r_cloop r i).2 + 1)) C eX6_clearLoans_65 3 rfl (zinc _) (by rw [hn]; decide) rfl ?_
        refine zR_iinc (lv' := [(2, _), (1, _), (3, _), (0, _)]) (v' := nI (i + 1)) C eX6_clearLoans_68 2 rfl (zinc i) (by rw [hn]; decide) rfl ?_
        refine zR_goto C eX6_clearLoans_71 ?_
        have e1 : r_cloop r (i + 1) = (r_mv5 (r_cloop r i).1 i (r_cloop r i).2, (r_cloop r i).2 + 1) := if_neg h28
        refine zR_lv [(2, .int (nI (i + 1))), (0, .ref (q 0)), (1, .int (nI (r_cloop r (i + 1)).2))] [0, 3, 1] (by rw [e1] <;> rfl) ?_
        refine zR_ws (rW g q m (r_cloop r (i + 1)).1) (by rw [e1] <;> rfl) ?_
        exact ih (i + 1) (by omega)
set_option maxHeartbeats 1000000 in
set_option maxRecDepth 100000 in
theorem c_X6_clearLoans {l : Launch} {g : zG} (q : Nat → Nat) (m : MD) (r : RW)  (hr : zokl (r 12) 40) : zM l g yX6_clearLoans cX6_clearLoans 4 none 1 0 0 [.ref (q 0)] (rW g q m r) (zE none (rW g q m (r_clear r))) := by
  refine zM_of (by decide +kernel) (Nat.le_of_ble_eq_true rfl) (fun x hl hn _ _ _ C => ?_)
  subst hl
  show zR x g _ (0, 0) 0 [(0, .ref (q 0))] [] _
  refine zR_iconst (v := 0) C eX6_clearLoans_0 (by decide) ?_
  refine zR_istore_n (lv' := [(1, _), (0, _)]) C eX6_clearLoans_1 rfl (by rw [hn]; decide) rfl ?_
  refine zR_iconst (v := 0) C eX6_clearLoans_2 (by decide) ?_
  refine zR_istore_n (lv' := [(2, _), (1, _), (0, _)]) C eX6_clearLoans_3 rfl (by rw [hn]; decide) rfl ?_
  refine zR_lv [(2, .int (nI 0)), (0, _), (1, .int (nI 0))] [0, 2, 1] rfl ?_
  exact c_X6_clearLoans_lp hn C hr _ 0 (Nat.zero_add _)
theorem r_nl_in (r : RW) : ∀ i : Nat, zit (r_nlstep r) (-6) i = -6 ∨ ∃ j, j < i ∧ zit (r_nlstep r) (-6) i = nI j
  | 0 => Or.inl rfl
  | i + 1 => by
    have ih : zit (r_nlstep r) (-6) i = -6 ∨ ∃ j, j < i + 1 ∧ zit (r_nlstep r) (-6) i = nI j := (r_nl_in r i).imp id (fun ⟨j, h, e⟩ => ⟨j, by omega, e⟩)
    have hi : ∃ j, j < i + 1 ∧ nI i = nI j := ⟨i, by omega, rfl⟩
    show r_nlstep r i (zit (r_nlstep r) (-6) i) = -6 ∨ ∃ j, j < i + 1 ∧ r_nlstep r i (zit (r_nlstep r) (-6) i) = nI j
    unfold r_nlstep
    split
    · exact ih
    · split
      · split
        · exact Or.inr hi
        · split
          · exact Or.inr hi
          · exact ih
      · exact ih
theorem z6_in {v : Int32} {i n : Nat} (h : v = -6 ∨ ∃ j, j < i ∧ v = nI j) (h6 : ¬ v = -6) (hi : i ≤ n) (hn : n < 2 ^ 31) : vp_in v n ∧ zn32 v < i ∧ v = nI (zn32 v) := by
  rcases h with h | ⟨j, hj, rfl⟩
  · exact absurd h h6
  · have e : zn32 (nI j) = j := nI_clamp (by omega)
    rw [e]; exact ⟨vp_in_nI (by omega) hn, hj, rfl⟩
set_option maxHeartbeats 1000000 in
set_option maxRecDepth 100000 in
theorem c_X6_nextLoan_lp {x : zX} {g : zG} {q : Nat → Nat} {m : MD} {r : RW} (hn : zn x = 4) (C : zC x g RX6 cX6_nextLoan (some .int) 1) (hr : zokl (r 12) 40) : ∀ k i : Nat, i + k = zn64 (r 12) → zR x g (zE (some (.int (r_nextL r))) (rW g q m r)) (0, 0) 5 [(2, .int (nI i)), (1, .int (zit (r_nlstep r) (-6) i)), (0, .ref (q 0))] [] (rW g q m r) := by
  intro k
  induction k with
  | zero =>
    intro i hk
    have hi : i = zn64 (r 12) := by omega
    refine zR_iload_n C eX6_nextLoan_5 0 rfl rfl ?_
    refine zR_i2l C eX6_nextLoan_6 ?_
    refine zR_aload_n C eX6_nextLoan_7 2 rfl rfl ?_
    refine zR_get C fX6_7 eX6_nextLoan_8 0 rW_g0 rfl ?_
    refine zR_bipush (v := 12) C eX6_nextLoan_11 (by decide) ?_
    refine zR_laldK C eX6_nextLoan_13 1 rW_g1 12 rfl (vp_in_iff.mpr (by decide)) ?_
    refine zR_cifge C eX6_nextLoan_14 eX6_nextLoan_15 (fun h14 => ?_) (fun h14 => ?_)
    · skip
      refine zR_iload_n C eX6_nextLoan_106 1 rfl rfl ?_
      subst hi
      exact zR_iret C rfl rfl eX6_nextLoan_107 (Nat.zero_le _) (Nat.zero_le _) ⟨rfl, rfl⟩
    · skip
      exact absurd h14 (zlpl_out hr (by decide) hi)
  | succ k ih =>
    intro i hk
    have hlt : i < zn64 (r 12) := by omega
    have hi40 : i < 40 := Nat.lt_of_lt_of_le hlt hr.2
    refine zR_iload_n C eX6_nextLoan_5 0 rfl rfl ?_
    refine zR_i2l C eX6_nextLoan_6 ?_
    refine zR_aload_n C eX6_nextLoan_7 2 rfl rfl ?_
    refine zR_get C fX6_7 eX6_nextLoan_8 0 rW_g0 rfl ?_
    refine zR_bipush (v := 12) C eX6_nextLoan_11 (by decide) ?_
    refine zR_laldK C eX6_nextLoan_13 1 rW_g1 12 rfl (vp_in_iff.mpr (by decide)) ?_
    refine zR_cifge C eX6_nextLoan_14 eX6_nextLoan_15 (fun h14 => ?_) (fun h14 => ?_)
    · skip
      exact absurd (zlpl_in hr (by decide) hlt) h14
    · skip
      refine zR_aload_n C eX6_nextLoan_18 2 rfl rfl ?_
      refine zR_get C fX6_7 eX6_nextLoan_19 0 rW_g0 rfl ?_
      refine zR_iload_n C eX6_nextLoan_22 0 rfl rfl ?_
      refine zR_iconst (v := 3) C eX6_nextLoan_23 (by decide) ?_
      refine zR_callS1 C kX6_138 eX6_nextLoan_24 (c_X6_ofLoanAtN _ 3 hi40 (by decide)) rfl rfl (by decide) (by decide) (Nat.le_of_ble_eq_true rfl) (Nat.zero_le _) (Nat.zero_le _) ?_
      refine zR_laldN C eX6_nextLoan_27 1 rW_g1 ⟨by omega, by decide⟩ ?_
      refine zR_lconst (v := 0) C eX6_nextLoan_28 (by decide) ?_
      refine zR_cifle C eX6_nextLoan_29 eX6_nextLoan_30 (fun h29 => ?_) (fun h29 => ?_)
      · skip
        refine zR_iconst (v := 0) C eX6_nextLoan_58 (by decide) ?_
        refine zR_istore_n (lv' := [(3, _), (2, _), (1, _), (0, _)]) C eX6_nextLoan_59 rfl (by rw [hn]; decide) rfl ?_
        refine zR_iload_n C eX6_nextLoan_60 0 rfl rfl ?_
        refine zR_ifeq_t C eX6_nextLoan_61 (by decide) ?_
        refine zR_iload_n C eX6_nextLoan_98 2 rfl rfl ?_
        refine zR_istore_n (lv' := [(1, _), (3, _), (2, _), (0, _)]) C eX6_nextLoan_99 rfl (by rw [hn]; decide) rfl ?_
        refine zR_iinc (lv' := [(2, _), (1, _), (3, _), (0, _)]) (v' := nI (i + 1)) C eX6_nextLoan_100 2 rfl (zinc i) (by rw [hn]; decide) rfl ?_
        refine zR_goto C eX6_nextLoan_103 ?_
        have e1 : zit (r_nlstep r) (-6) (i + 1) = (zit (r_nlstep r) (-6) i) := by
          show r_nlstep r i (zit (r_nlstep r) (-6) i) = _
          exact (if_pos h29)
        refine zR_lv [(2, _), (1, .int (zit (r_nlstep r) (-6) (i + 1))), (0, _)] [0, 1, 3] (by rw [e1] <;> rfl) ?_
        exact ih (i + 1) (by omega)
      · skip
        refine zR_aload_n C eX6_nextLoan_33 2 rfl rfl ?_
        refine zR_get C fX6_7 eX6_nextLoan_34 0 rW_g0 rfl ?_
        refine zR_iload_n C eX6_nextLoan_37 0 rfl rfl ?_
        refine zR_iconst (v := 4) C eX6_nextLoan_38 (by decide) ?_
        refine zR_callS1 C kX6_138 eX6_nextLoan_39 (c_X6_ofLoanAtN _ 4 hi40 (by decide)) rfl rfl (by decide) (by decide) (Nat.le_of_ble_eq_true rfl) (Nat.zero_le _) (Nat.zero_le _) ?_
        refine zR_laldN C eX6_nextLoan_42 1 rW_g1 ⟨by omega, by decide⟩ ?_
        refine zR_aload_n C eX6_nextLoan_43 2 rfl rfl ?_
        refine zR_get C fX6_7 eX6_nextLoan_44 0 rW_g0 rfl ?_
        refine zR_bipush (v := 9) C eX6_nextLoan_47 (by decide) ?_
        refine zR_laldK C eX6_nextLoan_49 1 rW_g1 9 rfl (vp_in_iff.mpr (by decide)) ?_
        refine zR_cifgt C eX6_nextLoan_50 eX6_nextLoan_51 (fun h50 => ?_) (fun h50 => ?_)
        · skip
          refine zR_iconst (v := 0) C eX6_nextLoan_58 (by decide) ?_
          refine zR_istore_n (lv' := [(3, _), (2, _), (1, _), (0, _)]) C eX6_nextLoan_59 rfl (by rw [hn]; decide) rfl ?_
          refine zR_iload_n C eX6_nextLoan_60 0 rfl rfl ?_
          refine zR_ifeq_t C eX6_nextLoan_61 (by decide) ?_
          refine zR_iload_n C eX6_nextLoan_98 2 rfl rfl ?_
          refine zR_istore_n (lv' := [(1, _), (3, _), (2, _), (0, _)]) C eX6_nextLoan_99 rfl (by rw [hn]; decide) rfl ?_
          refine zR_iinc (lv' := [(2, _), (1, _), (3, _), (0, _)]) (v' := nI (i + 1)) C eX6_nextLoan_100 2 rfl (zinc i) (by rw [hn]; decide) rfl ?_
          refine zR_goto C eX6_nextLoan_103 ?_
          have e1 : zit (r_nlstep r) (-6) (i + 1) = (zit (r_nlstep r) (-6) i) := by
            show r_nlstep r i (zit (r_nlstep r) (-6) i) = _
            exact ((if_neg h29).trans (if_neg h50))
          refine zR_lv [(2, _), (1, .int (zit (r_nlstep r) (-6) (i + 1))), (0, _)] [0, 1, 3] (by rw [e1] <;> rfl) ?_
          exact ih (i + 1) (by omega)
        · skip
          refine zR_iconst (v := 1) C eX6_nextLoan_54 (by decide) ?_
          refine zR_goto C eX6_nextLoan_55 ?_
          refine zR_istore_n (lv' := [(3, _), (2, _), (1, _), (0, _)]) C eX6_nextLoan_59 rfl (by rw [hn]; decide) rfl ?_
          refine zR_iload_n C eX6_nextLoan_60 0 rfl rfl ?_
          refine zR_ifeq_f C eX6_nextLoan_61 (by decide) ?_
          refine zR_iload_n C eX6_nextLoan_64 2 rfl rfl ?_
          refine zR_bipush (v := -6) C eX6_nextLoan_65 (by decide) ?_
          refine zR_icmp_eq C eX6_nextLoan_67 (fun h67 => ?_) (fun h67 => ?_)
          · skip
            refine zR_iload_n C eX6_nextLoan_94 1 rfl rfl ?_
            refine zR_goto C eX6_nextLoan_95 ?_
            refine zR_istore_n (lv' := [(1, _), (3, _), (2, _), (0, _)]) C eX6_nextLoan_99 rfl (by rw [hn]; decide) rfl ?_
            refine zR_iinc (lv' := [(2, _), (1, _), (3, _), (0, _)]) (v' := nI (i + 1)) C eX6_nextLoan_100 2 rfl (zinc i) (by rw [hn]; decide) rfl ?_
            refine zR_goto C eX6_nextLoan_103 ?_
            have e1 : zit (r_nlstep r) (-6) (i + 1) = nI i := by
              show r_nlstep r i (zit (r_nlstep r) (-6) i) = _
              exact ((if_neg h29).trans ((if_pos h50).trans (if_pos h67)))
            refine zR_lv [(2, _), (1, .int (zit (r_nlstep r) (-6) (i + 1))), (0, _)] [0, 1, 3] (by rw [e1] <;> rfl) ?_
            exact ih (i + 1) (by omega)
          · skip
            have hv6 := (z6_in (r_nl_in r i) h67 (Nat.le_of_lt hi40) (by decide)).1
            have hz6 := vp_lt hv6 (by decide)
            refine zR_aload_n C eX6_nextLoan_70 3 rfl rfl ?_
            refine zR_get C fX6_7 eX6_nextLoan_71 0 rW_g0 rfl ?_
            refine zR_iload_n C eX6_nextLoan_74 1 rfl rfl ?_
            refine zR_iconst (v := 4) C eX6_nextLoan_75 (by decide) ?_
            refine zR_callS1 C kX6_138 eX6_nextLoan_76 (c_X6_ofLoanAtN _ 4 hi40 (by decide)) rfl rfl (by decide) (by decide) (Nat.le_of_ble_eq_true rfl) (Nat.zero_le _) (Nat.zero_le _) ?_
            refine zR_laldN C eX6_nextLoan_79 1 rW_g1 ⟨by omega, by decide⟩ ?_
            refine zR_aload_n C eX6_nextLoan_80 3 rfl rfl ?_
            refine zR_get C fX6_7 eX6_nextLoan_81 0 rW_g0 rfl ?_
            refine zR_iload_n C eX6_nextLoan_84 2 rfl rfl ?_
            refine zR_iconst (v := 4) C eX6_nextLoan_85 (by decide) ?_
            refine zR_callS1 C kX6_138 eX6_nextLoan_86 (c_X6_ofLoanAt _ 4 (by exact hv6) (by decide)) rfl rfl (by decide) (by decide) (Nat.le_of_ble_eq_true rfl) (Nat.zero_le _) (Nat.zero_le _) ?_
            refine zR_laldN C eX6_nextLoan_89 1 rW_g1 ⟨by omega, by decide⟩ ?_
            refine zR_cifge C eX6_nextLoan_90 eX6_nextLoan_91 (fun h90 => ?_) (fun h90 => ?_)
            · skip
              refine zR_iload_n C eX6_nextLoan_98 2 rfl rfl ?_
              refine zR_istore_n (lv' := [(1, _), (3, _), (2, _), (0, _)]) C eX6_nextLoan_99 rfl (by rw [hn]; decide) rfl ?_
              refine zR_iinc (lv' := [(2, _), (1, _), (3, _), (0, _)]) (v' := nI (i + 1)) C eX6_nextLoan_100 2 rfl (zinc i) (by rw [hn]; decide) rfl ?_
              refine zR_goto C eX6_nextLoan_103 ?_
              have e1 : zit (r_nlstep r) (-6) (i + 1) = (zit (r_nlstep r) (-6) i) := by
                show r_nlstep r i (zit (r_nlstep r) (-6) i) = _
                exact ((if_neg h29).trans ((if_pos h50).trans ((if_neg h67).trans (if_neg h90))))
              refine zR_lv [(2, _), (1, .int (zit (r_nlstep r) (-6) (i + 1))), (0, _)] [0, 1, 3] (by rw [e1] <;> rfl) ?_
              exact ih (i + 1) (by omega)
            · skip
              refine zR_iload_n C eX6_nextLoan_94 1 rfl rfl ?_
              refine zR_goto C eX6_nextLoan_95 ?_
              refine zR_istore_n (lv' := [(1, _), (3, _), (2, _), (0, _)]) C eX6_nextLoan_99 rfl (by rw [hn]; decide) rfl ?_
              refine zR_iinc (lv' := [(2, _), (1, _), (3, _), (0, _)]) (v' := nI (i + 1)) C eX6_nextLoan_100 2 rfl (zinc i) (by rw [hn]; decide) rfl ?_
              refine zR_goto C eX6_nextLoan_103 ?_
              have e1 : zit (r_nlstep r) (-6) (i + 1) = nI i := by
                show r_nlstep r i (zit (r_nlstep r) (-6) i) = _
                exact ((if_neg h29).trans ((if_pos h50).trans ((if_neg h67).trans (if_pos h90))))
              refine zR_lv [(2, _), (1, .int (zit (r_nlstep r) (-6) (i + 1))), (0, _)] [0, 1, 3] (by rw [e1] <;> rfl) ?_
              exact ih (i + 1) (by omega)
set_option maxHeartbeats 1000000 in
set_option maxRecDepth 100000 in
theorem c_X6_nextLoan {l : Launch} {g : zG} (q : Nat → Nat) (m : MD) (r : RW)  (hr : zokl (r 12) 40) : zM l g yX6_nextLoan cX6_nextLoan 4 (some .int) 1 0 0 [.ref (q 0)] (rW g q m r) (zE (some (.int (r_nextL r))) (rW g q m r)) := by
  refine zM_of (by decide +kernel) (Nat.le_of_ble_eq_true rfl) (fun x hl hn _ _ _ C => ?_)
  subst hl
  show zR x g _ (0, 0) 0 [(0, .ref (q 0))] [] _
  refine zR_bipush (v := -6) C eX6_nextLoan_0 (by decide) ?_
  refine zR_istore_n (lv' := [(1, _), (0, _)]) C eX6_nextLoan_2 rfl (by rw [hn]; decide) rfl ?_
  refine zR_iconst (v := 0) C eX6_nextLoan_3 (by decide) ?_
  refine zR_istore_n (lv' := [(2, _), (1, _), (0, _)]) C eX6_nextLoan_4 rfl (by rw [hn]; decide) rfl ?_
  refine zR_lv [(2, .int (nI 0)), (1, .int (zit (r_nlstep r) (-6) 0)), (0, _)] [0, 1, 2] rfl ?_
  exact c_X6_nextLoan_lp hn C hr _ 0 (Nat.zero_add _)
set_option maxHeartbeats 1000000 in
set_option maxRecDepth 100000 in
theorem c_X6_grant {l : Launch} {g : zG} (q : Nat → Nat) (m : MD) (r : RW) (s0 : Nat) (hs : s0 < 8) : zM l g yX6_grant cX6_grant 8 none 3 0 0 [.ref (q 0), .int (nI s0)] (rW g q m r) (zE none (rW g q m (r_grant r s0))) := by
  refine zM_of (by decide +kernel) (Nat.le_of_ble_eq_true rfl) (fun x hl hn _ _ _ C => ?_)
  subst hl
  show zR x g _ (0, 0) 0 [(0, .ref (q 0)), (1, .int (nI s0))] [] _
  refine zR_aload_n C eX6_grant_0 0 rfl rfl ?_
  refine zR_get C fX6_7 eX6_grant_1 0 rW_g0 rfl ?_
  refine zR_iload_n C eX6_grant_4 1 rfl rfl ?_
  refine zR_iconst (v := 0) C eX6_grant_5 (by decide) ?_
  refine zR_callS1 C kX6_86 eX6_grant_6 (c_X6_ofN _ 0 (by assumption) (by decide)) rfl rfl (by decide) (by decide) (Nat.le_of_ble_eq_true rfl) (Nat.zero_le _) (Nat.zero_le _) ?_
  refine zR_laldN C eX6_grant_9 1 rW_g1 ⟨by omega, by decide⟩ ?_
  refine zR_lstore_n (lv' := [(2, _), (0, _), (1, _)]) C eX6_grant_10 rfl (by rw [hn]; decide) rfl ?_
  refine zR_aload_n C eX6_grant_11 1 rfl rfl ?_
  refine zR_iload_n C eX6_grant_12 2 rfl rfl ?_
  refine zR_callV1 C kX6_90 eX6_grant_13 (c_X6_leftN q _ _ _ (by assumption)) rfl 0 6 rW_g0 rfl rfl _ rW_c rW_n rfl (by decide) (by decide) (Nat.le_of_ble_eq_true rfl) (Nat.zero_le _) (Nat.zero_le _) rW_f rW_r ?_
  refine zR_lload_n C eX6_grant_16 0 rfl rfl ?_
  refine zR_cifge C eX6_grant_17 eX6_grant_18 (fun h17 => ?_) (fun h17 => ?_)
  · skip
    refine zR_lload_n C eX6_grant_29 0 rfl rfl ?_
    refine zR_topl (b := r_some r s0) (if_neg h17).symm ?_
    refine zR_lstore (lv' := [(4, _), (2, _), (0, _), (1, _)]) C eX6_grant_30 (by rw [hn]; decide) rfl ?_
    refine zR_aload_n C eX6_grant_32 2 rfl rfl ?_
    refine zR_iload_n C eX6_grant_33 3 rfl rfl ?_
    refine zR_callV1 C kX6_90 eX6_grant_34 (c_X6_leftN q _ _ _ (by assumption)) rfl 0 6 rW_g0 rfl rfl _ rW_c rW_n rfl (by decide) (by decide) (Nat.le_of_ble_eq_true rfl) (Nat.zero_le _) (Nat.zero_le _) rW_f rW_r ?_
    refine zR_lconst (v := 0) C eX6_grant_37 (by decide) ?_
    refine zR_cifle C eX6_grant_38 eX6_grant_39 (fun h38 => ?_) (fun h38 => ?_)
    · skip
      refine zR_lconst (v := 0) C eX6_grant_64 (by decide) ?_
      refine zR_topl (b := r_laps r s0) (if_pos h38).symm ?_
      refine zR_lstore (lv' := [(6, _), (4, _), (2, _), (0, _), (1, _)]) C eX6_grant_65 (by rw [hn]; decide) rfl ?_
      refine zR_aload_n C eX6_grant_67 3 rfl rfl ?_
      refine zR_get C fX6_7 eX6_grant_68 0 rW_g0 rfl ?_
      refine zR_iload_n C eX6_grant_71 4 rfl rfl ?_
      refine zR_bipush (v := 7) C eX6_grant_72 (by decide) ?_
      refine zR_callS1 C kX6_105 eX6_grant_74 (c_X6_accountOfN _ 7 (by assumption) (by decide)) rfl rfl (by decide) (by decide) (Nat.le_of_ble_eq_true rfl) (Nat.zero_le _) (Nat.zero_le _) ?_
      refine zR_dup2 C eX6_grant_77 rfl rfl ?_
      refine zR_laldN C eX6_grant_78 1 rW_g1 ⟨by omega, by decide⟩ ?_
      refine zR_lload C eX6_grant_79 0 rfl ?_
      refine zR_ladd C eX6_grant_81 ?_
      refine zR_lastN C eX6_grant_82 1 rW_g1 ⟨by omega, by decide⟩ rW_s1 ?_
      refine zR_aload_n C eX6_grant_83 3 rfl rfl ?_
      refine zR_get C fX6_7 eX6_grant_84 0 rW_g0 rfl ?_
      refine zR_iload_n C eX6_grant_87 4 rfl rfl ?_
      refine zR_iconst (v := 0) C eX6_grant_88 (by decide) ?_
      refine zR_callS1 C kX6_105 eX6_grant_89 (c_X6_accountOfN _ 0 (by assumption) (by decide)) rfl rfl (by decide) (by decide) (Nat.le_of_ble_eq_true rfl) (Nat.zero_le _) (Nat.zero_le _) ?_
      refine zR_dup2 C eX6_grant_92 rfl rfl ?_
      refine zR_laldN C eX6_grant_93 1 rW_g1 ⟨by omega, by decide⟩ ?_
      refine zR_lload_n C eX6_grant_94 2 rfl rfl ?_
      refine zR_ladd C eX6_grant_95 ?_
      refine zR_lastN C eX6_grant_96 1 rW_g1 ⟨by omega, by decide⟩ rW_s1 ?_
      refine zR_aload_n C eX6_grant_97 3 rfl rfl ?_
      refine zR_get C fX6_7 eX6_grant_98 0 rW_g0 rfl ?_
      refine zR_iload_n C eX6_grant_101 4 rfl rfl ?_
      refine zR_iconst (v := 2) C eX6_grant_102 (by decide) ?_
      refine zR_callS1 C kX6_86 eX6_grant_103 (c_X6_ofN _ 2 (by assumption) (by decide)) rfl rfl (by decide) (by decide) (Nat.le_of_ble_eq_true rfl) (Nat.zero_le _) (Nat.zero_le _) ?_
      refine zR_aload_n C eX6_grant_106 3 rfl rfl ?_
      refine zR_get C fX6_7 eX6_grant_107 0 rW_g0 rfl ?_
      refine zR_bipush (v := 7) C eX6_grant_110 (by decide) ?_
      refine zR_laldK C eX6_grant_112 1 rW_g1 7 rfl (vp_in_iff.mpr (by decide)) ?_
      refine zR_lastN C eX6_grant_113 1 rW_g1 ⟨by omega, by decide⟩ rW_s1 ?_
      refine zR_aload_n C eX6_grant_114 3 rfl rfl ?_
      refine zR_iload_n C eX6_grant_115 4 rfl rfl ?_
      refine zR_lload_n C eX6_grant_116 2 rfl rfl ?_
      refine zR_lload C eX6_grant_117 0 rfl ?_
      refine zR_lsub C eX6_grant_119 ?_
      refine zR_callVv C kX6_111 eX6_grant_120 (c_X6_changeN q _ _ _ _ (by assumption)) rfl 0 6 rW_g0 rfl rfl _ rW_c rW_n rfl (by decide) (by decide) (Nat.le_of_ble_eq_true rfl) (Nat.zero_le _) (Nat.zero_le _) rW_f rW_r ?_
      exact zR_vret C rfl eX6_grant_123 (Nat.zero_le _) (Nat.zero_le _) ⟨rfl, rfl⟩
    · skip
      refine zR_aload_n C eX6_grant_42 2 rfl rfl ?_
      refine zR_iload_n C eX6_grant_43 3 rfl rfl ?_
      refine zR_callV1 C kX6_90 eX6_grant_44 (c_X6_leftN q _ _ _ (by assumption)) rfl 0 6 rW_g0 rfl rfl _ rW_c rW_n rfl (by decide) (by decide) (Nat.le_of_ble_eq_true rfl) (Nat.zero_le _) (Nat.zero_le _) rW_f rW_r ?_
      refine zR_lload C eX6_grant_47 0 rfl ?_
      refine zR_aload_n C eX6_grant_49 2 rfl rfl ?_
      refine zR_get C fX6_7 eX6_grant_50 0 rW_g0 rfl ?_
      refine zR_iconst (v := 1) C eX6_grant_53 (by decide) ?_
      refine zR_laldK C eX6_grant_54 1 rW_g1 1 rfl (vp_in_iff.mpr (by decide)) ?_
      refine zR_lmul C eX6_grant_55 ?_
      refine zR_ldc2 C qX6_80 eX6_grant_56 ?_
      refine zR_ldiv C eX6_grant_59 (by decide) ?_
      refine zR_lsub C eX6_grant_60 ?_
      refine zR_goto C eX6_grant_61 ?_
      refine zR_topl (b := r_laps r s0) (if_neg h38).symm ?_
      refine zR_lstore (lv' := [(6, _), (4, _), (2, _), (0, _), (1, _)]) C eX6_grant_65 (by rw [hn]; decide) rfl ?_
      refine zR_aload_n C eX6_grant_67 3 rfl rfl ?_
      refine zR_get C fX6_7 eX6_grant_68 0 rW_g0 rfl ?_
      refine zR_iload_n C eX6_grant_71 4 rfl rfl ?_
      refine zR_bipush (v := 7) C eX6_grant_72 (by decide) ?_
      refine zR_callS1 C kX6_105 eX6_grant_74 (c_X6_accountOfN _ 7 (by assumption) (by decide)) rfl rfl (by decide) (by decide) (Nat.le_of_ble_eq_true rfl) (Nat.zero_le _) (Nat.zero_le _) ?_
      refine zR_dup2 C eX6_grant_77 rfl rfl ?_
      refine zR_laldN C eX6_grant_78 1 rW_g1 ⟨by omega, by decide⟩ ?_
      refine zR_lload C eX6_grant_79 0 rfl ?_
      refine zR_ladd C eX6_grant_81 ?_
      refine zR_lastN C eX6_grant_82 1 rW_g1 ⟨by omega, by decide⟩ rW_s1 ?_
      refine zR_aload_n C eX6_grant_83 3 rfl rfl ?_
      refine zR_get C fX6_7 eX6_grant_84 0 rW_g0 rfl ?_
      refine zR_iload_n C eX6_grant_87 4 rfl rfl ?_
      refine zR_iconst (v := 0) C eX6_grant_88 (by decide) ?_
      refine zR_callS1 C kX6_105 eX6_grant_89 (c_X6_accountOfN _ 0 (by assumption) (by decide)) rfl rfl (by decide) (by decide) (Nat.le_of_ble_eq_true rfl) (Nat.zero_le _) (Nat.zero_le _) ?_
      refine zR_dup2 C eX6_grant_92 rfl rfl ?_
      refine zR_laldN C eX6_grant_93 1 rW_g1 ⟨by omega, by decide⟩ ?_
      refine zR_lload_n C eX6_grant_94 2 rfl rfl ?_
      refine zR_ladd C eX6_grant_95 ?_
      refine zR_lastN C eX6_grant_96 1 rW_g1 ⟨by omega, by decide⟩ rW_s1 ?_
      refine zR_aload_n C eX6_grant_97 3 rfl rfl ?_
      refine zR_get C fX6_7 eX6_grant_98 0 rW_g0 rfl ?_
      refine zR_iload_n C eX6_grant_101 4 rfl rfl ?_
      refine zR_iconst (v := 2) C eX6_grant_102 (by decide) ?_
      refine zR_callS1 C kX6_86 eX6_grant_103 (c_X6_ofN _ 2 (by assumption) (by decide)) rfl rfl (by decide) (by decide) (Nat.le_of_ble_eq_true rfl) (Nat.zero_le _) (Nat.zero_le _) ?_
      refine zR_aload_n C eX6_grant_106 3 rfl rfl ?_
      refine zR_get C fX6_7 eX6_grant_107 0 rW_g0 rfl ?_
      refine zR_bipush (v := 7) C eX6_grant_110 (by decide) ?_
      refine zR_laldK C eX6_grant_112 1 rW_g1 7 rfl (vp_in_iff.mpr (by decide)) ?_
      refine zR_lastN C eX6_grant_113 1 rW_g1 ⟨by omega, by decide⟩ rW_s1 ?_
      refine zR_aload_n C eX6_grant_114 3 rfl rfl ?_
      refine zR_iload_n C eX6_grant_115 4 rfl rfl ?_
      refine zR_lload_n C eX6_grant_116 2 rfl rfl ?_
      refine zR_lload C eX6_grant_117 0 rfl ?_
      refine zR_lsub C eX6_grant_119 ?_
      refine zR_callVv C kX6_111 eX6_grant_120 (c_X6_changeN q _ _ _ _ (by assumption)) rfl 0 6 rW_g0 rfl rfl _ rW_c rW_n rfl (by decide) (by decide) (Nat.le_of_ble_eq_true rfl) (Nat.zero_le _) (Nat.zero_le _) rW_f rW_r ?_
      exact zR_vret C rfl eX6_grant_123 (Nat.zero_le _) (Nat.zero_le _) ⟨rfl, rfl⟩
  · skip
    refine zR_aload_n C eX6_grant_21 1 rfl rfl ?_
    refine zR_iload_n C eX6_grant_22 2 rfl rfl ?_
    refine zR_callV1 C kX6_90 eX6_grant_23 (c_X6_leftN q _ _ _ (by assumption)) rfl 0 6 rW_g0 rfl rfl _ rW_c rW_n rfl (by decide) (by decide) (Nat.le_of_ble_eq_true rfl) (Nat.zero_le _) (Nat.zero_le _) rW_f rW_r ?_
    refine zR_goto C eX6_grant_26 ?_
    refine zR_topl (b := r_some r s0) (if_pos h17).symm ?_
    refine zR_lstore (lv' := [(4, _), (2, _), (0, _), (1, _)]) C eX6_grant_30 (by rw [hn]; decide) rfl ?_
    refine zR_aload_n C eX6_grant_32 2 rfl rfl ?_
    refine zR_iload_n C eX6_grant_33 3 rfl rfl ?_
    refine zR_callV1 C kX6_90 eX6_grant_34 (c_X6_leftN q _ _ _ (by assumption)) rfl 0 6 rW_g0 rfl rfl _ rW_c rW_n rfl (by decide) (by decide) (Nat.le_of_ble_eq_true rfl) (Nat.zero_le _) (Nat.zero_le _) rW_f rW_r ?_
    refine zR_lconst (v := 0) C eX6_grant_37 (by decide) ?_
    refine zR_cifle C eX6_grant_38 eX6_grant_39 (fun h38 => ?_) (fun h38 => ?_)
    · skip
      refine zR_lconst (v := 0) C eX6_grant_64 (by decide) ?_
      refine zR_topl (b := r_laps r s0) (if_pos h38).symm ?_
      refine zR_lstore (lv' := [(6, _), (4, _), (2, _), (0, _), (1, _)]) C eX6_grant_65 (by rw [hn]; decide) rfl ?_
      refine zR_aload_n C eX6_grant_67 3 rfl rfl ?_
      refine zR_get C fX6_7 eX6_grant_68 0 rW_g0 rfl ?_
      refine zR_iload_n C eX6_grant_71 4 rfl rfl ?_
      refine zR_bipush (v := 7) C eX6_grant_72 (by decide) ?_
      refine zR_callS1 C kX6_105 eX6_grant_74 (c_X6_accountOfN _ 7 (by assumption) (by decide)) rfl rfl (by decide) (by decide) (Nat.le_of_ble_eq_true rfl) (Nat.zero_le _) (Nat.zero_le _) ?_
      refine zR_dup2 C eX6_grant_77 rfl rfl ?_
      refine zR_laldN C eX6_grant_78 1 rW_g1 ⟨by omega, by decide⟩ ?_
      refine zR_lload C eX6_grant_79 0 rfl ?_
      refine zR_ladd C eX6_grant_81 ?_
      refine zR_lastN C eX6_grant_82 1 rW_g1 ⟨by omega, by decide⟩ rW_s1 ?_
      refine zR_aload_n C eX6_grant_83 3 rfl rfl ?_
      refine zR_get C fX6_7 eX6_grant_84 0 rW_g0 rfl ?_
      refine zR_iload_n C eX6_grant_87 4 rfl rfl ?_
      refine zR_iconst (v := 0) C eX6_grant_88 (by decide) ?_
      refine zR_callS1 C kX6_105 eX6_grant_89 (c_X6_accountOfN _ 0 (by assumption) (by decide)) rfl rfl (by decide) (by decide) (Nat.le_of_ble_eq_true rfl) (Nat.zero_le _) (Nat.zero_le _) ?_
      refine zR_dup2 C eX6_grant_92 rfl rfl ?_
      refine zR_laldN C eX6_grant_93 1 rW_g1 ⟨by omega, by decide⟩ ?_
      refine zR_lload_n C eX6_grant_94 2 rfl rfl ?_
      refine zR_ladd C eX6_grant_95 ?_
      refine zR_lastN C eX6_grant_96 1 rW_g1 ⟨by omega, by decide⟩ rW_s1 ?_
      refine zR_aload_n C eX6_grant_97 3 rfl rfl ?_
      refine zR_get C fX6_7 eX6_grant_98 0 rW_g0 rfl ?_
      refine zR_iload_n C eX6_grant_101 4 rfl rfl ?_
      refine zR_iconst (v := 2) C eX6_grant_102 (by decide) ?_
      refine zR_callS1 C kX6_86 eX6_grant_103 (c_X6_ofN _ 2 (by assumption) (by decide)) rfl rfl (by decide) (by decide) (Nat.le_of_ble_eq_true rfl) (Nat.zero_le _) (Nat.zero_le _) ?_
      refine zR_aload_n C eX6_grant_106 3 rfl rfl ?_
      refine zR_get C fX6_7 eX6_grant_107 0 rW_g0 rfl ?_
      refine zR_bipush (v := 7) C eX6_grant_110 (by decide) ?_
      refine zR_laldK C eX6_grant_112 1 rW_g1 7 rfl (vp_in_iff.mpr (by decide)) ?_
      refine zR_lastN C eX6_grant_113 1 rW_g1 ⟨by omega, by decide⟩ rW_s1 ?_
      refine zR_aload_n C eX6_grant_114 3 rfl rfl ?_
      refine zR_iload_n C eX6_grant_115 4 rfl rfl ?_
      refine zR_lload_n C eX6_grant_116 2 rfl rfl ?_
      refine zR_lload C eX6_grant_117 0 rfl ?_
      refine zR_lsub C eX6_grant_119 ?_
      refine zR_callVv C kX6_111 eX6_grant_120 (c_X6_changeN q _ _ _ _ (by assumption)) rfl 0 6 rW_g0 rfl rfl _ rW_c rW_n rfl (by decide) (by decide) (Nat.le_of_ble_eq_true rfl) (Nat.zero_le _) (Nat.zero_le _) rW_f rW_r ?_
      exact zR_vret C rfl eX6_grant_123 (Nat.zero_le _) (Nat.zero_le _) ⟨rfl, rfl⟩
    · skip
      refine zR_aload_n C eX6_grant_42 2 rfl rfl ?_
      refine zR_iload_n C eX6_grant_43 3 rfl rfl ?_
      refine zR_callV1 C kX6_90 eX6_grant_44 (c_X6_leftN q _ _ _ (by assumption)) rfl 0 6 rW_g0 rfl rfl _ rW_c rW_n rfl (by decide) (by decide) (Nat.le_of_ble_eq_true rfl) (Nat.zero_le _) (Nat.zero_le _) rW_f rW_r ?_
      refine zR_lload C eX6_grant_47 0 rfl ?_
      refine zR_aload_n C eX6_grant_49 2 rfl rfl ?_
      refine zR_get C fX6_7 eX6_grant_50 0 rW_g0 rfl ?_
      refine zR_iconst (v := 1) C eX6_grant_53 (by decide) ?_
      refine zR_laldK C eX6_grant_54 1 rW_g1 1 rfl (vp_in_iff.mpr (by decide)) ?_
      refine zR_lmul C eX6_grant_55 ?_
      refine zR_ldc2 C qX6_80 eX6_grant_56 ?_
      refine zR_ldiv C eX6_grant_59 (by decide) ?_
      refine zR_lsub C eX6_grant_60 ?_
      refine zR_goto C eX6_grant_61 ?_
      refine zR_topl (b := r_laps r s0) (if_neg h38).symm ?_
      refine zR_lstore (lv' := [(6, _), (4, _), (2, _), (0, _), (1, _)]) C eX6_grant_65 (by rw [hn]; decide) rfl ?_
      refine zR_aload_n C eX6_grant_67 3 rfl rfl ?_
      refine zR_get C fX6_7 eX6_grant_68 0 rW_g0 rfl ?_
      refine zR_iload_n C eX6_grant_71 4 rfl rfl ?_
      refine zR_bipush (v := 7) C eX6_grant_72 (by decide) ?_
      refine zR_callS1 C kX6_105 eX6_grant_74 (c_X6_accountOfN _ 7 (by assumption) (by decide)) rfl rfl (by decide) (by decide) (Nat.le_of_ble_eq_true rfl) (Nat.zero_le _) (Nat.zero_le _) ?_
      refine zR_dup2 C eX6_grant_77 rfl rfl ?_
      refine zR_laldN C eX6_grant_78 1 rW_g1 ⟨by omega, by decide⟩ ?_
      refine zR_lload C eX6_grant_79 0 rfl ?_
      refine zR_ladd C eX6_grant_81 ?_
      refine zR_lastN C eX6_grant_82 1 rW_g1 ⟨by omega, by decide⟩ rW_s1 ?_
      refine zR_aload_n C eX6_grant_83 3 rfl rfl ?_
      refine zR_get C fX6_7 eX6_grant_84 0 rW_g0 rfl ?_
      refine zR_iload_n C eX6_grant_87 4 rfl rfl ?_
      refine zR_iconst (v := 0) C eX6_grant_88 (by decide) ?_
      refine zR_callS1 C kX6_105 eX6_grant_89 (c_X6_accountOfN _ 0 (by assumption) (by decide)) rfl rfl (by decide) (by decide) (Nat.le_of_ble_eq_true rfl) (Nat.zero_le _) (Nat.zero_le _) ?_
      refine zR_dup2 C eX6_grant_92 rfl rfl ?_
      refine zR_laldN C eX6_grant_93 1 rW_g1 ⟨by omega, by decide⟩ ?_
      refine zR_lload_n C eX6_grant_94 2 rfl rfl ?_
      refine zR_ladd C eX6_grant_95 ?_
      refine zR_lastN C eX6_grant_96 1 rW_g1 ⟨by omega, by decide⟩ rW_s1 ?_
      refine zR_aload_n C eX6_grant_97 3 rfl rfl ?_
      refine zR_get C fX6_7 eX6_grant_98 0 rW_g0 rfl ?_
      refine zR_iload_n C eX6_grant_101 4 rfl rfl ?_
      refine zR_iconst (v := 2) C eX6_grant_102 (by decide) ?_
      refine zR_callS1 C kX6_86 eX6_grant_103 (c_X6_ofN _ 2 (by assumption) (by decide)) rfl rfl (by decide) (by decide) (Nat.le_of_ble_eq_true rfl) (Nat.zero_le _) (Nat.zero_le _) ?_
      refine zR_aload_n C eX6_grant_106 3 rfl rfl ?_
      refine zR_get C fX6_7 eX6_grant_107 0 rW_g0 rfl ?_
      refine zR_bipush (v := 7) C eX6_grant_110 (by decide) ?_
      refine zR_laldK C eX6_grant_112 1 rW_g1 7 rfl (vp_in_iff.mpr (by decide)) ?_
      refine zR_lastN C eX6_grant_113 1 rW_g1 ⟨by omega, by decide⟩ rW_s1 ?_
      refine zR_aload_n C eX6_grant_114 3 rfl rfl ?_
      refine zR_iload_n C eX6_grant_115 4 rfl rfl ?_
      refine zR_lload_n C eX6_grant_116 2 rfl rfl ?_
      refine zR_lload C eX6_grant_117 0 rfl ?_
      refine zR_lsub C eX6_grant_119 ?_
      refine zR_callVv C kX6_111 eX6_grant_120 (c_X6_changeN q _ _ _ _ (by assumption)) rfl 0 6 rW_g0 rfl rfl _ rW_c rW_n rfl (by decide) (by decide) (Nat.le_of_ble_eq_true rfl) (Nat.zero_le _) (Nat.zero_le _) rW_f rW_r ?_
      exact zR_vret C rfl eX6_grant_123 (Nat.zero_le _) (Nat.zero_le _) ⟨rfl, rfl⟩
set_option maxHeartbeats 1000000 in
set_option maxRecDepth 100000 in
theorem c_X6_isAhead {l : Launch} {g : zG} (q : Nat → Nat) (m : MD) (r : RW) (p : Int32) (y : Int32) (hp : vp_in p 30) (hy : vp_in y 30) : zM l g yX6_isAhead cX6_isAhead 5 (some .boolean) 1 0 0 [.ref (q 0), .int p, .int y] (rW g q m r) (zE (some (.int (zB (r_ahead r (zn32 p) (zn32 y))))) (rW g q m r)) := by
  refine zM_of (by decide +kernel) (Nat.le_of_ble_eq_true rfl) (fun x hl hn _ _ _ C => ?_)
  subst hl
  show zR x g _ (0, 0) 0 [(0, .ref (q 0)), (1, .int p), (2, .int y)] [] _
  have hz := vp_lt hp (by decide)
  have hz2 := vp_lt hy (by decide)
  refine zR_aload_n C eX6_isAhead_0 0 rfl rfl ?_
  refine zR_get C fX6_7 eX6_isAhead_1 0 rW_g0 rfl ?_
  refine zR_iload_n C eX6_isAhead_4 1 rfl rfl ?_
  refine zR_iconst (v := 3) C eX6_isAhead_5 (by decide) ?_
  refine zR_callS1 C kX6_172 eX6_isAhead_6 (c_X6_ofPlanAt _ 3 (by assumption) (by decide)) rfl rfl (by decide) (by decide) (Nat.le_of_ble_eq_true rfl) (Nat.zero_le _) (Nat.zero_le _) ?_
  refine zR_laldN C eX6_isAhead_9 1 rW_g1 ⟨by omega, by decide⟩ ?_
  refine zR_aload_n C eX6_isAhead_10 0 rfl rfl ?_
  refine zR_get C fX6_7 eX6_isAhead_11 0 rW_g0 rfl ?_
  refine zR_iload_n C eX6_isAhead_14 2 rfl rfl ?_
  refine zR_iconst (v := 3) C eX6_isAhead_15 (by decide) ?_
  refine zR_callS1 C kX6_172 eX6_isAhead_16 (c_X6_ofPlanAt _ 3 (by assumption) (by decide)) rfl rfl (by decide) (by decide) (Nat.le_of_ble_eq_true rfl) (Nat.zero_le _) (Nat.zero_le _) ?_
  refine zR_laldN C eX6_isAhead_19 1 rW_g1 ⟨by omega, by decide⟩ ?_
  refine zR_lsub C eX6_isAhead_20 ?_
  refine zR_lstore_n (lv' := [(3, _), (0, _), (1, _), (2, _)]) C eX6_isAhead_21 rfl (by rw [hn]; decide) rfl ?_
  refine zR_lload_n C eX6_isAhead_22 0 rfl rfl ?_
  refine zR_lconst (v := 0) C eX6_isAhead_23 (by decide) ?_
  refine zR_cifgt C eX6_isAhead_24 eX6_isAhead_25 (fun h24 => ?_) (fun h24 => ?_)
  · skip
    refine zR_iconst (v := 1) C eX6_isAhead_58 (by decide) ?_
    refine zR_goto C eX6_isAhead_59 ?_
    exact zR_iret C rfl rfl eX6_isAhead_63 (Nat.zero_le _) (Nat.zero_le _) ⟨(by first | (unfold r_ahead; rw [if_neg h24]; first | done | rfl) | rfl | (simp only [r_ahead, if_neg h24]; first | done | rfl)), (by first | (unfold r_ahead; rw [if_neg h24]; first | done | rfl) | rfl | (simp only [r_ahead, if_neg h24]; first | done | rfl))⟩
  · skip
    refine zR_lload_n C eX6_isAhead_28 0 rfl rfl ?_
    refine zR_lconst (v := 0) C eX6_isAhead_29 (by decide) ?_
    refine zR_cifne C eX6_isAhead_30 eX6_isAhead_31 (fun h30 => ?_) (fun h30 => ?_)
    · skip
      refine zR_iconst (v := 0) C eX6_isAhead_62 (by decide) ?_
      exact zR_iret C rfl rfl eX6_isAhead_63 (Nat.zero_le _) (Nat.zero_le _) ⟨(by first | (unfold r_ahead; rw [if_pos h24, if_neg h30]; first | done | rfl) | rfl | (simp only [r_ahead, if_pos h24, if_neg h30]; first | done | rfl)), (by first | (unfold r_ahead; rw [if_pos h24, if_neg h30]; first | done | rfl) | rfl | (simp only [r_ahead, if_pos h24, if_neg h30]; first | done | rfl))⟩
    · skip
      refine zR_aload_n C eX6_isAhead_34 1 rfl rfl ?_
      refine zR_get C fX6_7 eX6_isAhead_35 0 rW_g0 rfl ?_
      refine zR_iload_n C eX6_isAhead_38 2 rfl rfl ?_
      refine zR_iconst (v := 1) C eX6_isAhead_39 (by decide) ?_
      refine zR_callS1 C kX6_172 eX6_isAhead_40 (c_X6_ofPlanAt _ 1 (by assumption) (by decide)) rfl rfl (by decide) (by decide) (Nat.le_of_ble_eq_true rfl) (Nat.zero_le _) (Nat.zero_le _) ?_
      refine zR_laldN C eX6_isAhead_43 1 rW_g1 ⟨by omega, by decide⟩ ?_
      refine zR_aload_n C eX6_isAhead_44 1 rfl rfl ?_
      refine zR_get C fX6_7 eX6_isAhead_45 0 rW_g0 rfl ?_
      refine zR_iload_n C eX6_isAhead_48 3 rfl rfl ?_
      refine zR_iconst (v := 1) C eX6_isAhead_49 (by decide) ?_
      refine zR_callS1 C kX6_172 eX6_isAhead_50 (c_X6_ofPlanAt _ 1 (by assumption) (by decide)) rfl rfl (by decide) (by decide) (Nat.le_of_ble_eq_true rfl) (Nat.zero_le _) (Nat.zero_le _) ?_
      refine zR_laldN C eX6_isAhead_53 1 rW_g1 ⟨by omega, by decide⟩ ?_
      refine zR_cifge C eX6_isAhead_54 eX6_isAhead_55 (fun h54 => ?_) (fun h54 => ?_)
      · skip
        refine zR_iconst (v := 0) C eX6_isAhead_62 (by decide) ?_
        exact zR_iret C rfl rfl eX6_isAhead_63 (Nat.zero_le _) (Nat.zero_le _) ⟨(by first | (unfold r_ahead; rw [if_pos h24, if_pos h30, if_neg h54]; first | done | rfl) | rfl | (simp only [r_ahead, if_pos h24, if_pos h30, if_neg h54]; first | done | rfl)), (by first | (unfold r_ahead; rw [if_pos h24, if_pos h30, if_neg h54]; first | done | rfl) | rfl | (simp only [r_ahead, if_pos h24, if_pos h30, if_neg h54]; first | done | rfl))⟩
      · skip
        refine zR_iconst (v := 1) C eX6_isAhead_58 (by decide) ?_
        refine zR_goto C eX6_isAhead_59 ?_
        exact zR_iret C rfl rfl eX6_isAhead_63 (Nat.zero_le _) (Nat.zero_le _) ⟨(by first | (unfold r_ahead; rw [if_pos h24, if_pos h30, if_pos h54]; first | done | rfl) | rfl | (simp only [r_ahead, if_pos h24, if_pos h30, if_pos h54]; first | done | rfl)), (by first | (unfold r_ahead; rw [if_pos h24, if_pos h30, if_pos h54]; first | done | rfl) | rfl | (simp only [r_ahead, if_pos h24, if_pos h30, if_pos h54]; first | done | rfl))⟩
