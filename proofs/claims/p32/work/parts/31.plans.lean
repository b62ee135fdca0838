/-! Plans: the walks. -/
set_option maxHeartbeats 400000 in
set_option maxRecDepth 100000 in
theorem c_X4_has {l : Launch} {g : zG} (q : Nat → Nat) (d : PD) (i : Int32)  : zM l g yX4_has cX4_has 2 (some .boolean) 0 0 0 [.ref (q 0), .int i] (pW g q d) (zE (some (.int (zB (p_has d i)))) (pW g q d)) := by
  refine zM_of (by decide +kernel) (Nat.le_of_ble_eq_true rfl) (fun x hl hn _ _ _ C => ?_)
  subst hl
  show zR x g _ (0, 0) 0 [(0, .ref (q 0)), (1, .int i)] [] _
  refine zR_iload_n C eX4_has_0 1 rfl rfl ?_
  refine zR_iflt C eX4_has_1 (fun h1 => ?_) (fun h1 => ?_)
  · skip
    refine zR_iconst (v := 0) C eX4_has_16 (by decide) ?_
    exact zR_iret C rfl rfl eX4_has_17 (Nat.zero_le _) (Nat.zero_le _) ⟨(by first | (unfold p_has; rw [if_pos h1]; first | done | rfl) | rfl | (simp only [p_has, if_pos h1]; first | done | rfl)), (by first | (unfold p_has; rw [if_pos h1]; first | done | rfl) | rfl | (simp only [p_has, if_pos h1]; first | done | rfl))⟩
  · skip
    refine zR_iload_n C eX4_has_4 1 rfl rfl ?_
    refine zR_aload_n C eX4_has_5 0 rfl rfl ?_
    refine zR_get C fX4_9 eX4_has_6 0 pW_g0 rfl ?_
    refine zR_icmp_ge C eX4_has_9 (fun h9 => ?_) (fun h9 => ?_)
    · skip
      refine zR_iconst (v := 0) C eX4_has_16 (by decide) ?_
      exact zR_iret C rfl rfl eX4_has_17 (Nat.zero_le _) (Nat.zero_le _) ⟨(by first | (unfold p_has; rw [if_neg h1, if_neg h9]; first | done | rfl) | rfl | (simp only [p_has, if_neg h1, if_neg h9]; first | done | rfl)), (by first | (unfold p_has; rw [if_neg h1, if_neg h9]; first | done | rfl) | rfl | (simp only [p_has, if_neg h1, if_neg h9]; first | done | rfl))⟩
    · skip
      refine zR_iconst (v := 1) C eX4_has_12 (by decide) ?_
      refine zR_goto C eX4_has_13 ?_
      exact zR_iret C rfl rfl eX4_has_17 (Nat.zero_le _) (Nat.zero_le _) ⟨(by first | (unfold p_has; rw [if_neg h1, if_pos h9]; first | done | rfl) | rfl | (simp only [p_has, if_neg h1, if_pos h9]; first | done | rfl)), (by first | (unfold p_has; rw [if_neg h1, if_pos h9]; first | done | rfl) | rfl | (simp only [p_has, if_neg h1, if_pos h9]; first | done | rfl))⟩
set_option maxHeartbeats 400000 in
set_option maxRecDepth 100000 in
theorem c_X4_watch {l : Launch} {g : zG} (q : Nat → Nat) (d : PD) (i : Int32)  : zM l g yX4_watch cX4_watch 2 none 0 0 0 [.ref (q 0), .int i] (pW g q d) (zE none (pW g q (p_watch d i))) := by
  refine zM_of (by decide +kernel) (Nat.le_of_ble_eq_true rfl) (fun x hl hn _ _ _ C => ?_)
  subst hl
  show zR x g _ (0, 0) 0 [(0, .ref (q 0)), (1, .int i)] [] _
  refine zR_aload_n C eX4_watch_0 0 rfl rfl ?_
  refine zR_iload_n C eX4_watch_1 1 rfl rfl ?_
  refine zR_put C pX4_34 eX4_watch_2 0 pW_g0 (Nat.le_of_ble_eq_true rfl) pW_s0_7 ?_
  refine zR_aload_n C eX4_watch_5 0 rfl rfl ?_
  refine zR_iconst (v := 0) C eX4_watch_6 (by decide) ?_
  refine zR_put C pX4_37 eX4_watch_7 0 pW_g0 (Nat.le_of_ble_eq_true rfl) pW_s0_8 ?_
  exact zR_vret C rfl eX4_watch_10 (Nat.zero_le _) (Nat.zero_le _) ⟨rfl, rfl⟩
set_option maxHeartbeats 400000 in
set_option maxRecDepth 100000 in
theorem c_X4_copyFrom {l : Launch} {g : zG} (q : Nat → Nat) (d : PD) (r : Nat → Nat) (u : PD) (ho : p_ok u) : zM l g yX4_copyFrom cX4_copyFrom 2 none 1 0 0 [.ref (q 0), .ref (r 0)] (ppW g q d r u) (zE none (ppW g q (p_copy d u) r u)) := by
  refine zM_of (by decide +kernel) (Nat.le_of_ble_eq_true rfl) (fun x hl hn _ _ _ C => ?_)
  subst hl
  show zR x g _ (0, 0) 0 [(0, .ref (q 0)), (1, .ref (r 0))] [] _
  refine zR_aload_n C eX4_copyFrom_0 0 rfl rfl ?_
  refine zR_aload_n C eX4_copyFrom_1 1 rfl rfl ?_
  refine zR_get C fX4_9 eX4_copyFrom_2 7 ppW_g7 rfl ?_
  refine zR_put C pX4_9 eX4_copyFrom_5 0 ppW_g0 (Nat.le_of_ble_eq_true rfl) ppW_s0_0 ?_
  refine zR_aload_n C eX4_copyFrom_8 1 rfl rfl ?_
  refine zR_get C fX4_15 eX4_copyFrom_9 7 ppW_g7 rfl ?_
  refine zR_iconst (v := 0) C eX4_copyFrom_12 (by decide) ?_
  refine zR_aload_n C eX4_copyFrom_13 0 rfl rfl ?_
  refine zR_get C fX4_15 eX4_copyFrom_14 0 ppW_g0 rfl ?_
  refine zR_iconst (v := 0) C eX4_copyFrom_17 (by decide) ?_
  refine zR_aload_n C eX4_copyFrom_18 0 rfl rfl ?_
  refine zR_get C fX4_9 eX4_copyFrom_19 0 ppW_g0 rfl ?_
  refine zR_acpi C kX4_40 eX4_copyFrom_22 8 1 ppW_g8 ppW_g1 (zok_acp ho (by decide) (Nat.le_refl _)) (by decide) (Nat.le_of_ble_eq_true rfl) ppW_s1 ?_
  refine zR_aload_n C eX4_copyFrom_25 1 rfl rfl ?_
  refine zR_get C fX4_19 eX4_copyFrom_26 7 ppW_g7 rfl ?_
  refine zR_iconst (v := 0) C eX4_copyFrom_29 (by decide) ?_
  refine zR_aload_n C eX4_copyFrom_30 0 rfl rfl ?_
  refine zR_get C fX4_19 eX4_copyFrom_31 0 ppW_g0 rfl ?_
  refine zR_iconst (v := 0) C eX4_copyFrom_34 (by decide) ?_
  refine zR_aload_n C eX4_copyFrom_35 0 rfl rfl ?_
  refine zR_get C fX4_9 eX4_copyFrom_36 0 ppW_g0 rfl ?_
  refine zR_acpi C kX4_40 eX4_copyFrom_39 9 2 ppW_g9 ppW_g2 (zok_acp ho (by decide) (Nat.le_refl _)) (by decide) (Nat.le_of_ble_eq_true rfl) ppW_s2 ?_
  refine zR_aload_n C eX4_copyFrom_42 1 rfl rfl ?_
  refine zR_get C fX4_22 eX4_copyFrom_43 7 ppW_g7 rfl ?_
  refine zR_iconst (v := 0) C eX4_copyFrom_46 (by decide) ?_
  refine zR_aload_n C eX4_copyFrom_47 0 rfl rfl ?_
  refine zR_get C fX4_22 eX4_copyFrom_48 0 ppW_g0 rfl ?_
  refine zR_iconst (v := 0) C eX4_copyFrom_51 (by decide) ?_
  refine zR_aload_n C eX4_copyFrom_52 0 rfl rfl ?_
  refine zR_get C fX4_9 eX4_copyFrom_53 0 ppW_g0 rfl ?_
  refine zR_acpi C kX4_40 eX4_copyFrom_56 10 3 ppW_g10 ppW_g3 (zok_acp ho (by decide) (Nat.le_refl _)) (by decide) (Nat.le_of_ble_eq_true rfl) ppW_s3 ?_
  refine zR_aload_n C eX4_copyFrom_59 1 rfl rfl ?_
  refine zR_get C fX4_25 eX4_copyFrom_60 7 ppW_g7 rfl ?_
  refine zR_iconst (v := 0) C eX4_copyFrom_63 (by decide) ?_
  refine zR_aload_n C eX4_copyFrom_64 0 rfl rfl ?_
  refine zR_get C fX4_25 eX4_copyFrom_65 0 ppW_g0 rfl ?_
  refine zR_iconst (v := 0) C eX4_copyFrom_68 (by decide) ?_
  refine zR_aload_n C eX4_copyFrom_69 0 rfl rfl ?_
  refine zR_get C fX4_9 eX4_copyFrom_70 0 ppW_g0 rfl ?_
  refine zR_acpi C kX4_40 eX4_copyFrom_73 11 4 ppW_g11 ppW_g4 (zok_acp ho (by decide) (Nat.le_refl _)) (by decide) (Nat.le_of_ble_eq_true rfl) ppW_s4 ?_
  refine zR_aload_n C eX4_copyFrom_76 1 rfl rfl ?_
  refine zR_get C fX4_28 eX4_copyFrom_77 7 ppW_g7 rfl ?_
  refine zR_iconst (v := 0) C eX4_copyFrom_80 (by decide) ?_
  refine zR_aload_n C eX4_copyFrom_81 0 rfl rfl ?_
  refine zR_get C fX4_28 eX4_copyFrom_82 0 ppW_g0 rfl ?_
  refine zR_iconst (v := 0) C eX4_copyFrom_85 (by decide) ?_
  refine zR_aload_n C eX4_copyFrom_86 0 rfl rfl ?_
  refine zR_get C fX4_9 eX4_copyFrom_87 0 ppW_g0 rfl ?_
  refine zR_acpi C kX4_40 eX4_copyFrom_90 12 5 ppW_g12 ppW_g5 (zok_acp ho (by decide) (Nat.le_refl _)) (by decide) (Nat.le_of_ble_eq_true rfl) ppW_s5 ?_
  refine zR_aload_n C eX4_copyFrom_93 1 rfl rfl ?_
  refine zR_get C fX4_31 eX4_copyFrom_94 7 ppW_g7 rfl ?_
  refine zR_iconst (v := 0) C eX4_copyFrom_97 (by decide) ?_
  refine zR_aload_n C eX4_copyFrom_98 0 rfl rfl ?_
  refine zR_get C fX4_31 eX4_copyFrom_99 0 ppW_g0 rfl ?_
  refine zR_iconst (v := 0) C eX4_copyFrom_102 (by decide) ?_
  refine zR_aload_n C eX4_copyFrom_103 0 rfl rfl ?_
  refine zR_get C fX4_9 eX4_copyFrom_104 0 ppW_g0 rfl ?_
  refine zR_acpi C kX4_40 eX4_copyFrom_107 13 6 ppW_g13 ppW_g6 (zok_acp ho (by decide) (Nat.le_refl _)) (by decide) (Nat.le_of_ble_eq_true rfl) ppW_s6 ?_
  refine zR_aload_n C eX4_copyFrom_110 0 rfl rfl ?_
  refine zR_iconst (v := -1) C eX4_copyFrom_111 (by decide) ?_
  refine zR_callVv C kX4_46 eX4_copyFrom_112 (c_X4_watch q _ _ ) rfl 0 4 ppW_g0 rfl rfl _ ppW_c0 pW_n rfl (by decide) (by decide) (Nat.le_of_ble_eq_true rfl) (Nat.zero_le _) (Nat.zero_le _) pW_f ppW_r0 ?_
  exact zR_vret C rfl eX4_copyFrom_115 (Nat.zero_le _) (Nat.zero_le _) ⟨rfl, rfl⟩
set_option maxHeartbeats 400000 in
set_option maxRecDepth 100000 in
theorem c_X4_isBefore {l : Launch} {g : zG} (q : Nat → Nat) (d : PD) (a : Int32) (b : Int32) (ha : vp_in a 30) (hb : vp_in b 30) : zM l g yX4_isBefore cX4_isBefore 3 (some .boolean) 0 0 0 [.ref (q 0), .int a, .int b] (pW g q d) (zE (some (.int (zB (p_bef d a b)))) (pW g q d)) := by
  refine zM_of (by decide +kernel) (Nat.le_of_ble_eq_true rfl) (fun x hl hn _ _ _ C => ?_)
  subst hl
  show zR x g _ (0, 0) 0 [(0, .ref (q 0)), (1, .int a), (2, .int b)] [] _
  refine zR_aload_n C eX4_isBefore_0 0 rfl rfl ?_
  refine zR_get C fX4_25 eX4_isBefore_1 0 pW_g0 rfl ?_
  refine zR_iload_n C eX4_isBefore_4 1 rfl rfl ?_
  refine zR_iald C eX4_isBefore_5 4 pW_g4 (by assumption) ?_
  refine zR_aload_n C eX4_isBefore_6 0 rfl rfl ?_
  refine zR_get C fX4_25 eX4_isBefore_7 0 pW_g0 rfl ?_
  refine zR_iload_n C eX4_isBefore_10 2 rfl rfl ?_
  refine zR_iald C eX4_isBefore_11 4 pW_g4 (by assumption) ?_
  refine zR_icmp_eq C eX4_isBefore_12 (fun h12 => ?_) (fun h12 => ?_)
  · skip
    refine zR_aload_n C eX4_isBefore_36 0 rfl rfl ?_
    refine zR_get C fX4_19 eX4_isBefore_37 0 pW_g0 rfl ?_
    refine zR_iload_n C eX4_isBefore_40 1 rfl rfl ?_
    refine zR_iald C eX4_isBefore_41 2 pW_g2 (by assumption) ?_
    refine zR_aload_n C eX4_isBefore_42 0 rfl rfl ?_
    refine zR_get C fX4_19 eX4_isBefore_43 0 pW_g0 rfl ?_
    refine zR_iload_n C eX4_isBefore_46 2 rfl rfl ?_
    refine zR_iald C eX4_isBefore_47 2 pW_g2 (by assumption) ?_
    refine zR_icmp_eq C eX4_isBefore_48 (fun h48 => ?_) (fun h48 => ?_)
    · skip
      refine zR_iload_n C eX4_isBefore_72 1 rfl rfl ?_
      refine zR_iload_n C eX4_isBefore_73 2 rfl rfl ?_
      refine zR_icmp_ge C eX4_isBefore_74 (fun h74 => ?_) (fun h74 => ?_)
      · skip
        refine zR_iconst (v := 0) C eX4_isBefore_81 (by decide) ?_
        exact zR_iret C rfl rfl eX4_isBefore_82 (Nat.zero_le _) (Nat.zero_le _) ⟨(by first | (unfold p_bef; rw [if_pos h12, if_pos h48, if_neg h74]; first | done | rfl) | rfl | (simp only [p_bef, if_pos h12, if_pos h48, if_neg h74]; first | done | rfl)), (by first | (unfold p_bef; rw [if_pos h12, if_pos h48, if_neg h74]; first | done | rfl) | rfl | (simp only [p_bef, if_pos h12, if_pos h48, if_neg h74]; first | done | rfl))⟩
      · skip
        refine zR_iconst (v := 1) C eX4_isBefore_77 (by decide) ?_
        refine zR_goto C eX4_isBefore_78 ?_
        exact zR_iret C rfl rfl eX4_isBefore_82 (Nat.zero_le _) (Nat.zero_le _) ⟨(by first | (unfold p_bef; rw [if_pos h12, if_pos h48, if_pos h74]; first | done | rfl) | rfl | (simp only [p_bef, if_pos h12, if_pos h48, if_pos h74]; first | done | rfl)), (by first | (unfold p_bef; rw [if_pos h12, if_pos h48, if_pos h74]; first | done | rfl) | rfl | (simp only [p_bef, if_pos h12, if_pos h48, if_pos h74]; first | done | rfl))⟩
    · skip
      refine zR_aload_n C eX4_isBefore_51 0 rfl rfl ?_
      refine zR_get C fX4_19 eX4_isBefore_52 0 pW_g0 rfl ?_
      refine zR_iload_n C eX4_isBefore_55 1 rfl rfl ?_
      refine zR_iald C eX4_isBefore_56 2 pW_g2 (by assumption) ?_
      refine zR_aload_n C eX4_isBefore_57 0 rfl rfl ?_
      refine zR_get C fX4_19 eX4_isBefore_58 0 pW_g0 rfl ?_
      refine zR_iload_n C eX4_isBefore_61 2 rfl rfl ?_
      refine zR_iald C eX4_isBefore_62 2 pW_g2 (by assumption) ?_
      refine zR_icmp_ge C eX4_isBefore_63 (fun h63 => ?_) (fun h63 => ?_)
      · skip
        refine zR_iconst (v := 0) C eX4_isBefore_70 (by decide) ?_
        exact zR_iret C rfl rfl eX4_isBefore_71 (Nat.zero_le _) (Nat.zero_le _) ⟨(by first | (unfold p_bef; rw [if_pos h12, if_neg h48, if_neg h63]; first | done | rfl) | rfl | (simp only [p_bef, if_pos h12, if_neg h48, if_neg h63]; first | done | rfl)), (by first | (unfold p_bef; rw [if_pos h12, if_neg h48, if_neg h63]; first | done | rfl) | rfl | (simp only [p_bef, if_pos h12, if_neg h48, if_neg h63]; first | done | rfl))⟩
      · skip
        refine zR_iconst (v := 1) C eX4_isBefore_66 (by decide) ?_
        refine zR_goto C eX4_isBefore_67 ?_
        exact zR_iret C rfl rfl eX4_isBefore_71 (Nat.zero_le _) (Nat.zero_le _) ⟨(by first | (unfold p_bef; rw [if_pos h12, if_neg h48, if_pos h63]; first | done | rfl) | rfl | (simp only [p_bef, if_pos h12, if_neg h48, if_pos h63]; first | done | rfl)), (by first | (unfold p_bef; rw [if_pos h12, if_neg h48, if_pos h63]; first | done | rfl) | rfl | (simp only [p_bef, if_pos h12, if_neg h48, if_pos h63]; first | done | rfl))⟩
  · skip
    refine zR_aload_n C eX4_isBefore_15 0 rfl rfl ?_
    refine zR_get C fX4_25 eX4_isBefore_16 0 pW_g0 rfl ?_
    refine zR_iload_n C eX4_isBefore_19 1 rfl rfl ?_
    refine zR_iald C eX4_isBefore_20 4 pW_g4 (by assumption) ?_
    refine zR_aload_n C eX4_isBefore_21 0 rfl rfl ?_
    refine zR_get C fX4_25 eX4_isBefore_22 0 pW_g0 rfl ?_
    refine zR_iload_n C eX4_isBefore_25 2 rfl rfl ?_
    refine zR_iald C eX4_isBefore_26 4 pW_g4 (by assumption) ?_
    refine zR_icmp_le C eX4_isBefore_27 (fun h27 => ?_) (fun h27 => ?_)
    · skip
      refine zR_iconst (v := 0) C eX4_isBefore_34 (by decide) ?_
      exact zR_iret C rfl rfl eX4_isBefore_35 (Nat.zero_le _) (Nat.zero_le _) ⟨(by first | (unfold p_bef; rw [if_neg h12, if_pos h27]; first | done | rfl) | rfl | (simp only [p_bef, if_neg h12, if_pos h27]; first | done | rfl)), (by first | (unfold p_bef; rw [if_neg h12, if_pos h27]; first | done | rfl) | rfl | (simp only [p_bef, if_neg h12, if_pos h27]; first | done | rfl))⟩
    · skip
      refine zR_iconst (v := 1) C eX4_isBefore_30 (by decide) ?_
      refine zR_goto C eX4_isBefore_31 ?_
      exact zR_iret C rfl rfl eX4_isBefore_35 (Nat.zero_le _) (Nat.zero_le _) ⟨(by first | (unfold p_bef; rw [if_neg h12, if_neg h27]; first | done | rfl) | rfl | (simp only [p_bef, if_neg h12, if_neg h27]; first | done | rfl)), (by first | (unfold p_bef; rw [if_neg h12, if_neg h27]; first | done | rfl) | rfl | (simp only [p_bef, if_neg h12, if_neg h27]; first | done | rfl))⟩
set_option maxHeartbeats 400000 in
set_option maxRecDepth 100000 in
theorem c_X4_countWith_lp {x : zX} {g : zG} {q : Nat → Nat} {d : PD} {s : Int32} (hn : zn x = 4) (C : zC x g RX4 cX4_countWith (some .int) 0) (hd : p_ok d) : ∀ k i : Nat, i + k = zn32 (p_num d) → zR x g (zE (some (.int (z_cnt (p_srv d) s (zn32 (p_num d))))) (pW g q d)) (0, 0) 4 [(3, .int (nI i)), (2, .int (z_cnt (p_srv d) s i)), (0, .ref (q 0)), (1, .int s)] [] (pW g q d) := by
  intro k
  induction k with
  | zero =>
    intro i hk
    have hi : i = zn32 (p_num d) := by omega
    refine zR_iload_n C eX4_countWith_4 0 rfl rfl ?_
    refine zR_aload_n C eX4_countWith_5 2 rfl rfl ?_
    refine zR_get C fX4_9 eX4_countWith_6 0 pW_g0 rfl ?_
    refine zR_icmp_ge C eX4_countWith_9 (fun h9 => ?_) (fun h9 => ?_)
    · skip
      refine zR_iload_n C eX4_countWith_31 1 rfl rfl ?_
      subst hi
      exact zR_iret C rfl rfl eX4_countWith_32 (Nat.zero_le _) (Nat.zero_le _) ⟨rfl, rfl⟩
    · skip
      exact absurd h9 (zlp_out hd hi)
  | succ k ih =>
    intro i hk
    have hlt : i < zn32 (p_num d) := by omega
    refine zR_iload_n C eX4_countWith_4 0 rfl rfl ?_
    refine zR_aload_n C eX4_countWith_5 2 rfl rfl ?_
    refine zR_get C fX4_9 eX4_countWith_6 0 pW_g0 rfl ?_
    refine zR_icmp_ge C eX4_countWith_9 (fun h9 => ?_) (fun h9 => ?_)
    · skip
      exact absurd (zlp_in hd (by decide) hlt) h9
    · skip
      refine zR_aload_n C eX4_countWith_12 2 rfl rfl ?_
      refine zR_get C fX4_15 eX4_countWith_13 0 pW_g0 rfl ?_
      refine zR_iload_n C eX4_countWith_16 0 rfl rfl ?_
      refine zR_ialdN C eX4_countWith_17 1 pW_g1 (zok_lt hd hlt (by decide)) ?_
      refine zR_iload_n C eX4_countWith_18 3 rfl rfl ?_
      refine zR_icmp_ne C eX4_countWith_19 (fun h19 => ?_) (fun h19 => ?_)
      · skip
        refine zR_iinc (lv' := [(3, _), (2, _), (0, _), (1, _)]) (v' := nI (i + 1)) C eX4_countWith_25 0 rfl (zinc i) (by rw [hn]; decide) rfl ?_
        refine zR_goto C eX4_countWith_28 ?_
        have e1 : z_cnt (p_srv d) s (i + 1) = z_cnt (p_srv d) s i := if_neg h19
        refine zR_lv [(3, _), (2, .int (z_cnt (p_srv d) s (i + 1))), (0, _), (1, _)] [0, 1, 2, 3] (by rw [e1]; rfl) ?_
        exact ih (i + 1) (by omega)
      · skip
        refine zR_iinc (lv' := [(2, _), (3, _), (0, _), (1, _)]) C eX4_countWith_22 1 rfl rfl (by rw [hn]; decide) rfl ?_
        refine zR_iinc (lv' := [(3, _), (2, _), (0, _), (1, _)]) (v' := nI (i + 1)) C eX4_countWith_25 1 rfl (zinc i) (by rw [hn]; decide) rfl ?_
        refine zR_goto C eX4_countWith_28 ?_
        have e1 : z_cnt (p_srv d) s (i + 1) = z_cnt (p_srv d) s i + 1 := if_pos h19
        refine zR_lv [(3, _), (2, .int (z_cnt (p_srv d) s (i + 1))), (0, _), (1, _)] [0, 1, 2, 3] (by rw [e1]; rfl) ?_
        exact ih (i + 1) (by omega)
set_option maxHeartbeats 400000 in
set_option maxRecDepth 100000 in
theorem c_X4_countWith {l : Launch} {g : zG} (q : Nat → Nat) (d : PD) (s : Int32) (hd : p_ok d) : zM l g yX4_countWith cX4_countWith 4 (some .int) 0 0 0 [.ref (q 0), .int s] (pW g q d) (zE (some (.int (z_cnt (p_srv d) s (zn32 (p_num d))))) (pW g q d)) := by
  refine zM_of (by decide +kernel) (Nat.le_of_ble_eq_true rfl) (fun x hl hn _ _ _ C => ?_)
  subst hl
  show zR x g _ (0, 0) 0 [(0, .ref (q 0)), (1, .int s)] [] _
  refine zR_iconst (v := 0) C eX4_countWith_0 (by decide) ?_
  refine zR_istore_n (lv' := [(2, _), (0, _), (1, _)]) C eX4_countWith_1 rfl (by rw [hn]; decide) rfl ?_
  refine zR_iconst (v := 0) C eX4_countWith_2 (by decide) ?_
  refine zR_istore_n (lv' := [(3, _), (2, _), (0, _), (1, _)]) C eX4_countWith_3 rfl (by rw [hn]; decide) rfl ?_
  exact c_X4_countWith_lp hn C hd _ 0 (Nat.zero_add _)
set_option maxHeartbeats 400000 in
set_option maxRecDepth 100000 in
theorem c_X4_move {l : Launch} {g : zG} (q : Nat → Nat) (d : PD) (a : Int32) (b : Int32) (ha : vp_in a 30) (hb : vp_in b 30) : zM l g yX4_move cX4_move 3 none 0 0 0 [.ref (q 0), .int a, .int b] (pW g q d) (zE none (pW g q (p_move d (zn32 a) (zn32 b)))) := by
  refine zM_of (by decide +kernel) (Nat.le_of_ble_eq_true rfl) (fun x hl hn _ _ _ C => ?_)
  subst hl
  show zR x g _ (0, 0) 0 [(0, .ref (q 0)), (1, .int a), (2, .int b)] [] _
  refine zR_aload_n C eX4_move_0 0 rfl rfl ?_
  refine zR_get C fX4_15 eX4_move_1 0 pW_g0 rfl ?_
  refine zR_iload_n C eX4_move_4 2 rfl rfl ?_
  refine zR_aload_n C eX4_move_5 0 rfl rfl ?_
  refine zR_get C fX4_15 eX4_move_6 0 pW_g0 rfl ?_
  refine zR_iload_n C eX4_move_9 1 rfl rfl ?_
  refine zR_iald C eX4_move_10 1 pW_g1 (by assumption) ?_
  refine zR_iast C eX4_move_11 1 pW_g1 (by assumption) pW_s1 ?_
  refine zR_aload_n C eX4_move_12 0 rfl rfl ?_
  refine zR_get C fX4_19 eX4_move_13 0 pW_g0 rfl ?_
  refine zR_iload_n C eX4_move_16 2 rfl rfl ?_
  refine zR_aload_n C eX4_move_17 0 rfl rfl ?_
  refine zR_get C fX4_19 eX4_move_18 0 pW_g0 rfl ?_
  refine zR_iload_n C eX4_move_21 1 rfl rfl ?_
  refine zR_iald C eX4_move_22 2 pW_g2 (by assumption) ?_
  refine zR_iast C eX4_move_23 2 pW_g2 (by assumption) pW_s2 ?_
  refine zR_aload_n C eX4_move_24 0 rfl rfl ?_
  refine zR_get C fX4_22 eX4_move_25 0 pW_g0 rfl ?_
  refine zR_iload_n C eX4_move_28 2 rfl rfl ?_
  refine zR_aload_n C eX4_move_29 0 rfl rfl ?_
  refine zR_get C fX4_22 eX4_move_30 0 pW_g0 rfl ?_
  refine zR_iload_n C eX4_move_33 1 rfl rfl ?_
  refine zR_iald C eX4_move_34 3 pW_g3 (by assumption) ?_
  refine zR_iast C eX4_move_35 3 pW_g3 (by assumption) pW_s3 ?_
  refine zR_aload_n C eX4_move_36 0 rfl rfl ?_
  refine zR_get C fX4_25 eX4_move_37 0 pW_g0 rfl ?_
  refine zR_iload_n C eX4_move_40 2 rfl rfl ?_
  refine zR_aload_n C eX4_move_41 0 rfl rfl ?_
  refine zR_get C fX4_25 eX4_move_42 0 pW_g0 rfl ?_
  refine zR_iload_n C eX4_move_45 1 rfl rfl ?_
  refine zR_iald C eX4_move_46 4 pW_g4 (by assumption) ?_
  refine zR_iast C eX4_move_47 4 pW_g4 (by assumption) pW_s4 ?_
  refine zR_aload_n C eX4_move_48 0 rfl rfl ?_
  refine zR_get C fX4_28 eX4_move_49 0 pW_g0 rfl ?_
  refine zR_iload_n C eX4_move_52 2 rfl rfl ?_
  refine zR_aload_n C eX4_move_53 0 rfl rfl ?_
  refine zR_get C fX4_28 eX4_move_54 0 pW_g0 rfl ?_
  refine zR_iload_n C eX4_move_57 1 rfl rfl ?_
  refine zR_iald C eX4_move_58 5 pW_g5 (by assumption) ?_
  refine zR_iast C eX4_move_59 5 pW_g5 (by assumption) pW_s5 ?_
  exact zR_vret C rfl eX4_move_60 (Nat.zero_le _) (Nat.zero_le _) ⟨rfl, rfl⟩
