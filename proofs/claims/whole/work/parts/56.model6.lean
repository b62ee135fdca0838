/-! The reference: the walks, sixth part: what changes. -/
theorem z_inl_nn {k : Int32} {a b : Nat} (h : z_inl k.toInt64 (lN a) (lN b) = true) (hb : b < 2 ^ 31) (ha : a < 2 ^ 31) : k = nI (zn32 k) ∧ a ≤ zn32 k ∧ zn32 k ≤ b := by
  obtain ⟨h1, h2⟩ := z_inl_t h
  rw [i64_lt, i32_64, lN_toInt ha] at h1
  rw [i64_le, i32_64, lN_toInt hb] at h2
  have h0 : ¬ k < 0 := by rw [Int32.lt_iff_toInt_lt, show (0 : Int32).toInt = 0 by decide]; omega
  obtain ⟨j, hj, rfl⟩ := nI_of h0
  rw [nI_toInt hj] at h1 h2
  have e : zn32 (nI j) = j := nI_clamp hj
  rw [e]; exact ⟨rfl, by omega, by omega⟩
theorem zokl_lt {v : Int64} {n : Nat} (h : zokl v n) (hne : ¬ v = lN n) : zinl v n := by
  refine ⟨h.1, ?_⟩
  rcases Nat.lt_or_ge (zn64 v) n with z | z
  · exact z
  · have := h.2
    exact absurd (by rw [show n = zn64 v by omega]; exact h.1) hne
theorem m_noOut_0 {m : MD} {s i h : Int32} (k : m_noOut m s i h = 0) : r_isS (m_row m) s = true := by
  unfold m_noOut at k
  split at k
  · assumption
  · cases k
theorem m_noRel_0 {m : MD} {s z x : Int32} (k : (m_noRel m s z x).1 = 0) : (m_noRel m s z x).2 = m ∧ r_isS (m_row m) s = true := by
  unfold m_noRel at k ⊢
  split
  · rename_i h1
    rw [if_pos h1] at k
    split
    · rename_i h2
      rw [if_pos h2] at k
      split
      · rename_i h3
        rw [if_pos h3] at k
        split
        · rename_i h4
          rw [if_pos h4] at k
          split
          · rename_i h5; rw [if_pos h5] at k; exact absurd (show (-5 : Int32) = 0 from k) (by decide)
          · rename_i h5; rw [if_neg h5] at k
            split
            · rename_i h6; rw [if_pos h6] at k; exact absurd (show (-5 : Int32) = 0 from k) (by decide)
            · exact ⟨rfl, h1⟩
        · exact ⟨rfl, h1⟩
      · exact ⟨rfl, h1⟩
    · exact ⟨rfl, h1⟩
  · rename_i h1
    rw [if_neg h1] at k; exact absurd (show (-1 : Int32) = 0 from k) (by decide)
theorem m_noLend_0 {m : MD} {a b i w : Int32} (k : (m_noLend m a b i w).1 = 0) : (m_noLend m a b i w).2 = m ∧ r_isS (m_row m) a = true ∧ r_isS (m_row m) b = true ∧ ¬ m_row m 12 = 40 := by
  unfold m_noLend at k ⊢
  split
  · rename_i h1
    rw [if_pos h1] at k
    split
    · rename_i h2
      rw [if_pos h2] at k
      split
      · rename_i h3
        rw [if_pos h3] at k; exact absurd (show (-1 : Int32) = 0 from k) (by decide)
      · rename_i h3
        rw [if_neg h3] at k
        split
        · rename_i h4
          rw [if_pos h4] at k
          split
          · rename_i h5
            rw [if_pos h5] at k
            split
            · rename_i h6
              rw [if_pos h6] at k; exact absurd (show (-4 : Int32) = 0 from k) (by decide)
            · rename_i h6
              rw [if_neg h6] at k
              split
              · exact ⟨rfl, h1, h2, h6⟩
              · rename_i h7
                rw [if_neg h7] at k; exact absurd (show (-5 : Int32) = 0 from k) (by decide)
          · rename_i h5; rw [if_neg h5] at k; exact absurd (show (-2 : Int32) = 0 from k) (by decide)
        · rename_i h4; rw [if_neg h4] at k; exact absurd (show (-2 : Int32) = 0 from k) (by decide)
    · rename_i h2; rw [if_neg h2] at k; exact absurd (show (-1 : Int32) = 0 from k) (by decide)
  · rename_i h1; rw [if_neg h1] at k; exact absurd (show (-1 : Int32) = 0 from k) (by decide)
theorem m_noPlan_0 {m : MD} {s t z y : Int32} (k : m_noPlan m s t z y = 0) : r_isS (m_row m) s = true ∧ ¬ m_row m 13 = 30 := by
  unfold m_noPlan at k
  split at k
  · rename_i h1
    split at k
    · split at k
      · split at k
        · split at k
          · exact absurd k (by decide)
          · rename_i h5; exact ⟨h1, h5⟩
        · exact absurd k (by decide)
      · exact absurd k (by decide)
    · exact absurd k (by decide)
  · exact absurd k (by decide)
theorem r_pay_o {r : RW} {l j : Nat} (ha : zinl (r (134 + 5 * l + 0)) 8) (hb : zinl (r (134 + 5 * l + 1)) 8) (hj : j < 14) : r_pay r l j = r j := by
  have h1 : r_lp r l 0 < 8 := vp_lt (zinl_i ha (by decide)).2.1 (by decide)
  have h2 : r_lp r l 1 < 8 := vp_lt (zinl_i hb (by decide)).2.1 (by decide)
  have h3 : r_pay3 r l (r_lp r l 0) (r_lp r l 1) (r_paid r l) j = r j := by
    unfold r_pay3
    rw [r_add_o (by omega), r_add_o (by omega), vp_uLo (by omega)]
  unfold r_pay r_pay4
  split
  · exact h3
  · rw [r_change_o h1 (Or.inl hj), r_change_o h2 (Or.inl hj), h3]
set_option maxHeartbeats 1000000 in
set_option maxRecDepth 100000 in
theorem c_X6_service {l : Launch} {g : zG} (q : Nat → Nat) (m : MD) (b : Int32) (hs : zok (m_sts m) 6) (hr : r_ok (m_row m)) : zM l g yX6_service cX6_service 3 (some .int) 2 0 0 [.ref (q 0), .int b] (rW g q m (m_row m)) (zE (some (.int (m_service m b).1)) (rW g q ((m_service m b).2) (m_row ((m_service m b).2)))) := by
  refine zM_of (by decide +kernel) (Nat.le_of_ble_eq_true rfl) (fun x hl hn _ _ _ C => ?_)
  subst hl
  show zR x g _ (0, 0) 0 [(0, .ref (q 0)), (1, .int b)] [] _
  refine zR_iload_n C eX6_service_0 1 rfl rfl ?_
  refine zR_i2l C eX6_service_1 ?_
  refine zR_ldc2 C qX6_41 eX6_service_2 ?_
  refine zR_ldc2 C qX6_101 eX6_service_5 ?_
  refine zR_callS1 C kX6_56 eX6_service_8 (c_X6_in _ _ _ ) rfl rfl (by decide) (by decide) (Nat.le_of_ble_eq_true rfl) (Nat.zero_le _) (Nat.zero_le _) ?_
  refine zR_bfne C eX6_service_11 (fun h11 => ?_) (fun h11 => ?_)
  · skip
    refine zR_aload_n C eX6_service_17 0 rfl rfl ?_
    refine zR_get C fX6_7 eX6_service_18 0 rW_g0 rfl ?_
    refine zR_bipush (v := 11) C eX6_service_21 (by decide) ?_
    refine zR_laldK C eX6_service_23 1 rW_g1 11 rfl (vp_in_iff.mpr (by decide)) ?_
    refine zR_ldc2 C qX6_103 eX6_service_24 ?_
    refine zR_cifne C eX6_service_27 eX6_service_28 (fun h27 => ?_) (fun h27 => ?_)
    · skip
      refine zR_aload_n C eX6_service_34 0 rfl rfl ?_
      refine zR_callVv C kX6_64 eX6_service_35 (c_X6_record q _ hs) rfl 0 6 rW_g0 rfl rfl _ rW_c rW_n rfl (by decide) (by decide) (Nat.le_of_ble_eq_true rfl) (Nat.zero_le _) (Nat.zero_le _) rW_f rW_r ?_
      have hvs : vp_in (m_row (m_rec m) 11).toInt32 8 := by rw [m_rec_lo (by decide)]; exact (zinl_i (zokl_lt (n := 8) hr.1 h27) (by decide)).2.1
      have hz := vp_lt hvs (by decide)
      refine zR_aload_n C eX6_service_38 0 rfl rfl ?_
      refine zR_bipush (v := 11) C eX6_service_39 (by decide) ?_
      refine zR_callV1 C kX6_60 eX6_service_41 (c_X6_number q _ _ 11 (by omega)) rfl 0 6 rW_g0 rfl rfl _ rW_c rW_n rfl (by decide) (by decide) (Nat.le_of_ble_eq_true rfl) (Nat.zero_le _) (Nat.zero_le _) rW_f rW_r ?_
      refine zR_istore_n (lv' := [(2, _), (0, _), (1, _)]) C eX6_service_44 rfl (by rw [hn]; decide) rfl ?_
      refine zR_aload_n C eX6_service_45 1 rfl rfl ?_
      refine zR_get C fX6_7 eX6_service_46 0 rW_g0 rfl ?_
      refine zR_iload_n C eX6_service_49 0 rfl rfl ?_
      refine zR_iconst (v := 0) C eX6_service_50 (by decide) ?_
      refine zR_callS1 C kX6_86 eX6_service_51 (c_X6_of _ 0 (by assumption) (by decide)) rfl rfl (by decide) (by decide) (Nat.le_of_ble_eq_true rfl) (Nat.zero_le _) (Nat.zero_le _) ?_
      refine zR_iload_n C eX6_service_54 2 rfl rfl ?_
      refine zR_i2l C eX6_service_55 ?_
      refine zR_lastN C eX6_service_56 1 rW_g1 ⟨by omega, by decide⟩ rW_s1 ?_
      refine zR_aload_n C eX6_service_57 1 rfl rfl ?_
      refine zR_get C fX6_7 eX6_service_58 0 rW_g0 rfl ?_
      refine zR_iload_n C eX6_service_61 0 rfl rfl ?_
      refine zR_iconst (v := 1) C eX6_service_62 (by decide) ?_
      refine zR_callS1 C kX6_86 eX6_service_63 (c_X6_of _ 1 (by assumption) (by decide)) rfl rfl (by decide) (by decide) (Nat.le_of_ble_eq_true rfl) (Nat.zero_le _) (Nat.zero_le _) ?_
      refine zR_iload_n C eX6_service_66 2 rfl rfl ?_
      refine zR_i2l C eX6_service_67 ?_
      refine zR_lastN C eX6_service_68 1 rW_g1 ⟨by omega, by decide⟩ rW_s1 ?_
      refine zR_ws (rW g q (m_rec m) (r_sv2 (m_row (m_rec m)) (zn32 (m_row (m_rec m) 11).toInt32) b.toInt64)) rfl ?_
      refine zR_aload_n C eX6_service_69 1 rfl rfl ?_
      refine zR_get C fX6_7 eX6_service_70 0 rW_g0 rfl ?_
      refine zR_iload_n C eX6_service_73 0 rfl rfl ?_
      refine zR_iconst (v := 2) C eX6_service_74 (by decide) ?_
      refine zR_callS1 C kX6_86 eX6_service_75 (c_X6_of _ 2 (by assumption) (by decide)) rfl rfl (by decide) (by decide) (Nat.le_of_ble_eq_true rfl) (Nat.zero_le _) (Nat.zero_le _) ?_
      refine zR_aload_n C eX6_service_78 1 rfl rfl ?_
      refine zR_get C fX6_7 eX6_service_79 0 rW_g0 rfl ?_
      refine zR_bipush (v := 7) C eX6_service_82 (by decide) ?_
      refine zR_laldK C eX6_service_84 1 rW_g1 7 rfl (vp_in_iff.mpr (by decide)) ?_
      refine zR_lastN C eX6_service_85 1 rW_g1 ⟨by omega, by decide⟩ rW_s1 ?_
      refine zR_aload_n C eX6_service_86 1 rfl rfl ?_
      refine zR_get C fX6_7 eX6_service_87 0 rW_g0 rfl ?_
      refine zR_iload_n C eX6_service_90 0 rfl rfl ?_
      refine zR_iconst (v := 0) C eX6_service_91 (by decide) ?_
      refine zR_callS1 C kX6_105 eX6_service_92 (c_X6_accountOf _ 0 (by assumption) (by decide)) rfl rfl (by decide) (by decide) (Nat.le_of_ble_eq_true rfl) (Nat.zero_le _) (Nat.zero_le _) ?_
      refine zR_iload_n C eX6_service_95 2 rfl rfl ?_
      refine zR_i2l C eX6_service_96 ?_
      refine zR_lastN C eX6_service_97 1 rW_g1 ⟨by omega, by decide⟩ rW_s1 ?_
      refine zR_aload_n C eX6_service_98 1 rfl rfl ?_
      refine zR_get C fX6_7 eX6_service_99 0 rW_g0 rfl ?_
      refine zR_bipush (v := 11) C eX6_service_102 (by decide) ?_
      refine zR_dup2 C eX6_service_104 rfl rfl ?_
      refine zR_laldK C eX6_service_105 1 rW_g1 11 rfl (vp_in_iff.mpr (by decide)) ?_
      refine zR_lconst (v := 1) C eX6_service_106 (by decide) ?_
      refine zR_ladd C eX6_service_107 ?_
      refine zR_lastK C eX6_service_108 1 rW_g1 11 rfl (vp_in_iff.mpr (by decide)) rW_s1 ?_
      refine zR_iload_n C eX6_service_109 0 rfl rfl ?_
      exact zR_iret C rfl rfl eX6_service_110 (Nat.zero_le _) (Nat.zero_le _) ⟨(by first | (unfold m_service; rw [if_pos h11, if_neg h27]; first | done | rfl) | rfl | (simp only [m_service, if_pos h11, if_neg h27]; first | done | rfl)), (by first | (unfold m_service; rw [if_pos h11, if_neg h27]; first | done | rfl) | rfl | (simp only [m_service, if_pos h11, if_neg h27]; first | done | rfl))⟩
    · skip
      refine zR_bipush (v := -4) C eX6_service_31 (by decide) ?_
      exact zR_iret C rfl rfl eX6_service_33 (Nat.zero_le _) (Nat.zero_le _) ⟨(by first | (unfold m_service; rw [if_pos h11, if_pos h27]; first | done | rfl) | rfl | (simp only [m_service, if_pos h11, if_pos h27]; first | done | rfl)), (by first | (unfold m_service; rw [if_pos h11, if_pos h27]; first | done | rfl) | rfl | (simp only [m_service, if_pos h11, if_pos h27]; first | done | rfl))⟩
  · skip
    refine zR_bipush (v := -2) C eX6_service_14 (by decide) ?_
    exact zR_iret C rfl rfl eX6_service_16 (Nat.zero_le _) (Nat.zero_le _) ⟨(by first | (unfold m_service; rw [if_neg h11]; first | done | rfl) | rfl | (simp only [m_service, if_neg h11]; first | done | rfl)), (by first | (unfold m_service; rw [if_neg h11]; first | done | rfl) | rfl | (simp only [m_service, if_neg h11]; first | done | rfl))⟩
set_option maxHeartbeats 1000000 in
set_option maxRecDepth 100000 in
theorem c_X6_budget {l : Launch} {g : zG} (q : Nat → Nat) (m : MD) (s : Int32) (b : Int32) (hs : zok (m_sts m) 6) (hr : r_ok (m_row m)) : zM l g yX6_budget cX6_budget 4 (some .int) 2 0 0 [.ref (q 0), .int s, .int b] (rW g q m (m_row m)) (zE (some (.int (m_budget m s b).1)) (rW g q ((m_budget m s b).2) (m_row ((m_budget m s b).2)))) := by
  refine zM_of (by decide +kernel) (Nat.le_of_ble_eq_true rfl) (fun x hl hn _ _ _ C => ?_)
  subst hl
  show zR x g _ (0, 0) 0 [(0, .ref (q 0)), (1, .int s), (2, .int b)] [] _
  refine zR_aload_n C eX6_budget_0 0 rfl rfl ?_
  refine zR_iload_n C eX6_budget_1 1 rfl rfl ?_
  refine zR_callV1 C kX6_108 eX6_budget_2 (c_X6_isService q _ _ _ ) rfl 0 6 rW_g0 rfl rfl _ rW_c rW_n rfl (by decide) (by decide) (Nat.le_of_ble_eq_true rfl) (Nat.zero_le _) (Nat.zero_le _) rW_f rW_r ?_
  refine zR_bfne C eX6_budget_5 (fun h5 => ?_) (fun h5 => ?_)
  · skip
    refine zR_iload_n C eX6_budget_10 2 rfl rfl ?_
    refine zR_i2l C eX6_budget_11 ?_
    refine zR_ldc2 C qX6_41 eX6_budget_12 ?_
    refine zR_ldc2 C qX6_101 eX6_budget_15 ?_
    refine zR_callS1 C kX6_56 eX6_budget_18 (c_X6_in _ _ _ ) rfl rfl (by decide) (by decide) (Nat.le_of_ble_eq_true rfl) (Nat.zero_le _) (Nat.zero_le _) ?_
    refine zR_bfne C eX6_budget_21 (fun h21 => ?_) (fun h21 => ?_)
    · skip
      have hv0 := r_isS_in h5 hr
      have hv := hv0.1
      have hz := vp_lt hv (by decide)
      refine zR_aload_n C eX6_budget_27 0 rfl rfl ?_
      refine zR_callVv C kX6_64 eX6_budget_28 (c_X6_record q _ hs) rfl 0 6 rW_g0 rfl rfl _ rW_c rW_n rfl (by decide) (by decide) (Nat.le_of_ble_eq_true rfl) (Nat.zero_le _) (Nat.zero_le _) rW_f rW_r ?_
      refine zR_aload_n C eX6_budget_31 0 rfl rfl ?_
      refine zR_iload_n C eX6_budget_32 1 rfl rfl ?_
      refine zR_iconst (v := 0) C eX6_budget_33 (by decide) ?_
      refine zR_callS1 C kX6_86 eX6_budget_34 (c_X6_of _ 0 (by assumption) (by decide)) rfl rfl (by decide) (by decide) (Nat.le_of_ble_eq_true rfl) (Nat.zero_le _) (Nat.zero_le _) ?_
      refine zR_callV1 C kX6_60 eX6_budget_37 (c_X6_number q _ _ _ (by omega)) rfl 0 6 rW_g0 rfl rfl _ rW_c rW_n rfl (by decide) (by decide) (Nat.le_of_ble_eq_true rfl) (Nat.zero_le _) (Nat.zero_le _) rW_f rW_r ?_
      refine zR_istore_n (lv' := [(3, _), (0, _), (1, _), (2, _)]) C eX6_budget_40 rfl (by rw [hn]; decide) rfl ?_
      refine zR_aload_n C eX6_budget_41 1 rfl rfl ?_
      refine zR_get C fX6_7 eX6_budget_42 0 rW_g0 rfl ?_
      refine zR_iload_n C eX6_budget_45 2 rfl rfl ?_
      refine zR_iconst (v := 0) C eX6_budget_46 (by decide) ?_
      refine zR_callS1 C kX6_86 eX6_budget_47 (c_X6_of _ 0 (by assumption) (by decide)) rfl rfl (by decide) (by decide) (Nat.le_of_ble_eq_true rfl) (Nat.zero_le _) (Nat.zero_le _) ?_
      refine zR_iload_n C eX6_budget_50 3 rfl rfl ?_
      refine zR_i2l C eX6_budget_51 ?_
      refine zR_lastN C eX6_budget_52 1 rW_g1 ⟨by omega, by decide⟩ rW_s1 ?_
      refine zR_iload_n C eX6_budget_53 0 rfl rfl ?_
      exact zR_iret C rfl rfl eX6_budget_54 (Nat.zero_le _) (Nat.zero_le _) ⟨(by first | (unfold m_budget; rw [if_pos h5, if_pos h21]; first | done | rfl) | rfl | (simp only [m_budget, if_pos h5, if_pos h21]; first | done | rfl)), (by first | (unfold m_budget; rw [if_pos h5, if_pos h21]; first | done | rfl) | rfl | (simp only [m_budget, if_pos h5, if_pos h21]; first | done | rfl))⟩
    · skip
      refine zR_bipush (v := -2) C eX6_budget_24 (by decide) ?_
      exact zR_iret C rfl rfl eX6_budget_26 (Nat.zero_le _) (Nat.zero_le _) ⟨(by first | (unfold m_budget; rw [if_pos h5, if_neg h21]; first | done | rfl) | rfl | (simp only [m_budget, if_pos h5, if_neg h21]; first | done | rfl)), (by first | (unfold m_budget; rw [if_pos h5, if_neg h21]; first | done | rfl) | rfl | (simp only [m_budget, if_pos h5, if_neg h21]; first | done | rfl))⟩
  · skip
    refine zR_iconst (v := -1) C eX6_budget_8 (by decide) ?_
    exact zR_iret C rfl rfl eX6_budget_9 (Nat.zero_le _) (Nat.zero_le _) ⟨(by first | (unfold m_budget; rw [if_neg h5]; first | done | rfl) | rfl | (simp only [m_budget, if_neg h5]; first | done | rfl)), (by first | (unfold m_budget; rw [if_neg h5]; first | done | rfl) | rfl | (simp only [m_budget, if_neg h5]; first | done | rfl))⟩
set_option maxHeartbeats 1000000 in
set_option maxRecDepth 100000 in
theorem c_X6_doOutage {l : Launch} {g : zG} (q : Nat → Nat) (m : MD) (s : Int32) (i : Int32) (h : Int32) (hv : vp_in s 8) : zM l g yX6_doOutage cX6_doOutage 5 (some .int) 3 0 0 [.ref (q 0), .int s, .int i, .int h] (rW g q m (m_row m)) (zE (some (.int (m_doOut m s i h).1)) (rW g q ((m_doOut m s i h).2) (m_row ((m_doOut m s i h).2)))) := by
  refine zM_of (by decide +kernel) (Nat.le_of_ble_eq_true rfl) (fun x hl hn _ _ _ C => ?_)
  subst hl
  show zR x g _ (0, 0) 0 [(0, .ref (q 0)), (1, .int s), (2, .int i), (3, .int h)] [] _
  have hz := vp_lt hv (by decide)
  refine zR_iload_n C eX6_doOutage_0 2 rfl rfl ?_
  refine zR_iload_n C eX6_doOutage_1 3 rfl rfl ?_
  refine zR_imul C eX6_doOutage_2 ?_
  refine zR_bipush (v := 99) C eX6_doOutage_3 (by decide) ?_
  refine zR_iadd C eX6_doOutage_5 ?_
  refine zR_bipush (v := 100) C eX6_doOutage_6 (by decide) ?_
  refine zR_idiv C eX6_doOutage_8 (by decide) ?_
  refine zR_istore (lv' := [(4, _), (0, _), (1, _), (2, _), (3, _)]) C eX6_doOutage_9 (by rw [hn]; decide) rfl ?_
  refine zR_aload_n C eX6_doOutage_11 1 rfl rfl ?_
  refine zR_get C fX6_7 eX6_doOutage_12 0 rW_g0 rfl ?_
  refine zR_iload_n C eX6_doOutage_15 2 rfl rfl ?_
  refine zR_iconst (v := 3) C eX6_doOutage_16 (by decide) ?_
  refine zR_callS1 C kX6_105 eX6_doOutage_17 (c_X6_accountOf _ 3 (by assumption) (by decide)) rfl rfl (by decide) (by decide) (Nat.le_of_ble_eq_true rfl) (Nat.zero_le _) (Nat.zero_le _) ?_
  refine zR_dup2 C eX6_doOutage_20 rfl rfl ?_
  refine zR_laldN C eX6_doOutage_21 1 rW_g1 ⟨by omega, by decide⟩ ?_
  refine zR_iload C eX6_doOutage_22 0 rfl ?_
  refine zR_i2l C eX6_doOutage_24 ?_
  refine zR_ladd C eX6_doOutage_25 ?_
  refine zR_lastN C eX6_doOutage_26 1 rW_g1 ⟨by omega, by decide⟩ rW_s1 ?_
  refine zR_aload_n C eX6_doOutage_27 1 rfl rfl ?_
  refine zR_iload_n C eX6_doOutage_28 2 rfl rfl ?_
  refine zR_iload C eX6_doOutage_29 0 rfl ?_
  refine zR_ineg C eX6_doOutage_31 ?_
  refine zR_i2l C eX6_doOutage_32 ?_
  refine zR_callVv C kX6_111 eX6_doOutage_33 (c_X6_change q _ _ _ _ hv) rfl 0 6 rW_g0 rfl rfl _ rW_c rW_n rfl (by decide) (by decide) (Nat.le_of_ble_eq_true rfl) (Nat.zero_le _) (Nat.zero_le _) rW_f rW_r ?_
  refine zR_ws (rW g q (m_out1 m (zn32 s) ((i * h + 99) / 100)) (m_row (m_out1 m (zn32 s) ((i * h + 99) / 100)))) rfl ?_
  refine zR_aload_n C eX6_doOutage_36 1 rfl rfl ?_
  refine zR_iload_n C eX6_doOutage_37 2 rfl rfl ?_
  refine zR_callV1 C kX6_94 eX6_doOutage_38 (c_X6_isFrozen q _ _ _ (by assumption)) rfl 0 6 rW_g0 rfl rfl _ rW_c rW_n rfl (by decide) (by decide) (Nat.le_of_ble_eq_true rfl) (Nat.zero_le _) (Nat.zero_le _) rW_f rW_r ?_
  refine zR_bfeq C eX6_doOutage_41 (fun h41 => ?_) (fun h41 => ?_)
  · skip
    refine zR_iconst (v := 0) C eX6_doOutage_48 (by decide) ?_
    exact zR_iret C rfl rfl eX6_doOutage_49 (Nat.zero_le _) (Nat.zero_le _) ⟨(by first | (unfold m_doOut; rw [if_neg h41]; first | done | rfl) | rfl | (simp only [m_doOut, if_neg h41]; first | done | rfl)), (by first | (unfold m_doOut; rw [if_neg h41]; first | done | rfl) | rfl | (simp only [m_doOut, if_neg h41]; first | done | rfl))⟩
  · skip
    refine zR_iconst (v := 1) C eX6_doOutage_44 (by decide) ?_
    refine zR_goto C eX6_doOutage_45 ?_
    exact zR_iret C rfl rfl eX6_doOutage_49 (Nat.zero_le _) (Nat.zero_le _) ⟨(by first | (unfold m_doOut; rw [if_pos h41]; first | done | rfl) | rfl | (simp only [m_doOut, if_pos h41]; first | done | rfl)), (by first | (unfold m_doOut; rw [if_pos h41]; first | done | rfl) | rfl | (simp only [m_doOut, if_pos h41]; first | done | rfl))⟩
set_option maxHeartbeats 1000000 in
set_option maxRecDepth 100000 in
theorem c_X6_noOutage {l : Launch} {g : zG} (q : Nat → Nat) (m : MD) (s : Int32) (i : Int32) (h : Int32)  : zM l g yX6_noOutage cX6_noOutage 4 (some .int) 2 0 0 [.ref (q 0), .int s, .int i, .int h] (rW g q m (m_row m)) (zE (some (.int (m_noOut m s i h))) (rW g q (m) (m_row (m)))) := by
  refine zM_of (by decide +kernel) (Nat.le_of_ble_eq_true rfl) (fun x hl hn _ _ _ C => ?_)
  subst hl
  show zR x g _ (0, 0) 0 [(0, .ref (q 0)), (1, .int s), (2, .int i), (3, .int h)] [] _
  refine zR_aload_n C eX6_noOutage_0 0 rfl rfl ?_
  refine zR_iload_n C eX6_noOutage_1 1 rfl rfl ?_
  refine zR_callV1 C kX6_108 eX6_noOutage_2 (c_X6_isService q _ _ _ ) rfl 0 6 rW_g0 rfl rfl _ rW_c rW_n rfl (by decide) (by decide) (Nat.le_of_ble_eq_true rfl) (Nat.zero_le _) (Nat.zero_le _) rW_f rW_r ?_
  refine zR_bfne C eX6_noOutage_5 (fun h5 => ?_) (fun h5 => ?_)
  · skip
    refine zR_iload_n C eX6_noOutage_12 2 rfl rfl ?_
    refine zR_i2l C eX6_noOutage_13 ?_
    refine zR_lconst (v := 1) C eX6_noOutage_14 (by decide) ?_
    refine zR_ldc2 C qX6_115 eX6_noOutage_15 ?_
    refine zR_callS1 C kX6_56 eX6_noOutage_18 (c_X6_in _ _ _ ) rfl rfl (by decide) (by decide) (Nat.le_of_ble_eq_true rfl) (Nat.zero_le _) (Nat.zero_le _) ?_
    refine zR_bfeq C eX6_noOutage_21 (fun h21 => ?_) (fun h21 => ?_)
    · skip
      refine zR_bipush (v := -2) C eX6_noOutage_40 (by decide) ?_
      exact zR_iret C rfl rfl eX6_noOutage_42 (Nat.zero_le _) (Nat.zero_le _) ⟨(by first | (unfold m_noOut; rw [if_pos h5, if_neg h21]; first | done | rfl) | rfl | (simp only [m_noOut, if_pos h5, if_neg h21]; first | done | rfl)), rfl⟩
    · skip
      refine zR_iload_n C eX6_noOutage_24 3 rfl rfl ?_
      refine zR_i2l C eX6_noOutage_25 ?_
      refine zR_lconst (v := 1) C eX6_noOutage_26 (by decide) ?_
      refine zR_ldc2 C qX6_80 eX6_noOutage_27 ?_
      refine zR_callS1 C kX6_56 eX6_noOutage_30 (c_X6_in _ _ _ ) rfl rfl (by decide) (by decide) (Nat.le_of_ble_eq_true rfl) (Nat.zero_le _) (Nat.zero_le _) ?_
      refine zR_bfeq C eX6_noOutage_33 (fun h33 => ?_) (fun h33 => ?_)
      · skip
        refine zR_bipush (v := -2) C eX6_noOutage_40 (by decide) ?_
        exact zR_iret C rfl rfl eX6_noOutage_42 (Nat.zero_le _) (Nat.zero_le _) ⟨(by first | (unfold m_noOut; rw [if_pos h5, if_pos h21, if_neg h33]; first | done | rfl) | rfl | (simp only [m_noOut, if_pos h5, if_pos h21, if_neg h33]; first | done | rfl)), rfl⟩
      · skip
        refine zR_iconst (v := 0) C eX6_noOutage_36 (by decide) ?_
        refine zR_goto C eX6_noOutage_37 ?_
        exact zR_iret C rfl rfl eX6_noOutage_42 (Nat.zero_le _) (Nat.zero_le _) ⟨(by first | (unfold m_noOut; rw [if_pos h5, if_pos h21, if_pos h33]; first | done | rfl) | rfl | (simp only [m_noOut, if_pos h5, if_pos h21, if_pos h33]; first | done | rfl)), rfl⟩
  · skip
    refine zR_iconst (v := -1) C eX6_noOutage_8 (by decide) ?_
    refine zR_goto C eX6_noOutage_9 ?_
    exact zR_iret C rfl rfl eX6_noOutage_42 (Nat.zero_le _) (Nat.zero_le _) ⟨(by first | (unfold m_noOut; rw [if_neg h5]; first | done | rfl) | rfl | (simp only [m_noOut, if_neg h5]; first | done | rfl)), rfl⟩
set_option maxHeartbeats 1000000 in
set_option maxRecDepth 100000 in
theorem c_X6_outage {l : Launch} {g : zG} (q : Nat → Nat) (m : MD) (s : Int32) (i : Int32) (h : Int32) (hs : zok (m_sts m) 6) (hr : r_ok (m_row m)) : zM l g yX6_outage cX6_outage 5 (some .int) 4 0 0 [.ref (q 0), .int s, .int i, .int h] (rW g q m (m_row m)) (zE (some (.int (m_outage m s i h).1)) (rW g q ((m_outage m s i h).2) (m_row ((m_outage m s i h).2)))) := by
  refine zM_of (by decide +kernel) (Nat.le_of_ble_eq_true rfl) (fun x hl hn _ _ _ C => ?_)
  subst hl
  show zR x g _ (0, 0) 0 [(0, .ref (q 0)), (1, .int s), (2, .int i), (3, .int h)] [] _
  refine zR_aload_n C eX6_outage_0 0 rfl rfl ?_
  refine zR_iload_n C eX6_outage_1 1 rfl rfl ?_
  refine zR_iload_n C eX6_outage_2 2 rfl rfl ?_
  refine zR_iload_n C eX6_outage_3 3 rfl rfl ?_
  refine zR_callV1 C kX6_117 eX6_outage_4 (c_X6_noOutage q _ _ _ _ ) rfl 0 6 rW_g0 rfl rfl _ rW_c rW_n rfl (by decide) (by decide) (Nat.le_of_ble_eq_true rfl) (Nat.zero_le _) (Nat.zero_le _) rW_f rW_r ?_
  refine zR_istore (lv' := [(4, _), (0, _), (1, _), (2, _), (3, _)]) C eX6_outage_7 (by rw [hn]; decide) rfl ?_
  refine zR_iload C eX6_outage_9 0 rfl ?_
  refine zR_ifeq C eX6_outage_11 (fun h11 => ?_) (fun h11 => ?_)
  · skip
    have hv := (r_isS_in (m_noOut_0 h11) hr).1
    refine zR_aload_n C eX6_outage_17 1 rfl rfl ?_
    refine zR_callVv C kX6_64 eX6_outage_18 (c_X6_record q _ hs) rfl 0 6 rW_g0 rfl rfl _ rW_c rW_n rfl (by decide) (by decide) (Nat.le_of_ble_eq_true rfl) (Nat.zero_le _) (Nat.zero_le _) rW_f rW_r ?_
    refine zR_aload_n C eX6_outage_21 1 rfl rfl ?_
    refine zR_iload_n C eX6_outage_22 2 rfl rfl ?_
    refine zR_iload_n C eX6_outage_23 3 rfl rfl ?_
    refine zR_iload_n C eX6_outage_24 4 rfl rfl ?_
    refine zR_callV1 C kX6_121 eX6_outage_25 (c_X6_doOutage q _ _ _ _ hv) rfl 0 6 rW_g0 rfl rfl _ rW_c rW_n rfl (by decide) (by decide) (Nat.le_of_ble_eq_true rfl) (Nat.zero_le _) (Nat.zero_le _) rW_f rW_r ?_
    exact zR_iret C rfl rfl eX6_outage_28 (Nat.zero_le _) (Nat.zero_le _) ⟨(by first | (unfold m_outage; rw [if_pos h11]; first | done | rfl) | rfl | (simp only [m_outage, if_pos h11]; first | done | rfl)), (by first | (unfold m_outage; rw [if_pos h11]; first | done | rfl) | rfl | (simp only [m_outage, if_pos h11]; first | done | rfl))⟩
  · skip
    refine zR_iload C eX6_outage_14 0 rfl ?_
    exact zR_iret C rfl rfl eX6_outage_16 (Nat.zero_le _) (Nat.zero_le _) ⟨(by first | (unfold m_outage; rw [if_neg h11]; first | done | rfl) | rfl | (simp only [m_outage, if_neg h11]; first | done | rfl)), (by first | (unfold m_outage; rw [if_neg h11]; first | done | rfl) | rfl | (simp only [m_outage, if_neg h11]; first | done | rfl))⟩
set_option maxHeartbeats 1000000 in
set_option maxRecDepth 100000 in
theorem c_X6_doRelease {l : Launch} {g : zG} (q : Nat → Nat) (m : MD) (s : Int32) (z : Int32) (hv : vp_in s 8) : zM l g yX6_doRelease cX6_doRelease 4 (some .int) 4 0 0 [.ref (q 0), .int s, .int z] (rW g q m (m_row m)) (zE (some (.int (m_doRel m s z).1)) (rW g q ((m_doRel m s z).2) (m_row ((m_doRel m s z).2)))) := by
  refine zM_of (by decide +kernel) (Nat.le_of_ble_eq_true rfl) (fun x hl hn _ _ _ C => ?_)
  subst hl
  show zR x g _ (0, 0) 0 [(0, .ref (q 0)), (1, .int s), (2, .int z)] [] _
  have hz := vp_lt hv (by decide)
  refine zR_aload_n C eX6_doRelease_0 0 rfl rfl ?_
  refine zR_iload_n C eX6_doRelease_1 1 rfl rfl ?_
  refine zR_callV1 C kX6_94 eX6_doRelease_2 (c_X6_isFrozen q _ _ _ (by assumption)) rfl 0 6 rW_g0 rfl rfl _ rW_c rW_n rfl (by decide) (by decide) (Nat.le_of_ble_eq_true rfl) (Nat.zero_le _) (Nat.zero_le _) rW_f rW_r ?_
  refine zR_bfeq C eX6_doRelease_5 (fun h5 => ?_) (fun h5 => ?_)
  · skip
    refine zR_iconst (v := 0) C eX6_doRelease_12 (by decide) ?_
    refine zR_istore_n (lv' := [(3, _), (0, _), (1, _), (2, _)]) C eX6_doRelease_13 rfl (by rw [hn]; decide) rfl ?_
    refine zR_aload_n C eX6_doRelease_14 1 rfl rfl ?_
    refine zR_get C fX6_7 eX6_doRelease_15 0 rW_g0 rfl ?_
    refine zR_iload_n C eX6_doRelease_18 2 rfl rfl ?_
    refine zR_iconst (v := 2) C eX6_doRelease_19 (by decide) ?_
    refine zR_callS1 C kX6_86 eX6_doRelease_20 (c_X6_of _ 2 (by assumption) (by decide)) rfl rfl (by decide) (by decide) (Nat.le_of_ble_eq_true rfl) (Nat.zero_le _) (Nat.zero_le _) ?_
    refine zR_dup2 C eX6_doRelease_23 rfl rfl ?_
    refine zR_laldN C eX6_doRelease_24 1 rW_g1 ⟨by omega, by decide⟩ ?_
    refine zR_iload_n C eX6_doRelease_25 0 rfl rfl ?_
    refine zR_i2l C eX6_doRelease_26 ?_
    refine zR_lsub C eX6_doRelease_27 ?_
    refine zR_lastN C eX6_doRelease_28 1 rW_g1 ⟨by omega, by decide⟩ rW_s1 ?_
    have e1 : m_used m (zn32 s) = _ := if_neg h5
    refine zR_ws (rW g q (m_rl1 m (zn32 s) (m_used m (zn32 s))) (m_row (m_rl1 m (zn32 s) (m_used m (zn32 s))))) (by rw [e1] <;> rfl) ?_
    refine zR_aload_n C eX6_doRelease_29 1 rfl rfl ?_
    refine zR_iload_n C eX6_doRelease_30 2 rfl rfl ?_
    refine zR_iload_n C eX6_doRelease_31 3 rfl rfl ?_
    refine zR_i2l C eX6_doRelease_32 ?_
    refine zR_callVv C kX6_124 eX6_doRelease_33 (c_X6_spend q _ _ _ _ hv) rfl 0 6 rW_g0 rfl rfl _ rW_c rW_n rfl (by decide) (by decide) (Nat.le_of_ble_eq_true rfl) (Nat.zero_le _) (Nat.zero_le _) rW_f rW_r ?_
    refine zR_iload_n C eX6_doRelease_36 0 rfl rfl ?_
    exact zR_iret C rfl rfl eX6_doRelease_37 (Nat.zero_le _) (Nat.zero_le _) ⟨(by first | rfl | (unfold m_doRel; rw [e1] <;> rfl)), (by first | rfl | (unfold m_doRel; rw [e1] <;> rfl))⟩
  · skip
    refine zR_iconst (v := 1) C eX6_doRelease_8 (by decide) ?_
    refine zR_goto C eX6_doRelease_9 ?_
    refine zR_istore_n (lv' := [(3, _), (0, _), (1, _), (2, _)]) C eX6_doRelease_13 rfl (by rw [hn]; decide) rfl ?_
    refine zR_aload_n C eX6_doRelease_14 1 rfl rfl ?_
    refine zR_get C fX6_7 eX6_doRelease_15 0 rW_g0 rfl ?_
    refine zR_iload_n C eX6_doRelease_18 2 rfl rfl ?_
    refine zR_iconst (v := 2) C eX6_doRelease_19 (by decide) ?_
    refine zR_callS1 C kX6_86 eX6_doRelease_20 (c_X6_of _ 2 (by assumption) (by decide)) rfl rfl (by decide) (by decide) (Nat.le_of_ble_eq_true rfl) (Nat.zero_le _) (Nat.zero_le _) ?_
    refine zR_dup2 C eX6_doRelease_23 rfl rfl ?_
    refine zR_laldN C eX6_doRelease_24 1 rW_g1 ⟨by omega, by decide⟩ ?_
    refine zR_iload_n C eX6_doRelease_25 0 rfl rfl ?_
    refine zR_i2l C eX6_doRelease_26 ?_
    refine zR_lsub C eX6_doRelease_27 ?_
    refine zR_lastN C eX6_doRelease_28 1 rW_g1 ⟨by omega, by decide⟩ rW_s1 ?_
    have e1 : m_used m (zn32 s) = _ := if_pos h5
    refine zR_ws (rW g q (m_rl1 m (zn32 s) (m_used m (zn32 s))) (m_row (m_rl1 m (zn32 s) (m_used m (zn32 s))))) (by rw [e1] <;> rfl) ?_
    refine zR_aload_n C eX6_doRelease_29 1 rfl rfl ?_
    refine zR_iload_n C eX6_doRelease_30 2 rfl rfl ?_
    refine zR_iload_n C eX6_doRelease_31 3 rfl rfl ?_
    refine zR_i2l C eX6_doRelease_32 ?_
    refine zR_callVv C kX6_124 eX6_doRelease_33 (c_X6_spend q _ _ _ _ hv) rfl 0 6 rW_g0 rfl rfl _ rW_c rW_n rfl (by decide) (by decide) (Nat.le_of_ble_eq_true rfl) (Nat.zero_le _) (Nat.zero_le _) rW_f rW_r ?_
    refine zR_iload_n C eX6_doRelease_36 0 rfl rfl ?_
    exact zR_iret C rfl rfl eX6_doRelease_37 (Nat.zero_le _) (Nat.zero_le _) ⟨(by first | rfl | (unfold m_doRel; rw [e1] <;> rfl)), (by first | rfl | (unfold m_doRel; rw [e1] <;> rfl))⟩
set_option maxHeartbeats 1000000 in
set_option maxRecDepth 100000 in
theorem c_X6_noRelease {l : Launch} {g : zG} (q : Nat → Nat) (m : MD) (s : Int32) (z : Int32) (x0 : Int32) (hr : r_ok (m_row m)) : zM l g yX6_noRelease cX6_noRelease 4 (some .int) 2 0 0 [.ref (q 0), .int s, .int z, .int x0] (rW g q m (m_row m)) (zE (some (.int (m_noRel m s z x0).1)) (rW g q ((m_noRel m s z x0).2) (m_row ((m_noRel m s z x0).2)))) := by
  refine zM_of (by decide +kernel) (Nat.le_of_ble_eq_true rfl) (fun x hl hn _ _ _ C => ?_)
  subst hl
  show zR x g _ (0, 0) 0 [(0, .ref (q 0)), (1, .int s), (2, .int z), (3, .int x0)] [] _
  refine zR_aload_n C eX6_noRelease_0 0 rfl rfl ?_
  refine zR_iload_n C eX6_noRelease_1 1 rfl rfl ?_
  refine zR_callV1 C kX6_108 eX6_noRelease_2 (c_X6_isService q _ _ _ ) rfl 0 6 rW_g0 rfl rfl _ rW_c rW_n rfl (by decide) (by decide) (Nat.le_of_ble_eq_true rfl) (Nat.zero_le _) (Nat.zero_le _) rW_f rW_r ?_
  refine zR_bfeq C eX6_noRelease_5 (fun h5 => ?_) (fun h5 => ?_)
  · skip
    refine zR_aload_n C eX6_noRelease_30 0 rfl rfl ?_
    refine zR_iload_n C eX6_noRelease_31 1 rfl rfl ?_
    refine zR_callV1 C kX6_108 eX6_noRelease_32 (c_X6_isService q _ _ _ ) rfl 0 6 rW_g0 rfl rfl _ rW_c rW_n rfl (by decide) (by decide) (Nat.le_of_ble_eq_true rfl) (Nat.zero_le _) (Nat.zero_le _) rW_f rW_r ?_
    refine zR_bfeq C eX6_noRelease_35 (fun h35 => ?_) (fun h35 => ?_)
    · skip
      refine zR_iconst (v := -1) C eX6_noRelease_43 (by decide) ?_
      exact zR_iret C rfl rfl eX6_noRelease_44 (Nat.zero_le _) (Nat.zero_le _) ⟨(by first | (unfold m_noRel; rw [if_neg h5]; first | done | rfl) | rfl | (simp only [m_noRel, if_neg h5]; first | done | rfl)), (by first | (unfold m_noRel; rw [if_neg h5]; first | done | rfl) | rfl | (simp only [m_noRel, if_neg h5]; first | done | rfl))⟩
    · skip
      exact absurd h35 h5
  · skip
    refine zR_iload_n C eX6_noRelease_8 2 rfl rfl ?_
    refine zR_i2l C eX6_noRelease_9 ?_
    refine zR_lconst (v := 1) C eX6_noRelease_10 (by decide) ?_
    refine zR_ldc2 C qX6_127 eX6_noRelease_11 ?_
    refine zR_callS1 C kX6_56 eX6_noRelease_14 (c_X6_in _ _ _ ) rfl rfl (by decide) (by decide) (Nat.le_of_ble_eq_true rfl) (Nat.zero_le _) (Nat.zero_le _) ?_
    refine zR_bfeq C eX6_noRelease_17 (fun h17 => ?_) (fun h17 => ?_)
    · skip
      refine zR_aload_n C eX6_noRelease_30 0 rfl rfl ?_
      refine zR_iload_n C eX6_noRelease_31 1 rfl rfl ?_
      refine zR_callV1 C kX6_108 eX6_noRelease_32 (c_X6_isService q _ _ _ ) rfl 0 6 rW_g0 rfl rfl _ rW_c rW_n rfl (by decide) (by decide) (Nat.le_of_ble_eq_true rfl) (Nat.zero_le _) (Nat.zero_le _) rW_f rW_r ?_
      refine zR_bfeq C eX6_noRelease_35 (fun h35 => ?_) (fun h35 => ?_)
      · skip
        exact absurd h5 h35
      · skip
        refine zR_bipush (v := -2) C eX6_noRelease_38 (by decide) ?_
        refine zR_goto C eX6_noRelease_40 ?_
        exact zR_iret C rfl rfl eX6_noRelease_44 (Nat.zero_le _) (Nat.zero_le _) ⟨(by first | (unfold m_noRel; rw [if_pos h5, if_neg h17]; first | done | rfl) | rfl | (simp only [m_noRel, if_pos h5, if_neg h17]; first | done | rfl)), (by first | (unfold m_noRel; rw [if_pos h5, if_neg h17]; first | done | rfl) | rfl | (simp only [m_noRel, if_pos h5, if_neg h17]; first | done | rfl))⟩
    · skip
      refine zR_iload_n C eX6_noRelease_20 3 rfl rfl ?_
      refine zR_i2l C eX6_noRelease_21 ?_
      refine zR_lconst (v := 0) C eX6_noRelease_22 (by decide) ?_
      refine zR_lconst (v := 1) C eX6_noRelease_23 (by decide) ?_
      refine zR_callS1 C kX6_56 eX6_noRelease_24 (c_X6_in _ _ _ ) rfl rfl (by decide) (by decide) (Nat.le_of_ble_eq_true rfl) (Nat.zero_le _) (Nat.zero_le _) ?_
      refine zR_bfne C eX6_noRelease_27 (fun h27 => ?_) (fun h27 => ?_)
      · skip
        have hv0 := r_isS_in h5 hr
        have hv := hv0.1
        have hz := vp_lt hv (by decide)
        refine zR_aload_n C eX6_noRelease_45 0 rfl rfl ?_
        refine zR_iload_n C eX6_noRelease_46 1 rfl rfl ?_
        refine zR_callV1 C kX6_94 eX6_noRelease_47 (c_X6_isFrozen q _ _ _ (by assumption)) rfl 0 6 rW_g0 rfl rfl _ rW_c rW_n rfl (by decide) (by decide) (Nat.le_of_ble_eq_true rfl) (Nat.zero_le _) (Nat.zero_le _) rW_f rW_r ?_
        refine zR_bfeq C eX6_noRelease_50 (fun h50 => ?_) (fun h50 => ?_)
        · skip
          refine zR_iconst (v := 0) C eX6_noRelease_80 (by decide) ?_
          exact zR_iret C rfl rfl eX6_noRelease_81 (Nat.zero_le _) (Nat.zero_le _) ⟨(by first | (unfold m_noRel; rw [if_pos h5, if_pos h17, if_pos h27, if_neg h50]; first | done | rfl) | rfl | (simp only [m_noRel, if_pos h5, if_pos h17, if_pos h27, if_neg h50]; first | done | rfl)), (by first | (unfold m_noRel; rw [if_pos h5, if_pos h17, if_pos h27, if_neg h50]; first | done | rfl) | rfl | (simp only [m_noRel, if_pos h5, if_pos h17, if_pos h27, if_neg h50]; first | done | rfl))⟩
        · skip
          refine zR_iload_n C eX6_noRelease_53 3 rfl rfl ?_
          refine zR_ifeq C eX6_noRelease_54 (fun h54 => ?_) (fun h54 => ?_)
          · skip
            refine zR_aload_n C eX6_noRelease_72 0 rfl rfl ?_
            refine zR_iconst (v := 1) C eX6_noRelease_73 (by decide) ?_
            refine zR_callV1 C kX6_129 eX6_noRelease_74 (c_X6_refuse q _ _ _ ) rfl 0 6 rW_g0 rfl rfl _ rW_c rW_n rfl (by decide) (by decide) (Nat.le_of_ble_eq_true rfl) (Nat.zero_le _) (Nat.zero_le _) rW_f rW_r ?_
            refine zR_goto C eX6_noRelease_77 ?_
            exact zR_iret C rfl rfl eX6_noRelease_81 (Nat.zero_le _) (Nat.zero_le _) ⟨(by first | (unfold m_noRel; rw [if_pos h5, if_pos h17, if_pos h27, if_pos h50, if_pos h54]; first | done | rfl) | rfl | (simp only [m_noRel, if_pos h5, if_pos h17, if_pos h27, if_pos h50, if_pos h54]; first | done | rfl)), (by first | (unfold m_noRel; rw [if_pos h5, if_pos h17, if_pos h27, if_pos h50, if_pos h54]; first | done | rfl) | rfl | (simp only [m_noRel, if_pos h5, if_pos h17, if_pos h27, if_pos h50, if_pos h54]; first | done | rfl))⟩
          · skip
            refine zR_aload_n C eX6_noRelease_57 0 rfl rfl ?_
            refine zR_get C fX6_7 eX6_noRelease_58 0 rW_g0 rfl ?_
            refine zR_iload_n C eX6_noRelease_61 1 rfl rfl ?_
            refine zR_iconst (v := 2) C eX6_noRelease_62 (by decide) ?_
            refine zR_callS1 C kX6_86 eX6_noRelease_63 (c_X6_of _ 2 (by assumption) (by decide)) rfl rfl (by decide) (by decide) (Nat.le_of_ble_eq_true rfl) (Nat.zero_le _) (Nat.zero_le _) ?_
            refine zR_laldN C eX6_noRelease_66 1 rW_g1 ⟨by omega, by decide⟩ ?_
            refine zR_lconst (v := 0) C eX6_noRelease_67 (by decide) ?_
            refine zR_cifne C eX6_noRelease_68 eX6_noRelease_69 (fun h68 => ?_) (fun h68 => ?_)
            · skip
              refine zR_iconst (v := 0) C eX6_noRelease_80 (by decide) ?_
              exact zR_iret C rfl rfl eX6_noRelease_81 (Nat.zero_le _) (Nat.zero_le _) ⟨(by first | (unfold m_noRel; rw [if_pos h5, if_pos h17, if_pos h27, if_pos h50, if_neg h54, if_neg h68]; first | done | rfl) | rfl | (simp only [m_noRel, if_pos h5, if_pos h17, if_pos h27, if_pos h50, if_neg h54, if_neg h68]; first | done | rfl)), (by first | (unfold m_noRel; rw [if_pos h5, if_pos h17, if_pos h27, if_pos h50, if_neg h54, if_neg h68]; first | done | rfl) | rfl | (simp only [m_noRel, if_pos h5, if_pos h17, if_pos h27, if_pos h50, if_neg h54, if_neg h68]; first | done | rfl))⟩
            · skip
              refine zR_aload_n C eX6_noRelease_72 0 rfl rfl ?_
              refine zR_iconst (v := 1) C eX6_noRelease_73 (by decide) ?_
              refine zR_callV1 C kX6_129 eX6_noRelease_74 (c_X6_refuse q _ _ _ ) rfl 0 6 rW_g0 rfl rfl _ rW_c rW_n rfl (by decide) (by decide) (Nat.le_of_ble_eq_true rfl) (Nat.zero_le _) (Nat.zero_le _) rW_f rW_r ?_
              refine zR_goto C eX6_noRelease_77 ?_
              exact zR_iret C rfl rfl eX6_noRelease_81 (Nat.zero_le _) (Nat.zero_le _) ⟨(by first | (unfold m_noRel; rw [if_pos h5, if_pos h17, if_pos h27, if_pos h50, if_neg h54, if_pos h68]; first | done | rfl) | rfl | (simp only [m_noRel, if_pos h5, if_pos h17, if_pos h27, if_pos h50, if_neg h54, if_pos h68]; first | done | rfl)), (by first | (unfold m_noRel; rw [if_pos h5, if_pos h17, if_pos h27, if_pos h50, if_neg h54, if_pos h68]; first | done | rfl) | rfl | (simp only [m_noRel, if_pos h5, if_pos h17, if_pos h27, if_pos h50, if_neg h54, if_pos h68]; first | done | rfl))⟩
      · skip
        refine zR_aload_n C eX6_noRelease_30 0 rfl rfl ?_
        refine zR_iload_n C eX6_noRelease_31 1 rfl rfl ?_
        refine zR_callV1 C kX6_108 eX6_noRelease_32 (c_X6_isService q _ _ _ ) rfl 0 6 rW_g0 rfl rfl _ rW_c rW_n rfl (by decide) (by decide) (Nat.le_of_ble_eq_true rfl) (Nat.zero_le _) (Nat.zero_le _) rW_f rW_r ?_
        refine zR_bfeq C eX6_noRelease_35 (fun h35 => ?_) (fun h35 => ?_)
        · skip
          exact absurd h5 h35
        · skip
          refine zR_bipush (v := -2) C eX6_noRelease_38 (by decide) ?_
          refine zR_goto C eX6_noRelease_40 ?_
          exact zR_iret C rfl rfl eX6_noRelease_44 (Nat.zero_le _) (Nat.zero_le _) ⟨(by first | (unfold m_noRel; rw [if_pos h5, if_pos h17, if_neg h27]; first | done | rfl) | rfl | (simp only [m_noRel, if_pos h5, if_pos h17, if_neg h27]; first | done | rfl)), (by first | (unfold m_noRel; rw [if_pos h5, if_pos h17, if_neg h27]; first | done | rfl) | rfl | (simp only [m_noRel, if_pos h5, if_pos h17, if_neg h27]; first | done | rfl))⟩
set_option maxHeartbeats 1000000 in
set_option maxRecDepth 100000 in
theorem c_X6_release {l : Launch} {g : zG} (q : Nat → Nat) (m : MD) (s : Int32) (z : Int32) (x0 : Int32) (hs : zok (m_sts m) 6) (hr : r_ok (m_row m)) : zM l g yX6_release cX6_release 5 (some .int) 5 0 0 [.ref (q 0), .int s, .int z, .int x0] (rW g q m (m_row m)) (zE (some (.int (m_release m s z x0).1)) (rW g q ((m_release m s z x0).2) (m_row ((m_release m s z x0).2)))) := by
  refine zM_of (by decide +kernel) (Nat.le_of_ble_eq_true rfl) (fun x hl hn _ _ _ C => ?_)
  subst hl
  show zR x g _ (0, 0) 0 [(0, .ref (q 0)), (1, .int s), (2, .int z), (3, .int x0)] [] _
  refine zR_aload_n C eX6_release_0 0 rfl rfl ?_
  refine zR_iload_n C eX6_release_1 1 rfl rfl ?_
  refine zR_iload_n C eX6_release_2 2 rfl rfl ?_
  refine zR_iload_n C eX6_release_3 3 rfl rfl ?_
  refine zR_callV1 C kX6_132 eX6_release_4 (c_X6_noRelease q _ _ _ _ hr) rfl 0 6 rW_g0 rfl rfl _ rW_c rW_n rfl (by decide) (by decide) (Nat.le_of_ble_eq_true rfl) (Nat.zero_le _) (Nat.zero_le _) rW_f rW_r ?_
  refine zR_istore (lv' := [(4, _), (0, _), (1, _), (2, _), (3, _)]) C eX6_release_7 (by rw [hn]; decide) rfl ?_
  refine zR_iload C eX6_release_9 0 rfl ?_
  refine zR_ifeq C eX6_release_11 (fun h11 => ?_) (fun h11 => ?_)
  · skip
    obtain ⟨e0, hv0⟩ := m_noRel_0 h11
    have hv := (r_isS_in hv0 hr).1
    refine zR_aload_n C eX6_release_17 1 rfl rfl ?_
    refine zR_callVv C kX6_64 eX6_release_18 (c_X6_record q _ (by rw [e0]; exact hs)) rfl 0 6 rW_g0 rfl rfl _ rW_c rW_n rfl (by decide) (by decide) (Nat.le_of_ble_eq_true rfl) (Nat.zero_le _) (Nat.zero_le _) rW_f rW_r ?_
    refine zR_aload_n C eX6_release_21 1 rfl rfl ?_
    refine zR_iload_n C eX6_release_22 2 rfl rfl ?_
    refine zR_iload_n C eX6_release_23 3 rfl rfl ?_
    refine zR_callV1 C kX6_135 eX6_release_24 (c_X6_doRelease q _ _ _ hv) rfl 0 6 rW_g0 rfl rfl _ rW_c rW_n rfl (by decide) (by decide) (Nat.le_of_ble_eq_true rfl) (Nat.zero_le _) (Nat.zero_le _) rW_f rW_r ?_
    exact zR_iret C rfl rfl eX6_release_27 (Nat.zero_le _) (Nat.zero_le _) ⟨(by first | (unfold m_release; rw [if_pos h11]; first | done | rfl) | rfl | (simp only [m_release, if_pos h11]; first | done | rfl)), (by first | (unfold m_release; rw [if_pos h11]; first | done | rfl) | rfl | (simp only [m_release, if_pos h11]; first | done | rfl))⟩
  · skip
    refine zR_iload C eX6_release_14 0 rfl ?_
    exact zR_iret C rfl rfl eX6_release_16 (Nat.zero_le _) (Nat.zero_le _) ⟨(by first | (unfold m_release; rw [if_neg h11]; first | done | rfl) | rfl | (simp only [m_release, if_neg h11]; first | done | rfl)), (by first | (unfold m_release; rw [if_neg h11]; first | done | rfl) | rfl | (simp only [m_release, if_neg h11]; first | done | rfl))⟩
set_option maxHeartbeats 1000000 in
set_option maxRecDepth 100000 in
theorem c_X6_noLend {l : Launch} {g : zG} (q : Nat → Nat) (m : MD) (a : Int32) (b : Int32) (i : Int32) (w : Int32) (hr : r_ok (m_row m)) : zM l g yX6_noLend cX6_noLend 6 (some .int) 3 0 0 [.ref (q 0), .int a, .int b, .int i, .int w] (rW g q m (m_row m)) (zE (some (.int (m_noLend m a b i w).1)) (rW g q ((m_noLend m a b i w).2) (m_row ((m_noLend m a b i w).2)))) := by
  refine zM_of (by decide +kernel) (Nat.le_of_ble_eq_true rfl) (fun x hl hn _ _ _ C => ?_)
  subst hl
  show zR x g _ (0, 0) 0 [(0, .ref (q 0)), (1, .int a), (2, .int b), (3, .int i), (4, .int w)] [] _
  refine zR_aload_n C eX6_noLend_0 0 rfl rfl ?_
  refine zR_iload_n C eX6_noLend_1 1 rfl rfl ?_
  refine zR_callV1 C kX6_108 eX6_noLend_2 (c_X6_isService q _ _ _ ) rfl 0 6 rW_g0 rfl rfl _ rW_c rW_n rfl (by decide) (by decide) (Nat.le_of_ble_eq_true rfl) (Nat.zero_le _) (Nat.zero_le _) rW_f rW_r ?_
  refine zR_bfeq C eX6_noLend_5 (fun h5 => ?_) (fun h5 => ?_)
  · skip
    refine zR_iconst (v := -1) C eX6_noLend_21 (by decide) ?_
    exact zR_iret C rfl rfl eX6_noLend_22 (Nat.zero_le _) (Nat.zero_le _) ⟨(by first | (unfold m_noLend; rw [if_neg h5]; first | done | rfl) | rfl | (simp only [m_noLend, if_neg h5]; first | done | rfl)), (by first | (unfold m_noLend; rw [if_neg h5]; first | done | rfl) | rfl | (simp only [m_noLend, if_neg h5]; first | done | rfl))⟩
  · skip
    refine zR_aload_n C eX6_noLend_8 0 rfl rfl ?_
    refine zR_iload_n C eX6_noLend_9 2 rfl rfl ?_
    refine zR_callV1 C kX6_108 eX6_noLend_10 (c_X6_isService q _ _ _ ) rfl 0 6 rW_g0 rfl rfl _ rW_c rW_n rfl (by decide) (by decide) (Nat.le_of_ble_eq_true rfl) (Nat.zero_le _) (Nat.zero_le _) rW_f rW_r ?_
    refine zR_bfeq C eX6_noLend_13 (fun h13 => ?_) (fun h13 => ?_)
    · skip
      refine zR_iconst (v := -1) C eX6_noLend_21 (by decide) ?_
      exact zR_iret C rfl rfl eX6_noLend_22 (Nat.zero_le _) (Nat.zero_le _) ⟨(by first | (unfold m_noLend; rw [if_pos h5, if_neg h13]; first | done | rfl) | rfl | (simp only [m_noLend, if_pos h5, if_neg h13]; first | done | rfl)), (by first | (unfold m_noLend; rw [if_pos h5, if_neg h13]; first | done | rfl) | rfl | (simp only [m_noLend, if_pos h5, if_neg h13]; first | done | rfl))⟩
    · skip
      refine zR_iload_n C eX6_noLend_16 1 rfl rfl ?_
      refine zR_iload_n C eX6_noLend_17 2 rfl rfl ?_
      refine zR_icmp_ne C eX6_noLend_18 (fun h18 => ?_) (fun h18 => ?_)
      · skip
        refine zR_iload_n C eX6_noLend_23 3 rfl rfl ?_
        refine zR_i2l C eX6_noLend_24 ?_
        refine zR_lconst (v := 1) C eX6_noLend_25 (by decide) ?_
        refine zR_ldc2 C qX6_144 eX6_noLend_26 ?_
        refine zR_callS1 C kX6_56 eX6_noLend_29 (c_X6_in _ _ _ ) rfl rfl (by decide) (by decide) (Nat.le_of_ble_eq_true rfl) (Nat.zero_le _) (Nat.zero_le _) ?_
        refine zR_bfeq C eX6_noLend_32 (fun h32 => ?_) (fun h32 => ?_)
        · skip
          refine zR_bipush (v := -2) C eX6_noLend_48 (by decide) ?_
          exact zR_iret C rfl rfl eX6_noLend_50 (Nat.zero_le _) (Nat.zero_le _) ⟨(by first | (unfold m_noLend; rw [if_pos h5, if_pos h13, if_neg h18, if_neg h32]; first | done | rfl) | rfl | (simp only [m_noLend, if_pos h5, if_pos h13, if_neg h18, if_neg h32]; first | done | rfl)), (by first | (unfold m_noLend; rw [if_pos h5, if_pos h13, if_neg h18, if_neg h32]; first | done | rfl) | rfl | (simp only [m_noLend, if_pos h5, if_pos h13, if_neg h18, if_neg h32]; first | done | rfl))⟩
        · skip
          refine zR_iload C eX6_noLend_35 4 rfl ?_
          refine zR_i2l C eX6_noLend_37 ?_
          refine zR_lconst (v := 1) C eX6_noLend_38 (by decide) ?_
          refine zR_ldc2 C qX6_76 eX6_noLend_39 ?_
          refine zR_callS1 C kX6_56 eX6_noLend_42 (c_X6_in _ _ _ ) rfl rfl (by decide) (by decide) (Nat.le_of_ble_eq_true rfl) (Nat.zero_le _) (Nat.zero_le _) ?_
          refine zR_bfne C eX6_noLend_45 (fun h45 => ?_) (fun h45 => ?_)
          · skip
            refine zR_aload_n C eX6_noLend_51 0 rfl rfl ?_
            refine zR_get C fX6_7 eX6_noLend_52 0 rW_g0 rfl ?_
            refine zR_bipush (v := 12) C eX6_noLend_55 (by decide) ?_
            refine zR_laldK C eX6_noLend_57 1 rW_g1 12 rfl (vp_in_iff.mpr (by decide)) ?_
            refine zR_ldc2 C qX6_146 eX6_noLend_58 ?_
            refine zR_cifne C eX6_noLend_61 eX6_noLend_62 (fun h61 => ?_) (fun h61 => ?_)
            · skip
              have hva := (r_isS_in h5 hr).1
              refine zR_aload_n C eX6_noLend_68 0 rfl rfl ?_
              refine zR_iload_n C eX6_noLend_69 1 rfl rfl ?_
              refine zR_iload_n C eX6_noLend_70 2 rfl rfl ?_
              refine zR_iload_n C eX6_noLend_71 3 rfl rfl ?_
              refine zR_callV1 C kX6_148 eX6_noLend_72 (c_X6_whyNot q _ _ _ _ _ hva hr) rfl 0 6 rW_g0 rfl rfl _ rW_c rW_n rfl (by decide) (by decide) (Nat.le_of_ble_eq_true rfl) (Nat.zero_le _) (Nat.zero_le _) rW_f rW_r ?_
              refine zR_istore (lv' := [(5, _), (0, _), (1, _), (2, _), (3, _), (4, _)]) C eX6_noLend_75 (by rw [hn]; decide) rfl ?_
              refine zR_iload C eX6_noLend_77 0 rfl ?_
              refine zR_ifne C eX6_noLend_79 (fun h79 => ?_) (fun h79 => ?_)
              · skip
                refine zR_aload_n C eX6_noLend_86 1 rfl rfl ?_
                refine zR_iload C eX6_noLend_87 0 rfl ?_
                refine zR_callV1 C kX6_129 eX6_noLend_89 (c_X6_refuse q _ _ _ ) rfl 0 6 rW_g0 rfl rfl _ rW_c rW_n rfl (by decide) (by decide) (Nat.le_of_ble_eq_true rfl) (Nat.zero_le _) (Nat.zero_le _) rW_f rW_r ?_
                exact zR_iret C rfl rfl eX6_noLend_92 (Nat.zero_le _) (Nat.zero_le _) ⟨(by first | (unfold m_noLend; rw [if_pos h5, if_pos h13, if_neg h18, if_pos h32, if_pos h45, if_neg h61, if_neg h79]; first | done | rfl) | rfl | (simp only [m_noLend, if_pos h5, if_pos h13, if_neg h18, if_pos h32, if_pos h45, if_neg h61, if_neg h79]; first | done | rfl)), (by first | (unfold m_noLend; rw [if_pos h5, if_pos h13, if_neg h18, if_pos h32, if_pos h45, if_neg h61, if_neg h79]; first | done | rfl) | rfl | (simp only [m_noLend, if_pos h5, if_pos h13, if_neg h18, if_pos h32, if_pos h45, if_neg h61, if_neg h79]; first | done | rfl))⟩
              · skip
                refine zR_iconst (v := 0) C eX6_noLend_82 (by decide) ?_
                refine zR_goto C eX6_noLend_83 ?_
                exact zR_iret C rfl rfl eX6_noLend_92 (Nat.zero_le _) (Nat.zero_le _) ⟨(by first | (unfold m_noLend; rw [if_pos h5, if_pos h13, if_neg h18, if_pos h32, if_pos h45, if_neg h61, if_pos h79]; first | done | rfl) | rfl | (simp only [m_noLend, if_pos h5, if_pos h13, if_neg h18, if_pos h32, if_pos h45, if_neg h61, if_pos h79]; first | done | rfl)), (by first | (unfold m_noLend; rw [if_pos h5, if_pos h13, if_neg h18, if_pos h32, if_pos h45, if_neg h61, if_pos h79]; first | done | rfl) | rfl | (simp only [m_noLend, if_pos h5, if_pos h13, if_neg h18, if_pos h32, if_pos h45, if_neg h61, if_pos h79]; first | done | rfl))⟩
            · skip
              refine zR_bipush (v := -4) C eX6_noLend_65 (by decide) ?_
              exact zR_iret C rfl rfl eX6_noLend_67 (Nat.zero_le _) (Nat.zero_le _) ⟨(by first | (unfold m_noLend; rw [if_pos h5, if_pos h13, if_neg h18, if_pos h32, if_pos h45, if_pos h61]; first | done | rfl) | rfl | (simp only [m_noLend, if_pos h5, if_pos h13, if_neg h18, if_pos h32, if_pos h45, if_pos h61]; first | done | rfl)), (by first | (unfold m_noLend; rw [if_pos h5, if_pos h13, if_neg h18, if_pos h32, if_pos h45, if_pos h61]; first | done | rfl) | rfl | (simp only [m_noLend, if_pos h5, if_pos h13, if_neg h18, if_pos h32, if_pos h45, if_pos h61]; first | done | rfl))⟩
          · skip
            refine zR_bipush (v := -2) C eX6_noLend_48 (by decide) ?_
            exact zR_iret C rfl rfl eX6_noLend_50 (Nat.zero_le _) (Nat.zero_le _) ⟨(by first | (unfold m_noLend; rw [if_pos h5, if_pos h13, if_neg h18, if_pos h32, if_neg h45]; first | done | rfl) | rfl | (simp only [m_noLend, if_pos h5, if_pos h13, if_neg h18, if_pos h32, if_neg h45]; first | done | rfl)), (by first | (unfold m_noLend; rw [if_pos h5, if_pos h13, if_neg h18, if_pos h32, if_neg h45]; first | done | rfl) | rfl | (simp only [m_noLend, if_pos h5, if_pos h13, if_neg h18, if_pos h32, if_neg h45]; first | done | rfl))⟩
      · skip
        refine zR_iconst (v := -1) C eX6_noLend_21 (by decide) ?_
        exact zR_iret C rfl rfl eX6_noLend_22 (Nat.zero_le _) (Nat.zero_le _) ⟨(by first | (unfold m_noLend; rw [if_pos h5, if_pos h13, if_pos h18]; first | done | rfl) | rfl | (simp only [m_noLend, if_pos h5, if_pos h13, if_pos h18]; first | done | rfl)), (by first | (unfold m_noLend; rw [if_pos h5, if_pos h13, if_pos h18]; first | done | rfl) | rfl | (simp only [m_noLend, if_pos h5, if_pos h13, if_pos h18]; first | done | rfl))⟩
set_option maxHeartbeats 1000000 in
set_option maxRecDepth 100000 in
theorem c_X6_doLend {l : Launch} {g : zG} (q : Nat → Nat) (m : MD) (a : Int32) (b : Int32) (i : Int32) (w : Int32) (ha : vp_in a 8) (hb : vp_in b 8) (h12 : zinl (m_row m 12) 40) : zM l g yX6_doLend cX6_doLend 6 (some .int) 3 0 0 [.ref (q 0), .int a, .int b, .int i, .int w] (rW g q m (m_row m)) (zE (some (.int (m_doLend m a b i w).1)) (rW g q ((m_doLend m a b i w).2) (m_row ((m_doLend m a b i w).2)))) := by
  refine zM_of (by decide +kernel) (Nat.le_of_ble_eq_true rfl) (fun x hl hn _ _ _ C => ?_)
  subst hl
  show zR x g _ (0, 0) 0 [(0, .ref (q 0)), (1, .int a), (2, .int b), (3, .int i), (4, .int w)] [] _
  have hl := (zinl_i h12 (by decide)).2.1
  have hzl := vp_lt hl (by decide)
  have hza := vp_lt ha (by decide)
  have hzb := vp_lt hb (by decide)
  refine zR_aload_n C eX6_doLend_0 0 rfl rfl ?_
  refine zR_bipush (v := 12) C eX6_doLend_1 (by decide) ?_
  refine zR_callV1 C kX6_60 eX6_doLend_3 (c_X6_number q _ _ 12 (by omega)) rfl 0 6 rW_g0 rfl rfl _ rW_c rW_n rfl (by decide) (by decide) (Nat.le_of_ble_eq_true rfl) (Nat.zero_le _) (Nat.zero_le _) rW_f rW_r ?_
  refine zR_istore (lv' := [(5, _), (0, _), (1, _), (2, _), (3, _), (4, _)]) C eX6_doLend_6 (by rw [hn]; decide) rfl ?_
  refine zR_aload_n C eX6_doLend_8 1 rfl rfl ?_
  refine zR_get C fX6_7 eX6_doLend_9 0 rW_g0 rfl ?_
  refine zR_iload C eX6_doLend_12 0 rfl ?_
  refine zR_iconst (v := 0) C eX6_doLend_14 (by decide) ?_
  refine zR_callS1 C kX6_138 eX6_doLend_15 (c_X6_ofLoanAt _ 0 (by assumption) (by decide)) rfl rfl (by decide) (by decide) (Nat.le_of_ble_eq_true rfl) (Nat.zero_le _) (Nat.zero_le _) ?_
  refine zR_iload_n C eX6_doLend_18 2 rfl rfl ?_
  refine zR_i2l C eX6_doLend_19 ?_
  refine zR_lastN C eX6_doLend_20 1 rW_g1 ⟨by omega, by decide⟩ rW_s1 ?_
  refine zR_aload_n C eX6_doLend_21 1 rfl rfl ?_
  refine zR_get C fX6_7 eX6_doLend_22 0 rW_g0 rfl ?_
  refine zR_iload C eX6_doLend_25 0 rfl ?_
  refine zR_iconst (v := 1) C eX6_doLend_27 (by decide) ?_
  refine zR_callS1 C kX6_138 eX6_doLend_28 (c_X6_ofLoanAt _ 1 (by assumption) (by decide)) rfl rfl (by decide) (by decide) (Nat.le_of_ble_eq_true rfl) (Nat.zero_le _) (Nat.zero_le _) ?_
  refine zR_iload_n C eX6_doLend_31 3 rfl rfl ?_
  refine zR_i2l C eX6_doLend_32 ?_
  refine zR_lastN C eX6_doLend_33 1 rW_g1 ⟨by omega, by decide⟩ rW_s1 ?_
  refine zR_aload_n C eX6_doLend_34 1 rfl rfl ?_
  refine zR_get C fX6_7 eX6_doLend_35 0 rW_g0 rfl ?_
  refine zR_iload C eX6_doLend_38 0 rfl ?_
  refine zR_iconst (v := 2) C eX6_doLend_40 (by decide) ?_
  refine zR_callS1 C kX6_138 eX6_doLend_41 (c_X6_ofLoanAt _ 2 (by assumption) (by decide)) rfl rfl (by decide) (by decide) (Nat.le_of_ble_eq_true rfl) (Nat.zero_le _) (Nat.zero_le _) ?_
  refine zR_iload_n C eX6_doLend_44 4 rfl rfl ?_
  refine zR_i2l C eX6_doLend_45 ?_
  refine zR_lastN C eX6_doLend_46 1 rW_g1 ⟨by omega, by decide⟩ rW_s1 ?_
  refine zR_ws (rW g q m (r_ln3 (m_row m) (zn32 (m_row m 12).toInt32) a b i)) rfl ?_
  refine zR_aload_n C eX6_doLend_47 1 rfl rfl ?_
  refine zR_get C fX6_7 eX6_doLend_48 0 rW_g0 rfl ?_
  refine zR_iload C eX6_doLend_51 0 rfl ?_
  refine zR_iconst (v := 3) C eX6_doLend_53 (by decide) ?_
  refine zR_callS1 C kX6_138 eX6_doLend_54 (c_X6_ofLoanAt _ 3 (by assumption) (by decide)) rfl rfl (by decide) (by decide) (Nat.le_of_ble_eq_true rfl) (Nat.zero_le _) (Nat.zero_le _) ?_
  refine zR_iload_n C eX6_doLend_57 4 rfl rfl ?_
  refine zR_i2l C eX6_doLend_58 ?_
  refine zR_iload_n C eX6_doLend_59 4 rfl rfl ?_
  refine zR_i2l C eX6_doLend_60 ?_
  refine zR_aload_n C eX6_doLend_61 1 rfl rfl ?_
  refine zR_get C fX6_7 eX6_doLend_62 0 rW_g0 rfl ?_
  refine zR_iconst (v := 2) C eX6_doLend_65 (by decide) ?_
  refine zR_laldK C eX6_doLend_66 1 rW_g1 2 rfl (vp_in_iff.mpr (by decide)) ?_
  refine zR_lmul C eX6_doLend_67 ?_
  refine zR_ldc2 C qX6_80 eX6_doLend_68 ?_
  refine zR_ldiv C eX6_doLend_71 (by decide) ?_
  refine zR_ladd C eX6_doLend_72 ?_
  refine zR_lastN C eX6_doLend_73 1 rW_g1 ⟨by omega, by decide⟩ rW_s1 ?_
  refine zR_ws (rW g q m (r_ln4 (r_ln3 (m_row m) (zn32 (m_row m 12).toInt32) a b i) (zn32 (m_row m 12).toInt32) i)) rfl ?_
  refine zR_aload_n C eX6_doLend_74 1 rfl rfl ?_
  refine zR_get C fX6_7 eX6_doLend_75 0 rW_g0 rfl ?_
  refine zR_iload C eX6_doLend_78 0 rfl ?_
  refine zR_iconst (v := 4) C eX6_doLend_80 (by decide) ?_
  refine zR_callS1 C kX6_138 eX6_doLend_81 (c_X6_ofLoanAt _ 4 (by assumption) (by decide)) rfl rfl (by decide) (by decide) (Nat.le_of_ble_eq_true rfl) (Nat.zero_le _) (Nat.zero_le _) ?_
  refine zR_aload_n C eX6_doLend_84 1 rfl rfl ?_
  refine zR_get C fX6_7 eX6_doLend_85 0 rW_g0 rfl ?_
  refine zR_bipush (v := 9) C eX6_doLend_88 (by decide) ?_
  refine zR_laldK C eX6_doLend_90 1 rW_g1 9 rfl (vp_in_iff.mpr (by decide)) ?_
  refine zR_iload C eX6_doLend_91 5 rfl ?_
  refine zR_i2l C eX6_doLend_93 ?_
  refine zR_ladd C eX6_doLend_94 ?_
  refine zR_lastN C eX6_doLend_95 1 rW_g1 ⟨by omega, by decide⟩ rW_s1 ?_
  refine zR_ws (rW g q m (r_ln5 (r_ln4 (r_ln3 (m_row m) (zn32 (m_row m 12).toInt32) a b i) (zn32 (m_row m 12).toInt32) i) (zn32 (m_row m 12).toInt32) w)) rfl ?_
  refine zR_aload_n C eX6_doLend_96 1 rfl rfl ?_
  refine zR_get C fX6_7 eX6_doLend_97 0 rW_g0 rfl ?_
  refine zR_bipush (v := 12) C eX6_doLend_100 (by decide) ?_
  refine zR_dup2 C eX6_doLend_102 rfl rfl ?_
  refine zR_laldK C eX6_doLend_103 1 rW_g1 12 rfl (vp_in_iff.mpr (by decide)) ?_
  refine zR_lconst (v := 1) C eX6_doLend_104 (by decide) ?_
  refine zR_ladd C eX6_doLend_105 ?_
  refine zR_lastK C eX6_doLend_106 1 rW_g1 12 rfl (vp_in_iff.mpr (by decide)) rW_s1 ?_
  refine zR_aload_n C eX6_doLend_107 1 rfl rfl ?_
  refine zR_get C fX6_7 eX6_doLend_108 0 rW_g0 rfl ?_
  refine zR_iload_n C eX6_doLend_111 2 rfl rfl ?_
  refine zR_iconst (v := 5) C eX6_doLend_112 (by decide) ?_
  refine zR_callS1 C kX6_105 eX6_doLend_113 (c_X6_accountOf _ 5 (by assumption) (by decide)) rfl rfl (by decide) (by decide) (Nat.le_of_ble_eq_true rfl) (Nat.zero_le _) (Nat.zero_le _) ?_
  refine zR_dup2 C eX6_doLend_116 rfl rfl ?_
  refine zR_laldN C eX6_doLend_117 1 rW_g1 ⟨by omega, by decide⟩ ?_
  refine zR_iload_n C eX6_doLend_118 4 rfl rfl ?_
  refine zR_i2l C eX6_doLend_119 ?_
  refine zR_ladd C eX6_doLend_120 ?_
  refine zR_lastN C eX6_doLend_121 1 rW_g1 ⟨by omega, by decide⟩ rW_s1 ?_
  refine zR_aload_n C eX6_doLend_122 1 rfl rfl ?_
  refine zR_get C fX6_7 eX6_doLend_123 0 rW_g0 rfl ?_
  refine zR_iload_n C eX6_doLend_126 3 rfl rfl ?_
  refine zR_iconst (v := 1) C eX6_doLend_127 (by decide) ?_
  refine zR_callS1 C kX6_105 eX6_doLend_128 (c_X6_accountOf _ 1 (by assumption) (by decide)) rfl rfl (by decide) (by decide) (Nat.le_of_ble_eq_true rfl) (Nat.zero_le _) (Nat.zero_le _) ?_
  refine zR_dup2 C eX6_doLend_131 rfl rfl ?_
  refine zR_laldN C eX6_doLend_132 1 rW_g1 ⟨by omega, by decide⟩ ?_
  refine zR_iload_n C eX6_doLend_133 4 rfl rfl ?_
  refine zR_i2l C eX6_doLend_134 ?_
  refine zR_ladd C eX6_doLend_135 ?_
  refine zR_lastN C eX6_doLend_136 1 rW_g1 ⟨by omega, by decide⟩ rW_s1 ?_
  refine zR_ws (rW g q m (r_ln6 (r_ln5 (r_ln4 (r_ln3 (m_row m) (zn32 (m_row m 12).toInt32) a b i) (zn32 (m_row m 12).toInt32) i) (zn32 (m_row m 12).toInt32) w) a b i)) rfl ?_
  refine zR_aload_n C eX6_doLend_137 1 rfl rfl ?_
  refine zR_iload_n C eX6_doLend_138 2 rfl rfl ?_
  refine zR_iload_n C eX6_doLend_139 4 rfl rfl ?_
  refine zR_ineg C eX6_doLend_140 ?_
  refine zR_i2l C eX6_doLend_141 ?_
  refine zR_callVv C kX6_111 eX6_doLend_142 (c_X6_change q _ _ _ _ (by assumption)) rfl 0 6 rW_g0 rfl rfl _ rW_c rW_n rfl (by decide) (by decide) (Nat.le_of_ble_eq_true rfl) (Nat.zero_le _) (Nat.zero_le _) rW_f rW_r ?_
  refine zR_aload_n C eX6_doLend_145 1 rfl rfl ?_
  refine zR_iload_n C eX6_doLend_146 3 rfl rfl ?_
  refine zR_iload_n C eX6_doLend_147 4 rfl rfl ?_
  refine zR_i2l C eX6_doLend_148 ?_
  refine zR_callVv C kX6_111 eX6_doLend_149 (c_X6_change q _ _ _ _ (by assumption)) rfl 0 6 rW_g0 rfl rfl _ rW_c rW_n rfl (by decide) (by decide) (Nat.le_of_ble_eq_true rfl) (Nat.zero_le _) (Nat.zero_le _) rW_f rW_r ?_
  refine zR_iload C eX6_doLend_152 0 rfl ?_
  exact zR_iret C rfl rfl eX6_doLend_154 (Nat.zero_le _) (Nat.zero_le _) ⟨(by first | rfl | (unfold m_doLend; rfl)), (by first | rfl | (unfold m_doLend; rfl))⟩
set_option maxHeartbeats 1000000 in
set_option maxRecDepth 100000 in
theorem c_X6_lend {l : Launch} {g : zG} (q : Nat → Nat) (m : MD) (a : Int32) (b : Int32) (i : Int32) (w : Int32) (hs : zok (m_sts m) 6) (hr : r_ok (m_row m)) : zM l g yX6_lend cX6_lend 6 (some .int) 4 0 0 [.ref (q 0), .int a, .int b, .int i, .int w] (rW g q m (m_row m)) (zE (some (.int (m_lend m a b i w).1)) (rW g q ((m_lend m a b i w).2) (m_row ((m_lend m a b i w).2)))) := by
  refine zM_of (by decide +kernel) (Nat.le_of_ble_eq_true rfl) (fun x hl hn _ _ _ C => ?_)
  subst hl
  show zR x g _ (0, 0) 0 [(0, .ref (q 0)), (1, .int a), (2, .int b), (3, .int i), (4, .int w)] [] _
  refine zR_aload_n C eX6_lend_0 0 rfl rfl ?_
  refine zR_iload_n C eX6_lend_1 1 rfl rfl ?_
  refine zR_iload_n C eX6_lend_2 2 rfl rfl ?_
  refine zR_iload_n C eX6_lend_3 3 rfl rfl ?_
  refine zR_iload C eX6_lend_4 4 rfl ?_
  refine zR_callV1 C kX6_151 eX6_lend_6 (c_X6_noLend q _ _ _ _ _ hr) rfl 0 6 rW_g0 rfl rfl _ rW_c rW_n rfl (by decide) (by decide) (Nat.le_of_ble_eq_true rfl) (Nat.zero_le _) (Nat.zero_le _) rW_f rW_r ?_
  refine zR_istore (lv' := [(5, _), (0, _), (1, _), (2, _), (3, _), (4, _)]) C eX6_lend_9 (by rw [hn]; decide) rfl ?_
  refine zR_iload C eX6_lend_11 0 rfl ?_
  refine zR_ifeq C eX6_lend_13 (fun h13 => ?_) (fun h13 => ?_)
  · skip
    obtain ⟨e0, ha0, hb0, h40⟩ := m_noLend_0 h13
    have ha := (r_isS_in ha0 hr).1
    have hb := (r_isS_in hb0 hr).1
    refine zR_aload_n C eX6_lend_19 1 rfl rfl ?_
    refine zR_callVv C kX6_64 eX6_lend_20 (c_X6_record q _ (by rw [e0]; exact hs)) rfl 0 6 rW_g0 rfl rfl _ rW_c rW_n rfl (by decide) (by decide) (Nat.le_of_ble_eq_true rfl) (Nat.zero_le _) (Nat.zero_le _) rW_f rW_r ?_
    refine zR_aload_n C eX6_lend_23 1 rfl rfl ?_
    refine zR_iload_n C eX6_lend_24 2 rfl rfl ?_
    refine zR_iload_n C eX6_lend_25 3 rfl rfl ?_
    refine zR_iload_n C eX6_lend_26 4 rfl rfl ?_
    refine zR_iload C eX6_lend_27 5 rfl ?_
    refine zR_callV1 C kX6_155 eX6_lend_29 (c_X6_doLend q _ _ _ _ _ ha hb (by rw [e0, m_rec_lo (by decide)]; exact zokl_lt (n := 40) hr.2.1 h40)) rfl 0 6 rW_g0 rfl rfl _ rW_c rW_n rfl (by decide) (by decide) (Nat.le_of_ble_eq_true rfl) (Nat.zero_le _) (Nat.zero_le _) rW_f rW_r ?_
    exact zR_iret C rfl rfl eX6_lend_32 (Nat.zero_le _) (Nat.zero_le _) ⟨(by first | (unfold m_lend; rw [if_pos h13]; first | done | rfl) | rfl | (simp only [m_lend, if_pos h13]; first | done | rfl)), (by first | (unfold m_lend; rw [if_pos h13]; first | done | rfl) | rfl | (simp only [m_lend, if_pos h13]; first | done | rfl))⟩
  · skip
    refine zR_iload C eX6_lend_16 0 rfl ?_
    exact zR_iret C rfl rfl eX6_lend_18 (Nat.zero_le _) (Nat.zero_le _) ⟨(by first | (unfold m_lend; rw [if_neg h13]; first | done | rfl) | rfl | (simp only [m_lend, if_neg h13]; first | done | rfl)), (by first | (unfold m_lend; rw [if_neg h13]; first | done | rfl) | rfl | (simp only [m_lend, if_neg h13]; first | done | rfl))⟩
set_option maxHeartbeats 1000000 in
set_option maxRecDepth 100000 in
theorem c_X6_repay {l : Launch} {g : zG} (q : Nat → Nat) (m : MD) (l0 : Int32) (hs : zok (m_sts m) 6) (hr : r_ok (m_row m)) : zM l g yX6_repay cX6_repay 3 (some .int) 5 0 0 [.ref (q 0), .int l0] (rW g q m (m_row m)) (zE (some (.int (m_repay m l0).1)) (rW g q ((m_repay m l0).2) (m_row ((m_repay m l0).2)))) := by
  refine zM_of (by decide +kernel) (Nat.le_of_ble_eq_true rfl) (fun x hl hn _ _ _ C => ?_)
  subst hl
  show zR x g _ (0, 0) 0 [(0, .ref (q 0)), (1, .int l0)] [] _
  refine zR_aload_n C eX6_repay_0 0 rfl rfl ?_
  refine zR_iload_n C eX6_repay_1 1 rfl rfl ?_
  refine zR_callV1 C kX6_158 eX6_repay_2 (c_X6_isLoan q _ _ _ ) rfl 0 6 rW_g0 rfl rfl _ rW_c rW_n rfl (by decide) (by decide) (Nat.le_of_ble_eq_true rfl) (Nat.zero_le _) (Nat.zero_le _) rW_f rW_r ?_
  refine zR_bfne C eX6_repay_5 (fun h5 => ?_) (fun h5 => ?_)
  · skip
    have hl := r_isL_in h5 hr
    have hv := hl.1
    have hz := vp_lt hv (by decide)
    refine zR_aload_n C eX6_repay_10 0 rfl rfl ?_
    refine zR_callVv C kX6_64 eX6_repay_11 (c_X6_record q _ hs) rfl 0 6 rW_g0 rfl rfl _ rW_c rW_n rfl (by decide) (by decide) (Nat.le_of_ble_eq_true rfl) (Nat.zero_le _) (Nat.zero_le _) rW_f rW_r ?_
    have hr2 := m_rec_ok hr
    have hlt : zn32 l0 < zn64 (m_row (m_rec m) 12) := by rw [m_rec_lo (by decide)]; exact hl.2.1
    have hab := hr2.2.2.1 _ hlt
    refine zR_aload_n C eX6_repay_14 0 rfl rfl ?_
    refine zR_iload_n C eX6_repay_15 1 rfl rfl ?_
    refine zR_topi (b := nI (zn32 l0)) hl.2.2 ?_
    refine zR_callVv C kX6_161 eX6_repay_16 (c_X6_pay q _ _ _ hz hab.1 hab.2) rfl 0 6 rW_g0 rfl rfl _ rW_c rW_n rfl (by decide) (by decide) (Nat.le_of_ble_eq_true rfl) (Nat.zero_le _) (Nat.zero_le _) rW_f rW_r ?_
    refine zR_aload_n C eX6_repay_19 0 rfl rfl ?_
    refine zR_iload_n C eX6_repay_20 1 rfl rfl ?_
    refine zR_iconst (v := 3) C eX6_repay_21 (by decide) ?_
    refine zR_callS1 C kX6_138 eX6_repay_22 (c_X6_ofLoanAt _ 3 (by assumption) (by decide)) rfl rfl (by decide) (by decide) (Nat.le_of_ble_eq_true rfl) (Nat.zero_le _) (Nat.zero_le _) ?_
    refine zR_callV1 C kX6_60 eX6_repay_25 (c_X6_number q _ _ _ (by omega)) rfl 0 6 rW_g0 rfl rfl _ rW_c rW_n rfl (by decide) (by decide) (Nat.le_of_ble_eq_true rfl) (Nat.zero_le _) (Nat.zero_le _) rW_f rW_r ?_
    refine zR_istore_n (lv' := [(2, _), (0, _), (1, _)]) C eX6_repay_28 rfl (by rw [hn]; decide) rfl ?_
    refine zR_aload_n C eX6_repay_29 1 rfl rfl ?_
    refine zR_callVv C kX6_165 eX6_repay_30 (c_X6_clearLoans q _ _ (by rw [r_pay_o hab.1 hab.2 (by decide)]; exact hr2.2.1)) rfl 0 6 rW_g0 rfl rfl _ rW_c rW_n rfl (by decide) (by decide) (Nat.le_of_ble_eq_true rfl) (Nat.zero_le _) (Nat.zero_le _) rW_f rW_r ?_
    refine zR_iload_n C eX6_repay_33 0 rfl rfl ?_
    exact zR_iret C rfl rfl eX6_repay_34 (Nat.zero_le _) (Nat.zero_le _) ⟨(by first | (unfold m_repay; rw [if_pos h5]; first | done | rfl) | rfl | (simp only [m_repay, if_pos h5]; first | done | rfl)), (by first | (unfold m_repay; rw [if_pos h5]; first | done | rfl) | rfl | (simp only [m_repay, if_pos h5]; first | done | rfl))⟩
  · skip
    refine zR_iconst (v := -1) C eX6_repay_8 (by decide) ?_
    exact zR_iret C rfl rfl eX6_repay_9 (Nat.zero_le _) (Nat.zero_le _) ⟨(by first | (unfold m_repay; rw [if_neg h5]; first | done | rfl) | rfl | (simp only [m_repay, if_neg h5]; first | done | rfl)), (by first | (unfold m_repay; rw [if_neg h5]; first | done | rfl) | rfl | (simp only [m_repay, if_neg h5]; first | done | rfl))⟩
set_option maxHeartbeats 1000000 in
set_option maxRecDepth 100000 in
theorem c_X6_noPlan {l : Launch} {g : zG} (q : Nat → Nat) (m : MD) (s : Int32) (t : Int32) (z : Int32) (y : Int32)  : zM l g yX6_noPlan cX6_noPlan 5 (some .int) 2 0 0 [.ref (q 0), .int s, .int t, .int z, .int y] (rW g q m (m_row m)) (zE (some (.int (m_noPlan m s t z y))) (rW g q (m) (m_row (m)))) := by
  refine zM_of (by decide +kernel) (Nat.le_of_ble_eq_true rfl) (fun x hl hn _ _ _ C => ?_)
  subst hl
  show zR x g _ (0, 0) 0 [(0, .ref (q 0)), (1, .int s), (2, .int t), (3, .int z), (4, .int y)] [] _
  refine zR_aload_n C eX6_noPlan_0 0 rfl rfl ?_
  refine zR_iload_n C eX6_noPlan_1 1 rfl rfl ?_
  refine zR_callV1 C kX6_108 eX6_noPlan_2 (c_X6_isService q _ _ _ ) rfl 0 6 rW_g0 rfl rfl _ rW_c rW_n rfl (by decide) (by decide) (Nat.le_of_ble_eq_true rfl) (Nat.zero_le _) (Nat.zero_le _) rW_f rW_r ?_
  refine zR_bfne C eX6_noPlan_5 (fun h5 => ?_) (fun h5 => ?_)
  · skip
    refine zR_iload_n C eX6_noPlan_10 2 rfl rfl ?_
    refine zR_i2l C eX6_noPlan_11 ?_
    refine zR_aload_n C eX6_noPlan_12 0 rfl rfl ?_
    refine zR_get C fX6_7 eX6_noPlan_13 0 rW_g0 rfl ?_
    refine zR_bipush (v := 8) C eX6_noPlan_16 (by decide) ?_
    refine zR_laldK C eX6_noPlan_18 1 rW_g1 8 rfl (vp_in_iff.mpr (by decide)) ?_
    refine zR_lconst (v := 1) C eX6_noPlan_19 (by decide) ?_
    refine zR_ladd C eX6_noPlan_20 ?_
    refine zR_aload_n C eX6_noPlan_21 0 rfl rfl ?_
    refine zR_get C fX6_7 eX6_noPlan_22 0 rW_g0 rfl ?_
    refine zR_bipush (v := 8) C eX6_noPlan_25 (by decide) ?_
    refine zR_laldK C eX6_noPlan_27 1 rW_g1 8 rfl (vp_in_iff.mpr (by decide)) ?_
    refine zR_ldc2 C qX6_168 eX6_noPlan_28 ?_
    refine zR_ladd C eX6_noPlan_31 ?_
    refine zR_callS1 C kX6_56 eX6_noPlan_32 (c_X6_in _ _ _ ) rfl rfl (by decide) (by decide) (Nat.le_of_ble_eq_true rfl) (Nat.zero_le _) (Nat.zero_le _) ?_
    refine zR_bfeq C eX6_noPlan_35 (fun h35 => ?_) (fun h35 => ?_)
    · skip
      refine zR_bipush (v := -2) C eX6_noPlan_63 (by decide) ?_
      exact zR_iret C rfl rfl eX6_noPlan_65 (Nat.zero_le _) (Nat.zero_le _) ⟨(by first | (unfold m_noPlan; rw [if_pos h5, if_neg h35]; first | done | rfl) | rfl | (simp only [m_noPlan, if_pos h5, if_neg h35]; first | done | rfl)), rfl⟩
    · skip
      refine zR_iload_n C eX6_noPlan_38 3 rfl rfl ?_
      refine zR_i2l C eX6_noPlan_39 ?_
      refine zR_lconst (v := 1) C eX6_noPlan_40 (by decide) ?_
      refine zR_ldc2 C qX6_127 eX6_noPlan_41 ?_
      refine zR_callS1 C kX6_56 eX6_noPlan_44 (c_X6_in _ _ _ ) rfl rfl (by decide) (by decide) (Nat.le_of_ble_eq_true rfl) (Nat.zero_le _) (Nat.zero_le _) ?_
      refine zR_bfeq C eX6_noPlan_47 (fun h47 => ?_) (fun h47 => ?_)
      · skip
        refine zR_bipush (v := -2) C eX6_noPlan_63 (by decide) ?_
        exact zR_iret C rfl rfl eX6_noPlan_65 (Nat.zero_le _) (Nat.zero_le _) ⟨(by first | (unfold m_noPlan; rw [if_pos h5, if_pos h35, if_neg h47]; first | done | rfl) | rfl | (simp only [m_noPlan, if_pos h5, if_pos h35, if_neg h47]; first | done | rfl)), rfl⟩
      · skip
        refine zR_iload C eX6_noPlan_50 4 rfl ?_
        refine zR_i2l C eX6_noPlan_52 ?_
        refine zR_lconst (v := 0) C eX6_noPlan_53 (by decide) ?_
        refine zR_ldc2 C qX6_76 eX6_noPlan_54 ?_
        refine zR_callS1 C kX6_56 eX6_noPlan_57 (c_X6_in _ _ _ ) rfl rfl (by decide) (by decide) (Nat.le_of_ble_eq_true rfl) (Nat.zero_le _) (Nat.zero_le _) ?_
        refine zR_bfne C eX6_noPlan_60 (fun h60 => ?_) (fun h60 => ?_)
        · skip
          refine zR_aload_n C eX6_noPlan_66 0 rfl rfl ?_
          refine zR_get C fX6_7 eX6_noPlan_67 0 rW_g0 rfl ?_
          refine zR_bipush (v := 13) C eX6_noPlan_70 (by decide) ?_
          refine zR_laldK C eX6_noPlan_72 1 rW_g1 13 rfl (vp_in_iff.mpr (by decide)) ?_
          refine zR_ldc2 C qX6_170 eX6_noPlan_73 ?_
          refine zR_cifne C eX6_noPlan_76 eX6_noPlan_77 (fun h76 => ?_) (fun h76 => ?_)
          · skip
            refine zR_iconst (v := 0) C eX6_noPlan_85 (by decide) ?_
            exact zR_iret C rfl rfl eX6_noPlan_86 (Nat.zero_le _) (Nat.zero_le _) ⟨(by first | (unfold m_noPlan; rw [if_pos h5, if_pos h35, if_pos h47, if_pos h60, if_neg h76]; first | done | rfl) | rfl | (simp only [m_noPlan, if_pos h5, if_pos h35, if_pos h47, if_pos h60, if_neg h76]; first | done | rfl)), rfl⟩
          · skip
            refine zR_bipush (v := -4) C eX6_noPlan_80 (by decide) ?_
            refine zR_goto C eX6_noPlan_82 ?_
            exact zR_iret C rfl rfl eX6_noPlan_86 (Nat.zero_le _) (Nat.zero_le _) ⟨(by first | (unfold m_noPlan; rw [if_pos h5, if_pos h35, if_pos h47, if_pos h60, if_pos h76]; first | done | rfl) | rfl | (simp only [m_noPlan, if_pos h5, if_pos h35, if_pos h47, if_pos h60, if_pos h76]; first | done | rfl)), rfl⟩
        · skip
          refine zR_bipush (v := -2) C eX6_noPlan_63 (by decide) ?_
          exact zR_iret C rfl rfl eX6_noPlan_65 (Nat.zero_le _) (Nat.zero_le _) ⟨(by first | (unfold m_noPlan; rw [if_pos h5, if_pos h35, if_pos h47, if_neg h60]; first | done | rfl) | rfl | (simp only [m_noPlan, if_pos h5, if_pos h35, if_pos h47, if_neg h60]; first | done | rfl)), rfl⟩
  · skip
    refine zR_iconst (v := -1) C eX6_noPlan_8 (by decide) ?_
    exact zR_iret C rfl rfl eX6_noPlan_9 (Nat.zero_le _) (Nat.zero_le _) ⟨(by first | (unfold m_noPlan; rw [if_neg h5]; first | done | rfl) | rfl | (simp only [m_noPlan, if_neg h5]; first | done | rfl)), rfl⟩
set_option maxHeartbeats 1000000 in
set_option maxRecDepth 100000 in
theorem c_X6_doPlan {l : Launch} {g : zG} (q : Nat → Nat) (m : MD) (s : Int32) (t : Int32) (z : Int32) (y : Int32) (h13 : zinl (m_row m 13) 30) : zM l g yX6_doPlan cX6_doPlan 6 (some .int) 1 0 0 [.ref (q 0), .int s, .int t, .int z, .int y] (rW g q m (m_row m)) (zE (some (.int (m_doPlan m s t z y).1)) (rW g q ((m_doPlan m s t z y).2) (m_row ((m_doPlan m s t z y).2)))) := by
  refine zM_of (by decide +kernel) (Nat.le_of_ble_eq_true rfl) (fun x hl hn _ _ _ C => ?_)
  subst hl
  show zR x g _ (0, 0) 0 [(0, .ref (q 0)), (1, .int s), (2, .int t), (3, .int z), (4, .int y)] [] _
  have hl := (zinl_i h13 (by decide)).2.1
  have hzl := vp_lt hl (by decide)
  refine zR_aload_n C eX6_doPlan_0 0 rfl rfl ?_
  refine zR_bipush (v := 13) C eX6_doPlan_1 (by decide) ?_
  refine zR_callV1 C kX6_60 eX6_doPlan_3 (c_X6_number q _ _ 13 (by omega)) rfl 0 6 rW_g0 rfl rfl _ rW_c rW_n rfl (by decide) (by decide) (Nat.le_of_ble_eq_true rfl) (Nat.zero_le _) (Nat.zero_le _) rW_f rW_r ?_
  refine zR_istore (lv' := [(5, _), (0, _), (1, _), (2, _), (3, _), (4, _)]) C eX6_doPlan_6 (by rw [hn]; decide) rfl ?_
  refine zR_aload_n C eX6_doPlan_8 1 rfl rfl ?_
  refine zR_get C fX6_7 eX6_doPlan_9 0 rW_g0 rfl ?_
  refine zR_iload C eX6_doPlan_12 0 rfl ?_
  refine zR_iconst (v := 0) C eX6_doPlan_14 (by decide) ?_
  refine zR_callS1 C kX6_172 eX6_doPlan_15 (c_X6_ofPlanAt _ 0 (by assumption) (by decide)) rfl rfl (by decide) (by decide) (Nat.le_of_ble_eq_true rfl) (Nat.zero_le _) (Nat.zero_le _) ?_
  refine zR_iload_n C eX6_doPlan_18 2 rfl rfl ?_
  refine zR_i2l C eX6_doPlan_19 ?_
  refine zR_lastN C eX6_doPlan_20 1 rW_g1 ⟨by omega, by decide⟩ rW_s1 ?_
  refine zR_aload_n C eX6_doPlan_21 1 rfl rfl ?_
  refine zR_get C fX6_7 eX6_doPlan_22 0 rW_g0 rfl ?_
  refine zR_iload C eX6_doPlan_25 0 rfl ?_
  refine zR_iconst (v := 1) C eX6_doPlan_27 (by decide) ?_
  refine zR_callS1 C kX6_172 eX6_doPlan_28 (c_X6_ofPlanAt _ 1 (by assumption) (by decide)) rfl rfl (by decide) (by decide) (Nat.le_of_ble_eq_true rfl) (Nat.zero_le _) (Nat.zero_le _) ?_
  refine zR_iload_n C eX6_doPlan_31 3 rfl rfl ?_
  refine zR_i2l C eX6_doPlan_32 ?_
  refine zR_lastN C eX6_doPlan_33 1 rW_g1 ⟨by omega, by decide⟩ rW_s1 ?_
  refine zR_aload_n C eX6_doPlan_34 1 rfl rfl ?_
  refine zR_get C fX6_7 eX6_doPlan_35 0 rW_g0 rfl ?_
  refine zR_iload C eX6_doPlan_38 0 rfl ?_
  refine zR_iconst (v := 2) C eX6_doPlan_40 (by decide) ?_
  refine zR_callS1 C kX6_172 eX6_doPlan_41 (c_X6_ofPlanAt _ 2 (by assumption) (by decide)) rfl rfl (by decide) (by decide) (Nat.le_of_ble_eq_true rfl) (Nat.zero_le _) (Nat.zero_le _) ?_
  refine zR_iload_n C eX6_doPlan_44 4 rfl rfl ?_
  refine zR_i2l C eX6_doPlan_45 ?_
  refine zR_lastN C eX6_doPlan_46 1 rW_g1 ⟨by omega, by decide⟩ rW_s1 ?_
  refine zR_aload_n C eX6_doPlan_47 1 rfl rfl ?_
  refine zR_get C fX6_7 eX6_doPlan_48 0 rW_g0 rfl ?_
  refine zR_iload C eX6_doPlan_51 0 rfl ?_
  refine zR_iconst (v := 3) C eX6_doPlan_53 (by decide) ?_
  refine zR_callS1 C kX6_172 eX6_doPlan_54 (c_X6_ofPlanAt _ 3 (by assumption) (by decide)) rfl rfl (by decide) (by decide) (Nat.le_of_ble_eq_true rfl) (Nat.zero_le _) (Nat.zero_le _) ?_
  refine zR_iload C eX6_doPlan_57 5 rfl ?_
  refine zR_i2l C eX6_doPlan_59 ?_
  refine zR_lastN C eX6_doPlan_60 1 rW_g1 ⟨by omega, by decide⟩ rW_s1 ?_
  refine zR_aload_n C eX6_doPlan_61 1 rfl rfl ?_
  refine zR_get C fX6_7 eX6_doPlan_62 0 rW_g0 rfl ?_
  refine zR_bipush (v := 13) C eX6_doPlan_65 (by decide) ?_
  refine zR_dup2 C eX6_doPlan_67 rfl rfl ?_
  refine zR_laldK C eX6_doPlan_68 1 rW_g1 13 rfl (vp_in_iff.mpr (by decide)) ?_
  refine zR_lconst (v := 1) C eX6_doPlan_69 (by decide) ?_
  refine zR_ladd C eX6_doPlan_70 ?_
  refine zR_lastK C eX6_doPlan_71 1 rW_g1 13 rfl (vp_in_iff.mpr (by decide)) rW_s1 ?_
  refine zR_iload C eX6_doPlan_72 0 rfl ?_
  exact zR_iret C rfl rfl eX6_doPlan_74 (Nat.zero_le _) (Nat.zero_le _) ⟨(by first | rfl | (unfold m_doPlan; rfl)), (by first | rfl | (unfold m_doPlan; rfl))⟩
set_option maxHeartbeats 1000000 in
set_option maxRecDepth 100000 in
theorem c_X6_plan {l : Launch} {g : zG} (q : Nat → Nat) (m : MD) (s : Int32) (t : Int32) (z : Int32) (y : Int32) (hs : zok (m_sts m) 6) (hr : r_ok (m_row m)) : zM l g yX6_plan cX6_plan 6 (some .int) 3 0 0 [.ref (q 0), .int s, .int t, .int z, .int y] (rW g q m (m_row m)) (zE (some (.int (m_plan m s t z y).1)) (rW g q ((m_plan m s t z y).2) (m_row ((m_plan m s t z y).2)))) := by
  refine zM_of (by decide +kernel) (Nat.le_of_ble_eq_true rfl) (fun x hl hn _ _ _ C => ?_)
  subst hl
  show zR x g _ (0, 0) 0 [(0, .ref (q 0)), (1, .int s), (2, .int t), (3, .int z), (4, .int y)] [] _
  refine zR_aload_n C eX6_plan_0 0 rfl rfl ?_
  refine zR_iload_n C eX6_plan_1 1 rfl rfl ?_
  refine zR_iload_n C eX6_plan_2 2 rfl rfl ?_
  refine zR_iload_n C eX6_plan_3 3 rfl rfl ?_
  refine zR_iload C eX6_plan_4 4 rfl ?_
  refine zR_callV1 C kX6_175 eX6_plan_6 (c_X6_noPlan q _ _ _ _ _ ) rfl 0 6 rW_g0 rfl rfl _ rW_c rW_n rfl (by decide) (by decide) (Nat.le_of_ble_eq_true rfl) (Nat.zero_le _) (Nat.zero_le _) rW_f rW_r ?_
  refine zR_istore (lv' := [(5, _), (0, _), (1, _), (2, _), (3, _), (4, _)]) C eX6_plan_9 (by rw [hn]; decide) rfl ?_
  refine zR_iload C eX6_plan_11 0 rfl ?_
  refine zR_ifeq C eX6_plan_13 (fun h13 => ?_) (fun h13 => ?_)
  · skip
    have h30 := (m_noPlan_0 h13).2
    refine zR_aload_n C eX6_plan_19 1 rfl rfl ?_
    refine zR_callVv C kX6_64 eX6_plan_20 (c_X6_record q _ hs) rfl 0 6 rW_g0 rfl rfl _ rW_c rW_n rfl (by decide) (by decide) (Nat.le_of_ble_eq_true rfl) (Nat.zero_le _) (Nat.zero_le _) rW_f rW_r ?_
    refine zR_aload_n C eX6_plan_23 1 rfl rfl ?_
    refine zR_iload_n C eX6_plan_24 2 rfl rfl ?_
    refine zR_iload_n C eX6_plan_25 3 rfl rfl ?_
    refine zR_iload_n C eX6_plan_26 4 rfl rfl ?_
    refine zR_iload C eX6_plan_27 5 rfl ?_
    refine zR_callV1 C kX6_178 eX6_plan_29 (c_X6_doPlan q _ _ _ _ _ (by rw [m_rec_lo (by decide)]; exact zokl_lt (n := 30) hr.2.2.2.1 h30)) rfl 0 6 rW_g0 rfl rfl _ rW_c rW_n rfl (by decide) (by decide) (Nat.le_of_ble_eq_true rfl) (Nat.zero_le _) (Nat.zero_le _) rW_f rW_r ?_
    exact zR_iret C rfl rfl eX6_plan_32 (Nat.zero_le _) (Nat.zero_le _) ⟨(by first | (unfold m_plan; rw [if_pos h13]; first | done | rfl) | rfl | (simp only [m_plan, if_pos h13]; first | done | rfl)), (by first | (unfold m_plan; rw [if_pos h13]; first | done | rfl) | rfl | (simp only [m_plan, if_pos h13]; first | done | rfl))⟩
  · skip
    refine zR_iload C eX6_plan_16 0 rfl ?_
    exact zR_iret C rfl rfl eX6_plan_18 (Nat.zero_le _) (Nat.zero_le _) ⟨(by first | (unfold m_plan; rw [if_neg h13]; first | done | rfl) | rfl | (simp only [m_plan, if_neg h13]; first | done | rfl)), (by first | (unfold m_plan; rw [if_neg h13]; first | done | rfl) | rfl | (simp only [m_plan, if_neg h13]; first | done | rfl))⟩
set_option maxHeartbeats 1000000 in
set_option maxRecDepth 100000 in
theorem c_X6_doDrop {l : Launch} {g : zG} (q : Nat → Nat) (m : MD) (p : Int32) (hp : vp_in p 30) (h13 : zokl (m_row m 13) 30) : zM l g yX6_doDrop cX6_doDrop 2 (some .int) 2 0 0 [.ref (q 0), .int p] (rW g q m (m_row m)) (zE (some (.int (m_doDrop m p).1)) (rW g q ((m_doDrop m p).2) (m_row ((m_doDrop m p).2)))) := by
  refine zM_of (by decide +kernel) (Nat.le_of_ble_eq_true rfl) (fun x hl hn _ _ _ C => ?_)
  subst hl
  show zR x g _ (0, 0) 0 [(0, .ref (q 0)), (1, .int p)] [] _
  refine zR_aload_n C eX6_doDrop_0 0 rfl rfl ?_
  refine zR_get C fX6_25 eX6_doDrop_1 0 rW_g0 rfl ?_
  refine zR_iload_n C eX6_doDrop_4 1 rfl rfl ?_
  refine zR_iconst (v := 1) C eX6_doDrop_5 (by decide) ?_
  refine zR_zast C eX6_doDrop_6 4 rW_g4 hp rfl rW_s4 ?_
  refine zR_ws (rW g q (m_go m (zn32 p) 1) (m_row (m_go m (zn32 p) 1))) rfl ?_
  refine zR_aload_n C eX6_doDrop_7 0 rfl rfl ?_
  refine zR_callVv C kX6_181 eX6_doDrop_8 (c_X6_clearPlans q _ (show zokl (m_row (m_go m (zn32 p) 1) 13) 30 from h13)) rfl 0 6 rW_g0 rfl rfl _ rW_c rW_n rfl (by decide) (by decide) (Nat.le_of_ble_eq_true rfl) (Nat.zero_le _) (Nat.zero_le _) rW_f rW_r ?_
  refine zR_aload_n C eX6_doDrop_11 0 rfl rfl ?_
  refine zR_bipush (v := 13) C eX6_doDrop_12 (by decide) ?_
  refine zR_callV1 C kX6_60 eX6_doDrop_14 (c_X6_number q _ _ 13 (by decide)) rfl 0 6 rW_g0 rfl rfl _ rW_c rW_n rfl (by decide) (by decide) (Nat.le_of_ble_eq_true rfl) (Nat.zero_le _) (Nat.zero_le _) rW_f rW_r ?_
  exact zR_iret C rfl rfl eX6_doDrop_17 (Nat.zero_le _) (Nat.zero_le _) ⟨(by first | rfl | (unfold m_doDrop; rfl)), (by first | rfl | (unfold m_doDrop; rfl))⟩
set_option maxHeartbeats 1000000 in
set_option maxRecDepth 100000 in
theorem c_X6_drop {l : Launch} {g : zG} (q : Nat → Nat) (m : MD) (p : Int32) (hs : zok (m_sts m) 6) (hr : r_ok (m_row m)) : zM l g yX6_drop cX6_drop 2 (some .int) 3 0 0 [.ref (q 0), .int p] (rW g q m (m_row m)) (zE (some (.int (m_drop m p).1)) (rW g q ((m_drop m p).2) (m_row ((m_drop m p).2)))) := by
  refine zM_of (by decide +kernel) (Nat.le_of_ble_eq_true rfl) (fun x hl hn _ _ _ C => ?_)
  subst hl
  show zR x g _ (0, 0) 0 [(0, .ref (q 0)), (1, .int p)] [] _
  refine zR_aload_n C eX6_drop_0 0 rfl rfl ?_
  refine zR_iload_n C eX6_drop_1 1 rfl rfl ?_
  refine zR_callV1 C kX6_184 eX6_drop_2 (c_X6_isPlan q _ _ _ ) rfl 0 6 rW_g0 rfl rfl _ rW_c rW_n rfl (by decide) (by decide) (Nat.le_of_ble_eq_true rfl) (Nat.zero_le _) (Nat.zero_le _) rW_f rW_r ?_
  refine zR_bfne C eX6_drop_5 (fun h5 => ?_) (fun h5 => ?_)
  · skip
    have hv := r_isP_in h5 hr
    refine zR_aload_n C eX6_drop_10 0 rfl rfl ?_
    refine zR_callVv C kX6_64 eX6_drop_11 (c_X6_record q _ hs) rfl 0 6 rW_g0 rfl rfl _ rW_c rW_n rfl (by decide) (by decide) (Nat.le_of_ble_eq_true rfl) (Nat.zero_le _) (Nat.zero_le _) rW_f rW_r ?_
    refine zR_aload_n C eX6_drop_14 0 rfl rfl ?_
    refine zR_iload_n C eX6_drop_15 1 rfl rfl ?_
    refine zR_callV1 C kX6_187 eX6_drop_16 (c_X6_doDrop q _ _ hv.1 (m_rec_ok hr).2.2.2.1) rfl 0 6 rW_g0 rfl rfl _ rW_c rW_n rfl (by decide) (by decide) (Nat.le_of_ble_eq_true rfl) (Nat.zero_le _) (Nat.zero_le _) rW_f rW_r ?_
    exact zR_iret C rfl rfl eX6_drop_19 (Nat.zero_le _) (Nat.zero_le _) ⟨(by first | (unfold m_drop; rw [if_pos h5]; first | done | rfl) | rfl | (simp only [m_drop, if_pos h5]; first | done | rfl)), (by first | (unfold m_drop; rw [if_pos h5]; first | done | rfl) | rfl | (simp only [m_drop, if_pos h5]; first | done | rfl))⟩
  · skip
    refine zR_iconst (v := -1) C eX6_drop_8 (by decide) ?_
    exact zR_iret C rfl rfl eX6_drop_9 (Nat.zero_le _) (Nat.zero_le _) ⟨(by first | (unfold m_drop; rw [if_neg h5]; first | done | rfl) | rfl | (simp only [m_drop, if_neg h5]; first | done | rfl)), (by first | (unfold m_drop; rw [if_neg h5]; first | done | rfl) | rfl | (simp only [m_drop, if_neg h5]; first | done | rfl))⟩
set_option maxHeartbeats 1000000 in
set_option maxRecDepth 100000 in
theorem c_X6_hours {l : Launch} {g : zG} (q : Nat → Nat) (m : MD) (k : Int32) (hs : zok (m_sts m) 6) (hg : z_inl k.toInt64 1 1000 = true → ∀ i, i < zn32 k → m_hgood (m_hrs (m_rec m) i)) : zM l g yX6_hours cX6_hours 2 (some .int) 8 0 0 [.ref (q 0), .int k] (rW g q m (m_row m)) (zE (some (.int (m_hours m k).1)) (rW g q ((m_hours m k).2) (m_row ((m_hours m k).2)))) := by
  refine zM_of (by decide +kernel) (Nat.le_of_ble_eq_true rfl) (fun x hl hn _ _ _ C => ?_)
  subst hl
  show zR x g _ (0, 0) 0 [(0, .ref (q 0)), (1, .int k)] [] _
  refine zR_iload_n C eX6_hours_0 1 rfl rfl ?_
  refine zR_i2l C eX6_hours_1 ?_
  refine zR_lconst (v := 1) C eX6_hours_2 (by decide) ?_
  refine zR_ldc2 C qX6_217 eX6_hours_3 ?_
  refine zR_callS1 C kX6_56 eX6_hours_6 (c_X6_in _ _ _ ) rfl rfl (by decide) (by decide) (Nat.le_of_ble_eq_true rfl) (Nat.zero_le _) (Nat.zero_le _) ?_
  refine zR_bfne C eX6_hours_9 (fun h9 => ?_) (fun h9 => ?_)
  · skip
    have hk0 := z_inl_nn (a := 1) (b := 1000) h9 (by decide) (by decide)
    have hk : zok k 1000 := ⟨hk0.1, hk0.2.2⟩
    refine zR_aload_n C eX6_hours_15 0 rfl rfl ?_
    refine zR_callVv C kX6_64 eX6_hours_16 (c_X6_record q _ hs) rfl 0 6 rW_g0 rfl rfl _ rW_c rW_n rfl (by decide) (by decide) (Nat.le_of_ble_eq_true rfl) (Nat.zero_le _) (Nat.zero_le _) rW_f rW_r ?_
    refine zR_aload_n C eX6_hours_19 0 rfl rfl ?_
    refine zR_iload_n C eX6_hours_20 1 rfl rfl ?_
    refine zR_callV1 C kX6_219 eX6_hours_21 (c_X6_pass q _ _ hk (hg h9)) rfl 0 6 rW_g0 rfl rfl _ rW_c rW_n rfl (by decide) (by decide) (Nat.le_of_ble_eq_true rfl) (Nat.zero_le _) (Nat.zero_le _) rW_f rW_r ?_
    exact zR_iret C rfl rfl eX6_hours_24 (Nat.zero_le _) (Nat.zero_le _) ⟨(by first | (unfold m_hours; rw [if_pos h9]; first | done | rfl) | rfl | (simp only [m_hours, if_pos h9]; first | done | rfl)), (by first | (unfold m_hours; rw [if_pos h9]; first | done | rfl) | rfl | (simp only [m_hours, if_pos h9]; first | done | rfl))⟩
  · skip
    refine zR_bipush (v := -2) C eX6_hours_12 (by decide) ?_
    exact zR_iret C rfl rfl eX6_hours_14 (Nat.zero_le _) (Nat.zero_le _) ⟨(by first | (unfold m_hours; rw [if_neg h9]; first | done | rfl) | rfl | (simp only [m_hours, if_neg h9]; first | done | rfl)), (by first | (unfold m_hours; rw [if_neg h9]; first | done | rfl) | rfl | (simp only [m_hours, if_neg h9]; first | done | rfl))⟩
