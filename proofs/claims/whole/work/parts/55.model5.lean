/-! The reference: the walks, fifth part: states, settings, services. -/
theorem r_cpn_0 (r : RW) (a b : Nat) : r_cpn r a b 0 = r := by
  funext j; unfold r_cpn; rw [if_neg (by omega)]
theorem r_cpn_s (r : RW) {a b n : Nat} (h : a + 454 ≤ b ∨ b + 454 ≤ a) (hn : n < 454) : vp_updL (r_cpn r a b n) (b + n) (r_cpn r a b n (a + n)) = r_cpn r a b (n + 1) := by
  funext j
  have e1 : r_cpn r a b n (a + n) = r (a + n) := by unfold r_cpn; rw [if_neg (by omega)]
  rw [e1]
  by_cases e : j = b + n
  · subst e
    rw [pk_uLs]; unfold r_cpn; rw [if_pos (by omega), Nat.add_sub_cancel_left]
  · rw [pk_uLn e]; unfold r_cpn
    by_cases h2 : b ≤ j ∧ j < b + n
    · rw [if_pos h2, if_pos (by omega)]
    · rw [if_neg h2, if_neg (by omega)]
theorem r_cp_in {r : RW} {a b k : Nat} (hk : k < 454) : r_cp r a b (b + k) = r (a + k) := by
  unfold r_cp r_cpn; rw [if_pos (by omega), Nat.add_sub_cancel_left]
theorem r_cp_out {r : RW} {a b j : Nat} (hj : j < b ∨ b + 454 ≤ j) : r_cp r a b j = r j := by
  unfold r_cp r_cpn; rw [if_neg (by omega)]
theorem m_ix454 {s : Int32} {c : Nat} (hs : zok s 5) : nI c + 454 * s = nI (c + 454 * zn32 s) := by
  rw [show (454 : Int32) = nI 454 from rfl, hs.1, pk_mul, nI_add, ← hs.1]
theorem m_sts5 {s : Int32} (hs : zok s 6) (h : ¬ s = 6) : zok s 5 := by
  refine ⟨hs.1, ?_⟩
  rcases Nat.lt_or_ge (zn32 s) 6 with z | z
  · omega
  · have := hs.2
    exact absurd (by rw [hs.1, show zn32 s = 6 by omega]; rfl) h
theorem m_sts1 {s : Int32} (hs : zok s 6) (h : ¬ s = 0) : zok (s - 1) 5 := by
  have h2 := hs.2
  rcases Nat.lt_or_ge 0 (zn32 s) with z | z
  · have e : s - 1 = nI (zn32 s - 1) := by
      obtain ⟨k, hk⟩ : ∃ k, zn32 s = k + 1 := ⟨zn32 s - 1, by omega⟩
      have hs1 := hs.1
      rw [hk] at hs1 ⊢
      rw [hs1, nI_pred]; rfl
    rw [e]; exact zok_nI (by omega) (by decide)
  · exact absurd (by rw [hs.1, show zn32 s = 0 by omega]; rfl) h
theorem m_rec1_sts {m : MD} (hs : zok (m_sts m) 6) : zok (m_sts (m_rec1 m)) 5 := by
  unfold m_rec1; split
  · rename_i h
    show zok (m_sts m - 1) 5
    rw [h]; exact ⟨by decide, by decide⟩
  · rename_i h; exact m_sts5 hs h
theorem m_cp_lo {m : MD} {a b k : Nat} (hk : k < 454) (hb : 454 ≤ b) : m_row (m_cp m a b) k = m_row m k := r_cp_out (Or.inl (by omega))
theorem m_rec1_lo {m : MD} {k : Nat} (hk : k < 454) : m_row (m_rec1 m) k = m_row m k := by
  unfold m_rec1; split
  · show m_row (m_shift m) k = _
    unfold m_shift
    rw [m_cp_lo hk (by decide), m_cp_lo hk (by decide), m_cp_lo hk (by decide), m_cp_lo hk (by decide), m_cp_lo hk (by decide)]
  · rfl
theorem m_rec_lo {m : MD} {k : Nat} (hk : k < 454) : m_row (m_rec m) k = m_row m k := by
  show m_row (m_cp (m_rec1 m) 0 (454 + 454 * zn32 (m_sts (m_rec1 m)))) k = _
  rw [m_cp_lo hk (by omega), m_rec1_lo hk]
theorem r_ok_lo {r r2 : RW} (h : ∀ k, k < 454 → r2 k = r k) (hr : r_ok r) : r_ok r2 := by
  obtain ⟨h1, h2, h3, h4, h5⟩ := hr
  unfold r_ok
  rw [h 11 (by decide), h 12 (by decide), h 13 (by decide)]
  refine ⟨h1, h2, fun l hl => ?_, h4, fun p hp => ?_⟩
  · have := h2.2
    rw [h _ (by omega), h _ (by omega)]; exact h3 l hl
  · have := h4.2
    rw [h _ (by omega)]; exact h5 p hp
theorem m_rec_ok {m : MD} (hr : r_ok (m_row m)) : r_ok (m_row (m_rec m)) := r_ok_lo (fun _ hk => m_rec_lo hk) hr
theorem z_inl01 {i : Int32} (h : z_inl i.toInt64 0 1 = true) : vp_in i 2 ∧ i = nI (zn32 i) ∧ zn32 i < 2 := by
  obtain ⟨h1, h2⟩ := z_inl_t h
  rw [i64_lt, i32_64] at h1
  rw [i64_le, i32_64] at h2
  have h0 : ¬ i < 0 := by rw [Int32.lt_iff_toInt_lt]; exact h1
  obtain ⟨j, hj, rfl⟩ := nI_of h0
  rw [nI_toInt hj, show (1 : Int64).toInt = 1 by decide] at h2
  have e : zn32 (nI j) = j := nI_clamp hj
  rw [e]
  exact ⟨vp_in_nI (by omega) (by decide), rfl, by omega⟩
theorem z_isSet_in {s v : Int32} (h : z_isSet s v = true) : vp_in s 8 ∧ s = nI (zn32 s) ∧ zn32 s < 8 := by
  unfold z_isSet at h
  have key : ∀ j : Nat, j < 8 → vp_in (nI j) 8 ∧ nI j = nI (zn32 (nI j)) ∧ zn32 (nI j) < 8 := by
    intro j hj
    have e : zn32 (nI j) = j := nI_clamp (by omega)
    rw [e]; exact ⟨vp_in_nI hj (by decide), rfl, hj⟩
  split at h
  · rename_i e; rw [e]; exact key 0 (by decide)
  · split at h
    · rename_i e; rw [e]; exact key 5 (by decide)
    · split at h
      · rename_i e; rw [e]; exact key 6 (by decide)
      · split at h
        · rename_i e; rw [e]; exact key 7 (by decide)
        · split at h
          · rename_i z
            obtain ⟨h1, h2⟩ := z_inl_t z
            rw [i64_lt, i32_64, show (1 : Int64).toInt = 1 by decide] at h1
            rw [i64_le, i32_64, show (4 : Int64).toInt = 4 by decide] at h2
            have h0 : ¬ s < 0 := by rw [Int32.lt_iff_toInt_lt, show (0 : Int32).toInt = 0 by decide]; omega
            obtain ⟨j, hj, rfl⟩ := nI_of h0
            rw [nI_toInt hj] at h1 h2
            exact key j (by omega)
          · cases h
set_option maxHeartbeats 1000000 in
set_option maxRecDepth 100000 in
theorem c_X6_copy_lp {x : zX} {g : zG} {q : Nat → Nat} {m : MD} {r : RW} {a b : Nat} (ha : a < 4087) (hb : b < 4087) (hab : a + 454 ≤ b ∨ b + 454 ≤ a) (hn : zn x = 4) (C : zC x g RX6 cX6_copy none 0) : ∀ k i : Nat, i + k = 454 → zR x g (zE none (rW g q m (r_cp r a b))) (0, 0) 2 [(3, .int (nI i)), (0, .ref (q 0)), (1, .int (nI a)), (2, .int (nI b))] [] (rW g q m (r_cpn r a b i)) := by
  intro k
  induction k with
  | zero =>
    intro i hk
    have hi : i = 454 := by omega
    subst hi
    refine zR_iload_n C eX6_copy_2 0 rfl rfl ?_
    refine zR_sipush (v := 454) C eX6_copy_3 (by decide) ?_
    refine zR_icmp_ge C eX6_copy_6 (fun h6 => ?_) (fun h6 => ?_)
    · skip
      exact zR_vret C rfl eX6_copy_31 (Nat.zero_le _) (Nat.zero_le _) ⟨rfl, rfl⟩
    · skip
      exact absurd h6 (by decide)
  | succ k ih =>
    intro i hk
    refine zR_iload_n C eX6_copy_2 0 rfl rfl ?_
    refine zR_sipush (v := 454) C eX6_copy_3 (by decide) ?_
    refine zR_icmp_ge C eX6_copy_6 (fun h6 => ?_) (fun h6 => ?_)
    · skip
      exact absurd (nI_lt (a := i) (b := 454) (by omega) (by decide)) h6
    · skip
      refine zR_aload_n C eX6_copy_9 1 rfl rfl ?_
      refine zR_get C fX6_7 eX6_copy_10 0 rW_g0 rfl ?_
      refine zR_iload_n C eX6_copy_13 3 rfl rfl ?_
      refine zR_iload_n C eX6_copy_14 0 rfl rfl ?_
      refine zR_iadd C eX6_copy_15 ?_
      refine zR_topi (b := nI (b + i)) (nI_add b i) ?_
      refine zR_aload_n C eX6_copy_16 1 rfl rfl ?_
      refine zR_get C fX6_7 eX6_copy_17 0 rW_g0 rfl ?_
      refine zR_iload_n C eX6_copy_20 2 rfl rfl ?_
      refine zR_iload_n C eX6_copy_21 0 rfl rfl ?_
      refine zR_iadd C eX6_copy_22 ?_
      refine zR_topi (b := nI (a + i)) (nI_add a i) ?_
      refine zR_laldN C eX6_copy_23 1 rW_g1 ⟨by omega, by decide⟩ ?_
      refine zR_lastN C eX6_copy_24 1 rW_g1 ⟨by omega, by decide⟩ rW_s1 ?_
      refine zR_iinc (lv' := [(3, _), (0, _), (1, _), (2, _)]) (v' := nI (i + 1)) C eX6_copy_25 0 rfl (zinc i) (by rw [hn]; decide) rfl ?_
      refine zR_goto C eX6_copy_28 ?_
      refine zR_lv [(3, _), (0, _), (1, _), (2, _)] [0, 1, 2, 3] rfl ?_
      refine zR_ws (rW g q m (r_cpn r a b (i + 1))) (by rw [← r_cpn_s r hab (show i < 454 by omega)]) ?_
      exact ih (i + 1) (by omega)
set_option maxHeartbeats 1000000 in
set_option maxRecDepth 100000 in
theorem c_X6_copy {l : Launch} {g : zG} (q : Nat → Nat) (m : MD) (r : RW) (a : Nat) (b : Nat) (ha : a < 4087) (hb : b < 4087) (hab : a + 454 ≤ b ∨ b + 454 ≤ a) : zM l g yX6_copy cX6_copy 4 none 0 0 0 [.ref (q 0), .int (nI a), .int (nI b)] (rW g q m r) (zE none (rW g q m (r_cp r a b))) := by
  refine zM_of (by decide +kernel) (Nat.le_of_ble_eq_true rfl) (fun x hl hn _ _ _ C => ?_)
  subst hl
  show zR x g _ (0, 0) 0 [(0, .ref (q 0)), (1, .int (nI a)), (2, .int (nI b))] [] _
  refine zR_iconst (v := 0) C eX6_copy_0 (by decide) ?_
  refine zR_istore_n (lv' := [(3, _), (0, _), (1, _), (2, _)]) C eX6_copy_1 rfl (by rw [hn]; decide) rfl ?_
  refine zR_lv [(3, .int (nI 0)), (0, _), (1, _), (2, _)] [0, 1, 2, 3] rfl ?_
  refine zR_ws (rW g q m (r_cpn r a b 0)) (by rw [r_cpn_0]) ?_
  exact c_X6_copy_lp ha hb hab hn C 454 0 (by decide)
set_option maxHeartbeats 1000000 in
set_option maxRecDepth 100000 in
theorem c_X6_record {l : Launch} {g : zG} (q : Nat → Nat) (m : MD)  (hs : zok (m_sts m) 6) : zM l g yX6_record cX6_record 2 none 1 0 0 [.ref (q 0)] (rW g q m (m_row m)) (zE none (rW g q (m_rec m) (m_row (m_rec m)))) := by
  refine zM_of (by decide +kernel) (Nat.le_of_ble_eq_true rfl) (fun x hl hn _ _ _ C => ?_)
  subst hl
  show zR x g _ (0, 0) 0 [(0, .ref (q 0))] [] _
  refine zR_aload_n C eX6_record_0 0 rfl rfl ?_
  refine zR_get C fX6_49 eX6_record_1 0 rW_g0 rfl ?_
  refine zR_bipush (v := 6) C eX6_record_4 (by decide) ?_
  refine zR_icmp_ne C eX6_record_6 (fun h6 => ?_) (fun h6 => ?_)
  · skip
    have e1 : m_rec1 m = _ := if_neg h6
    have h5 := m_rec1_sts hs
    refine zR_ws (rW g q (m_rec1 m) (m_row (m_rec1 m))) (by rw [e1] <;> rfl) ?_
    refine zR_aload_n C eX6_record_51 0 rfl rfl ?_
    refine zR_iconst (v := 0) C eX6_record_52 (by decide) ?_
    refine zR_sipush (v := 454) C eX6_record_53 (by decide) ?_
    refine zR_sipush (v := 454) C eX6_record_56 (by decide) ?_
    refine zR_aload_n C eX6_record_59 0 rfl rfl ?_
    refine zR_get C fX6_49 eX6_record_60 0 rW_g0 rfl ?_
    refine zR_imul C eX6_record_63 ?_
    refine zR_iadd C eX6_record_64 ?_
    refine zR_topi (b := nI (454 + 454 * zn32 (m_sts (m_rec1 m)))) (m_ix454 (c := 454) h5) ?_
    refine zR_callVv C kX6_52 eX6_record_65 (c_X6_copy q _ _ 0 _ (by decide) (by have := h5.2; omega) (by omega)) rfl 0 6 rW_g0 rfl rfl _ rW_c rW_n rfl (by decide) (by decide) (Nat.le_of_ble_eq_true rfl) (Nat.zero_le _) (Nat.zero_le _) rW_f rW_r ?_
    refine zR_aload_n C eX6_record_68 0 rfl rfl ?_
    refine zR_dup C eX6_record_69 rfl ?_
    refine zR_get C fX6_49 eX6_record_70 0 rW_g0 rfl ?_
    refine zR_iconst (v := 1) C eX6_record_73 (by decide) ?_
    refine zR_iadd C eX6_record_74 ?_
    refine zR_put C pX6_49 eX6_record_75 0 rW_g0 (Nat.le_of_ble_eq_true rfl) rW_s0_1 ?_
    exact zR_vret C rfl eX6_record_78 (Nat.zero_le _) (Nat.zero_le _) ⟨rfl, rfl⟩
  · skip
    refine zR_iconst (v := 1) C eX6_record_9 (by decide) ?_
    refine zR_istore_n (lv' := [(1, _), (0, _)]) C eX6_record_10 rfl (by rw [hn]; decide) rfl ?_
    refine zR_iload_n C eX6_record_11 0 rfl rfl ?_
    refine zR_bipush (v := 6) C eX6_record_12 (by decide) ?_
    refine zR_icmp_ge C eX6_record_14 (fun h => absurd h (by decide)) (fun _ => ?_)
    refine zR_aload_n C eX6_record_17 1 rfl rfl ?_
    refine zR_sipush (v := 454) C eX6_record_18 (by decide) ?_
    refine zR_sipush (v := 454) C eX6_record_21 (by decide) ?_
    refine zR_iload_n C eX6_record_24 0 rfl rfl ?_
    refine zR_imul C eX6_record_25 ?_
    refine zR_iadd C eX6_record_26 ?_
    refine zR_topi (b := nI 908) (by decide) ?_
    refine zR_sipush (v := 454) C eX6_record_27 (by decide) ?_
    refine zR_iload_n C eX6_record_30 0 rfl rfl ?_
    refine zR_imul C eX6_record_31 ?_
    refine zR_topi (b := nI 454) (by decide) ?_
    refine zR_callVv C kX6_52 eX6_record_32 (c_X6_copy q _ _ 908 454 (by decide) (by decide) (by decide)) rfl 0 6 rW_g0 rfl rfl _ rW_c rW_n rfl (by decide) (by decide) (Nat.le_of_ble_eq_true rfl) (Nat.zero_le _) (Nat.zero_le _) rW_f rW_r ?_
    refine zR_ws (rW g q ((m_cp m 908 454)) (m_row ((m_cp m 908 454)))) rW_full ?_
    refine zR_iinc (lv' := [(1, _), (0, _)]) (v' := 2) C eX6_record_35 0 rfl (by decide) (by rw [hn]; decide) rfl ?_
    refine zR_goto C eX6_record_38 ?_
    refine zR_iload_n C eX6_record_11 0 rfl rfl ?_
    refine zR_bipush (v := 6) C eX6_record_12 (by decide) ?_
    refine zR_icmp_ge C eX6_record_14 (fun h => absurd h (by decide)) (fun _ => ?_)
    refine zR_aload_n C eX6_record_17 1 rfl rfl ?_
    refine zR_sipush (v := 454) C eX6_record_18 (by decide) ?_
    refine zR_sipush (v := 454) C eX6_record_21 (by decide) ?_
    refine zR_iload_n C eX6_record_24 0 rfl rfl ?_
    refine zR_imul C eX6_record_25 ?_
    refine zR_iadd C eX6_record_26 ?_
    refine zR_topi (b := nI 1362) (by decide) ?_
    refine zR_sipush (v := 454) C eX6_record_27 (by decide) ?_
    refine zR_iload_n C eX6_record_30 0 rfl rfl ?_
    refine zR_imul C eX6_record_31 ?_
    refine zR_topi (b := nI 908) (by decide) ?_
    refine zR_callVv C kX6_52 eX6_record_32 (c_X6_copy q _ _ 1362 908 (by decide) (by decide) (by decide)) rfl 0 6 rW_g0 rfl rfl _ rW_c rW_n rfl (by decide) (by decide) (Nat.le_of_ble_eq_true rfl) (Nat.zero_le _) (Nat.zero_le _) rW_f rW_r ?_
    refine zR_ws (rW g q ((m_cp (m_cp m 908 454) 1362 908)) (m_row ((m_cp (m_cp m 908 454) 1362 908)))) rW_full ?_
    refine zR_iinc (lv' := [(1, _), (0, _)]) (v' := 3) C eX6_record_35 0 rfl (by decide) (by rw [hn]; decide) rfl ?_
    refine zR_goto C eX6_record_38 ?_
    refine zR_iload_n C eX6_record_11 0 rfl rfl ?_
    refine zR_bipush (v := 6) C eX6_record_12 (by decide) ?_
    refine zR_icmp_ge C eX6_record_14 (fun h => absurd h (by decide)) (fun _ => ?_)
    refine zR_aload_n C eX6_record_17 1 rfl rfl ?_
    refine zR_sipush (v := 454) C eX6_record_18 (by decide) ?_
    refine zR_sipush (v := 454) C eX6_record_21 (by decide) ?_
    refine zR_iload_n C eX6_record_24 0 rfl rfl ?_
    refine zR_imul C eX6_record_25 ?_
    refine zR_iadd C eX6_record_26 ?_
    refine zR_topi (b := nI 1816) (by decide) ?_
    refine zR_sipush (v := 454) C eX6_record_27 (by decide) ?_
    refine zR_iload_n C eX6_record_30 0 rfl rfl ?_
    refine zR_imul C eX6_record_31 ?_
    refine zR_topi (b := nI 1362) (by decide) ?_
    refine zR_callVv C kX6_52 eX6_record_32 (c_X6_copy q _ _ 1816 1362 (by decide) (by decide) (by decide)) rfl 0 6 rW_g0 rfl rfl _ rW_c rW_n rfl (by decide) (by decide) (Nat.le_of_ble_eq_true rfl) (Nat.zero_le _) (Nat.zero_le _) rW_f rW_r ?_
    refine zR_ws (rW g q ((m_cp (m_cp (m_cp m 908 454) 1362 908) 1816 1362)) (m_row ((m_cp (m_cp (m_cp m 908 454) 1362 908) 1816 1362)))) rW_full ?_
    refine zR_iinc (lv' := [(1, _), (0, _)]) (v' := 4) C eX6_record_35 0 rfl (by decide) (by rw [hn]; decide) rfl ?_
    refine zR_goto C eX6_record_38 ?_
    refine zR_iload_n C eX6_record_11 0 rfl rfl ?_
    refine zR_bipush (v := 6) C eX6_record_12 (by decide) ?_
    refine zR_icmp_ge C eX6_record_14 (fun h => absurd h (by decide)) (fun _ => ?_)
    refine zR_aload_n C eX6_record_17 1 rfl rfl ?_
    refine zR_sipush (v := 454) C eX6_record_18 (by decide) ?_
    refine zR_sipush (v := 454) C eX6_record_21 (by decide) ?_
    refine zR_iload_n C eX6_record_24 0 rfl rfl ?_
    refine zR_imul C eX6_record_25 ?_
    refine zR_iadd C eX6_record_26 ?_
    refine zR_topi (b := nI 2270) (by decide) ?_
    refine zR_sipush (v := 454) C eX6_record_27 (by decide) ?_
    refine zR_iload_n C eX6_record_30 0 rfl rfl ?_
    refine zR_imul C eX6_record_31 ?_
    refine zR_topi (b := nI 1816) (by decide) ?_
    refine zR_callVv C kX6_52 eX6_record_32 (c_X6_copy q _ _ 2270 1816 (by decide) (by decide) (by decide)) rfl 0 6 rW_g0 rfl rfl _ rW_c rW_n rfl (by decide) (by decide) (Nat.le_of_ble_eq_true rfl) (Nat.zero_le _) (Nat.zero_le _) rW_f rW_r ?_
    refine zR_ws (rW g q ((m_cp (m_cp (m_cp (m_cp m 908 454) 1362 908) 1816 1362) 2270 1816)) (m_row ((m_cp (m_cp (m_cp (m_cp m 908 454) 1362 908) 1816 1362) 2270 1816)))) rW_full ?_
    refine zR_iinc (lv' := [(1, _), (0, _)]) (v' := 5) C eX6_record_35 0 rfl (by decide) (by rw [hn]; decide) rfl ?_
    refine zR_goto C eX6_record_38 ?_
    refine zR_iload_n C eX6_record_11 0 rfl rfl ?_
    refine zR_bipush (v := 6) C eX6_record_12 (by decide) ?_
    refine zR_icmp_ge C eX6_record_14 (fun h => absurd h (by decide)) (fun _ => ?_)
    refine zR_aload_n C eX6_record_17 1 rfl rfl ?_
    refine zR_sipush (v := 454) C eX6_record_18 (by decide) ?_
    refine zR_sipush (v := 454) C eX6_record_21 (by decide) ?_
    refine zR_iload_n C eX6_record_24 0 rfl rfl ?_
    refine zR_imul C eX6_record_25 ?_
    refine zR_iadd C eX6_record_26 ?_
    refine zR_topi (b := nI 2724) (by decide) ?_
    refine zR_sipush (v := 454) C eX6_record_27 (by decide) ?_
    refine zR_iload_n C eX6_record_30 0 rfl rfl ?_
    refine zR_imul C eX6_record_31 ?_
    refine zR_topi (b := nI 2270) (by decide) ?_
    refine zR_callVv C kX6_52 eX6_record_32 (c_X6_copy q _ _ 2724 2270 (by decide) (by decide) (by decide)) rfl 0 6 rW_g0 rfl rfl _ rW_c rW_n rfl (by decide) (by decide) (Nat.le_of_ble_eq_true rfl) (Nat.zero_le _) (Nat.zero_le _) rW_f rW_r ?_
    refine zR_ws (rW g q ((m_cp (m_cp (m_cp (m_cp (m_cp m 908 454) 1362 908) 1816 1362) 2270 1816) 2724 2270)) (m_row ((m_cp (m_cp (m_cp (m_cp (m_cp m 908 454) 1362 908) 1816 1362) 2270 1816) 2724 2270)))) rW_full ?_
    refine zR_iinc (lv' := [(1, _), (0, _)]) (v' := 6) C eX6_record_35 0 rfl (by decide) (by rw [hn]; decide) rfl ?_
    refine zR_goto C eX6_record_38 ?_
    refine zR_iload_n C eX6_record_11 0 rfl rfl ?_
    refine zR_bipush (v := 6) C eX6_record_12 (by decide) ?_
    refine zR_icmp_ge C eX6_record_14 (fun _ => ?_) (fun h => absurd h (by decide))
    refine zR_ws (rW g q (m_shift m) (m_row (m_shift m))) rfl ?_
    refine zR_aload_n C eX6_record_41 1 rfl rfl ?_
    refine zR_dup C eX6_record_42 rfl ?_
    refine zR_get C fX6_49 eX6_record_43 0 rW_g0 rfl ?_
    refine zR_iconst (v := 1) C eX6_record_46 (by decide) ?_
    refine zR_isub C eX6_record_47 ?_
    refine zR_put C pX6_49 eX6_record_48 0 rW_g0 (Nat.le_of_ble_eq_true rfl) rW_s0_1 ?_
    have e1 : m_rec1 m = _ := if_pos h6
    have h5 := m_rec1_sts hs
    refine zR_ws (rW g q (m_rec1 m) (m_row (m_rec1 m))) (by rw [e1] <;> rfl) ?_
    refine zR_aload_n C eX6_record_51 1 rfl rfl ?_
    refine zR_iconst (v := 0) C eX6_record_52 (by decide) ?_
    refine zR_sipush (v := 454) C eX6_record_53 (by decide) ?_
    refine zR_sipush (v := 454) C eX6_record_56 (by decide) ?_
    refine zR_aload_n C eX6_record_59 1 rfl rfl ?_
    refine zR_get C fX6_49 eX6_record_60 0 rW_g0 rfl ?_
    refine zR_imul C eX6_record_63 ?_
    refine zR_iadd C eX6_record_64 ?_
    refine zR_topi (b := nI (454 + 454 * zn32 (m_sts (m_rec1 m)))) (m_ix454 (c := 454) h5) ?_
    refine zR_callVv C kX6_52 eX6_record_65 (c_X6_copy q _ _ 0 _ (by decide) (by have := h5.2; omega) (by omega)) rfl 0 6 rW_g0 rfl rfl _ rW_c rW_n rfl (by decide) (by decide) (Nat.le_of_ble_eq_true rfl) (Nat.zero_le _) (Nat.zero_le _) rW_f rW_r ?_
    refine zR_aload_n C eX6_record_68 1 rfl rfl ?_
    refine zR_dup C eX6_record_69 rfl ?_
    refine zR_get C fX6_49 eX6_record_70 0 rW_g0 rfl ?_
    refine zR_iconst (v := 1) C eX6_record_73 (by decide) ?_
    refine zR_iadd C eX6_record_74 ?_
    refine zR_put C pX6_49 eX6_record_75 0 rW_g0 (Nat.le_of_ble_eq_true rfl) rW_s0_1 ?_
    exact zR_vret C rfl eX6_record_78 (Nat.zero_le _) (Nat.zero_le _) ⟨rfl, rfl⟩
theorem m_undo_ix {m : MD} (hs : zok (m_sts m) 6) (h : ¬ m_sts m = 0) : zok (m_sts (m_ssts m (m_sts m - 1))) 5 := m_sts1 hs h
set_option maxHeartbeats 1000000 in
set_option maxRecDepth 100000 in
theorem c_X6_undo {l : Launch} {g : zG} (q : Nat → Nat) (m : MD)  (hs : zok (m_sts m) 6) : zM l g yX6_undo cX6_undo 1 (some .int) 1 0 0 [.ref (q 0)] (rW g q m (m_row m)) (zE (some (.int (m_undo m).1)) (rW g q ((m_undo m).2) (m_row ((m_undo m).2)))) := by
  refine zM_of (by decide +kernel) (Nat.le_of_ble_eq_true rfl) (fun x hl hn _ _ _ C => ?_)
  subst hl
  show zR x g _ (0, 0) 0 [(0, .ref (q 0))] [] _
  refine zR_aload_n C eX6_undo_0 0 rfl rfl ?_
  refine zR_get C fX6_49 eX6_undo_1 0 rW_g0 rfl ?_
  refine zR_ifne C eX6_undo_4 (fun h4 => ?_) (fun h4 => ?_)
  · skip
    refine zR_aload_n C eX6_undo_10 0 rfl rfl ?_
    refine zR_dup C eX6_undo_11 rfl ?_
    refine zR_get C fX6_49 eX6_undo_12 0 rW_g0 rfl ?_
    refine zR_iconst (v := 1) C eX6_undo_15 (by decide) ?_
    refine zR_isub C eX6_undo_16 ?_
    refine zR_put C pX6_49 eX6_undo_17 0 rW_g0 (Nat.le_of_ble_eq_true rfl) rW_s0_1 ?_
    have h5 := m_undo_ix hs h4
    refine zR_ws (rW g q (m_ssts m (m_sts m - 1)) (m_row (m_ssts m (m_sts m - 1)))) rfl ?_
    refine zR_aload_n C eX6_undo_20 0 rfl rfl ?_
    refine zR_sipush (v := 454) C eX6_undo_21 (by decide) ?_
    refine zR_sipush (v := 454) C eX6_undo_24 (by decide) ?_
    refine zR_aload_n C eX6_undo_27 0 rfl rfl ?_
    refine zR_get C fX6_49 eX6_undo_28 0 rW_g0 rfl ?_
    refine zR_imul C eX6_undo_31 ?_
    refine zR_iadd C eX6_undo_32 ?_
    refine zR_topi (b := nI (454 + 454 * zn32 (m_sts (m_ssts m (m_sts m - 1))))) (m_ix454 (c := 454) h5) ?_
    refine zR_iconst (v := 0) C eX6_undo_33 (by decide) ?_
    refine zR_callVv C kX6_52 eX6_undo_34 (c_X6_copy q _ _ _ 0 (by have := h5.2; omega) (by decide) (by omega)) rfl 0 6 rW_g0 rfl rfl _ rW_c rW_n rfl (by decide) (by decide) (Nat.le_of_ble_eq_true rfl) (Nat.zero_le _) (Nat.zero_le _) rW_f rW_r ?_
    refine zR_aload_n C eX6_undo_37 0 rfl rfl ?_
    refine zR_get C fX6_49 eX6_undo_38 0 rW_g0 rfl ?_
    exact zR_iret C rfl rfl eX6_undo_41 (Nat.zero_le _) (Nat.zero_le _) ⟨(by first | (unfold m_undo; rw [if_neg h4]; first | done | rfl) | rfl | (simp only [m_undo, if_neg h4]; first | done | rfl)), (by first | (unfold m_undo; rw [if_neg h4]; first | done | rfl) | rfl | (simp only [m_undo, if_neg h4]; first | done | rfl))⟩
  · skip
    refine zR_bipush (v := -6) C eX6_undo_7 (by decide) ?_
    exact zR_iret C rfl rfl eX6_undo_9 (Nat.zero_le _) (Nat.zero_le _) ⟨(by first | (unfold m_undo; rw [if_pos h4]; first | done | rfl) | rfl | (simp only [m_undo, if_pos h4]; first | done | rfl)), (by first | (unfold m_undo; rw [if_pos h4]; first | done | rfl) | rfl | (simp only [m_undo, if_pos h4]; first | done | rfl))⟩
theorem m_ix3178 {s : Int32} (hs : s = nI (zn32 s)) : (3178 : Int32) + 454 * s = nI (3178 + 454 * zn32 s) := by
  rw [show (454 : Int32) = nI 454 from rfl, show (3178 : Int32) = nI 3178 from rfl, hs, pk_mul, nI_add, ← hs]
set_option maxHeartbeats 1000000 in
set_option maxRecDepth 100000 in
theorem c_X6_save {l : Launch} {g : zG} (q : Nat → Nat) (m : MD) (i : Int32)  : zM l g yX6_save cX6_save 2 (some .int) 1 0 0 [.ref (q 0), .int i] (rW g q m (m_row m)) (zE (some (.int (m_save m i).1)) (rW g q ((m_save m i).2) (m_row ((m_save m i).2)))) := by
  refine zM_of (by decide +kernel) (Nat.le_of_ble_eq_true rfl) (fun x hl hn _ _ _ C => ?_)
  subst hl
  show zR x g _ (0, 0) 0 [(0, .ref (q 0)), (1, .int i)] [] _
  refine zR_iload_n C eX6_save_0 1 rfl rfl ?_
  refine zR_i2l C eX6_save_1 ?_
  refine zR_lconst (v := 0) C eX6_save_2 (by decide) ?_
  refine zR_lconst (v := 1) C eX6_save_3 (by decide) ?_
  refine zR_callS1 C kX6_56 eX6_save_4 (c_X6_in _ _ _ ) rfl rfl (by decide) (by decide) (Nat.le_of_ble_eq_true rfl) (Nat.zero_le _) (Nat.zero_le _) ?_
  refine zR_bfne C eX6_save_7 (fun h7 => ?_) (fun h7 => ?_)
  · skip
    have hi := z_inl01 h7
    refine zR_aload_n C eX6_save_12 0 rfl rfl ?_
    refine zR_iconst (v := 0) C eX6_save_13 (by decide) ?_
    refine zR_sipush (v := 3178) C eX6_save_14 (by decide) ?_
    refine zR_sipush (v := 454) C eX6_save_17 (by decide) ?_
    refine zR_iload_n C eX6_save_20 1 rfl rfl ?_
    refine zR_imul C eX6_save_21 ?_
    refine zR_iadd C eX6_save_22 ?_
    refine zR_topi (b := nI (3178 + 454 * zn32 i)) (m_ix3178 hi.2.1) ?_
    refine zR_callVv C kX6_52 eX6_save_23 (c_X6_copy q _ _ 0 _ (by decide) (by have := hi.2.2; omega) (by omega)) rfl 0 6 rW_g0 rfl rfl _ rW_c rW_n rfl (by decide) (by decide) (Nat.le_of_ble_eq_true rfl) (Nat.zero_le _) (Nat.zero_le _) rW_f rW_r ?_
    refine zR_ws (rW g q (m_cp m 0 (3178 + 454 * zn32 i)) (m_row (m_cp m 0 (3178 + 454 * zn32 i)))) rfl ?_
    refine zR_aload_n C eX6_save_26 0 rfl rfl ?_
    refine zR_get C fX6_13 eX6_save_27 0 rW_g0 rfl ?_
    refine zR_iload_n C eX6_save_30 1 rfl rfl ?_
    refine zR_iconst (v := 1) C eX6_save_31 (by decide) ?_
    refine zR_zast C eX6_save_32 2 rW_g2 hi.1 rfl rW_s2 ?_
    refine zR_ws (rW g q (m_sv1 m (zn32 i)) (m_row (m_sv1 m (zn32 i)))) rfl ?_
    refine zR_aload_n C eX6_save_33 0 rfl rfl ?_
    refine zR_bipush (v := 8) C eX6_save_34 (by decide) ?_
    refine zR_callV1 C kX6_60 eX6_save_36 (c_X6_number q _ _ 8 (by decide)) rfl 0 6 rW_g0 rfl rfl _ rW_c rW_n rfl (by decide) (by decide) (Nat.le_of_ble_eq_true rfl) (Nat.zero_le _) (Nat.zero_le _) rW_f rW_r ?_
    exact zR_iret C rfl rfl eX6_save_39 (Nat.zero_le _) (Nat.zero_le _) ⟨(by first | (unfold m_save; rw [if_pos h7]; first | done | rfl) | rfl | (simp only [m_save, if_pos h7]; first | done | rfl)), (by first | (unfold m_save; rw [if_pos h7]; first | done | rfl) | rfl | (simp only [m_save, if_pos h7]; first | done | rfl))⟩
  · skip
    refine zR_iconst (v := -1) C eX6_save_10 (by decide) ?_
    exact zR_iret C rfl rfl eX6_save_11 (Nat.zero_le _) (Nat.zero_le _) ⟨(by first | (unfold m_save; rw [if_neg h7]; first | done | rfl) | rfl | (simp only [m_save, if_neg h7]; first | done | rfl)), (by first | (unfold m_save; rw [if_neg h7]; first | done | rfl) | rfl | (simp only [m_save, if_neg h7]; first | done | rfl))⟩
set_option maxHeartbeats 1000000 in
set_option maxRecDepth 100000 in
theorem c_X6_restore {l : Launch} {g : zG} (q : Nat → Nat) (m : MD) (i : Int32) (hs : zok (m_sts m) 6) : zM l g yX6_restore cX6_restore 2 (some .int) 2 0 0 [.ref (q 0), .int i] (rW g q m (m_row m)) (zE (some (.int (m_restore m i).1)) (rW g q ((m_restore m i).2) (m_row ((m_restore m i).2)))) := by
  refine zM_of (by decide +kernel) (Nat.le_of_ble_eq_true rfl) (fun x hl hn _ _ _ C => ?_)
  subst hl
  show zR x g _ (0, 0) 0 [(0, .ref (q 0)), (1, .int i)] [] _
  refine zR_iload_n C eX6_restore_0 1 rfl rfl ?_
  refine zR_i2l C eX6_restore_1 ?_
  refine zR_lconst (v := 0) C eX6_restore_2 (by decide) ?_
  refine zR_lconst (v := 1) C eX6_restore_3 (by decide) ?_
  refine zR_callS1 C kX6_56 eX6_restore_4 (c_X6_in _ _ _ ) rfl rfl (by decide) (by decide) (Nat.le_of_ble_eq_true rfl) (Nat.zero_le _) (Nat.zero_le _) ?_
  refine zR_bfeq C eX6_restore_7 (fun h7 => ?_) (fun h7 => ?_)
  · skip
    refine zR_iconst (v := -1) C eX6_restore_19 (by decide) ?_
    exact zR_iret C rfl rfl eX6_restore_20 (Nat.zero_le _) (Nat.zero_le _) ⟨(by first | (unfold m_restore; rw [if_neg h7]; first | done | rfl) | rfl | (simp only [m_restore, if_neg h7]; first | done | rfl)), (by first | (unfold m_restore; rw [if_neg h7]; first | done | rfl) | rfl | (simp only [m_restore, if_neg h7]; first | done | rfl))⟩
  · skip
    have hi := z_inl01 h7
    refine zR_aload_n C eX6_restore_10 0 rfl rfl ?_
    refine zR_get C fX6_13 eX6_restore_11 0 rW_g0 rfl ?_
    refine zR_iload_n C eX6_restore_14 1 rfl rfl ?_
    refine zR_zald C eX6_restore_15 2 rW_g2 hi.1 ?_
    refine zR_ifne C eX6_restore_16 (fun h16 => ?_) (fun h16 => ?_)
    · skip
      refine zR_aload_n C eX6_restore_21 0 rfl rfl ?_
      refine zR_callVv C kX6_64 eX6_restore_22 (c_X6_record q _ hs) rfl 0 6 rW_g0 rfl rfl _ rW_c rW_n rfl (by decide) (by decide) (Nat.le_of_ble_eq_true rfl) (Nat.zero_le _) (Nat.zero_le _) rW_f rW_r ?_
      refine zR_aload_n C eX6_restore_25 0 rfl rfl ?_
      refine zR_sipush (v := 3178) C eX6_restore_26 (by decide) ?_
      refine zR_sipush (v := 454) C eX6_restore_29 (by decide) ?_
      refine zR_iload_n C eX6_restore_32 1 rfl rfl ?_
      refine zR_imul C eX6_restore_33 ?_
      refine zR_iadd C eX6_restore_34 ?_
      refine zR_topi (b := nI (3178 + 454 * zn32 i)) (m_ix3178 hi.2.1) ?_
      refine zR_iconst (v := 0) C eX6_restore_35 (by decide) ?_
      refine zR_callVv C kX6_52 eX6_restore_36 (c_X6_copy q _ _ _ 0 (by have := hi.2.2; omega) (by decide) (by omega)) rfl 0 6 rW_g0 rfl rfl _ rW_c rW_n rfl (by decide) (by decide) (Nat.le_of_ble_eq_true rfl) (Nat.zero_le _) (Nat.zero_le _) rW_f rW_r ?_
      refine zR_ws (rW g q (m_res1 (m_rec m) (zn32 i)) (m_row (m_res1 (m_rec m) (zn32 i)))) rfl ?_
      refine zR_aload_n C eX6_restore_39 0 rfl rfl ?_
      refine zR_bipush (v := 8) C eX6_restore_40 (by decide) ?_
      refine zR_callV1 C kX6_60 eX6_restore_42 (c_X6_number q _ _ 8 (by decide)) rfl 0 6 rW_g0 rfl rfl _ rW_c rW_n rfl (by decide) (by decide) (Nat.le_of_ble_eq_true rfl) (Nat.zero_le _) (Nat.zero_le _) rW_f rW_r ?_
      exact zR_iret C rfl rfl eX6_restore_45 (Nat.zero_le _) (Nat.zero_le _) ⟨(by first | (unfold m_restore; rw [if_pos h7, if_neg h16]; first | done | rfl) | rfl | (simp only [m_restore, if_pos h7, if_neg h16]; first | done | rfl)), (by first | (unfold m_restore; rw [if_pos h7, if_neg h16]; first | done | rfl) | rfl | (simp only [m_restore, if_pos h7, if_neg h16]; first | done | rfl))⟩
    · skip
      refine zR_iconst (v := -1) C eX6_restore_19 (by decide) ?_
      exact zR_iret C rfl rfl eX6_restore_20 (Nat.zero_le _) (Nat.zero_le _) ⟨(by first | (unfold m_restore; rw [if_pos h7, if_pos h16]; first | done | rfl) | rfl | (simp only [m_restore, if_pos h7, if_pos h16]; first | done | rfl)), (by first | (unfold m_restore; rw [if_pos h7, if_pos h16]; first | done | rfl) | rfl | (simp only [m_restore, if_pos h7, if_pos h16]; first | done | rfl))⟩
set_option maxHeartbeats 400000 in
set_option maxRecDepth 100000 in
theorem c_X6_isSetting {l : Launch} {g : zG} (s : Int32) (v : Int32)  : zM l g yX6_isSetting cX6_isSetting 2 (some .boolean) 1 0 0 [.int s, .int v] [] (zE (some (.int (zB (z_isSet s v)))) []) := by
  refine zM_of (by decide +kernel) (Nat.le_of_ble_eq_true rfl) (fun x hl hn _ _ _ C => ?_)
  subst hl
  show zR x g _ (0, 0) 0 [(0, .int s), (1, .int v)] [] _
  refine zR_iload_n C eX6_isSetting_0 0 rfl rfl ?_
  refine zR_caseK (0) (fun h1_0 => ?_) (fun h1_0 => ?_)
  · skip
    refine zR_tswIn (off := 47) (tgt := 48) C eX6_isSetting_1 (by decide) (by decide) (by decide) (by decide) ?_
    refine zR_iload_n C eX6_isSetting_48 1 rfl rfl ?_
    refine zR_i2l C eX6_isSetting_49 ?_
    refine zR_ldc2 C qX6_70 eX6_isSetting_50 ?_
    refine zR_ldc2 C qX6_72 eX6_isSetting_53 ?_
    refine zR_callS1 C kX6_56 eX6_isSetting_56 (c_X6_in _ _ _ ) rfl rfl (by decide) (by decide) (Nat.le_of_ble_eq_true rfl) (Nat.zero_le _) (Nat.zero_le _) ?_
    exact zR_iret C rfl (zB_nar _) eX6_isSetting_59 (Nat.zero_le _) (Nat.zero_le _) ⟨(by first | (unfold z_isSet; rw [if_pos h1_0]; first | done | rfl) | rfl | (simp only [z_isSet, if_pos h1_0]; first | done | rfl)), (by first | (unfold z_isSet; rw [if_pos h1_0]; first | done | rfl) | rfl | (simp only [z_isSet, if_pos h1_0]; first | done | rfl))⟩
  · skip
    refine zR_caseK (5) (fun h1_5 => ?_) (fun h1_5 => ?_)
    · skip
      refine zR_tswIn (off := 59) (tgt := 60) C eX6_isSetting_1 (by decide) (by decide) (by decide) (by decide) ?_
      refine zR_iload_n C eX6_isSetting_60 1 rfl rfl ?_
      refine zR_i2l C eX6_isSetting_61 ?_
      refine zR_lconst (v := 0) C eX6_isSetting_62 (by decide) ?_
      refine zR_ldc2 C qX6_74 eX6_isSetting_63 ?_
      refine zR_callS1 C kX6_56 eX6_isSetting_66 (c_X6_in _ _ _ ) rfl rfl (by decide) (by decide) (Nat.le_of_ble_eq_true rfl) (Nat.zero_le _) (Nat.zero_le _) ?_
      exact zR_iret C rfl (zB_nar _) eX6_isSetting_69 (Nat.zero_le _) (Nat.zero_le _) ⟨(by first | (unfold z_isSet; rw [if_neg h1_0, if_pos h1_5]; first | done | rfl) | rfl | (simp only [z_isSet, if_neg h1_0, if_pos h1_5]; first | done | rfl)), (by first | (unfold z_isSet; rw [if_neg h1_0, if_pos h1_5]; first | done | rfl) | rfl | (simp only [z_isSet, if_neg h1_0, if_pos h1_5]; first | done | rfl))⟩
    · skip
      refine zR_caseK (6) (fun h1_6 => ?_) (fun h1_6 => ?_)
      · skip
        refine zR_tswIn (off := 69) (tgt := 70) C eX6_isSetting_1 (by decide) (by decide) (by decide) (by decide) ?_
        refine zR_iload_n C eX6_isSetting_70 1 rfl rfl ?_
        refine zR_i2l C eX6_isSetting_71 ?_
        refine zR_lconst (v := 0) C eX6_isSetting_72 (by decide) ?_
        refine zR_ldc2 C qX6_41 eX6_isSetting_73 ?_
        refine zR_callS1 C kX6_56 eX6_isSetting_76 (c_X6_in _ _ _ ) rfl rfl (by decide) (by decide) (Nat.le_of_ble_eq_true rfl) (Nat.zero_le _) (Nat.zero_le _) ?_
        exact zR_iret C rfl (zB_nar _) eX6_isSetting_79 (Nat.zero_le _) (Nat.zero_le _) ⟨(by first | (unfold z_isSet; rw [if_neg h1_0, if_neg h1_5, if_pos h1_6]; first | done | rfl) | rfl | (simp only [z_isSet, if_neg h1_0, if_neg h1_5, if_pos h1_6]; first | done | rfl)), (by first | (unfold z_isSet; rw [if_neg h1_0, if_neg h1_5, if_pos h1_6]; first | done | rfl) | rfl | (simp only [z_isSet, if_neg h1_0, if_neg h1_5, if_pos h1_6]; first | done | rfl))⟩
      · skip
        refine zR_caseK (7) (fun h1_7 => ?_) (fun h1_7 => ?_)
        · skip
          refine zR_tswIn (off := 79) (tgt := 80) C eX6_isSetting_1 (by decide) (by decide) (by decide) (by decide) ?_
          refine zR_iload_n C eX6_isSetting_80 1 rfl rfl ?_
          refine zR_i2l C eX6_isSetting_81 ?_
          refine zR_lconst (v := 0) C eX6_isSetting_82 (by decide) ?_
          refine zR_ldc2 C qX6_76 eX6_isSetting_83 ?_
          refine zR_callS1 C kX6_56 eX6_isSetting_86 (c_X6_in _ _ _ ) rfl rfl (by decide) (by decide) (Nat.le_of_ble_eq_true rfl) (Nat.zero_le _) (Nat.zero_le _) ?_
          exact zR_iret C rfl (zB_nar _) eX6_isSetting_89 (Nat.zero_le _) (Nat.zero_le _) ⟨(by first | (unfold z_isSet; rw [if_neg h1_0, if_neg h1_5, if_neg h1_6, if_pos h1_7]; first | done | rfl) | rfl | (simp only [z_isSet, if_neg h1_0, if_neg h1_5, if_neg h1_6, if_pos h1_7]; first | done | rfl)), (by first | (unfold z_isSet; rw [if_neg h1_0, if_neg h1_5, if_neg h1_6, if_pos h1_7]; first | done | rfl) | rfl | (simp only [z_isSet, if_neg h1_0, if_neg h1_5, if_neg h1_6, if_pos h1_7]; first | done | rfl))⟩
        · skip
          refine zR_tswD (tgt := 90) C eX6_isSetting_1 (fun j hj => match j, hj with | 0, _ => Or.inr (zsw_ne h1_0 (by decide) (by decide)) | 1, _ => Or.inl rfl | 2, _ => Or.inl rfl | 3, _ => Or.inl rfl | 4, _ => Or.inl rfl | 5, _ => Or.inr (zsw_ne h1_5 (by decide) (by decide)) | 6, _ => Or.inr (zsw_ne h1_6 (by decide) (by decide)) | 7, _ => Or.inr (zsw_ne h1_7 (by decide) (by decide)) | _ + 8, hj => absurd hj (by simp)) (by decide) (by decide) ?_
          refine zR_iload_n C eX6_isSetting_90 0 rfl rfl ?_
          refine zR_i2l C eX6_isSetting_91 ?_
          refine zR_lconst (v := 1) C eX6_isSetting_92 (by decide) ?_
          refine zR_ldc2 C qX6_78 eX6_isSetting_93 ?_
          refine zR_callS1 C kX6_56 eX6_isSetting_96 (c_X6_in _ _ _ ) rfl rfl (by decide) (by decide) (Nat.le_of_ble_eq_true rfl) (Nat.zero_le _) (Nat.zero_le _) ?_
          refine zR_bfeq C eX6_isSetting_99 (fun h99 => ?_) (fun h99 => ?_)
          · skip
            refine zR_iconst (v := 0) C eX6_isSetting_118 (by decide) ?_
            exact zR_iret C rfl rfl eX6_isSetting_119 (Nat.zero_le _) (Nat.zero_le _) ⟨(by first | (unfold z_isSet; rw [if_neg h1_0, if_neg h1_5, if_neg h1_6, if_neg h1_7, if_neg h99]; first | done | rfl) | rfl | (simp only [z_isSet, if_neg h1_0, if_neg h1_5, if_neg h1_6, if_neg h1_7, if_neg h99]; first | done | rfl)), (by first | (unfold z_isSet; rw [if_neg h1_0, if_neg h1_5, if_neg h1_6, if_neg h1_7, if_neg h99]; first | done | rfl) | rfl | (simp only [z_isSet, if_neg h1_0, if_neg h1_5, if_neg h1_6, if_neg h1_7, if_neg h99]; first | done | rfl))⟩
          · skip
            refine zR_iload_n C eX6_isSetting_102 1 rfl rfl ?_
            refine zR_i2l C eX6_isSetting_103 ?_
            refine zR_lconst (v := 0) C eX6_isSetting_104 (by decide) ?_
            refine zR_ldc2 C qX6_80 eX6_isSetting_105 ?_
            refine zR_callS1 C kX6_56 eX6_isSetting_108 (c_X6_in _ _ _ ) rfl rfl (by decide) (by decide) (Nat.le_of_ble_eq_true rfl) (Nat.zero_le _) (Nat.zero_le _) ?_
            refine zR_bfeq C eX6_isSetting_111 (fun h111 => ?_) (fun h111 => ?_)
            · skip
              refine zR_iconst (v := 0) C eX6_isSetting_118 (by decide) ?_
              exact zR_iret C rfl rfl eX6_isSetting_119 (Nat.zero_le _) (Nat.zero_le _) ⟨(by first | (unfold z_isSet; rw [if_neg h1_0, if_neg h1_5, if_neg h1_6, if_neg h1_7, if_pos h99, if_neg h111]; first | done | rfl) | rfl | (simp only [z_isSet, if_neg h1_0, if_neg h1_5, if_neg h1_6, if_neg h1_7, if_pos h99, if_neg h111]; first | done | rfl)), (by first | (unfold z_isSet; rw [if_neg h1_0, if_neg h1_5, if_neg h1_6, if_neg h1_7, if_pos h99, if_neg h111]; first | done | rfl) | rfl | (simp only [z_isSet, if_neg h1_0, if_neg h1_5, if_neg h1_6, if_neg h1_7, if_pos h99, if_neg h111]; first | done | rfl))⟩
            · skip
              refine zR_iconst (v := 1) C eX6_isSetting_114 (by decide) ?_
              refine zR_goto C eX6_isSetting_115 ?_
              exact zR_iret C rfl rfl eX6_isSetting_119 (Nat.zero_le _) (Nat.zero_le _) ⟨(by first | (unfold z_isSet; rw [if_neg h1_0, if_neg h1_5, if_neg h1_6, if_neg h1_7, if_pos h99, if_pos h111]; first | done | rfl) | rfl | (simp only [z_isSet, if_neg h1_0, if_neg h1_5, if_neg h1_6, if_neg h1_7, if_pos h99, if_pos h111]; first | done | rfl)), (by first | (unfold z_isSet; rw [if_neg h1_0, if_neg h1_5, if_neg h1_6, if_neg h1_7, if_pos h99, if_pos h111]; first | done | rfl) | rfl | (simp only [z_isSet, if_neg h1_0, if_neg h1_5, if_neg h1_6, if_neg h1_7, if_pos h99, if_pos h111]; first | done | rfl))⟩
set_option maxHeartbeats 1000000 in
set_option maxRecDepth 100000 in
theorem c_X6_set {l : Launch} {g : zG} (q : Nat → Nat) (m : MD) (s : Int32) (v : Int32) (hs : zok (m_sts m) 6) : zM l g yX6_set cX6_set 4 (some .int) 2 0 0 [.ref (q 0), .int s, .int v] (rW g q m (m_row m)) (zE (some (.int (m_set m s v).1)) (rW g q ((m_set m s v).2) (m_row ((m_set m s v).2)))) := by
  refine zM_of (by decide +kernel) (Nat.le_of_ble_eq_true rfl) (fun x hl hn _ _ _ C => ?_)
  subst hl
  show zR x g _ (0, 0) 0 [(0, .ref (q 0)), (1, .int s), (2, .int v)] [] _
  refine zR_iload_n C eX6_set_0 1 rfl rfl ?_
  refine zR_iload_n C eX6_set_1 2 rfl rfl ?_
  refine zR_callS1 C kX6_82 eX6_set_2 (c_X6_isSetting _ _ ) rfl rfl (by decide) (by decide) (Nat.le_of_ble_eq_true rfl) (Nat.zero_le _) (Nat.zero_le _) ?_
  refine zR_bfne C eX6_set_5 (fun h5 => ?_) (fun h5 => ?_)
  · skip
    have hi := z_isSet_in h5
    have hz := hi.2.2
    refine zR_aload_n C eX6_set_11 0 rfl rfl ?_
    refine zR_callVv C kX6_64 eX6_set_12 (c_X6_record q _ hs) rfl 0 6 rW_g0 rfl rfl _ rW_c rW_n rfl (by decide) (by decide) (Nat.le_of_ble_eq_true rfl) (Nat.zero_le _) (Nat.zero_le _) rW_f rW_r ?_
    refine zR_aload_n C eX6_set_15 0 rfl rfl ?_
    refine zR_iload_n C eX6_set_16 1 rfl rfl ?_
    refine zR_topi (b := nI (zn32 s)) hi.2.1 ?_
    refine zR_callV1 C kX6_60 eX6_set_17 (c_X6_number q _ _ _ (by have := hi.2.2; omega)) rfl 0 6 rW_g0 rfl rfl _ rW_c rW_n rfl (by decide) (by decide) (Nat.le_of_ble_eq_true rfl) (Nat.zero_le _) (Nat.zero_le _) rW_f rW_r ?_
    refine zR_istore_n (lv' := [(3, _), (0, _), (1, _), (2, _)]) C eX6_set_20 rfl (by rw [hn]; decide) rfl ?_
    refine zR_aload_n C eX6_set_21 1 rfl rfl ?_
    refine zR_get C fX6_7 eX6_set_22 0 rW_g0 rfl ?_
    refine zR_iload_n C eX6_set_25 2 rfl rfl ?_
    refine zR_topi (b := nI (zn32 s)) hi.2.1 ?_
    refine zR_iload_n C eX6_set_26 3 rfl rfl ?_
    refine zR_i2l C eX6_set_27 ?_
    refine zR_lastN C eX6_set_28 1 rW_g1 ⟨by omega, by decide⟩ rW_s1 ?_
    refine zR_ws (rW g q (m_srow (m_rec m) (vp_updL (m_row (m_rec m)) (zn32 s) v.toInt64)) (m_row (m_srow (m_rec m) (vp_updL (m_row (m_rec m)) (zn32 s) v.toInt64)))) rfl ?_
    refine zR_iload_n C eX6_set_29 0 rfl rfl ?_
    exact zR_iret C rfl rfl eX6_set_30 (Nat.zero_le _) (Nat.zero_le _) ⟨(by first | (unfold m_set; rw [if_pos h5]; first | done | rfl) | rfl | (simp only [m_set, if_pos h5]; first | done | rfl)), (by first | (unfold m_set; rw [if_pos h5]; first | done | rfl) | rfl | (simp only [m_set, if_pos h5]; first | done | rfl))⟩
  · skip
    refine zR_bipush (v := -2) C eX6_set_8 (by decide) ?_
    exact zR_iret C rfl rfl eX6_set_10 (Nat.zero_le _) (Nat.zero_le _) ⟨(by first | (unfold m_set; rw [if_neg h5]; first | done | rfl) | rfl | (simp only [m_set, if_neg h5]; first | done | rfl)), (by first | (unfold m_set; rw [if_neg h5]; first | done | rfl) | rfl | (simp only [m_set, if_neg h5]; first | done | rfl))⟩
