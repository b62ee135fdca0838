/-! The reference: the walks of the pad. -/
theorem rW_adv {g : zG} {q : Nat → Nat} {M : MD} : rW g q (m_sat M (m_at M + 1)) (m_row M) = rW g q (m_adv M) (m_row (m_adv M)) := rfl
theorem rW_push {g : zG} {q : Nat → Nat} {M : MD} {v : Int32} : rW g q (m_snm (m_snum M (upd (m_num M) (zn32 (m_nm M)) v)) (m_nm (m_snum M (upd (m_num M) (zn32 (m_nm M)) v)) + 1)) (m_row M) = rW g q (m_push M v) (m_row (m_push M v)) := rfl
theorem rW_push2 {g : zG} {q : Nat → Nat} {X : MD} {v n : Int32} (hnm : m_nm X = n) : rW g q (m_snm (m_snum X (upd (m_num X) (zn32 n) v)) (m_nm (m_snum X (upd (m_num X) (zn32 n) v)) + 1)) (m_row X) = rW g q (m_push X v) (m_row (m_push X v)) := by
  subst hnm; rfl
set_option maxHeartbeats 1000000 in
set_option maxRecDepth 100000 in
theorem c_X6_code {l : Launch} {g : zG} (q : Nat → Nat) (m : MD)  (hp : m_pok m) : zM l g yX6_code cX6_code 1 (some .int) 0 0 0 [.ref (q 0)] (rW g q m (m_row m)) (zE (some (.int (m_code m))) (rW g q (m) (m_row (m)))) := by
  refine zM_of (by decide +kernel) (Nat.le_of_ble_eq_true rfl) (fun x hl hn _ _ _ C => ?_)
  subst hl
  show zR x g _ (0, 0) 0 [(0, .ref (q 0))] [] _
  refine zR_aload_n C eX6_code_0 0 rfl rfl ?_
  refine zR_get C fX6_252 eX6_code_1 0 rW_g0 rfl ?_
  refine zR_aload_n C eX6_code_4 0 rfl rfl ?_
  refine zR_get C fX6_237 eX6_code_5 0 rW_g0 rfl ?_
  refine zR_icmp_ge C eX6_code_8 (fun h8 => ?_) (fun h8 => ?_)
  · skip
    refine zR_iconst (v := 0) C eX6_code_23 (by decide) ?_
    exact zR_iret C rfl rfl eX6_code_24 (Nat.zero_le _) (Nat.zero_le _) ⟨(by first | (unfold m_code; rw [if_neg h8]; first | done | rfl) | rfl | (simp only [m_code, if_neg h8]; first | done | rfl)), rfl⟩
  · skip
    refine zR_aload_n C eX6_code_11 0 rfl rfl ?_
    refine zR_get C fX6_17 eX6_code_12 0 rW_g0 rfl ?_
    refine zR_aload_n C eX6_code_15 0 rfl rfl ?_
    refine zR_get C fX6_252 eX6_code_16 0 rW_g0 rfl ?_
    refine zR_iald C eX6_code_19 3 rW_g3 (m_code_in hp h8).1 ?_
    refine zR_goto C eX6_code_20 ?_
    exact zR_iret C rfl rfl eX6_code_24 (Nat.zero_le _) (Nat.zero_le _) ⟨(by first | (unfold m_code; rw [if_pos h8]; first | done | rfl) | rfl | (simp only [m_code, if_pos h8]; first | done | rfl)), rfl⟩
set_option maxHeartbeats 1000000 in
set_option maxRecDepth 100000 in
theorem c_X6_isDigit {l : Launch} {g : zG} (q : Nat → Nat) (m : MD)  (hp : m_pok m) : zM l g yX6_isDigit cX6_isDigit 1 (some .boolean) 1 0 0 [.ref (q 0)] (rW g q m (m_row m)) (zE (some (.int (zB (m_isDig m)))) (rW g q (m) (m_row (m)))) := by
  refine zM_of (by decide +kernel) (Nat.le_of_ble_eq_true rfl) (fun x hl hn _ _ _ C => ?_)
  subst hl
  show zR x g _ (0, 0) 0 [(0, .ref (q 0))] [] _
  refine zR_aload_n C eX6_isDigit_0 0 rfl rfl ?_
  refine zR_callV1 C kX6_255 eX6_isDigit_1 (c_X6_code q _ hp) rfl 0 6 rW_g0 rfl rfl _ rW_c rW_n rfl (by decide) (by decide) (Nat.le_of_ble_eq_true rfl) (Nat.zero_le _) (Nat.zero_le _) rW_f rW_r ?_
  refine zR_i2l C eX6_isDigit_4 ?_
  refine zR_ldc2 C qX6_45 eX6_isDigit_5 ?_
  refine zR_ldc2 C qX6_258 eX6_isDigit_8 ?_
  refine zR_callS1 C kX6_56 eX6_isDigit_11 (c_X6_in _ _ _ ) rfl rfl (by decide) (by decide) (Nat.le_of_ble_eq_true rfl) (Nat.zero_le _) (Nat.zero_le _) ?_
  exact zR_iret C rfl (zB_nar _) eX6_isDigit_14 (Nat.zero_le _) (Nat.zero_le _) ⟨rfl, rfl⟩
set_option maxHeartbeats 1000000 in
set_option maxRecDepth 100000 in
theorem c_X6_reads {l : Launch} {g : zG} (q : Nat → Nat) (m : MD) (c : Int32) (hp : m_pok m) : zM l g yX6_reads cX6_reads 3 (some .boolean) 1 0 0 [.ref (q 0), .int c] (rW g q m (m_row m)) (zE (some (.int (zB (m_reads m c).1))) (rW g q ((m_reads m c).2) (m_row ((m_reads m c).2)))) := by
  refine zM_of (by decide +kernel) (Nat.le_of_ble_eq_true rfl) (fun x hl hn _ _ _ C => ?_)
  subst hl
  show zR x g _ (0, 0) 0 [(0, .ref (q 0)), (1, .int c)] [] _
  refine zR_aload_n C eX6_reads_0 0 rfl rfl ?_
  refine zR_callV1 C kX6_255 eX6_reads_1 (c_X6_code q _ hp) rfl 0 6 rW_g0 rfl rfl _ rW_c rW_n rfl (by decide) (by decide) (Nat.le_of_ble_eq_true rfl) (Nat.zero_le _) (Nat.zero_le _) rW_f rW_r ?_
  refine zR_iload_n C eX6_reads_4 1 rfl rfl ?_
  refine zR_icmp_ne C eX6_reads_5 (fun h5 => ?_) (fun h5 => ?_)
  · skip
    refine zR_iconst (v := 0) C eX6_reads_12 (by decide) ?_
    refine zR_istore_n (lv' := [(2, _), (0, _), (1, _)]) C eX6_reads_13 rfl (by rw [hn]; decide) rfl ?_
    refine zR_aload_n C eX6_reads_14 1 rfl rfl ?_
    refine zR_dup C eX6_reads_15 rfl ?_
    refine zR_get C fX6_252 eX6_reads_16 0 rW_g0 rfl ?_
    refine zR_iload_n C eX6_reads_19 0 rfl rfl ?_
    refine zR_ifeq_t C eX6_reads_20 (by decide) ?_
    refine zR_iconst (v := 0) C eX6_reads_27 (by decide) ?_
    refine zR_iadd C eX6_reads_28 ?_
    refine zR_topi (b := m_at m) (Int32.add_zero _) ?_
    refine zR_put C pX6_252 eX6_reads_29 0 rW_g0 (Nat.le_of_ble_eq_true rfl) rW_s0_11 ?_
    refine zR_ws (rW g q (m) (m_row (m))) rfl ?_
    refine zR_iload_n C eX6_reads_32 0 rfl rfl ?_
    exact zR_iret C rfl rfl eX6_reads_33 (Nat.zero_le _) (Nat.zero_le _) ⟨(by first | (unfold m_reads; rw [if_neg h5]; first | done | rfl) | rfl | (simp only [m_reads, if_neg h5]; first | done | rfl)), (by first | (unfold m_reads; rw [if_neg h5]; first | done | rfl) | rfl | (simp only [m_reads, if_neg h5]; first | done | rfl))⟩
  · skip
    refine zR_iconst (v := 1) C eX6_reads_8 (by decide) ?_
    refine zR_goto C eX6_reads_9 ?_
    refine zR_istore_n (lv' := [(2, _), (0, _), (1, _)]) C eX6_reads_13 rfl (by rw [hn]; decide) rfl ?_
    refine zR_aload_n C eX6_reads_14 1 rfl rfl ?_
    refine zR_dup C eX6_reads_15 rfl ?_
    refine zR_get C fX6_252 eX6_reads_16 0 rW_g0 rfl ?_
    refine zR_iload_n C eX6_reads_19 0 rfl rfl ?_
    refine zR_ifeq_f C eX6_reads_20 (by decide) ?_
    refine zR_iconst (v := 1) C eX6_reads_23 (by decide) ?_
    refine zR_goto C eX6_reads_24 ?_
    refine zR_iadd C eX6_reads_28 ?_
    refine zR_put C pX6_252 eX6_reads_29 0 rW_g0 (Nat.le_of_ble_eq_true rfl) rW_s0_11 ?_
    refine zR_ws (rW g q (m_adv m) (m_row (m_adv m))) rfl ?_
    refine zR_iload_n C eX6_reads_32 0 rfl rfl ?_
    exact zR_iret C rfl rfl eX6_reads_33 (Nat.zero_le _) (Nat.zero_le _) ⟨(by first | (unfold m_reads; rw [if_pos h5]; first | done | rfl) | rfl | (simp only [m_reads, if_pos h5]; first | done | rfl)), (by first | (unfold m_reads; rw [if_pos h5]; first | done | rfl) | rfl | (simp only [m_reads, if_pos h5]; first | done | rfl))⟩
set_option maxHeartbeats 1000000 in
set_option maxRecDepth 100000 in
theorem c_X6_readsDigit {l : Launch} {g : zG} (q : Nat → Nat) (m : MD) (k : Int32) (hp : m_pok m) (hn4 : vp_in (m_nm m) 4) : zM l g yX6_readsDigit cX6_readsDigit 2 (some .boolean) 1 0 0 [.ref (q 0), .int k] (rW g q m (m_row m)) (zE (some (.int (zB (m_rdig m k).1))) (rW g q ((m_rdig m k).2) (m_row ((m_rdig m k).2)))) := by
  refine zM_of (by decide +kernel) (Nat.le_of_ble_eq_true rfl) (fun x hl hn _ _ _ C => ?_)
  subst hl
  show zR x g _ (0, 0) 0 [(0, .ref (q 0)), (1, .int k)] [] _
  refine zR_aload_n C eX6_readsDigit_0 0 rfl rfl ?_
  refine zR_callV1 C kX6_255 eX6_readsDigit_1 (c_X6_code q _ hp) rfl 0 6 rW_g0 rfl rfl _ rW_c rW_n rfl (by decide) (by decide) (Nat.le_of_ble_eq_true rfl) (Nat.zero_le _) (Nat.zero_le _) rW_f rW_r ?_
  refine zR_i2l C eX6_readsDigit_4 ?_
  refine zR_ldc2 C qX6_45 eX6_readsDigit_5 ?_
  refine zR_bipush (v := 48) C eX6_readsDigit_8 (by decide) ?_
  refine zR_iload_n C eX6_readsDigit_10 1 rfl rfl ?_
  refine zR_iadd C eX6_readsDigit_11 ?_
  refine zR_i2l C eX6_readsDigit_12 ?_
  refine zR_callS1 C kX6_56 eX6_readsDigit_13 (c_X6_in _ _ _ ) rfl rfl (by decide) (by decide) (Nat.le_of_ble_eq_true rfl) (Nat.zero_le _) (Nat.zero_le _) ?_
  refine zR_bfne C eX6_readsDigit_16 (fun h16 => ?_) (fun h16 => ?_)
  · skip
    refine zR_aload_n C eX6_readsDigit_21 0 rfl rfl ?_
    refine zR_get C fX6_34 eX6_readsDigit_22 0 rW_g0 rfl ?_
    refine zR_aload_n C eX6_readsDigit_25 0 rfl rfl ?_
    refine zR_get C fX6_260 eX6_readsDigit_26 0 rW_g0 rfl ?_
    refine zR_aload_n C eX6_readsDigit_29 0 rfl rfl ?_
    refine zR_callV1 C kX6_255 eX6_readsDigit_30 (c_X6_code q _ hp) rfl 0 6 rW_g0 rfl rfl _ rW_c rW_n rfl (by decide) (by decide) (Nat.le_of_ble_eq_true rfl) (Nat.zero_le _) (Nat.zero_le _) rW_f rW_r ?_
    refine zR_bipush (v := 48) C eX6_readsDigit_33 (by decide) ?_
    refine zR_isub C eX6_readsDigit_35 ?_
    refine zR_iast C eX6_readsDigit_36 7 rW_g7 hn4 rW_s7 ?_
    refine zR_aload_n C eX6_readsDigit_37 0 rfl rfl ?_
    refine zR_dup C eX6_readsDigit_38 rfl ?_
    refine zR_get C fX6_260 eX6_readsDigit_39 0 rW_g0 rfl ?_
    refine zR_iconst (v := 1) C eX6_readsDigit_42 (by decide) ?_
    refine zR_iadd C eX6_readsDigit_43 ?_
    refine zR_put C pX6_260 eX6_readsDigit_44 0 rW_g0 (Nat.le_of_ble_eq_true rfl) rW_s0_13 ?_
    refine zR_ws (rW g q (m_push m (m_code m - 48)) (m_row (m_push m (m_code m - 48)))) rW_push ?_
    refine zR_aload_n C eX6_readsDigit_47 0 rfl rfl ?_
    refine zR_dup C eX6_readsDigit_48 rfl ?_
    refine zR_get C fX6_252 eX6_readsDigit_49 0 rW_g0 rfl ?_
    refine zR_iconst (v := 1) C eX6_readsDigit_52 (by decide) ?_
    refine zR_iadd C eX6_readsDigit_53 ?_
    refine zR_put C pX6_252 eX6_readsDigit_54 0 rW_g0 (Nat.le_of_ble_eq_true rfl) rW_s0_11 ?_
    refine zR_ws (rW g q (m_adv (m_push m (m_code m - 48))) (m_row (m_adv (m_push m (m_code m - 48))))) rW_adv ?_
    refine zR_iconst (v := 1) C eX6_readsDigit_57 (by decide) ?_
    exact zR_iret C rfl rfl eX6_readsDigit_58 (Nat.zero_le _) (Nat.zero_le _) ⟨(by first | (unfold m_rdig; rw [if_pos h16]; first | done | rfl) | rfl | (simp only [m_rdig, if_pos h16]; first | done | rfl)), (by first | (unfold m_rdig; rw [if_pos h16]; first | done | rfl) | rfl | (simp only [m_rdig, if_pos h16]; first | done | rfl))⟩
  · skip
    refine zR_iconst (v := 0) C eX6_readsDigit_19 (by decide) ?_
    exact zR_iret C rfl rfl eX6_readsDigit_20 (Nat.zero_le _) (Nat.zero_le _) ⟨(by first | (unfold m_rdig; rw [if_neg h16]; first | done | rfl) | rfl | (simp only [m_rdig, if_neg h16]; first | done | rfl)), (by first | (unfold m_rdig; rw [if_neg h16]; first | done | rfl) | rfl | (simp only [m_rdig, if_neg h16]; first | done | rfl))⟩
theorem m_dig10 {M : MD} {n : Nat} (h : m_isDig M = true) : ∃ d, d ≤ 9 ∧ 10 * nI n + m_code M - 48 = nI (10 * n + d) ∧ ¬ m_code M = 0 := by
  obtain ⟨h0, d, hd, -, e⟩ := m_dig_n (c := m_code M) (k := 9) h (by decide)
  refine ⟨d, hd, ?_, h0⟩
  rw [e, show (10 : Int32) = nI 10 from rfl, show (48 : Int32) = nI 48 from rfl, pk_mul, nI_add, pk_sub (by omega)]
  congr 1; omega
set_option maxHeartbeats 1000000 in
set_option maxRecDepth 100000 in
theorem c_X6_readsNumber_lp {x : zX} {g : zG} {q : Nat → Nat} (hn : zn x = 2) (C : zC x g RX6 cX6_readsNumber (some .boolean) 2) : ∀ (k : Nat) (v : Int32) (M : MD), k ≤ 4 → m_pok M → vp_in (m_nm M) 4 → (∃ n, v = nI n ∧ (n = 0 ∨ 10 ^ (4 - k) ≤ n) ∧ n < 10 ^ (5 - k)) → zR x g (zE (some (.int (zB true))) (rW g q (m_push (m_rnl k v M).2 (m_rnl k v M).1) (m_row (m_push (m_rnl k v M).2 (m_rnl k v M).1)))) (0, 0) 27 [(1, .int v), (0, .ref (q 0))] [] (rW g q M (m_row M)) := by
  intro k
  induction k with
  | zero =>
    intro v M hk hp hn4 hv
    obtain ⟨n, hv, hn0, hn1⟩ := hv
    refine zR_iload_n C eX6_readsNumber_27 0 rfl rfl ?_
    refine zR_ifle C eX6_readsNumber_28 (fun h28 => ?_) (fun h28 => ?_)
    · skip
      have e0 : m_rnl 0 v M = (v, M) := rfl
      refine zR_aload_n C eX6_readsNumber_71 1 rfl rfl ?_
      refine zR_get C fX6_34 eX6_readsNumber_72 0 rW_g0 rfl ?_
      refine zR_aload_n C eX6_readsNumber_75 1 rfl rfl ?_
      refine zR_get C fX6_260 eX6_readsNumber_76 0 rW_g0 rfl ?_
      refine zR_iload_n C eX6_readsNumber_79 0 rfl rfl ?_
      refine zR_iast C eX6_readsNumber_80 7 rW_g7 hn4 rW_s7 ?_
      refine zR_aload_n C eX6_readsNumber_81 1 rfl rfl ?_
      refine zR_dup C eX6_readsNumber_82 rfl ?_
      refine zR_get C fX6_260 eX6_readsNumber_83 0 rW_g0 rfl ?_
      refine zR_iconst (v := 1) C eX6_readsNumber_86 (by decide) ?_
      refine zR_iadd C eX6_readsNumber_87 ?_
      refine zR_put C pX6_260 eX6_readsNumber_88 0 rW_g0 (Nat.le_of_ble_eq_true rfl) rW_s0_13 ?_
      refine zR_ws (rW g q (m_push M v) (m_row (m_push M v))) rW_push ?_
      refine zR_iconst (v := 1) C eX6_readsNumber_91 (by decide) ?_
      exact zR_iret C rfl rfl eX6_readsNumber_92 (Nat.zero_le _) (Nat.zero_le _) ⟨rfl, by rw [e0] <;> rfl⟩
    · skip
      refine zR_iload_n C eX6_readsNumber_31 0 rfl rfl ?_
      refine zR_sipush (v := 1000) C eX6_readsNumber_32 (by decide) ?_
      refine zR_icmp_ge C eX6_readsNumber_35 (fun h35 => ?_) (fun h35 => ?_)
      · skip
        have e0 : m_rnl 0 v M = (v, M) := rfl
        refine zR_aload_n C eX6_readsNumber_71 1 rfl rfl ?_
        refine zR_get C fX6_34 eX6_readsNumber_72 0 rW_g0 rfl ?_
        refine zR_aload_n C eX6_readsNumber_75 1 rfl rfl ?_
        refine zR_get C fX6_260 eX6_readsNumber_76 0 rW_g0 rfl ?_
        refine zR_iload_n C eX6_readsNumber_79 0 rfl rfl ?_
        refine zR_iast C eX6_readsNumber_80 7 rW_g7 hn4 rW_s7 ?_
        refine zR_aload_n C eX6_readsNumber_81 1 rfl rfl ?_
        refine zR_dup C eX6_readsNumber_82 rfl ?_
        refine zR_get C fX6_260 eX6_readsNumber_83 0 rW_g0 rfl ?_
        refine zR_iconst (v := 1) C eX6_readsNumber_86 (by decide) ?_
        refine zR_iadd C eX6_readsNumber_87 ?_
        refine zR_put C pX6_260 eX6_readsNumber_88 0 rW_g0 (Nat.le_of_ble_eq_true rfl) rW_s0_13 ?_
        refine zR_ws (rW g q (m_push M v) (m_row (m_push M v))) rW_push ?_
        refine zR_iconst (v := 1) C eX6_readsNumber_91 (by decide) ?_
        exact zR_iret C rfl rfl eX6_readsNumber_92 (Nat.zero_le _) (Nat.zero_le _) ⟨rfl, by rw [e0] <;> rfl⟩
      · skip
        rw [hv] at h28 h35
        rcases hn0 with rfl | hn0
        · exact absurd (by decide) h28
        · exact absurd h35 (nI_nlt (a := n) (b := 1000) (by omega) (by omega))
  | succ k ih =>
    intro v M hk hp hn4 hv
    obtain ⟨n, hv, hn0, hn1⟩ := hv
    refine zR_iload_n C eX6_readsNumber_27 0 rfl rfl ?_
    refine zR_ifle C eX6_readsNumber_28 (fun h28 => ?_) (fun h28 => ?_)
    · skip
      have e0 : m_rnl (k + 1) v M = (v, M) := (if_pos h28)
      refine zR_aload_n C eX6_readsNumber_71 1 rfl rfl ?_
      refine zR_get C fX6_34 eX6_readsNumber_72 0 rW_g0 rfl ?_
      refine zR_aload_n C eX6_readsNumber_75 1 rfl rfl ?_
      refine zR_get C fX6_260 eX6_readsNumber_76 0 rW_g0 rfl ?_
      refine zR_iload_n C eX6_readsNumber_79 0 rfl rfl ?_
      refine zR_iast C eX6_readsNumber_80 7 rW_g7 hn4 rW_s7 ?_
      refine zR_aload_n C eX6_readsNumber_81 1 rfl rfl ?_
      refine zR_dup C eX6_readsNumber_82 rfl ?_
      refine zR_get C fX6_260 eX6_readsNumber_83 0 rW_g0 rfl ?_
      refine zR_iconst (v := 1) C eX6_readsNumber_86 (by decide) ?_
      refine zR_iadd C eX6_readsNumber_87 ?_
      refine zR_put C pX6_260 eX6_readsNumber_88 0 rW_g0 (Nat.le_of_ble_eq_true rfl) rW_s0_13 ?_
      refine zR_ws (rW g q (m_push M v) (m_row (m_push M v))) rW_push ?_
      refine zR_iconst (v := 1) C eX6_readsNumber_91 (by decide) ?_
      exact zR_iret C rfl rfl eX6_readsNumber_92 (Nat.zero_le _) (Nat.zero_le _) ⟨rfl, by rw [e0] <;> rfl⟩
    · skip
      refine zR_iload_n C eX6_readsNumber_31 0 rfl rfl ?_
      refine zR_sipush (v := 1000) C eX6_readsNumber_32 (by decide) ?_
      refine zR_icmp_ge C eX6_readsNumber_35 (fun h35 => ?_) (fun h35 => ?_)
      · skip
        have e0 : m_rnl (k + 1) v M = (v, M) := ((if_neg h28).trans (if_neg h35))
        refine zR_aload_n C eX6_readsNumber_71 1 rfl rfl ?_
        refine zR_get C fX6_34 eX6_readsNumber_72 0 rW_g0 rfl ?_
        refine zR_aload_n C eX6_readsNumber_75 1 rfl rfl ?_
        refine zR_get C fX6_260 eX6_readsNumber_76 0 rW_g0 rfl ?_
        refine zR_iload_n C eX6_readsNumber_79 0 rfl rfl ?_
        refine zR_iast C eX6_readsNumber_80 7 rW_g7 hn4 rW_s7 ?_
        refine zR_aload_n C eX6_readsNumber_81 1 rfl rfl ?_
        refine zR_dup C eX6_readsNumber_82 rfl ?_
        refine zR_get C fX6_260 eX6_readsNumber_83 0 rW_g0 rfl ?_
        refine zR_iconst (v := 1) C eX6_readsNumber_86 (by decide) ?_
        refine zR_iadd C eX6_readsNumber_87 ?_
        refine zR_put C pX6_260 eX6_readsNumber_88 0 rW_g0 (Nat.le_of_ble_eq_true rfl) rW_s0_13 ?_
        refine zR_ws (rW g q (m_push M v) (m_row (m_push M v))) rW_push ?_
        refine zR_iconst (v := 1) C eX6_readsNumber_91 (by decide) ?_
        exact zR_iret C rfl rfl eX6_readsNumber_92 (Nat.zero_le _) (Nat.zero_le _) ⟨rfl, by rw [e0] <;> rfl⟩
      · skip
        refine zR_aload_n C eX6_readsNumber_38 1 rfl rfl ?_
        refine zR_callV1 C kX6_263 eX6_readsNumber_39 (c_X6_isDigit q _ hp) rfl 0 6 rW_g0 rfl rfl _ rW_c rW_n rfl (by decide) (by decide) (Nat.le_of_ble_eq_true rfl) (Nat.zero_le _) (Nat.zero_le _) rW_f rW_r ?_
        refine zR_bfeq C eX6_readsNumber_42 (fun h42 => ?_) (fun h42 => ?_)
        · skip
          have e0 : m_rnl (k + 1) v M = (v, M) := ((if_neg h28).trans ((if_pos h35).trans (if_neg h42)))
          refine zR_aload_n C eX6_readsNumber_71 1 rfl rfl ?_
          refine zR_get C fX6_34 eX6_readsNumber_72 0 rW_g0 rfl ?_
          refine zR_aload_n C eX6_readsNumber_75 1 rfl rfl ?_
          refine zR_get C fX6_260 eX6_readsNumber_76 0 rW_g0 rfl ?_
          refine zR_iload_n C eX6_readsNumber_79 0 rfl rfl ?_
          refine zR_iast C eX6_readsNumber_80 7 rW_g7 hn4 rW_s7 ?_
          refine zR_aload_n C eX6_readsNumber_81 1 rfl rfl ?_
          refine zR_dup C eX6_readsNumber_82 rfl ?_
          refine zR_get C fX6_260 eX6_readsNumber_83 0 rW_g0 rfl ?_
          refine zR_iconst (v := 1) C eX6_readsNumber_86 (by decide) ?_
          refine zR_iadd C eX6_readsNumber_87 ?_
          refine zR_put C pX6_260 eX6_readsNumber_88 0 rW_g0 (Nat.le_of_ble_eq_true rfl) rW_s0_13 ?_
          refine zR_ws (rW g q (m_push M v) (m_row (m_push M v))) rW_push ?_
          refine zR_iconst (v := 1) C eX6_readsNumber_91 (by decide) ?_
          exact zR_iret C rfl rfl eX6_readsNumber_92 (Nat.zero_le _) (Nat.zero_le _) ⟨rfl, by rw [e0] <;> rfl⟩
        · skip
          refine zR_bipush (v := 10) C eX6_readsNumber_45 (by decide) ?_
          refine zR_iload_n C eX6_readsNumber_47 0 rfl rfl ?_
          refine zR_imul C eX6_readsNumber_48 ?_
          refine zR_aload_n C eX6_readsNumber_49 1 rfl rfl ?_
          refine zR_callV1 C kX6_255 eX6_readsNumber_50 (c_X6_code q _ hp) rfl 0 6 rW_g0 rfl rfl _ rW_c rW_n rfl (by decide) (by decide) (Nat.le_of_ble_eq_true rfl) (Nat.zero_le _) (Nat.zero_le _) rW_f rW_r ?_
          refine zR_iadd C eX6_readsNumber_53 ?_
          refine zR_bipush (v := 48) C eX6_readsNumber_54 (by decide) ?_
          refine zR_isub C eX6_readsNumber_56 ?_
          refine zR_istore_n (lv' := [(1, _), (0, _)]) C eX6_readsNumber_57 rfl (by rw [hn]; decide) rfl ?_
          refine zR_aload_n C eX6_readsNumber_58 1 rfl rfl ?_
          refine zR_dup C eX6_readsNumber_59 rfl ?_
          refine zR_get C fX6_252 eX6_readsNumber_60 0 rW_g0 rfl ?_
          refine zR_iconst (v := 1) C eX6_readsNumber_63 (by decide) ?_
          refine zR_iadd C eX6_readsNumber_64 ?_
          refine zR_put C pX6_252 eX6_readsNumber_65 0 rW_g0 (Nat.le_of_ble_eq_true rfl) rW_s0_11 ?_
          refine zR_ws (rW g q (m_adv M) (m_row (m_adv M))) rW_adv ?_
          refine zR_goto C eX6_readsNumber_68 ?_
          have e0 : m_rnl (k + 1) v M = m_rnl k (10 * v + m_code M - 48) (m_adv M) := ((if_neg h28).trans ((if_pos h35).trans (if_pos h42)))
          rw [e0]
          refine zR_lv [(1, _), (0, _)] [0, 1] rfl ?_
          obtain ⟨d, hd, hdv, hc0⟩ := m_dig10 (n := n) h42
          rw [hv] at h28 h35 ⊢
          have hn0 : 10 ^ (4 - (k + 1)) ≤ n := hn0.elim (fun z => by rw [z] at h28; exact absurd (by decide) h28) id
          have p1 : 10 ^ (4 - k) = 10 * 10 ^ (4 - (k + 1)) := by rw [show 4 - k = (4 - (k + 1)) + 1 by omega, Nat.pow_succ, Nat.mul_comm]
          have p2 : 10 ^ (5 - k) = 10 * 10 ^ (5 - (k + 1)) := by rw [show 5 - k = (5 - (k + 1)) + 1 by omega, Nat.pow_succ, Nat.mul_comm]
          exact ih _ (m_adv M) (by omega) (m_adv_ok hp hc0).1 hn4 ⟨10 * n + d, hdv, Or.inr (by omega), by omega⟩
set_option maxHeartbeats 1000000 in
set_option maxRecDepth 100000 in
theorem c_X6_readsNumber {l : Launch} {g : zG} (q : Nat → Nat) (m : MD)  (hp : m_pok m) (hn4 : vp_in (m_nm m) 4) : zM l g yX6_readsNumber cX6_readsNumber 2 (some .boolean) 2 0 0 [.ref (q 0)] (rW g q m (m_row m)) (zE (some (.int (zB (m_rnum m).1))) (rW g q ((m_rnum m).2) (m_row ((m_rnum m).2)))) := by
  refine zM_of (by decide +kernel) (Nat.le_of_ble_eq_true rfl) (fun x hl hn _ _ _ C => ?_)
  subst hl
  show zR x g _ (0, 0) 0 [(0, .ref (q 0))] [] _
  refine zR_aload_n C eX6_readsNumber_0 0 rfl rfl ?_
  refine zR_callV1 C kX6_263 eX6_readsNumber_1 (c_X6_isDigit q _ hp) rfl 0 6 rW_g0 rfl rfl _ rW_c rW_n rfl (by decide) (by decide) (Nat.le_of_ble_eq_true rfl) (Nat.zero_le _) (Nat.zero_le _) rW_f rW_r ?_
  refine zR_bfne C eX6_readsNumber_4 (fun h4 => ?_) (fun h4 => ?_)
  · skip
    refine zR_aload_n C eX6_readsNumber_9 0 rfl rfl ?_
    refine zR_callV1 C kX6_255 eX6_readsNumber_10 (c_X6_code q _ hp) rfl 0 6 rW_g0 rfl rfl _ rW_c rW_n rfl (by decide) (by decide) (Nat.le_of_ble_eq_true rfl) (Nat.zero_le _) (Nat.zero_le _) rW_f rW_r ?_
    refine zR_bipush (v := 48) C eX6_readsNumber_13 (by decide) ?_
    refine zR_isub C eX6_readsNumber_15 ?_
    refine zR_istore_n (lv' := [(1, _), (0, _)]) C eX6_readsNumber_16 rfl (by rw [hn]; decide) rfl ?_
    refine zR_aload_n C eX6_readsNumber_17 1 rfl rfl ?_
    refine zR_dup C eX6_readsNumber_18 rfl ?_
    refine zR_get C fX6_252 eX6_readsNumber_19 0 rW_g0 rfl ?_
    refine zR_iconst (v := 1) C eX6_readsNumber_22 (by decide) ?_
    refine zR_iadd C eX6_readsNumber_23 ?_
    refine zR_put C pX6_252 eX6_readsNumber_24 0 rW_g0 (Nat.le_of_ble_eq_true rfl) rW_s0_11 ?_
    have e1 : m_rnum m = (true, m_push (m_rnl 4 (m_code m - 48) (m_adv m)).2 (m_rnl 4 (m_code m - 48) (m_adv m)).1) := if_pos h4
    rw [e1]
    obtain ⟨h0, d, hd, hdv, -⟩ := m_dig_n (c := m_code m) (k := 9) h4 (by decide)
    refine zR_lv [(1, _), (0, _)] [0, 1] rfl ?_
    exact c_X6_readsNumber_lp hn C 4 _ (m_adv m) (by decide) (m_adv_ok hp h0).1 hn4 ⟨d, hdv, by omega, by omega⟩
  · skip
    refine zR_iconst (v := 0) C eX6_readsNumber_7 (by decide) ?_
    exact zR_iret C rfl rfl eX6_readsNumber_8 (Nat.zero_le _) (Nat.zero_le _) ⟨(by first | (unfold m_rnum; rw [if_neg h4]; first | done | rfl) | rfl | (simp only [m_rnum, if_neg h4]; first | done | rfl)), (by first | (unfold m_rnum; rw [if_neg h4]; first | done | rfl) | rfl | (simp only [m_rnum, if_neg h4]; first | done | rfl))⟩
set_option maxHeartbeats 1000000 in
set_option maxRecDepth 100000 in
theorem c_X6_orderOf {l : Launch} {g : zG} (q : Nat → Nat) (m : MD) (r : RW) (c : Int32)  : zM l g yX6_orderOf cX6_orderOf 2 (some .int) 0 0 0 [.ref (q 0), .int c] (rW g q m r) (zE (some (.int (m_ord c))) (rW g q m r)) := by
  refine zM_of (by decide +kernel) (Nat.le_of_ble_eq_true rfl) (fun x hl hn _ _ _ C => ?_)
  subst hl
  show zR x g _ (0, 0) 0 [(0, .ref (q 0)), (1, .int c)] [] _
  refine zR_iload_n C eX6_orderOf_0 1 rfl rfl ?_
  refine zR_bipush (v := 111) C eX6_orderOf_1 (by decide) ?_
  refine zR_icmp_ne C eX6_orderOf_3 (fun h3 => ?_) (fun h3 => ?_)
  · skip
    refine zR_iload_n C eX6_orderOf_10 1 rfl rfl ?_
    refine zR_bipush (v := 114) C eX6_orderOf_11 (by decide) ?_
    refine zR_icmp_ne C eX6_orderOf_13 (fun h13 => ?_) (fun h13 => ?_)
    · skip
      refine zR_iload_n C eX6_orderOf_20 1 rfl rfl ?_
      refine zR_bipush (v := 108) C eX6_orderOf_21 (by decide) ?_
      refine zR_icmp_ne C eX6_orderOf_23 (fun h23 => ?_) (fun h23 => ?_)
      · skip
        refine zR_iload_n C eX6_orderOf_30 1 rfl rfl ?_
        refine zR_bipush (v := 112) C eX6_orderOf_31 (by decide) ?_
        refine zR_icmp_ne C eX6_orderOf_33 (fun h33 => ?_) (fun h33 => ?_)
        · skip
          refine zR_iload_n C eX6_orderOf_40 1 rfl rfl ?_
          refine zR_bipush (v := 120) C eX6_orderOf_41 (by decide) ?_
          refine zR_icmp_ne C eX6_orderOf_43 (fun h43 => ?_) (fun h43 => ?_)
          · skip
            refine zR_iload_n C eX6_orderOf_50 1 rfl rfl ?_
            refine zR_bipush (v := 104) C eX6_orderOf_51 (by decide) ?_
            refine zR_icmp_ne C eX6_orderOf_53 (fun h53 => ?_) (fun h53 => ?_)
            · skip
              refine zR_bipush (v := -6) C eX6_orderOf_60 (by decide) ?_
              exact zR_iret C rfl rfl eX6_orderOf_62 (Nat.zero_le _) (Nat.zero_le _) ⟨(by first | (unfold m_ord; rw [if_neg h3, if_neg h13, if_neg h23, if_neg h33, if_neg h43, if_neg h53]; first | done | rfl) | rfl | (simp only [m_ord, if_neg h3, if_neg h13, if_neg h23, if_neg h33, if_neg h43, if_neg h53]; first | done | rfl)), (by first | (unfold m_ord; rw [if_neg h3, if_neg h13, if_neg h23, if_neg h33, if_neg h43, if_neg h53]; first | done | rfl) | rfl | (simp only [m_ord, if_neg h3, if_neg h13, if_neg h23, if_neg h33, if_neg h43, if_neg h53]; first | done | rfl))⟩
            · skip
              refine zR_iconst (v := 5) C eX6_orderOf_56 (by decide) ?_
              refine zR_goto C eX6_orderOf_57 ?_
              exact zR_iret C rfl rfl eX6_orderOf_62 (Nat.zero_le _) (Nat.zero_le _) ⟨(by first | (unfold m_ord; rw [if_neg h3, if_neg h13, if_neg h23, if_neg h33, if_neg h43, if_pos h53]; first | done | rfl) | rfl | (simp only [m_ord, if_neg h3, if_neg h13, if_neg h23, if_neg h33, if_neg h43, if_pos h53]; first | done | rfl)), (by first | (unfold m_ord; rw [if_neg h3, if_neg h13, if_neg h23, if_neg h33, if_neg h43, if_pos h53]; first | done | rfl) | rfl | (simp only [m_ord, if_neg h3, if_neg h13, if_neg h23, if_neg h33, if_neg h43, if_pos h53]; first | done | rfl))⟩
          · skip
            refine zR_iconst (v := 4) C eX6_orderOf_46 (by decide) ?_
            refine zR_goto C eX6_orderOf_47 ?_
            exact zR_iret C rfl rfl eX6_orderOf_62 (Nat.zero_le _) (Nat.zero_le _) ⟨(by first | (unfold m_ord; rw [if_neg h3, if_neg h13, if_neg h23, if_neg h33, if_pos h43]; first | done | rfl) | rfl | (simp only [m_ord, if_neg h3, if_neg h13, if_neg h23, if_neg h33, if_pos h43]; first | done | rfl)), (by first | (unfold m_ord; rw [if_neg h3, if_neg h13, if_neg h23, if_neg h33, if_pos h43]; first | done | rfl) | rfl | (simp only [m_ord, if_neg h3, if_neg h13, if_neg h23, if_neg h33, if_pos h43]; first | done | rfl))⟩
        · skip
          refine zR_iconst (v := 3) C eX6_orderOf_36 (by decide) ?_
          refine zR_goto C eX6_orderOf_37 ?_
          exact zR_iret C rfl rfl eX6_orderOf_62 (Nat.zero_le _) (Nat.zero_le _) ⟨(by first | (unfold m_ord; rw [if_neg h3, if_neg h13, if_neg h23, if_pos h33]; first | done | rfl) | rfl | (simp only [m_ord, if_neg h3, if_neg h13, if_neg h23, if_pos h33]; first | done | rfl)), (by first | (unfold m_ord; rw [if_neg h3, if_neg h13, if_neg h23, if_pos h33]; first | done | rfl) | rfl | (simp only [m_ord, if_neg h3, if_neg h13, if_neg h23, if_pos h33]; first | done | rfl))⟩
      · skip
        refine zR_iconst (v := 2) C eX6_orderOf_26 (by decide) ?_
        refine zR_goto C eX6_orderOf_27 ?_
        exact zR_iret C rfl rfl eX6_orderOf_62 (Nat.zero_le _) (Nat.zero_le _) ⟨(by first | (unfold m_ord; rw [if_neg h3, if_neg h13, if_pos h23]; first | done | rfl) | rfl | (simp only [m_ord, if_neg h3, if_neg h13, if_pos h23]; first | done | rfl)), (by first | (unfold m_ord; rw [if_neg h3, if_neg h13, if_pos h23]; first | done | rfl) | rfl | (simp only [m_ord, if_neg h3, if_neg h13, if_pos h23]; first | done | rfl))⟩
    · skip
      refine zR_iconst (v := 1) C eX6_orderOf_16 (by decide) ?_
      refine zR_goto C eX6_orderOf_17 ?_
      exact zR_iret C rfl rfl eX6_orderOf_62 (Nat.zero_le _) (Nat.zero_le _) ⟨(by first | (unfold m_ord; rw [if_neg h3, if_pos h13]; first | done | rfl) | rfl | (simp only [m_ord, if_neg h3, if_pos h13]; first | done | rfl)), (by first | (unfold m_ord; rw [if_neg h3, if_pos h13]; first | done | rfl) | rfl | (simp only [m_ord, if_neg h3, if_pos h13]; first | done | rfl))⟩
  · skip
    refine zR_iconst (v := 0) C eX6_orderOf_6 (by decide) ?_
    refine zR_goto C eX6_orderOf_7 ?_
    exact zR_iret C rfl rfl eX6_orderOf_62 (Nat.zero_le _) (Nat.zero_le _) ⟨(by first | (unfold m_ord; rw [if_pos h3]; first | done | rfl) | rfl | (simp only [m_ord, if_pos h3]; first | done | rfl)), (by first | (unfold m_ord; rw [if_pos h3]; first | done | rfl) | rfl | (simp only [m_ord, if_pos h3]; first | done | rfl))⟩
set_option maxHeartbeats 1000000 in
set_option maxRecDepth 100000 in
theorem c_X6_readsPart {l : Launch} {g : zG} (q : Nat → Nat) (m : MD) (p : Int32) (hp : m_pok m) (hn4 : p = 1 ∨ p = 2 ∨ p = 3 → vp_in (m_nm m) 4) : zM l g yX6_readsPart cX6_readsPart 2 (some .boolean) 3 0 0 [.ref (q 0), .int p] (rW g q m (m_row m)) (zE (some (.int (zB (m_rpart m p).1))) (rW g q ((m_rpart m p).2) (m_row ((m_rpart m p).2)))) := by
  refine zM_of (by decide +kernel) (Nat.le_of_ble_eq_true rfl) (fun x hl hn _ _ _ C => ?_)
  subst hl
  show zR x g _ (0, 0) 0 [(0, .ref (q 0)), (1, .int p)] [] _
  refine zR_iload_n C eX6_readsPart_0 1 rfl rfl ?_
  refine zR_iconst (v := 1) C eX6_readsPart_1 (by decide) ?_
  refine zR_icmp_ne C eX6_readsPart_2 (fun h2 => ?_) (fun h2 => ?_)
  · skip
    refine zR_iload_n C eX6_readsPart_14 1 rfl rfl ?_
    refine zR_iconst (v := 2) C eX6_readsPart_15 (by decide) ?_
    refine zR_icmp_ne C eX6_readsPart_16 (fun h16 => ?_) (fun h16 => ?_)
    · skip
      refine zR_iload_n C eX6_readsPart_28 1 rfl rfl ?_
      refine zR_iconst (v := 3) C eX6_readsPart_29 (by decide) ?_
      refine zR_icmp_ne C eX6_readsPart_30 (fun h30 => ?_) (fun h30 => ?_)
      · skip
        refine zR_iload_n C eX6_readsPart_40 1 rfl rfl ?_
        refine zR_ifeq C eX6_readsPart_41 (fun h41 => ?_) (fun h41 => ?_)
        · skip
          refine zR_iconst (v := 1) C eX6_readsPart_52 (by decide) ?_
          refine zR_goto C eX6_readsPart_53 ?_
          exact zR_iret C rfl rfl eX6_readsPart_57 (Nat.zero_le _) (Nat.zero_le _) ⟨(by first | (unfold m_rpart; rw [if_neg h2, if_neg h16, if_neg h30, if_pos h41]; first | done | rfl) | rfl | (simp only [m_rpart, if_neg h2, if_neg h16, if_neg h30, if_pos h41]; first | done | rfl)), (by first | (unfold m_rpart; rw [if_neg h2, if_neg h16, if_neg h30, if_pos h41]; first | done | rfl) | rfl | (simp only [m_rpart, if_neg h2, if_neg h16, if_neg h30, if_pos h41]; first | done | rfl))⟩
        · skip
          refine zR_aload_n C eX6_readsPart_44 0 rfl rfl ?_
          refine zR_iload_n C eX6_readsPart_45 1 rfl rfl ?_
          refine zR_callV1 C kX6_273 eX6_readsPart_46 (c_X6_reads q _ _ hp) rfl 0 6 rW_g0 rfl rfl _ rW_c rW_n rfl (by decide) (by decide) (Nat.le_of_ble_eq_true rfl) (Nat.zero_le _) (Nat.zero_le _) rW_f rW_r ?_
          refine zR_bfeq C eX6_readsPart_49 (fun h49 => ?_) (fun h49 => ?_)
          · skip
            refine zR_iconst (v := 0) C eX6_readsPart_56 (by decide) ?_
            exact zR_iret C rfl rfl eX6_readsPart_57 (Nat.zero_le _) (Nat.zero_le _) ⟨(by first | (unfold m_rpart; rw [if_neg h2, if_neg h16, if_neg h30, if_neg h41, if_neg h49]; first | done | rfl) | rfl | (simp only [m_rpart, if_neg h2, if_neg h16, if_neg h30, if_neg h41, if_neg h49]; first | done | rfl)), (by first | (unfold m_rpart; rw [if_neg h2, if_neg h16, if_neg h30, if_neg h41, if_neg h49]; first | done | rfl) | rfl | (simp only [m_rpart, if_neg h2, if_neg h16, if_neg h30, if_neg h41, if_neg h49]; first | done | rfl))⟩
          · skip
            refine zR_iconst (v := 1) C eX6_readsPart_52 (by decide) ?_
            refine zR_goto C eX6_readsPart_53 ?_
            exact zR_iret C rfl rfl eX6_readsPart_57 (Nat.zero_le _) (Nat.zero_le _) ⟨(by first | (unfold m_rpart; rw [if_neg h2, if_neg h16, if_neg h30, if_neg h41, if_pos h49]; first | done | rfl) | rfl | (simp only [m_rpart, if_neg h2, if_neg h16, if_neg h30, if_neg h41, if_pos h49]; first | done | rfl)), (by first | (unfold m_rpart; rw [if_neg h2, if_neg h16, if_neg h30, if_neg h41, if_pos h49]; first | done | rfl) | rfl | (simp only [m_rpart, if_neg h2, if_neg h16, if_neg h30, if_neg h41, if_pos h49]; first | done | rfl))⟩
      · skip
        refine zR_aload_n C eX6_readsPart_33 0 rfl rfl ?_
        refine zR_callV1 C kX6_270 eX6_readsPart_34 (c_X6_readsNumber q _ hp (hn4 (Or.inr (Or.inr h30)))) rfl 0 6 rW_g0 rfl rfl _ rW_c rW_n rfl (by decide) (by decide) (Nat.le_of_ble_eq_true rfl) (Nat.zero_le _) (Nat.zero_le _) rW_f rW_r ?_
        refine zR_goto C eX6_readsPart_37 ?_
        exact zR_iret C rfl (zB_nar _) eX6_readsPart_57 (Nat.zero_le _) (Nat.zero_le _) ⟨(by first | (unfold m_rpart; rw [if_neg h2, if_neg h16, if_pos h30]; first | done | rfl) | rfl | (simp only [m_rpart, if_neg h2, if_neg h16, if_pos h30]; first | done | rfl)), (by first | (unfold m_rpart; rw [if_neg h2, if_neg h16, if_pos h30]; first | done | rfl) | rfl | (simp only [m_rpart, if_neg h2, if_neg h16, if_pos h30]; first | done | rfl))⟩
    · skip
      refine zR_aload_n C eX6_readsPart_19 0 rfl rfl ?_
      refine zR_bipush (v := 9) C eX6_readsPart_20 (by decide) ?_
      refine zR_callV1 C kX6_267 eX6_readsPart_22 (c_X6_readsDigit q _ _ hp (hn4 (Or.inr (Or.inl h16)))) rfl 0 6 rW_g0 rfl rfl _ rW_c rW_n rfl (by decide) (by decide) (Nat.le_of_ble_eq_true rfl) (Nat.zero_le _) (Nat.zero_le _) rW_f rW_r ?_
      refine zR_goto C eX6_readsPart_25 ?_
      exact zR_iret C rfl (zB_nar _) eX6_readsPart_57 (Nat.zero_le _) (Nat.zero_le _) ⟨(by first | (unfold m_rpart; rw [if_neg h2, if_pos h16]; first | done | rfl) | rfl | (simp only [m_rpart, if_neg h2, if_pos h16]; first | done | rfl)), (by first | (unfold m_rpart; rw [if_neg h2, if_pos h16]; first | done | rfl) | rfl | (simp only [m_rpart, if_neg h2, if_pos h16]; first | done | rfl))⟩
  · skip
    refine zR_aload_n C eX6_readsPart_5 0 rfl rfl ?_
    refine zR_bipush (v := 7) C eX6_readsPart_6 (by decide) ?_
    refine zR_callV1 C kX6_267 eX6_readsPart_8 (c_X6_readsDigit q _ _ hp (hn4 (Or.inl h2))) rfl 0 6 rW_g0 rfl rfl _ rW_c rW_n rfl (by decide) (by decide) (Nat.le_of_ble_eq_true rfl) (Nat.zero_le _) (Nat.zero_le _) rW_f rW_r ?_
    refine zR_goto C eX6_readsPart_11 ?_
    exact zR_iret C rfl (zB_nar _) eX6_readsPart_57 (Nat.zero_le _) (Nat.zero_le _) ⟨(by first | (unfold m_rpart; rw [if_pos h2]; first | done | rfl) | rfl | (simp only [m_rpart, if_pos h2]; first | done | rfl)), (by first | (unfold m_rpart; rw [if_pos h2]; first | done | rfl) | rfl | (simp only [m_rpart, if_pos h2]; first | done | rfl))⟩
def m_rox (kd : Int32) (R : Bool × MD) : Int32 × MD := if R.1 then (if kd = 1 then (kd, m_push (m_reads R.2 33).2 (zB (m_reads R.2 33).1)) else (kd, R.2)) else (-6, R.2)
theorem m_ro_x (m : MD) : m_ro m = m_rox (m_ord (m_code m)) (m_ro2 m) := rfl
theorem m_ro_j {m : MD} {j : Nat} (h : m_ord (m_code m) = nI j) (h6 : ¬ m_ord (m_code m) = -6) : m_ro m = m_rox (nI j) (m_rol (nI j) 7 0 true (m_ro1 m (nI j))) := by
  rw [m_ro_x]; unfold m_ro2; rw [decide_eq_false h6, h]; rfl
theorem m_ro_6 {m : MD} (h : m_ord (m_code m) = -6) : m_ro m = (-6, m_ro1 m (-6)) := by
  rw [m_ro_x]; unfold m_ro2; rw [decide_eq_true h, h, show (!true) = false from rfl, m_rol_f]; rfl
theorem m_fn4 {j k : Nat} {M : MD} (hj : j < 6) (hk : k < 7) (hn : m_nm M = nI (m_fcnt j k)) : m_forms (7 * j + k) = 1 ∨ m_forms (7 * j + k) = 2 ∨ m_forms (7 * j + k) = 3 → vp_in (m_nm M) 4 := by
  intro h
  rw [hn]; exact vp_in_nI (m_fcnt_lt j hj k hk h) (by decide)
theorem m_nI1 {j : Nat} (hj : j < 6) (h : nI j = 1) : j = 1 := (nI_eq (a := j) (b := 1) (by omega) (by decide)).mp h
set_option maxHeartbeats 2000000 in
set_option maxRecDepth 100000 in
theorem c_X6_readsOrder_lp {x : zX} {g : zG} {q : Nat → Nat} {j : Nat} (hj : j < 6) (hn : zn x = 4) (C : zC x g RX6 cX6_readsOrder (some .int) 4) : ∀ (f k : Nat) (b : Bool) (M : MD), k + f = 7 → m_pok M → (b = true → m_nm M = nI (m_fcnt j k)) → zR x g (zE (some (.int (m_rox (nI j) (m_rol (nI j) f k b M)).1)) (rW g q (m_rox (nI j) (m_rol (nI j) f k b M)).2 (m_row (m_rox (nI j) (m_rol (nI j) f k b M)).2))) (0, 0) 46 [(3, .int (nI k)), (2, .int (zB b)), (1, .int (nI j)), (0, .ref (q 0))] [] (rW g q M (m_row M)) := by
  intro f
  induction f with
  | zero =>
    intro k b M hk hp hb
    have hk7 : k = 7 := by omega
    subst hk7
    refine zR_iload_n C eX6_readsOrder_46 0 rfl rfl ?_
    refine zR_bipush (v := 7) C eX6_readsOrder_47 (by decide) ?_
    refine zR_icmp_ge C eX6_readsOrder_49 (fun h49 => ?_) (fun h49 => ?_)
    · skip
      have e0 : m_rol (nI j) 0 7 b M = (b, M) := rfl
      refine zR_iload_n C eX6_readsOrder_78 1 rfl rfl ?_
      refine zR_bfeq C eX6_readsOrder_79 (fun h79 => ?_) (fun h79 => ?_)
      · skip
        refine zR_iload_n C eX6_readsOrder_120 1 rfl rfl ?_
        refine zR_bfeq C eX6_readsOrder_121 (fun _ => ?_) (fun h => absurd h h79)
        refine zR_bipush (v := -6) C eX6_readsOrder_128 (by decide) ?_
        exact zR_iret C rfl rfl eX6_readsOrder_130 (Nat.zero_le _) (Nat.zero_le _) ⟨by rw [e0]; unfold m_rox; rw [if_neg h79], by rw [e0]; unfold m_rox; rw [if_neg h79]⟩
      · skip
        refine zR_iload_n C eX6_readsOrder_82 2 rfl rfl ?_
        refine zR_iconst (v := 1) C eX6_readsOrder_83 (by decide) ?_
        refine zR_icmp_ne C eX6_readsOrder_84 (fun h84 => ?_) (fun h84 => ?_)
        · skip
          refine zR_iload_n C eX6_readsOrder_120 1 rfl rfl ?_
          refine zR_bfeq C eX6_readsOrder_121 (fun h => absurd h79 h) (fun _ => ?_)
          refine zR_iload_n C eX6_readsOrder_124 2 rfl rfl ?_
          refine zR_goto C eX6_readsOrder_125 ?_
          exact zR_iret C rfl rfl eX6_readsOrder_130 (Nat.zero_le _) (Nat.zero_le _) ⟨by rw [e0]; unfold m_rox; rw [if_pos h79, if_neg h84], by rw [e0]; unfold m_rox; rw [if_pos h79, if_neg h84]⟩
        · skip
          refine zR_aload_n C eX6_readsOrder_87 3 rfl rfl ?_
          refine zR_get C fX6_34 eX6_readsOrder_88 0 rW_g0 rfl ?_
          refine zR_aload_n C eX6_readsOrder_91 3 rfl rfl ?_
          refine zR_get C fX6_260 eX6_readsOrder_92 0 rW_g0 rfl ?_
          refine zR_aload_n C eX6_readsOrder_95 3 rfl rfl ?_
          refine zR_bipush (v := 33) C eX6_readsOrder_96 (by decide) ?_
          refine zR_callV1 C kX6_273 eX6_readsOrder_98 (c_X6_reads q _ _ hp) rfl 0 6 rW_g0 rfl rfl _ rW_c rW_n rfl (by decide) (by decide) (Nat.le_of_ble_eq_true rfl) (Nat.zero_le _) (Nat.zero_le _) rW_f rW_r ?_
          refine zR_bfeq C eX6_readsOrder_101 (fun h101 => ?_) (fun h101 => ?_)
          · skip
            refine zR_iconst (v := 0) C eX6_readsOrder_108 (by decide) ?_
            have hn2 : vp_in (m_nm M) 4 := by rw [hb h79, m_nI1 hj h84, m_fcnt_7]; exact vp_in_nI (by decide) (by decide)
            refine zR_iast C eX6_readsOrder_109 7 rW_g7 hn2 rW_s7 ?_
            refine zR_aload_n C eX6_readsOrder_110 3 rfl rfl ?_
            refine zR_dup C eX6_readsOrder_111 rfl ?_
            refine zR_get C fX6_260 eX6_readsOrder_112 0 rW_g0 rfl ?_
            refine zR_iconst (v := 1) C eX6_readsOrder_115 (by decide) ?_
            refine zR_iadd C eX6_readsOrder_116 ?_
            refine zR_put C pX6_260 eX6_readsOrder_117 0 rW_g0 (Nat.le_of_ble_eq_true rfl) rW_s0_13 ?_
            have hnm := (m_reads_ok (c := 33) hp (by decide)).2.2.1
            have hb1 : (m_reads M 33).1 = false := Bool.eq_false_iff.mpr h101
            refine zR_ws (rW g q (m_push (m_reads M 33).2 (zB (m_reads M 33).1)) (m_row (m_push (m_reads M 33).2 (zB (m_reads M 33).1)))) (by rw [hb1]; exact rW_push2 hnm) ?_
            refine zR_iload_n C eX6_readsOrder_120 1 rfl rfl ?_
            refine zR_bfeq C eX6_readsOrder_121 (fun h => absurd h79 h) (fun _ => ?_)
            refine zR_iload_n C eX6_readsOrder_124 2 rfl rfl ?_
            refine zR_goto C eX6_readsOrder_125 ?_
            exact zR_iret C rfl rfl eX6_readsOrder_130 (Nat.zero_le _) (Nat.zero_le _) ⟨by rw [e0]; unfold m_rox; rw [if_pos h79, if_pos h84], by rw [e0]; unfold m_rox; rw [if_pos h79, if_pos h84]⟩
          · skip
            refine zR_iconst (v := 1) C eX6_readsOrder_104 (by decide) ?_
            refine zR_goto C eX6_readsOrder_105 ?_
            have hn2 : vp_in (m_nm M) 4 := by rw [hb h79, m_nI1 hj h84, m_fcnt_7]; exact vp_in_nI (by decide) (by decide)
            refine zR_iast C eX6_readsOrder_109 7 rW_g7 hn2 rW_s7 ?_
            refine zR_aload_n C eX6_readsOrder_110 3 rfl rfl ?_
            refine zR_dup C eX6_readsOrder_111 rfl ?_
            refine zR_get C fX6_260 eX6_readsOrder_112 0 rW_g0 rfl ?_
            refine zR_iconst (v := 1) C eX6_readsOrder_115 (by decide) ?_
            refine zR_iadd C eX6_readsOrder_116 ?_
            refine zR_put C pX6_260 eX6_readsOrder_117 0 rW_g0 (Nat.le_of_ble_eq_true rfl) rW_s0_13 ?_
            have hnm := (m_reads_ok (c := 33) hp (by decide)).2.2.1
            have hb1 : (m_reads M 33).1 = true := h101
            refine zR_ws (rW g q (m_push (m_reads M 33).2 (zB (m_reads M 33).1)) (m_row (m_push (m_reads M 33).2 (zB (m_reads M 33).1)))) (by rw [hb1]; exact rW_push2 hnm) ?_
            refine zR_iload_n C eX6_readsOrder_120 1 rfl rfl ?_
            refine zR_bfeq C eX6_readsOrder_121 (fun h => absurd h79 h) (fun _ => ?_)
            refine zR_iload_n C eX6_readsOrder_124 2 rfl rfl ?_
            refine zR_goto C eX6_readsOrder_125 ?_
            exact zR_iret C rfl rfl eX6_readsOrder_130 (Nat.zero_le _) (Nat.zero_le _) ⟨by rw [e0]; unfold m_rox; rw [if_pos h79, if_pos h84], by rw [e0]; unfold m_rox; rw [if_pos h79, if_pos h84]⟩
    · skip
      exact absurd h49 (by decide)
  | succ f ih =>
    intro k b M hk hp hb
    refine zR_iload_n C eX6_readsOrder_46 0 rfl rfl ?_
    refine zR_bipush (v := 7) C eX6_readsOrder_47 (by decide) ?_
    refine zR_icmp_ge C eX6_readsOrder_49 (fun h49 => ?_) (fun h49 => ?_)
    · skip
      exact absurd (nI_lt (a := k) (b := 7) (by omega) (by decide)) h49
    · skip
      refine zR_iload_n C eX6_readsOrder_52 1 rfl rfl ?_
      refine zR_bfeq C eX6_readsOrder_53 (fun h53 => ?_) (fun h53 => ?_)
      · skip
        have e0 : m_rol (nI j) (f + 1) k b M = (b, M) := if_neg h53
        refine zR_iload_n C eX6_readsOrder_78 1 rfl rfl ?_
        refine zR_bfeq C eX6_readsOrder_79 (fun _ => ?_) (fun h => absurd h h53)
        refine zR_iload_n C eX6_readsOrder_120 1 rfl rfl ?_
        refine zR_bfeq C eX6_readsOrder_121 (fun _ => ?_) (fun h => absurd h h53)
        refine zR_bipush (v := -6) C eX6_readsOrder_128 (by decide) ?_
        exact zR_iret C rfl rfl eX6_readsOrder_130 (Nat.zero_le _) (Nat.zero_le _) ⟨by rw [e0]; unfold m_rox; rw [if_neg h53], by rw [e0]; unfold m_rox; rw [if_neg h53]⟩
      · skip
        refine zR_aload_n C eX6_readsOrder_56 3 rfl rfl ?_
        refine zR_aload_n C eX6_readsOrder_57 3 rfl rfl ?_
        refine zR_get C fX6_31 eX6_readsOrder_58 0 rW_g0 rfl ?_
        refine zR_bipush (v := 7) C eX6_readsOrder_61 (by decide) ?_
        refine zR_iload_n C eX6_readsOrder_63 2 rfl rfl ?_
        refine zR_imul C eX6_readsOrder_64 ?_
        refine zR_iload_n C eX6_readsOrder_65 0 rfl rfl ?_
        refine zR_iadd C eX6_readsOrder_66 ?_
        have hix := m_ix7 hj (show k < 7 by omega)
        refine zR_topi (b := nI (7 * j + k)) hix.1 ?_
        refine zR_ialdN C eX6_readsOrder_67 6 rW_g6 ⟨by omega, by decide⟩ ?_
        refine zR_callV1 C kX6_279 eX6_readsOrder_68 (c_X6_readsPart q _ _ hp (m_fn4 hj (by omega) (hb h53))) rfl 0 6 rW_g0 rfl rfl _ rW_c rW_n rfl (by decide) (by decide) (Nat.le_of_ble_eq_true rfl) (Nat.zero_le _) (Nat.zero_le _) rW_f rW_r ?_
        refine zR_istore_n (lv' := [(2, _), (3, _), (1, _), (0, _)]) C eX6_readsOrder_71 rfl (by rw [hn]; decide) rfl ?_
        refine zR_iinc (lv' := [(3, _), (2, _), (1, _), (0, _)]) (v' := nI (k + 1)) C eX6_readsOrder_72 1 rfl (zinc k) (by rw [hn]; decide) rfl ?_
        refine zR_goto C eX6_readsOrder_75 ?_
        have e0 : m_rol (nI j) (f + 1) k b M = m_rol (nI j) f (k + 1) (m_rpart M (m_forms (7 * j + k))).1 (m_rpart M (m_forms (7 * j + k))).2 := by
          rw [m_rol, if_pos h53, hix.2]
        rw [e0]
        refine zR_lv [(3, _), (2, _), (1, _), (0, _)] [0, 1, 2, 3] rfl ?_
        have hpk := m_rpart_ok (p := m_forms (7 * j + k)) hp
        refine ih (k + 1) _ _ (by omega) hpk.1 (fun z => ?_)
        rw [hpk.2.2 z, hb h53]
        show _ = nI (if m_fpart j k = 1 ∨ m_fpart j k = 2 ∨ m_fpart j k = 3 then m_fcnt j k + 1 else m_fcnt j k)
        unfold m_fpart; split
        · exact nI_1 _
        · rfl
set_option maxHeartbeats 1000000 in
set_option maxRecDepth 100000 in
theorem c_X6_readsOrder {l : Launch} {g : zG} (q : Nat → Nat) (m : MD)  (hp : m_pok m) : zM l g yX6_readsOrder cX6_readsOrder 4 (some .int) 4 0 0 [.ref (q 0)] (rW g q m (m_row m)) (zE (some (.int (m_ro m).1)) (rW g q ((m_ro m).2) (m_row ((m_ro m).2)))) := by
  refine zM_of (by decide +kernel) (Nat.le_of_ble_eq_true rfl) (fun x hl hn _ _ _ C => ?_)
  subst hl
  show zR x g _ (0, 0) 0 [(0, .ref (q 0))] [] _
  refine zR_aload_n C eX6_readsOrder_0 0 rfl rfl ?_
  refine zR_aload_n C eX6_readsOrder_1 0 rfl rfl ?_
  refine zR_callV1 C kX6_255 eX6_readsOrder_2 (c_X6_code q _ hp) rfl 0 6 rW_g0 rfl rfl _ rW_c rW_n rfl (by decide) (by decide) (Nat.le_of_ble_eq_true rfl) (Nat.zero_le _) (Nat.zero_le _) rW_f rW_r ?_
  refine zR_callV1 C kX6_276 eX6_readsOrder_5 (c_X6_orderOf q _ _ _ ) rfl 0 6 rW_g0 rfl rfl _ rW_c rW_n rfl (by decide) (by decide) (Nat.le_of_ble_eq_true rfl) (Nat.zero_le _) (Nat.zero_le _) rW_f rW_r ?_
  refine zR_istore_n (lv' := [(1, _), (0, _)]) C eX6_readsOrder_8 rfl (by rw [hn]; decide) rfl ?_
  refine zR_iload_n C eX6_readsOrder_9 0 rfl rfl ?_
  refine zR_bipush (v := -6) C eX6_readsOrder_10 (by decide) ?_
  refine zR_icmp_eq C eX6_readsOrder_12 (fun h12 => ?_) (fun h12 => ?_)
  · skip
    refine zR_iconst (v := 0) C eX6_readsOrder_19 (by decide) ?_
    refine zR_istore_n (lv' := [(2, _), (1, _), (0, _)]) C eX6_readsOrder_20 rfl (by rw [hn]; decide) rfl ?_
    refine zR_aload_n C eX6_readsOrder_21 2 rfl rfl ?_
    refine zR_dup C eX6_readsOrder_22 rfl ?_
    refine zR_get C fX6_252 eX6_readsOrder_23 0 rW_g0 rfl ?_
    refine zR_iload_n C eX6_readsOrder_26 0 rfl rfl ?_
    refine zR_ifeq_t C eX6_readsOrder_27 (by decide) ?_
    refine zR_iconst (v := 0) C eX6_readsOrder_34 (by decide) ?_
    refine zR_iadd C eX6_readsOrder_35 ?_
    refine zR_topi (b := m_at m) (Int32.add_zero _) ?_
    refine zR_put C pX6_252 eX6_readsOrder_36 0 rW_g0 (Nat.le_of_ble_eq_true rfl) rW_s0_11 ?_
    refine zR_aload_n C eX6_readsOrder_39 2 rfl rfl ?_
    refine zR_iconst (v := 0) C eX6_readsOrder_40 (by decide) ?_
    refine zR_put C pX6_260 eX6_readsOrder_41 0 rW_g0 (Nat.le_of_ble_eq_true rfl) rW_s0_13 ?_
    have e1 : m_ro1 m (m_ord (m_code m)) = _ := if_pos h12
    refine zR_ws (rW g q (m_ro1 m (m_ord (m_code m))) (m_row (m_ro1 m (m_ord (m_code m))))) (by rw [e1] <;> rfl) ?_
    refine zR_iconst (v := 0) C eX6_readsOrder_44 (by decide) ?_
    refine zR_istore_n (lv' := [(3, _), (2, _), (1, _), (0, _)]) C eX6_readsOrder_45 rfl (by rw [hn]; decide) rfl ?_
    have e2 := m_ro_6 h12
    rw [h12]
    refine zR_iload_n C eX6_readsOrder_46 0 rfl rfl ?_
    refine zR_bipush (v := 7) C eX6_readsOrder_47 (by decide) ?_
    refine zR_icmp_ge C eX6_readsOrder_49 (fun h => absurd h (by decide)) (fun _ => ?_)
    refine zR_iload_n C eX6_readsOrder_52 1 rfl rfl ?_
    refine zR_ifeq_t C eX6_readsOrder_53 (by decide) ?_
    refine zR_iload_n C eX6_readsOrder_78 1 rfl rfl ?_
    refine zR_ifeq_t C eX6_readsOrder_79 (by decide) ?_
    refine zR_iload_n C eX6_readsOrder_120 1 rfl rfl ?_
    refine zR_ifeq_t C eX6_readsOrder_121 (by decide) ?_
    refine zR_bipush (v := -6) C eX6_readsOrder_128 (by decide) ?_
    exact zR_iret C rfl rfl eX6_readsOrder_130 (Nat.zero_le _) (Nat.zero_le _) ⟨(by rw [e2]), (by rw [e2])⟩
  · skip
    refine zR_iconst (v := 1) C eX6_readsOrder_15 (by decide) ?_
    refine zR_goto C eX6_readsOrder_16 ?_
    refine zR_istore_n (lv' := [(2, _), (1, _), (0, _)]) C eX6_readsOrder_20 rfl (by rw [hn]; decide) rfl ?_
    refine zR_aload_n C eX6_readsOrder_21 2 rfl rfl ?_
    refine zR_dup C eX6_readsOrder_22 rfl ?_
    refine zR_get C fX6_252 eX6_readsOrder_23 0 rW_g0 rfl ?_
    refine zR_iload_n C eX6_readsOrder_26 0 rfl rfl ?_
    refine zR_ifeq_f C eX6_readsOrder_27 (by decide) ?_
    refine zR_iconst (v := 1) C eX6_readsOrder_30 (by decide) ?_
    refine zR_goto C eX6_readsOrder_31 ?_
    refine zR_iadd C eX6_readsOrder_35 ?_
    refine zR_put C pX6_252 eX6_readsOrder_36 0 rW_g0 (Nat.le_of_ble_eq_true rfl) rW_s0_11 ?_
    refine zR_aload_n C eX6_readsOrder_39 2 rfl rfl ?_
    refine zR_iconst (v := 0) C eX6_readsOrder_40 (by decide) ?_
    refine zR_put C pX6_260 eX6_readsOrder_41 0 rW_g0 (Nat.le_of_ble_eq_true rfl) rW_s0_13 ?_
    have e1 : m_ro1 m (m_ord (m_code m)) = _ := if_neg h12
    refine zR_ws (rW g q (m_ro1 m (m_ord (m_code m))) (m_row (m_ro1 m (m_ord (m_code m))))) (by rw [e1] <;> rfl) ?_
    refine zR_iconst (v := 0) C eX6_readsOrder_44 (by decide) ?_
    refine zR_istore_n (lv' := [(3, _), (2, _), (1, _), (0, _)]) C eX6_readsOrder_45 rfl (by rw [hn]; decide) rfl ?_
    obtain ⟨hc0, j, hj, ej⟩ := m_ord_6 h12
    rw [m_ro_j ej h12, ej]
    have k1 := m_ro1_ok (m := m) rfl hp
    rw [ej] at k1
    refine zR_lv [(3, .int (nI 0)), (2, .int (zB true)), (1, _), (0, _)] [0, 1, 2, 3] rfl ?_
    exact c_X6_readsOrder_lp hj hn C 7 0 true _ (by decide) k1.1 (fun _ => k1.2.2.1)
