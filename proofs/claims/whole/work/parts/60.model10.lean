/-! The reference: orders carried out, characters put. -/
theorem m_fl_ok : ∀ (f : Nat) (M : MD), m_pok M → m_pok (m_fl f M).2 ∧ m_rd M (m_fl f M).2
  | 0, M, hp => ⟨hp, m_rd.rf M⟩
  | f + 1, M, hp => by
    have k1 := m_reads_ok (m := M) (c := 59) hp (by decide)
    have k2 := m_ro_ok k1.1
    have k3 := m_fl_ok f (m_ro (m_reads M 59).2).2 k2.1
    rw [m_fl]
    generalize m_reads M 59 = s at k1 k2 k3 ⊢
    generalize m_ro s.2 = u at k2 k3 ⊢
    generalize m_fl f u.2 = v at k3 ⊢
    split
    · split
      · split
        · exact ⟨k2.1, k1.2.1.tr k2.2.1⟩
        · exact ⟨k3.1, (k1.2.1.tr k2.2.1).tr k3.2⟩
      · exact ⟨k1.1, k1.2.1⟩
    · exact ⟨hp, m_rd.rf M⟩
theorem m_sat0_ok {m : MD} (hl : zok (m_len m) 80) : m_pok (m_sat m 0) := ⟨hl, zok_0 _⟩
theorem m_fault_ok {m : MD} (hl : zok (m_len m) 80) : m_pok (m_fault m).2 ∧ m_rdk m (m_fault m).2 := by
  have k0 := m_sat0_ok hl
  have k1 : m_pok (m_f0 m).2 ∧ m_rd (m_sat m 0) (m_f0 m).2 := ⟨(m_ro_ok k0).1, (m_ro_ok k0).2.1⟩
  have k2 := m_fl_ok 81 (m_f0 m).2 k1.1
  have r0 := m_rdk.sat m 0
  unfold m_fault; split
  · exact ⟨k1.1, r0.tr k1.2.1⟩
  · split
    · exact ⟨k2.1, (r0.tr k1.2.1).tr k2.2.1⟩
    · exact ⟨k2.1, (r0.tr k1.2.1).tr k2.2.1⟩
theorem rW_sat {g : zG} {q : Nat → Nat} {M : MD} {v : Int32} : rW g q (m_sat M v) (m_row M) = rW g q (m_sat M v) (m_row (m_sat M v)) := rfl
theorem rW_slen {g : zG} {q : Nat → Nat} {M : MD} {v : Int32} : rW g q (m_slen M v) (m_row M) = rW g q (m_slen M v) (m_row (m_slen M v)) := rfl
set_option maxHeartbeats 1000000 in
set_option maxRecDepth 100000 in
theorem c_X6_faultOf_lp {x : zX} {g : zG} {q : Nat → Nat} (hn : zn x = 2) (C : zC x g RX6 cX6_faultOf (some .int) 5) : ∀ (f : Nat) (M : MD), m_pok M → zn32 (m_len M) - zn32 (m_at M) < f → zR x g (zE (some (.int (if (m_fl f M).1 then -6 else m_at (m_fl f M).2))) (rW g q (m_fl f M).2 (m_row (m_fl f M).2))) (0, 0) 20 [(1, .int 1), (0, .ref (q 0))] [] (rW g q M (m_row M)) := by
  intro f
  induction f with
  | zero =>
    intro M hp hf
    exact absurd hf (Nat.not_lt_zero _)
  | succ f ih =>
    intro M hp hf
    have k1 := m_reads_ok (m := M) (c := 59) hp (by decide)
    refine zR_iload_n C eX6_faultOf_20 0 rfl rfl ?_
    refine zR_ifeq_f C eX6_faultOf_21 (by decide) ?_
    refine zR_aload_n C eX6_faultOf_24 1 rfl rfl ?_
    refine zR_get C fX6_252 eX6_faultOf_25 0 rW_g0 rfl ?_
    refine zR_aload_n C eX6_faultOf_28 1 rfl rfl ?_
    refine zR_get C fX6_237 eX6_faultOf_29 0 rW_g0 rfl ?_
    refine zR_icmp_ge C eX6_faultOf_32 (fun h32 => ?_) (fun h32 => ?_)
    · skip
      refine zR_iload_n C eX6_faultOf_62 0 rfl rfl ?_
      refine zR_ifeq_f C eX6_faultOf_63 (by decide) ?_
      refine zR_bipush (v := -6) C eX6_faultOf_66 (by decide) ?_
      refine zR_goto C eX6_faultOf_68 ?_
      have e0 : m_fl (f + 1) M = (true, M) := (if_neg h32)
      exact zR_iret C rfl rfl eX6_faultOf_75 (Nat.zero_le _) (Nat.zero_le _) ⟨by rw [e0] <;> rfl, by rw [e0]⟩
    · skip
      refine zR_aload_n C eX6_faultOf_35 1 rfl rfl ?_
      refine zR_bipush (v := 59) C eX6_faultOf_36 (by decide) ?_
      refine zR_callV1 C kX6_273 eX6_faultOf_38 (c_X6_reads q _ _ hp) rfl 0 6 rW_g0 rfl rfl _ rW_c rW_n rfl (by decide) (by decide) (Nat.le_of_ble_eq_true rfl) (Nat.zero_le _) (Nat.zero_le _) rW_f rW_r ?_
      refine zR_bfeq C eX6_faultOf_41 (fun h41 => ?_) (fun h41 => ?_)
      · skip
        refine zR_iconst (v := 0) C eX6_faultOf_57 (by decide) ?_
        refine zR_istore_n (lv' := [(1, _), (0, _)]) C eX6_faultOf_58 rfl (by rw [hn]; decide) rfl ?_
        refine zR_goto C eX6_faultOf_59 ?_
        refine zR_iload_n C eX6_faultOf_20 0 rfl rfl ?_
        refine zR_ifeq_t C eX6_faultOf_21 (by decide) ?_
        refine zR_iload_n C eX6_faultOf_62 0 rfl rfl ?_
        refine zR_ifeq_t C eX6_faultOf_63 (by decide) ?_
        refine zR_aload_n C eX6_faultOf_71 1 rfl rfl ?_
        refine zR_get C fX6_252 eX6_faultOf_72 0 rW_g0 rfl ?_
        have e0 : m_fl (f + 1) M = (false, (m_reads M 59).2) := ((if_pos h32).trans (if_neg h41))
        exact zR_iret C rfl rfl eX6_faultOf_75 (Nat.zero_le _) (Nat.zero_le _) ⟨by rw [e0] <;> rfl, by rw [e0]⟩
      · skip
        refine zR_aload_n C eX6_faultOf_44 1 rfl rfl ?_
        refine zR_callV1 C kX6_282 eX6_faultOf_45 (c_X6_readsOrder q _ k1.1) rfl 0 6 rW_g0 rfl rfl _ rW_c rW_n rfl (by decide) (by decide) (Nat.le_of_ble_eq_true rfl) (Nat.zero_le _) (Nat.zero_le _) rW_f rW_r ?_
        refine zR_bipush (v := -6) C eX6_faultOf_48 (by decide) ?_
        refine zR_icmp_eq C eX6_faultOf_50 (fun h50 => ?_) (fun h50 => ?_)
        · skip
          refine zR_iconst (v := 0) C eX6_faultOf_57 (by decide) ?_
          refine zR_istore_n (lv' := [(1, _), (0, _)]) C eX6_faultOf_58 rfl (by rw [hn]; decide) rfl ?_
          refine zR_goto C eX6_faultOf_59 ?_
          refine zR_iload_n C eX6_faultOf_20 0 rfl rfl ?_
          refine zR_ifeq_t C eX6_faultOf_21 (by decide) ?_
          refine zR_iload_n C eX6_faultOf_62 0 rfl rfl ?_
          refine zR_ifeq_t C eX6_faultOf_63 (by decide) ?_
          refine zR_aload_n C eX6_faultOf_71 1 rfl rfl ?_
          refine zR_get C fX6_252 eX6_faultOf_72 0 rW_g0 rfl ?_
          have e0 : m_fl (f + 1) M = (false, (m_ro (m_reads M 59).2).2) := ((if_pos h32).trans ((if_pos h41).trans (if_pos h50)))
          exact zR_iret C rfl rfl eX6_faultOf_75 (Nat.zero_le _) (Nat.zero_le _) ⟨by rw [e0] <;> rfl, by rw [e0]⟩
        · skip
          refine zR_iconst (v := 1) C eX6_faultOf_53 (by decide) ?_
          refine zR_goto C eX6_faultOf_54 ?_
          refine zR_istore_n (lv' := [(1, _), (0, _)]) C eX6_faultOf_58 rfl (by rw [hn]; decide) rfl ?_
          refine zR_goto C eX6_faultOf_59 ?_
          have e0 : m_fl (f + 1) M = m_fl f (m_ro (m_reads M 59).2).2 := ((if_pos h32).trans ((if_pos h41).trans (if_neg h50)))
          have k2 := m_ro_ok k1.1
          have hlt := k1.2.2.2 h41
          have h59 := k2.2.1.2
          have h60 := k1.1.2.2
          have h61 := k1.2.1.len
          have h62 := k2.2.1.len
          rw [e0]
          refine zR_lv [(1, _), (0, _)] [0, 1] rfl ?_
          exact ih _ k2.1 (by rw [h62, h61]; rw [h61] at h60; omega)
set_option maxHeartbeats 1000000 in
set_option maxRecDepth 100000 in
theorem c_X6_faultOf {l : Launch} {g : zG} (q : Nat → Nat) (m : MD)  (hl : zok (m_len m) 80) : zM l g yX6_faultOf cX6_faultOf 2 (some .int) 5 0 0 [.ref (q 0)] (rW g q m (m_row m)) (zE (some (.int (m_fault m).1)) (rW g q ((m_fault m).2) (m_row ((m_fault m).2)))) := by
  refine zM_of (by decide +kernel) (Nat.le_of_ble_eq_true rfl) (fun x hl hn _ _ _ C => ?_)
  subst hl
  show zR x g _ (0, 0) 0 [(0, .ref (q 0))] [] _
  have k0 := m_sat0_ok hl
  refine zR_aload_n C eX6_faultOf_0 0 rfl rfl ?_
  refine zR_iconst (v := 0) C eX6_faultOf_1 (by decide) ?_
  refine zR_put C pX6_252 eX6_faultOf_2 0 rW_g0 (Nat.le_of_ble_eq_true rfl) rW_s0_11 ?_
  refine zR_ws (rW g q (m_sat m 0) (m_row (m_sat m 0))) rW_sat ?_
  refine zR_aload_n C eX6_faultOf_5 0 rfl rfl ?_
  refine zR_callV1 C kX6_282 eX6_faultOf_6 (c_X6_readsOrder q _ k0) rfl 0 6 rW_g0 rfl rfl _ rW_c rW_n rfl (by decide) (by decide) (Nat.le_of_ble_eq_true rfl) (Nat.zero_le _) (Nat.zero_le _) rW_f rW_r ?_
  refine zR_topi (b := (m_f0 m).1) rfl ?_
  refine zR_ws (rW g q ((m_f0 m).2) (m_row ((m_f0 m).2))) rfl ?_
  refine zR_bipush (v := -6) C eX6_faultOf_9 (by decide) ?_
  refine zR_icmp_eq C eX6_faultOf_11 (fun h11 => ?_) (fun h11 => ?_)
  · skip
    refine zR_iconst (v := 0) C eX6_faultOf_18 (by decide) ?_
    refine zR_istore_n (lv' := [(1, _), (0, _)]) C eX6_faultOf_19 rfl (by rw [hn]; decide) rfl ?_
    have e1 : m_fault m = (m_at (m_f0 m).2, (m_f0 m).2) := if_pos h11
    refine zR_iload_n C eX6_faultOf_20 0 rfl rfl ?_
    refine zR_ifeq_t C eX6_faultOf_21 (by decide) ?_
    refine zR_iload_n C eX6_faultOf_62 0 rfl rfl ?_
    refine zR_ifeq_t C eX6_faultOf_63 (by decide) ?_
    refine zR_aload_n C eX6_faultOf_71 1 rfl rfl ?_
    refine zR_get C fX6_252 eX6_faultOf_72 0 rW_g0 rfl ?_
    exact zR_iret C rfl rfl eX6_faultOf_75 (Nat.zero_le _) (Nat.zero_le _) ⟨(by rw [e1]), (by rw [e1])⟩
  · skip
    refine zR_iconst (v := 1) C eX6_faultOf_14 (by decide) ?_
    refine zR_goto C eX6_faultOf_15 ?_
    refine zR_istore_n (lv' := [(1, _), (0, _)]) C eX6_faultOf_19 rfl (by rw [hn]; decide) rfl ?_
    have e1 : m_fault m = _ := if_neg h11
    have e2 : (m_fault m).1 = (if (m_fl 81 (m_f0 m).2).1 then -6 else m_at (m_fl 81 (m_f0 m).2).2) := by rw [e1]; split <;> rfl
    have e3 : (m_fault m).2 = (m_fl 81 (m_f0 m).2).2 := by rw [e1]; split <;> rfl
    rw [e2, e3]
    have kp : m_pok (m_f0 m).2 := (m_ro_ok k0).1
    refine zR_lv [(1, _), (0, _)] [0, 1] rfl ?_
    generalize hF : (81 : Nat) = F
    exact c_X6_faultOf_lp hn C F _ kp (by have := kp.1.2; rw [← hF]; omega)
set_option maxHeartbeats 1000000 in
set_option maxRecDepth 100000 in
theorem c_X6_fault {l : Launch} {g : zG} (q : Nat → Nat) (m : MD)  (hl : zok (m_len m) 80) : zM l g yX6_fault cX6_fault 1 (some .int) 6 0 0 [.ref (q 0)] (rW g q m (m_row m)) (zE (some (.int (m_fault m).1)) (rW g q ((m_fault m).2) (m_row ((m_fault m).2)))) := by
  refine zM_of (by decide +kernel) (Nat.le_of_ble_eq_true rfl) (fun x hl hn _ _ _ C => ?_)
  subst hl
  show zR x g _ (0, 0) 0 [(0, .ref (q 0))] [] _
  refine zR_aload_n C eX6_fault_0 0 rfl rfl ?_
  refine zR_callV1 C kX6_285 eX6_fault_1 (c_X6_faultOf q _ hl) rfl 0 6 rW_g0 rfl rfl _ rW_c rW_n rfl (by decide) (by decide) (Nat.le_of_ble_eq_true rfl) (Nat.zero_le _) (Nat.zero_le _) rW_f rW_r ?_
  exact zR_iret C rfl rfl eX6_fault_4 (Nat.zero_le _) (Nat.zero_le _) ⟨rfl, rfl⟩
set_option maxHeartbeats 2000000 in
set_option maxRecDepth 100000 in
theorem c_X6_does {l : Launch} {g : zG} (q : Nat → Nat) (m : MD) (kd : Int32) (hr : r_ok (m_row m)) (hg : z_inl (m_num m 0).toInt64 1 1000 = true → ∀ i, i < zn32 (m_num m 0) → m_hgood (m_hrs m i)) : zM l g yX6_does cX6_does 7 (some .boolean) 8 0 0 [.ref (q 0), .int kd] (rW g q m (m_row m)) (zE (some (.int (zB (m_does m kd).1))) (rW g q ((m_does m kd).2) (m_row ((m_does m kd).2)))) := by
  refine zM_of (by decide +kernel) (Nat.le_of_ble_eq_true rfl) (fun x hl hn _ _ _ C => ?_)
  subst hl
  show zR x g _ (0, 0) 0 [(0, .ref (q 0)), (1, .int kd)] [] _
  refine zR_aload_n C eX6_does_0 0 rfl rfl ?_
  refine zR_get C fX6_34 eX6_does_1 0 rW_g0 rfl ?_
  refine zR_iconst (v := 0) C eX6_does_4 (by decide) ?_
  refine zR_ialdK C eX6_does_5 7 rW_g7 0 rfl (vp_in_iff.mpr (by decide)) ?_
  refine zR_istore_n (lv' := [(2, _), (0, _), (1, _)]) C eX6_does_6 rfl (by rw [hn]; decide) rfl ?_
  refine zR_aload_n C eX6_does_7 1 rfl rfl ?_
  refine zR_get C fX6_34 eX6_does_8 0 rW_g0 rfl ?_
  refine zR_iconst (v := 1) C eX6_does_11 (by decide) ?_
  refine zR_ialdK C eX6_does_12 7 rW_g7 1 rfl (vp_in_iff.mpr (by decide)) ?_
  refine zR_istore_n (lv' := [(3, _), (2, _), (0, _), (1, _)]) C eX6_does_13 rfl (by rw [hn]; decide) rfl ?_
  refine zR_aload_n C eX6_does_14 2 rfl rfl ?_
  refine zR_get C fX6_34 eX6_does_15 0 rW_g0 rfl ?_
  refine zR_iconst (v := 2) C eX6_does_18 (by decide) ?_
  refine zR_ialdK C eX6_does_19 7 rW_g7 2 rfl (vp_in_iff.mpr (by decide)) ?_
  refine zR_istore (lv' := [(4, _), (3, _), (2, _), (0, _), (1, _)]) C eX6_does_20 (by rw [hn]; decide) rfl ?_
  refine zR_aload_n C eX6_does_22 3 rfl rfl ?_
  refine zR_get C fX6_34 eX6_does_23 0 rW_g0 rfl ?_
  refine zR_iconst (v := 3) C eX6_does_26 (by decide) ?_
  refine zR_ialdK C eX6_does_27 7 rW_g7 3 rfl (vp_in_iff.mpr (by decide)) ?_
  refine zR_istore (lv' := [(5, _), (4, _), (3, _), (2, _), (0, _), (1, _)]) C eX6_does_28 (by rw [hn]; decide) rfl ?_
  refine zR_iconst (v := 0) C eX6_does_30 (by decide) ?_
  refine zR_istore (lv' := [(6, _), (5, _), (4, _), (3, _), (2, _), (0, _), (1, _)]) C eX6_does_31 (by rw [hn]; decide) rfl ?_
  refine zR_iload_n C eX6_does_33 6 rfl rfl ?_
  refine zR_caseK (0) (fun h34_0 => ?_) (fun h34_0 => ?_)
  · skip
    refine zR_tswIn (off := 34) (tgt := 68) C eX6_does_34 (by decide) (by decide) (by decide) (by decide) ?_
    refine zR_aload_n C eX6_does_68 5 rfl rfl ?_
    refine zR_iload_n C eX6_does_69 4 rfl rfl ?_
    refine zR_iload_n C eX6_does_70 3 rfl rfl ?_
    refine zR_iload C eX6_does_71 2 rfl ?_
    refine zR_callV1 C kX6_117 eX6_does_73 (c_X6_noOutage q _ _ _ _ ) rfl 0 6 rW_g0 rfl rfl _ rW_c rW_n rfl (by decide) (by decide) (Nat.le_of_ble_eq_true rfl) (Nat.zero_le _) (Nat.zero_le _) rW_f rW_r ?_
    refine zR_ifne C eX6_does_76 (fun h76 => ?_) (fun h76 => ?_)
    · skip
      refine zR_iconst (v := 0) C eX6_does_83 (by decide) ?_
      refine zR_istore (lv' := [(6, _), (5, _), (4, _), (3, _), (2, _), (0, _), (1, _)]) C eX6_does_84 (by rw [hn]; decide) rfl ?_
      refine zR_iload C eX6_does_86 0 rfl ?_
      refine zR_ifeq_t C eX6_does_88 (by decide) ?_
      refine zR_iload C eX6_does_271 0 rfl ?_
      exact zR_iret C rfl rfl eX6_does_273 (Nat.zero_le _) (Nat.zero_le _) ⟨(by first | (unfold m_does; rw [if_pos h34_0, if_neg h76]; first | done | rfl) | rfl | (simp only [m_does, if_pos h34_0, if_neg h76]; first | done | rfl)), (by first | (unfold m_does; rw [if_pos h34_0, if_neg h76]; first | done | rfl) | rfl | (simp only [m_does, if_pos h34_0, if_neg h76]; first | done | rfl))⟩
    · skip
      refine zR_iconst (v := 1) C eX6_does_79 (by decide) ?_
      refine zR_goto C eX6_does_80 ?_
      refine zR_istore (lv' := [(6, _), (5, _), (4, _), (3, _), (2, _), (0, _), (1, _)]) C eX6_does_84 (by rw [hn]; decide) rfl ?_
      refine zR_iload C eX6_does_86 0 rfl ?_
      refine zR_ifeq_f C eX6_does_88 (by decide) ?_
      have hv := (r_isS_in (m_noOut_0 h76) hr).1
      refine zR_aload_n C eX6_does_91 5 rfl rfl ?_
      refine zR_iload_n C eX6_does_92 4 rfl rfl ?_
      refine zR_iload_n C eX6_does_93 3 rfl rfl ?_
      refine zR_iload C eX6_does_94 2 rfl ?_
      refine zR_callV1 C kX6_121 eX6_does_96 (c_X6_doOutage q _ _ _ _ hv) rfl 0 6 rW_g0 rfl rfl _ rW_c rW_n rfl (by decide) (by decide) (Nat.le_of_ble_eq_true rfl) (Nat.zero_le _) (Nat.zero_le _) rW_f rW_r ?_
      refine zR_pop C eX6_does_99 rfl ?_
      refine zR_goto C eX6_does_100 ?_
      refine zR_iload C eX6_does_271 0 rfl ?_
      exact zR_iret C rfl rfl eX6_does_273 (Nat.zero_le _) (Nat.zero_le _) ⟨(by first | (unfold m_does; rw [if_pos h34_0, if_pos h76]; first | done | rfl) | rfl | (simp only [m_does, if_pos h34_0, if_pos h76]; first | done | rfl)), (by first | (unfold m_does; rw [if_pos h34_0, if_pos h76]; first | done | rfl) | rfl | (simp only [m_does, if_pos h34_0, if_pos h76]; first | done | rfl))⟩
  · skip
    refine zR_caseK (1) (fun h34_1 => ?_) (fun h34_1 => ?_)
    · skip
      refine zR_tswIn (off := 69) (tgt := 103) C eX6_does_34 (by decide) (by decide) (by decide) (by decide) ?_
      refine zR_aload_n C eX6_does_103 5 rfl rfl ?_
      refine zR_iload_n C eX6_does_104 4 rfl rfl ?_
      refine zR_iload_n C eX6_does_105 3 rfl rfl ?_
      refine zR_iload C eX6_does_106 2 rfl ?_
      refine zR_callV1 C kX6_132 eX6_does_108 (c_X6_noRelease q _ _ _ _ hr) rfl 0 6 rW_g0 rfl rfl _ rW_c rW_n rfl (by decide) (by decide) (Nat.le_of_ble_eq_true rfl) (Nat.zero_le _) (Nat.zero_le _) rW_f rW_r ?_
      refine zR_ifne C eX6_does_111 (fun h111 => ?_) (fun h111 => ?_)
      · skip
        refine zR_iconst (v := 0) C eX6_does_118 (by decide) ?_
        refine zR_istore (lv' := [(6, _), (5, _), (4, _), (3, _), (2, _), (0, _), (1, _)]) C eX6_does_119 (by rw [hn]; decide) rfl ?_
        refine zR_iload C eX6_does_121 0 rfl ?_
        refine zR_ifeq_t C eX6_does_123 (by decide) ?_
        refine zR_iload C eX6_does_271 0 rfl ?_
        exact zR_iret C rfl rfl eX6_does_273 (Nat.zero_le _) (Nat.zero_le _) ⟨(by first | (unfold m_does; rw [if_neg h34_0, if_pos h34_1, if_neg h111]; first | done | rfl) | rfl | (simp only [m_does, if_neg h34_0, if_pos h34_1, if_neg h111]; first | done | rfl)), (by first | (unfold m_does; rw [if_neg h34_0, if_pos h34_1, if_neg h111]; first | done | rfl) | rfl | (simp only [m_does, if_neg h34_0, if_pos h34_1, if_neg h111]; first | done | rfl))⟩
      · skip
        refine zR_iconst (v := 1) C eX6_does_114 (by decide) ?_
        refine zR_goto C eX6_does_115 ?_
        refine zR_istore (lv' := [(6, _), (5, _), (4, _), (3, _), (2, _), (0, _), (1, _)]) C eX6_does_119 (by rw [hn]; decide) rfl ?_
        refine zR_iload C eX6_does_121 0 rfl ?_
        refine zR_ifeq_f C eX6_does_123 (by decide) ?_
        obtain ⟨e0, hv0⟩ := m_noRel_0 h111
        have hv := (r_isS_in hv0 hr).1
        refine zR_aload_n C eX6_does_126 5 rfl rfl ?_
        refine zR_iload_n C eX6_does_127 4 rfl rfl ?_
        refine zR_iload_n C eX6_does_128 3 rfl rfl ?_
        refine zR_callV1 C kX6_135 eX6_does_129 (c_X6_doRelease q _ _ _ hv) rfl 0 6 rW_g0 rfl rfl _ rW_c rW_n rfl (by decide) (by decide) (Nat.le_of_ble_eq_true rfl) (Nat.zero_le _) (Nat.zero_le _) rW_f rW_r ?_
        refine zR_pop C eX6_does_132 rfl ?_
        refine zR_goto C eX6_does_133 ?_
        refine zR_iload C eX6_does_271 0 rfl ?_
        exact zR_iret C rfl rfl eX6_does_273 (Nat.zero_le _) (Nat.zero_le _) ⟨(by first | (unfold m_does; rw [if_neg h34_0, if_pos h34_1, if_pos h111]; first | done | rfl) | rfl | (simp only [m_does, if_neg h34_0, if_pos h34_1, if_pos h111]; first | done | rfl)), (by first | (unfold m_does; rw [if_neg h34_0, if_pos h34_1, if_pos h111]; first | done | rfl) | rfl | (simp only [m_does, if_neg h34_0, if_pos h34_1, if_pos h111]; first | done | rfl))⟩
    · skip
      refine zR_caseK (2) (fun h34_2 => ?_) (fun h34_2 => ?_)
      · skip
        refine zR_tswIn (off := 102) (tgt := 136) C eX6_does_34 (by decide) (by decide) (by decide) (by decide) ?_
        refine zR_aload_n C eX6_does_136 5 rfl rfl ?_
        refine zR_iload_n C eX6_does_137 4 rfl rfl ?_
        refine zR_iload_n C eX6_does_138 3 rfl rfl ?_
        refine zR_iload C eX6_does_139 2 rfl ?_
        refine zR_iload C eX6_does_141 1 rfl ?_
        refine zR_callV1 C kX6_151 eX6_does_143 (c_X6_noLend q _ _ _ _ _ hr) rfl 0 6 rW_g0 rfl rfl _ rW_c rW_n rfl (by decide) (by decide) (Nat.le_of_ble_eq_true rfl) (Nat.zero_le _) (Nat.zero_le _) rW_f rW_r ?_
        refine zR_ifne C eX6_does_146 (fun h146 => ?_) (fun h146 => ?_)
        · skip
          refine zR_iconst (v := 0) C eX6_does_153 (by decide) ?_
          refine zR_istore (lv' := [(6, _), (5, _), (4, _), (3, _), (2, _), (0, _), (1, _)]) C eX6_does_154 (by rw [hn]; decide) rfl ?_
          refine zR_iload C eX6_does_156 0 rfl ?_
          refine zR_ifeq_t C eX6_does_158 (by decide) ?_
          refine zR_iload C eX6_does_271 0 rfl ?_
          exact zR_iret C rfl rfl eX6_does_273 (Nat.zero_le _) (Nat.zero_le _) ⟨(by first | (unfold m_does; rw [if_neg h34_0, if_neg h34_1, if_pos h34_2, if_neg h146]; first | done | rfl) | rfl | (simp only [m_does, if_neg h34_0, if_neg h34_1, if_pos h34_2, if_neg h146]; first | done | rfl)), (by first | (unfold m_does; rw [if_neg h34_0, if_neg h34_1, if_pos h34_2, if_neg h146]; first | done | rfl) | rfl | (simp only [m_does, if_neg h34_0, if_neg h34_1, if_pos h34_2, if_neg h146]; first | done | rfl))⟩
        · skip
          refine zR_iconst (v := 1) C eX6_does_149 (by decide) ?_
          refine zR_goto C eX6_does_150 ?_
          refine zR_istore (lv' := [(6, _), (5, _), (4, _), (3, _), (2, _), (0, _), (1, _)]) C eX6_does_154 (by rw [hn]; decide) rfl ?_
          refine zR_iload C eX6_does_156 0 rfl ?_
          refine zR_ifeq_f C eX6_does_158 (by decide) ?_
          obtain ⟨e0, ha0, hb0, h40⟩ := m_noLend_0 h146
          have ha := (r_isS_in ha0 hr).1
          have hb := (r_isS_in hb0 hr).1
          refine zR_aload_n C eX6_does_161 5 rfl rfl ?_
          refine zR_iload_n C eX6_does_162 4 rfl rfl ?_
          refine zR_iload_n C eX6_does_163 3 rfl rfl ?_
          refine zR_iload C eX6_does_164 2 rfl ?_
          refine zR_iload C eX6_does_166 1 rfl ?_
          refine zR_callV1 C kX6_155 eX6_does_168 (c_X6_doLend q _ _ _ _ _ ha hb (by rw [e0]; exact zokl_lt (n := 40) hr.2.1 h40)) rfl 0 6 rW_g0 rfl rfl _ rW_c rW_n rfl (by decide) (by decide) (Nat.le_of_ble_eq_true rfl) (Nat.zero_le _) (Nat.zero_le _) rW_f rW_r ?_
          refine zR_pop C eX6_does_171 rfl ?_
          refine zR_goto C eX6_does_172 ?_
          refine zR_iload C eX6_does_271 0 rfl ?_
          exact zR_iret C rfl rfl eX6_does_273 (Nat.zero_le _) (Nat.zero_le _) ⟨(by first | (unfold m_does; rw [if_neg h34_0, if_neg h34_1, if_pos h34_2, if_pos h146]; first | done | rfl) | rfl | (simp only [m_does, if_neg h34_0, if_neg h34_1, if_pos h34_2, if_pos h146]; first | done | rfl)), (by first | (unfold m_does; rw [if_neg h34_0, if_neg h34_1, if_pos h34_2, if_pos h146]; first | done | rfl) | rfl | (simp only [m_does, if_neg h34_0, if_neg h34_1, if_pos h34_2, if_pos h146]; first | done | rfl))⟩
      · skip
        refine zR_caseK (3) (fun h34_3 => ?_) (fun h34_3 => ?_)
        · skip
          refine zR_tswIn (off := 141) (tgt := 175) C eX6_does_34 (by decide) (by decide) (by decide) (by decide) ?_
          refine zR_aload_n C eX6_does_175 5 rfl rfl ?_
          refine zR_iload_n C eX6_does_176 4 rfl rfl ?_
          refine zR_aload_n C eX6_does_177 5 rfl rfl ?_
          refine zR_bipush (v := 8) C eX6_does_178 (by decide) ?_
          refine zR_callV1 C kX6_60 eX6_does_180 (c_X6_number q _ _ 8 (by decide)) rfl 0 6 rW_g0 rfl rfl _ rW_c rW_n rfl (by decide) (by decide) (Nat.le_of_ble_eq_true rfl) (Nat.zero_le _) (Nat.zero_le _) rW_f rW_r ?_
          refine zR_iload_n C eX6_does_183 3 rfl rfl ?_
          refine zR_iadd C eX6_does_184 ?_
          refine zR_iload C eX6_does_185 2 rfl ?_
          refine zR_iload C eX6_does_187 1 rfl ?_
          refine zR_callV1 C kX6_175 eX6_does_189 (c_X6_noPlan q _ _ _ _ _ ) rfl 0 6 rW_g0 rfl rfl _ rW_c rW_n rfl (by decide) (by decide) (Nat.le_of_ble_eq_true rfl) (Nat.zero_le _) (Nat.zero_le _) rW_f rW_r ?_
          refine zR_ifne C eX6_does_192 (fun h192 => ?_) (fun h192 => ?_)
          · skip
            refine zR_iconst (v := 0) C eX6_does_199 (by decide) ?_
            refine zR_istore (lv' := [(6, _), (5, _), (4, _), (3, _), (2, _), (0, _), (1, _)]) C eX6_does_200 (by rw [hn]; decide) rfl ?_
            refine zR_iload C eX6_does_202 0 rfl ?_
            refine zR_ifeq_t C eX6_does_204 (by decide) ?_
            refine zR_iload C eX6_does_271 0 rfl ?_
            exact zR_iret C rfl rfl eX6_does_273 (Nat.zero_le _) (Nat.zero_le _) ⟨(by first | (unfold m_does; rw [if_neg h34_0, if_neg h34_1, if_neg h34_2, if_pos h34_3, if_neg h192]; first | done | rfl) | rfl | (simp only [m_does, if_neg h34_0, if_neg h34_1, if_neg h34_2, if_pos h34_3, if_neg h192]; first | done | rfl)), (by first | (unfold m_does; rw [if_neg h34_0, if_neg h34_1, if_neg h34_2, if_pos h34_3, if_neg h192]; first | done | rfl) | rfl | (simp only [m_does, if_neg h34_0, if_neg h34_1, if_neg h34_2, if_pos h34_3, if_neg h192]; first | done | rfl))⟩
          · skip
            refine zR_iconst (v := 1) C eX6_does_195 (by decide) ?_
            refine zR_goto C eX6_does_196 ?_
            refine zR_istore (lv' := [(6, _), (5, _), (4, _), (3, _), (2, _), (0, _), (1, _)]) C eX6_does_200 (by rw [hn]; decide) rfl ?_
            refine zR_iload C eX6_does_202 0 rfl ?_
            refine zR_ifeq_f C eX6_does_204 (by decide) ?_
            have h30 := (m_noPlan_0 h192).2
            refine zR_aload_n C eX6_does_207 5 rfl rfl ?_
            refine zR_iload_n C eX6_does_208 4 rfl rfl ?_
            refine zR_aload_n C eX6_does_209 5 rfl rfl ?_
            refine zR_bipush (v := 8) C eX6_does_210 (by decide) ?_
            refine zR_callV1 C kX6_60 eX6_does_212 (c_X6_number q _ _ 8 (by decide)) rfl 0 6 rW_g0 rfl rfl _ rW_c rW_n rfl (by decide) (by decide) (Nat.le_of_ble_eq_true rfl) (Nat.zero_le _) (Nat.zero_le _) rW_f rW_r ?_
            refine zR_iload_n C eX6_does_215 3 rfl rfl ?_
            refine zR_iadd C eX6_does_216 ?_
            refine zR_iload C eX6_does_217 2 rfl ?_
            refine zR_iload C eX6_does_219 1 rfl ?_
            refine zR_callV1 C kX6_178 eX6_does_221 (c_X6_doPlan q _ _ _ _ _ (zokl_lt (n := 30) hr.2.2.2.1 h30)) rfl 0 6 rW_g0 rfl rfl _ rW_c rW_n rfl (by decide) (by decide) (Nat.le_of_ble_eq_true rfl) (Nat.zero_le _) (Nat.zero_le _) rW_f rW_r ?_
            refine zR_pop C eX6_does_224 rfl ?_
            refine zR_goto C eX6_does_225 ?_
            refine zR_iload C eX6_does_271 0 rfl ?_
            exact zR_iret C rfl rfl eX6_does_273 (Nat.zero_le _) (Nat.zero_le _) ⟨(by first | (unfold m_does; rw [if_neg h34_0, if_neg h34_1, if_neg h34_2, if_pos h34_3, if_pos h192]; first | done | rfl) | rfl | (simp only [m_does, if_neg h34_0, if_neg h34_1, if_neg h34_2, if_pos h34_3, if_pos h192]; first | done | rfl)), (by first | (unfold m_does; rw [if_neg h34_0, if_neg h34_1, if_neg h34_2, if_pos h34_3, if_pos h192]; first | done | rfl) | rfl | (simp only [m_does, if_neg h34_0, if_neg h34_1, if_neg h34_2, if_pos h34_3, if_pos h192]; first | done | rfl))⟩
        · skip
          refine zR_caseK (4) (fun h34_4 => ?_) (fun h34_4 => ?_)
          · skip
            refine zR_tswIn (off := 194) (tgt := 228) C eX6_does_34 (by decide) (by decide) (by decide) (by decide) ?_
            refine zR_aload_n C eX6_does_228 5 rfl rfl ?_
            refine zR_iload_n C eX6_does_229 4 rfl rfl ?_
            refine zR_callV1 C kX6_184 eX6_does_230 (c_X6_isPlan q _ _ _ ) rfl 0 6 rW_g0 rfl rfl _ rW_c rW_n rfl (by decide) (by decide) (Nat.le_of_ble_eq_true rfl) (Nat.zero_le _) (Nat.zero_le _) rW_f rW_r ?_
            refine zR_istore (lv' := [(6, _), (5, _), (4, _), (3, _), (2, _), (0, _), (1, _)]) C eX6_does_233 (by rw [hn]; decide) rfl ?_
            refine zR_iload C eX6_does_235 0 rfl ?_
            refine zR_bfeq C eX6_does_237 (fun h237 => ?_) (fun h237 => ?_)
            · skip
              refine zR_iload C eX6_does_271 0 rfl ?_
              refine zR_topi (b := 0) (by rw [Bool.eq_false_iff.mpr h237]; rfl) ?_
              exact zR_iret C rfl rfl eX6_does_273 (Nat.zero_le _) (Nat.zero_le _) ⟨(by first | (unfold m_does; rw [if_neg h34_0, if_neg h34_1, if_neg h34_2, if_neg h34_3, if_pos h34_4, if_neg h237]; first | done | rfl) | rfl | (simp only [m_does, if_neg h34_0, if_neg h34_1, if_neg h34_2, if_neg h34_3, if_pos h34_4, if_neg h237]; first | done | rfl)), (by first | (unfold m_does; rw [if_neg h34_0, if_neg h34_1, if_neg h34_2, if_neg h34_3, if_pos h34_4, if_neg h237]; first | done | rfl) | rfl | (simp only [m_does, if_neg h34_0, if_neg h34_1, if_neg h34_2, if_neg h34_3, if_pos h34_4, if_neg h237]; first | done | rfl))⟩
            · skip
              have hv := r_isP_in h237 hr
              refine zR_aload_n C eX6_does_240 5 rfl rfl ?_
              refine zR_iload_n C eX6_does_241 4 rfl rfl ?_
              refine zR_callV1 C kX6_187 eX6_does_242 (c_X6_doDrop q _ _ hv.1 hr.2.2.2.1) rfl 0 6 rW_g0 rfl rfl _ rW_c rW_n rfl (by decide) (by decide) (Nat.le_of_ble_eq_true rfl) (Nat.zero_le _) (Nat.zero_le _) rW_f rW_r ?_
              refine zR_pop C eX6_does_245 rfl ?_
              refine zR_goto C eX6_does_246 ?_
              refine zR_iload C eX6_does_271 0 rfl ?_
              refine zR_topi (b := 1) (by rw [h237]; rfl) ?_
              exact zR_iret C rfl rfl eX6_does_273 (Nat.zero_le _) (Nat.zero_le _) ⟨(by first | (unfold m_does; rw [if_neg h34_0, if_neg h34_1, if_neg h34_2, if_neg h34_3, if_pos h34_4, if_pos h237]; first | done | rfl) | rfl | (simp only [m_does, if_neg h34_0, if_neg h34_1, if_neg h34_2, if_neg h34_3, if_pos h34_4, if_pos h237]; first | done | rfl)), (by first | (unfold m_does; rw [if_neg h34_0, if_neg h34_1, if_neg h34_2, if_neg h34_3, if_pos h34_4, if_pos h237]; first | done | rfl) | rfl | (simp only [m_does, if_neg h34_0, if_neg h34_1, if_neg h34_2, if_neg h34_3, if_pos h34_4, if_pos h237]; first | done | rfl))⟩
          · skip
            refine zR_tswD (tgt := 249) C eX6_does_34 (fun j hj => match j, hj with | 0, _ => Or.inr (zsw_ne h34_0 (by decide) (by decide)) | 1, _ => Or.inr (zsw_ne h34_1 (by decide) (by decide)) | 2, _ => Or.inr (zsw_ne h34_2 (by decide) (by decide)) | 3, _ => Or.inr (zsw_ne h34_3 (by decide) (by decide)) | 4, _ => Or.inr (zsw_ne h34_4 (by decide) (by decide)) | _ + 5, hj => absurd hj (by simp)) (by decide) (by decide) ?_
            refine zR_iload_n C eX6_does_249 4 rfl rfl ?_
            refine zR_i2l C eX6_does_250 ?_
            refine zR_lconst (v := 1) C eX6_does_251 (by decide) ?_
            refine zR_ldc2 C qX6_217 eX6_does_252 ?_
            refine zR_callS1 C kX6_56 eX6_does_255 (c_X6_in _ _ _ ) rfl rfl (by decide) (by decide) (Nat.le_of_ble_eq_true rfl) (Nat.zero_le _) (Nat.zero_le _) ?_
            refine zR_istore (lv' := [(6, _), (5, _), (4, _), (3, _), (2, _), (0, _), (1, _)]) C eX6_does_258 (by rw [hn]; decide) rfl ?_
            refine zR_iload C eX6_does_260 0 rfl ?_
            refine zR_bfeq C eX6_does_262 (fun h262 => ?_) (fun h262 => ?_)
            · skip
              refine zR_iload C eX6_does_271 0 rfl ?_
              refine zR_topi (b := 0) (by rw [Bool.eq_false_iff.mpr h262]; rfl) ?_
              exact zR_iret C rfl rfl eX6_does_273 (Nat.zero_le _) (Nat.zero_le _) ⟨(by first | (unfold m_does; rw [if_neg h34_0, if_neg h34_1, if_neg h34_2, if_neg h34_3, if_neg h34_4, if_neg h262]; first | done | rfl) | rfl | (simp only [m_does, if_neg h34_0, if_neg h34_1, if_neg h34_2, if_neg h34_3, if_neg h34_4, if_neg h262]; first | done | rfl)), (by first | (unfold m_does; rw [if_neg h34_0, if_neg h34_1, if_neg h34_2, if_neg h34_3, if_neg h34_4, if_neg h262]; first | done | rfl) | rfl | (simp only [m_does, if_neg h34_0, if_neg h34_1, if_neg h34_2, if_neg h34_3, if_neg h34_4, if_neg h262]; first | done | rfl))⟩
            · skip
              have hk0 := z_inl_nn (a := 1) (b := 1000) h262 (by decide) (by decide)
              have hk : zok (m_num m 0) 1000 := ⟨hk0.1, hk0.2.2⟩
              refine zR_aload_n C eX6_does_265 5 rfl rfl ?_
              refine zR_iload_n C eX6_does_266 4 rfl rfl ?_
              refine zR_callV1 C kX6_219 eX6_does_267 (c_X6_pass q _ _ hk (hg h262)) rfl 0 6 rW_g0 rfl rfl _ rW_c rW_n rfl (by decide) (by decide) (Nat.le_of_ble_eq_true rfl) (Nat.zero_le _) (Nat.zero_le _) rW_f rW_r ?_
              refine zR_pop C eX6_does_270 rfl ?_
              refine zR_iload C eX6_does_271 0 rfl ?_
              refine zR_topi (b := 1) (by rw [h262]; rfl) ?_
              exact zR_iret C rfl rfl eX6_does_273 (Nat.zero_le _) (Nat.zero_le _) ⟨(by first | (unfold m_does; rw [if_neg h34_0, if_neg h34_1, if_neg h34_2, if_neg h34_3, if_neg h34_4, if_pos h262]; first | done | rfl) | rfl | (simp only [m_does, if_neg h34_0, if_neg h34_1, if_neg h34_2, if_neg h34_3, if_neg h34_4, if_pos h262]; first | done | rfl)), (by first | (unfold m_does; rw [if_neg h34_0, if_neg h34_1, if_neg h34_2, if_neg h34_3, if_neg h34_4, if_pos h262]; first | done | rfl) | rfl | (simp only [m_does, if_neg h34_0, if_neg h34_1, if_neg h34_2, if_neg h34_3, if_neg h34_4, if_pos h262]; first | done | rfl))⟩
def m_pgood (m : MD) : Prop := z_inl (m_num m 0).toInt64 1 1000 = true → ∀ i, i < zn32 (m_num m 0) → m_hgood (m_hrs m i)
def m_cgood : Nat → MD → Prop
  | 0, M => ¬ m_at M < m_len M
  | f + 1, M => m_at M < m_len M → (m_pok M ∧ r_ok (m_row M) ∧ m_pgood (m_ro M).2 ∧ ((m_step M).1 = true → m_cgood f (m_adv (m_step M).2)))
set_option maxHeartbeats 1000000 in
set_option maxRecDepth 100000 in
theorem c_X6_carryOut_lp {x : zX} {g : zG} {q : Nat → Nat} (hn : zn x = 2) (C : zC x g RX6 cX6_carryOut (some .int) 9) : ∀ (f i : Nat) (M : MD), m_cgood f M → zR x g (zE (some (.int (nI (m_cl f i M).1))) (rW g q (m_slen (m_cl f i M).2 0) (m_row (m_slen (m_cl f i M).2 0)))) (0, 0) 23 [(1, .int (nI i)), (0, .ref (q 0))] [] (rW g q M (m_row M)) := by
  intro f
  induction f with
  | zero =>
    intro i M hc
    refine zR_aload_n C eX6_carryOut_23 1 rfl rfl ?_
    refine zR_get C fX6_252 eX6_carryOut_24 0 rW_g0 rfl ?_
    refine zR_aload_n C eX6_carryOut_27 1 rfl rfl ?_
    refine zR_get C fX6_237 eX6_carryOut_28 0 rW_g0 rfl ?_
    refine zR_icmp_ge C eX6_carryOut_31 (fun h31 => ?_) (fun h31 => ?_)
    · skip
      have e0 : m_cl 0 i M = (i, M) := rfl
      refine zR_aload_n C eX6_carryOut_61 1 rfl rfl ?_
      refine zR_iconst (v := 0) C eX6_carryOut_62 (by decide) ?_
      refine zR_put C pX6_237 eX6_carryOut_63 0 rW_g0 (Nat.le_of_ble_eq_true rfl) rW_s0_5 ?_
      refine zR_ws (rW g q (m_slen M 0) (m_row (m_slen M 0))) rW_slen ?_
      refine zR_iload_n C eX6_carryOut_66 0 rfl rfl ?_
      exact zR_iret C rfl rfl eX6_carryOut_67 (Nat.zero_le _) (Nat.zero_le _) ⟨by rw [e0], by rw [e0]⟩
    · skip
      exact absurd h31 hc
  | succ f ih =>
    intro i M hc
    refine zR_aload_n C eX6_carryOut_23 1 rfl rfl ?_
    refine zR_get C fX6_252 eX6_carryOut_24 0 rW_g0 rfl ?_
    refine zR_aload_n C eX6_carryOut_27 1 rfl rfl ?_
    refine zR_get C fX6_237 eX6_carryOut_28 0 rW_g0 rfl ?_
    refine zR_icmp_ge C eX6_carryOut_31 (fun h31 => ?_) (fun h31 => ?_)
    · skip
      have e0 : m_cl (f + 1) i M = (i, M) := if_neg h31
      refine zR_aload_n C eX6_carryOut_61 1 rfl rfl ?_
      refine zR_iconst (v := 0) C eX6_carryOut_62 (by decide) ?_
      refine zR_put C pX6_237 eX6_carryOut_63 0 rW_g0 (Nat.le_of_ble_eq_true rfl) rW_s0_5 ?_
      refine zR_ws (rW g q (m_slen M 0) (m_row (m_slen M 0))) rW_slen ?_
      refine zR_iload_n C eX6_carryOut_66 0 rfl rfl ?_
      exact zR_iret C rfl rfl eX6_carryOut_67 (Nat.zero_le _) (Nat.zero_le _) ⟨by rw [e0], by rw [e0]⟩
    · skip
      obtain ⟨hp, hr, hpg, hcg⟩ := hc h31
      refine zR_aload_n C eX6_carryOut_34 1 rfl rfl ?_
      refine zR_aload_n C eX6_carryOut_35 1 rfl rfl ?_
      refine zR_callV1 C kX6_282 eX6_carryOut_36 (c_X6_readsOrder q _ hp) rfl 0 6 rW_g0 rfl rfl _ rW_c rW_n rfl (by decide) (by decide) (Nat.le_of_ble_eq_true rfl) (Nat.zero_le _) (Nat.zero_le _) rW_f rW_r ?_
      refine zR_callV1 C kX6_288 eX6_carryOut_39 (c_X6_does q _ _ (by rw [(m_ro_ok hp).2.1.row]; exact hr) hpg) rfl 0 6 rW_g0 rfl rfl _ rW_c rW_n rfl (by decide) (by decide) (Nat.le_of_ble_eq_true rfl) (Nat.zero_le _) (Nat.zero_le _) rW_f rW_r ?_
      refine zR_ws (rW g q ((m_step M).2) (m_row ((m_step M).2))) rfl ?_
      refine zR_bfeq C eX6_carryOut_42 (fun h42 => ?_) (fun h42 => ?_)
      · skip
        have e0 : m_cl (f + 1) i M = (i, (m_step M).2) := ((if_pos h31).trans (if_neg h42))
        refine zR_aload_n C eX6_carryOut_61 1 rfl rfl ?_
        refine zR_iconst (v := 0) C eX6_carryOut_62 (by decide) ?_
        refine zR_put C pX6_237 eX6_carryOut_63 0 rW_g0 (Nat.le_of_ble_eq_true rfl) rW_s0_5 ?_
        refine zR_ws (rW g q (m_slen (m_step M).2 0) (m_row (m_slen (m_step M).2 0))) rW_slen ?_
        refine zR_iload_n C eX6_carryOut_66 0 rfl rfl ?_
        exact zR_iret C rfl rfl eX6_carryOut_67 (Nat.zero_le _) (Nat.zero_le _) ⟨by rw [e0], by rw [e0]⟩
      · skip
        refine zR_iinc (lv' := [(1, _), (0, _)]) (v' := nI (i + 1)) C eX6_carryOut_45 0 rfl (zinc i) (by rw [hn]; decide) rfl ?_
        refine zR_aload_n C eX6_carryOut_48 1 rfl rfl ?_
        refine zR_dup C eX6_carryOut_49 rfl ?_
        refine zR_get C fX6_252 eX6_carryOut_50 0 rW_g0 rfl ?_
        refine zR_iconst (v := 1) C eX6_carryOut_53 (by decide) ?_
        refine zR_iadd C eX6_carryOut_54 ?_
        refine zR_put C pX6_252 eX6_carryOut_55 0 rW_g0 (Nat.le_of_ble_eq_true rfl) rW_s0_11 ?_
        refine zR_ws (rW g q (m_adv (m_step M).2) (m_row (m_adv (m_step M).2))) rW_adv ?_
        refine zR_goto C eX6_carryOut_58 ?_
        have e0 : m_cl (f + 1) i M = m_cl f (i + 1) (m_adv (m_step M).2) := ((if_pos h31).trans (if_pos h42))
        rw [e0]
        refine zR_lv [(1, _), (0, _)] [0, 1] rfl ?_
        exact ih (i + 1) _ (hcg h42)
set_option maxHeartbeats 1000000 in
set_option maxRecDepth 100000 in
theorem c_X6_carryOut {l : Launch} {g : zG} (q : Nat → Nat) (m : MD)  (hs : zok (m_sts m) 6) (hl : zok (m_len m) 80) (hg : m_cgood 82 (m_c0 m)) : zM l g yX6_carryOut cX6_carryOut 2 (some .int) 9 0 0 [.ref (q 0)] (rW g q m (m_row m)) (zE (some (.int (m_carry m).1)) (rW g q ((m_carry m).2) (m_row ((m_carry m).2)))) := by
  refine zM_of (by decide +kernel) (Nat.le_of_ble_eq_true rfl) (fun x hl hn _ _ _ C => ?_)
  subst hl
  show zR x g _ (0, 0) 0 [(0, .ref (q 0))] [] _
  refine zR_aload_n C eX6_carryOut_0 0 rfl rfl ?_
  refine zR_callV1 C kX6_285 eX6_carryOut_1 (c_X6_faultOf q _ hl) rfl 0 6 rW_g0 rfl rfl _ rW_c rW_n rfl (by decide) (by decide) (Nat.le_of_ble_eq_true rfl) (Nat.zero_le _) (Nat.zero_le _) rW_f rW_r ?_
  refine zR_bipush (v := -6) C eX6_carryOut_4 (by decide) ?_
  refine zR_icmp_eq C eX6_carryOut_6 (fun h6 => ?_) (fun h6 => ?_)
  · skip
    refine zR_aload_n C eX6_carryOut_12 0 rfl rfl ?_
    refine zR_callVv C kX6_64 eX6_carryOut_13 (c_X6_record q _ (by rw [(m_fault_ok hl).2.2.1]; exact hs)) rfl 0 6 rW_g0 rfl rfl _ rW_c rW_n rfl (by decide) (by decide) (Nat.le_of_ble_eq_true rfl) (Nat.zero_le _) (Nat.zero_le _) rW_f rW_r ?_
    refine zR_aload_n C eX6_carryOut_16 0 rfl rfl ?_
    refine zR_iconst (v := 0) C eX6_carryOut_17 (by decide) ?_
    refine zR_put C pX6_252 eX6_carryOut_18 0 rW_g0 (Nat.le_of_ble_eq_true rfl) rW_s0_11 ?_
    refine zR_ws (rW g q (m_c0 m) (m_row (m_c0 m))) rW_sat ?_
    refine zR_iconst (v := 0) C eX6_carryOut_21 (by decide) ?_
    refine zR_istore_n (lv' := [(1, _), (0, _)]) C eX6_carryOut_22 rfl (by rw [hn]; decide) rfl ?_
    have e1 : m_carry m = (nI (m_cl 82 0 (m_c0 m)).1, m_slen (m_cl 82 0 (m_c0 m)).2 0) := if_pos h6
    rw [e1]
    refine zR_lv [(1, .int (nI 0)), (0, _)] [0, 1] rfl ?_
    generalize hF : (82 : Nat) = F at hg ⊢
    exact c_X6_carryOut_lp hn C F 0 _ hg
  · skip
    refine zR_bipush (v := -3) C eX6_carryOut_9 (by decide) ?_
    exact zR_iret C rfl rfl eX6_carryOut_11 (Nat.zero_le _) (Nat.zero_le _) ⟨(by first | (unfold m_carry; rw [if_neg h6]; first | done | rfl) | rfl | (simp only [m_carry, if_neg h6]; first | done | rfl)), (by first | (unfold m_carry; rw [if_neg h6]; first | done | rfl) | rfl | (simp only [m_carry, if_neg h6]; first | done | rfl))⟩
def m_pcode (c : Int64) (k : Nat) : Int32 := ((c >>> ((8 * nI k).toInt64 &&& 63)) &&& 255).toInt32
def m_pe (c : Int64) (k : Nat) (e : Bool) : Bool := if e then true else if m_pcode c k = 0 then true else false
def m_pb (c : Int64) (k : Nat) (e b : Bool) : Bool := if b then true else if m_pcode c k = 0 then false else if e then true else if z_inl (m_pcode c k).toInt64 33 126 then false else true
def m_pn (n : Nat) (e : Bool) : Nat := if e then n else n + 1
def m_pl (c : Int64) : Nat → Nat → Nat → Bool → Bool → Nat × Bool
  | 0, _, n, _, b => (n, b)
  | f + 1, k, n, e, b => m_pl c f (k + 1) (m_pn n (m_pe c k e)) (m_pe c k e) (m_pb c k (m_pe c k e) b)
def m_papp (c : Int64) : Nat → MD → MD
  | 0, m => m
  | k + 1, m => m_papp c k (m_slen (m_spad m (upd (m_pad m) (zn32 (m_len m)) (m_pcode c k))) (m_len m + 1))
def m_pr (m : MD) (c : Int64) (p : Nat × Bool) : Int32 × MD := if p.2 then (-2, m) else if m_len m + nI p.1 ≤ 80 then (m_len (m_papp c p.1 m), m_papp c p.1 m) else (-4, m)
def m_put (m : MD) (c : Int64) : Int32 × MD := m_pr m c (m_pl c 8 0 0 false (decide (c = 0)))
theorem rW_papp {g : zG} {q : Nat → Nat} {M : MD} {v : Int32} : rW g q (m_slen (m_spad M (upd (m_pad M) (zn32 (m_len M)) v)) (m_len (m_spad M (upd (m_pad M) (zn32 (m_len M)) v)) + 1)) (m_row M) = rW g q (m_slen (m_spad M (upd (m_pad M) (zn32 (m_len M)) v)) (m_len M + 1)) (m_row (m_slen (m_spad M (upd (m_pad M) (zn32 (m_len M)) v)) (m_len M + 1))) := rfl
theorem m_len_in {v : Int32} {k : Nat} (h : zok v 80) (hk : zn32 v + (k + 1) ≤ 80) : vp_in v 80 ∧ zok (v + 1) 80 ∧ zn32 (v + 1) + k ≤ 80 := by
  have e : v + 1 = nI (zn32 v + 1) := by rw [nI_succ, ← h.1]
  have e2 : zn32 (v + 1) = zn32 v + 1 := by rw [e]; exact nI_clamp (by omega)
  refine ⟨?_, ?_, by omega⟩
  · rw [h.1]; exact vp_in_nI (by omega) (by decide)
  · rw [e]; exact zok_nI (by omega) (by decide)
theorem m_len_80 {v : Int32} {n : Nat} (h : zok v 80) (hn : n ≤ 8) (hk : v + nI n ≤ 80) : zn32 v + n ≤ 80 := by
  have := h.2
  rw [h.1, nI_add, show (80 : Int32) = nI 80 from rfl] at hk
  exact (nI_leI (by omega) (by decide)).mp hk
theorem m_pl_8 (c : Int64) : ∀ (f k n : Nat) (e b : Bool), n ≤ k → (m_pl c f k n e b).1 ≤ k + f
  | 0, k, n, e, b, h => h
  | f + 1, k, n, e, b, h => by
    rw [m_pl]
    have := m_pl_8 c f (k + 1) (m_pn n (m_pe c k e)) (m_pe c k e) (m_pb c k (m_pe c k e) b) (by unfold m_pn; split <;> omega)
    omega
set_option maxHeartbeats 1000000 in
set_option maxRecDepth 100000 in
theorem c_X6_put_lp2 {x : zX} {g : zG} {q : Nat → Nat} {c : Int64} (hn : zn x = 8) (C : zC x g RX6 cX6_put (some .int) 1) : ∀ (k : Nat) (M : MD), zok (m_len M) 80 → zn32 (m_len M) + k ≤ 80 → zR x g (zE (some (.int (m_len (m_papp c k M)))) (rW g q (m_papp c k M) (m_row (m_papp c k M)))) (0, 0) 142 [(6, .int (nI k - 1)), (0, .ref (q 0)), (1, .long c)] [] (rW g q M (m_row M)) := by
  intro k
  induction k with
  | zero =>
    intro M hM hk
    refine zR_iload C eX6_put_142 0 rfl ?_
    refine zR_iflt C eX6_put_144 (fun h144 => ?_) (fun h144 => ?_)
    · skip
      refine zR_aload_n C eX6_put_184 1 rfl rfl ?_
      refine zR_get C fX6_237 eX6_put_185 0 rW_g0 rfl ?_
      exact zR_iret C rfl rfl eX6_put_188 (Nat.zero_le _) (Nat.zero_le _) ⟨rfl, rfl⟩
    · skip
      exact absurd (by decide) h144
  | succ k ih =>
    intro M hM hk
    have hln := m_len_in hM hk
    have hk1 : nI (k + 1) - 1 = nI k := nI_pred k
    rw [hk1]
    refine zR_iload C eX6_put_142 0 rfl ?_
    refine zR_iflt C eX6_put_144 (fun h144 => ?_) (fun h144 => ?_)
    · skip
      exact absurd h144 (nI_pos (by omega))
    · skip
      refine zR_aload_n C eX6_put_147 1 rfl rfl ?_
      refine zR_get C fX6_17 eX6_put_148 0 rW_g0 rfl ?_
      refine zR_aload_n C eX6_put_151 1 rfl rfl ?_
      refine zR_get C fX6_237 eX6_put_152 0 rW_g0 rfl ?_
      refine zR_lload_n C eX6_put_155 2 rfl rfl ?_
      refine zR_bipush (v := 8) C eX6_put_156 (by decide) ?_
      refine zR_iload C eX6_put_158 0 rfl ?_
      refine zR_imul C eX6_put_160 ?_
      refine zR_lshr C eX6_put_161 ?_
      refine zR_ldc2 C qX6_246 eX6_put_162 ?_
      refine zR_land C eX6_put_165 ?_
      refine zR_l2i C eX6_put_166 rfl ?_
      refine zR_topi (b := m_pcode c k) rfl ?_
      refine zR_iast C eX6_put_167 3 rW_g3 hln.1 rW_s3 ?_
      refine zR_aload_n C eX6_put_168 1 rfl rfl ?_
      refine zR_dup C eX6_put_169 rfl ?_
      refine zR_get C fX6_237 eX6_put_170 0 rW_g0 rfl ?_
      refine zR_iconst (v := 1) C eX6_put_173 (by decide) ?_
      refine zR_iadd C eX6_put_174 ?_
      refine zR_put C pX6_237 eX6_put_175 0 rW_g0 (Nat.le_of_ble_eq_true rfl) rW_s0_5 ?_
      refine zR_ws (rW g q (m_slen (m_spad M (upd (m_pad M) (zn32 (m_len M)) (m_pcode c k))) (m_len M + 1)) (m_row (m_slen (m_spad M (upd (m_pad M) (zn32 (m_len M)) (m_pcode c k))) (m_len M + 1)))) rW_papp ?_
      refine zR_iinc (lv' := [(6, _), (0, _), (1, _)]) (v' := nI k - 1) C eX6_put_178 0 rfl (zdec (nI k)) (by rw [hn]; decide) rfl ?_
      refine zR_goto C eX6_put_181 ?_
      refine zR_lv [(6, _), (0, _), (1, _)] [0, 1, 2] rfl ?_
      exact ih _ hln.2.1 hln.2.2
set_option maxHeartbeats 2000000 in
set_option maxRecDepth 100000 in
theorem c_X6_put_lp1 {x : zX} {g : zG} {q : Nat → Nat} {m : MD} {c : Int64} (hl : zok (m_len m) 80) (hn : zn x = 8) (C : zC x g RX6 cX6_put (some .int) 1) : ∀ (f k n : Nat) (e b : Bool), k + f = 8 → n ≤ k → zR x g (zE (some (.int (m_pr m c (m_pl c f k n e b)).1)) (rW g q (m_pr m c (m_pl c f k n e b)).2 (m_row (m_pr m c (m_pl c f k n e b)).2))) (0, 0) 21 [(6, .int (nI k)), (5, .int (zB b)), (4, .int (zB e)), (3, .int (nI n)), (0, .ref (q 0)), (1, .long c)] [] (rW g q m (m_row m)) := by
  intro f
  induction f with
  | zero =>
    intro k n e b hk hnk
    have hk8 : k = 8 := by omega
    subst hk8
    rw [m_pl]
    refine zR_iload C eX6_put_21 0 rfl ?_
    refine zR_bipush (v := 8) C eX6_put_23 (by decide) ?_
    refine zR_icmp_ge C eX6_put_25 (fun h25 => ?_) (fun h25 => ?_)
    · skip
      refine zR_iload C eX6_put_115 1 rfl ?_
      refine zR_bfeq C eX6_put_117 (fun h117 => ?_) (fun h117 => ?_)
      · skip
        refine zR_aload_n C eX6_put_123 4 rfl rfl ?_
        refine zR_get C fX6_237 eX6_put_124 0 rW_g0 rfl ?_
        refine zR_iload_n C eX6_put_127 3 rfl rfl ?_
        refine zR_iadd C eX6_put_128 ?_
        refine zR_bipush (v := 80) C eX6_put_129 (by decide) ?_
        refine zR_icmp_le C eX6_put_131 (fun h131 => ?_) (fun h131 => ?_)
        · skip
          refine zR_iload_n C eX6_put_137 3 rfl rfl ?_
          refine zR_iconst (v := 1) C eX6_put_138 (by decide) ?_
          refine zR_isub C eX6_put_139 ?_
          refine zR_istore (lv' := [(6, _), (5, _), (4, _), (3, _), (0, _), (1, _)]) C eX6_put_140 (by rw [hn]; decide) rfl ?_
          have e1 : m_pr m c (n, b) = (m_len (m_papp c n m), m_papp c n m) := ((if_neg h117).trans (if_pos h131))
          rw [e1]
          refine zR_lv [(6, _), (0, _), (1, _)] [0, 4, 5] rfl ?_
          exact c_X6_put_lp2 hn C n m hl (m_len_80 hl hnk h131)
        · skip
          refine zR_bipush (v := -4) C eX6_put_134 (by decide) ?_
          exact zR_iret C rfl rfl eX6_put_136 (Nat.zero_le _) (Nat.zero_le _) ⟨by unfold m_pr; rw [if_neg h117, if_neg h131], by unfold m_pr; rw [if_neg h117, if_neg h131]⟩
      · skip
        refine zR_bipush (v := -2) C eX6_put_120 (by decide) ?_
        exact zR_iret C rfl rfl eX6_put_122 (Nat.zero_le _) (Nat.zero_le _) ⟨by unfold m_pr; rw [if_pos h117], by unfold m_pr; rw [if_pos h117]⟩
    · skip
      exact absurd h25 (by decide)
  | succ f ih =>
    intro k n e b hk hnk
    rw [m_pl]
    refine zR_iload C eX6_put_21 0 rfl ?_
    refine zR_bipush (v := 8) C eX6_put_23 (by decide) ?_
    refine zR_icmp_ge C eX6_put_25 (fun h25 => ?_) (fun h25 => ?_)
    · skip
      exact absurd (nI_lt (a := k) (b := 8) (by omega) (by decide)) h25
    · skip
      refine zR_lload_n C eX6_put_28 5 rfl rfl ?_
      refine zR_bipush (v := 8) C eX6_put_29 (by decide) ?_
      refine zR_iload C eX6_put_31 0 rfl ?_
      refine zR_imul C eX6_put_33 ?_
      refine zR_lshr C eX6_put_34 ?_
      refine zR_ldc2 C qX6_246 eX6_put_35 ?_
      refine zR_land C eX6_put_38 ?_
      refine zR_l2i C eX6_put_39 rfl ?_
      refine zR_topi (b := m_pcode c k) rfl ?_
      refine zR_istore (lv' := [(7, _), (6, _), (5, _), (4, _), (3, _), (0, _), (1, _)]) C eX6_put_40 (by rw [hn]; decide) rfl ?_
      refine zR_iload C eX6_put_42 3 rfl ?_
      refine zR_bfne C eX6_put_44 (fun h44 => ?_) (fun h44 => ?_)
      · skip
        refine zR_iconst (v := 1) C eX6_put_52 (by decide) ?_
        refine zR_goto C eX6_put_53 ?_
        refine zR_istore (lv' := [(4, _), (7, _), (6, _), (5, _), (3, _), (0, _), (1, _)]) C eX6_put_57 (by rw [hn]; decide) rfl ?_
        refine zR_iload C eX6_put_59 3 rfl ?_
        refine zR_bfne C eX6_put_61 (fun h61 => ?_) (fun h61 => ?_)
        · skip
          refine zR_iconst (v := 1) C eX6_put_89 (by decide) ?_
          refine zR_goto C eX6_put_90 ?_
          refine zR_istore (lv' := [(5, _), (4, _), (7, _), (6, _), (3, _), (0, _), (1, _)]) C eX6_put_94 (by rw [hn]; decide) rfl ?_
          refine zR_iload_n C eX6_put_96 4 rfl rfl ?_
          refine zR_iload C eX6_put_97 1 rfl ?_
          refine zR_ifeq_f C eX6_put_99 (by decide) ?_
          refine zR_iconst (v := 0) C eX6_put_102 (by decide) ?_
          refine zR_goto C eX6_put_103 ?_
          refine zR_iadd C eX6_put_107 ?_
          refine zR_topi (b := nI n) (Int32.add_zero _) ?_
          refine zR_istore_n (lv' := [(3, _), (5, _), (4, _), (7, _), (6, _), (0, _), (1, _)]) C eX6_put_108 rfl (by rw [hn]; decide) rfl ?_
          refine zR_iinc (lv' := [(6, _), (3, _), (5, _), (4, _), (7, _), (0, _), (1, _)]) (v' := nI (k + 1)) C eX6_put_109 4 rfl (zinc k) (by rw [hn]; decide) rfl ?_
          refine zR_goto C eX6_put_112 ?_
          have e1 : m_pe c k e = true := (if_pos h44)
          rw [e1]
          have e2 : m_pb c k true b = true := by unfold m_pb; rw [if_pos h61]
          rw [e2]
          have e3 : m_pn n true = n := rfl
          rw [e3]
          refine zR_lv [(6, _), (5, .int (zB true)), (4, .int (zB true)), (3, _), (0, _), (1, _)] [0, 2, 3, 1, 5, 6] rfl ?_
          exact ih (k + 1) _ true true (by omega) (by omega)
        · skip
          refine zR_iload C eX6_put_64 1 rfl ?_
          refine zR_ifeq C eX6_put_66 (fun h66 => ?_) (fun h66 => ?_)
          · skip
            refine zR_iconst (v := 0) C eX6_put_93 (by decide) ?_
            refine zR_istore (lv' := [(5, _), (4, _), (7, _), (6, _), (3, _), (0, _), (1, _)]) C eX6_put_94 (by rw [hn]; decide) rfl ?_
            refine zR_iload_n C eX6_put_96 4 rfl rfl ?_
            refine zR_iload C eX6_put_97 1 rfl ?_
            refine zR_ifeq_f C eX6_put_99 (by decide) ?_
            refine zR_iconst (v := 0) C eX6_put_102 (by decide) ?_
            refine zR_goto C eX6_put_103 ?_
            refine zR_iadd C eX6_put_107 ?_
            refine zR_topi (b := nI n) (Int32.add_zero _) ?_
            refine zR_istore_n (lv' := [(3, _), (5, _), (4, _), (7, _), (6, _), (0, _), (1, _)]) C eX6_put_108 rfl (by rw [hn]; decide) rfl ?_
            refine zR_iinc (lv' := [(6, _), (3, _), (5, _), (4, _), (7, _), (0, _), (1, _)]) (v' := nI (k + 1)) C eX6_put_109 4 rfl (zinc k) (by rw [hn]; decide) rfl ?_
            refine zR_goto C eX6_put_112 ?_
            have e1 : m_pe c k e = true := (if_pos h44)
            rw [e1]
            have e2 : m_pb c k true b = false := by unfold m_pb; rw [if_neg h61, if_pos h66]
            rw [e2]
            have e3 : m_pn n true = n := rfl
            rw [e3]
            refine zR_lv [(6, _), (5, .int (zB false)), (4, .int (zB true)), (3, _), (0, _), (1, _)] [0, 2, 3, 1, 5, 6] rfl ?_
            exact ih (k + 1) _ true false (by omega) (by omega)
          · skip
            refine zR_iload C eX6_put_69 0 rfl ?_
            refine zR_ifne_t C eX6_put_71 (by decide) ?_
            refine zR_iconst (v := 1) C eX6_put_89 (by decide) ?_
            refine zR_goto C eX6_put_90 ?_
            refine zR_istore (lv' := [(5, _), (4, _), (7, _), (6, _), (3, _), (0, _), (1, _)]) C eX6_put_94 (by rw [hn]; decide) rfl ?_
            refine zR_iload_n C eX6_put_96 4 rfl rfl ?_
            refine zR_iload C eX6_put_97 1 rfl ?_
            refine zR_ifeq_f C eX6_put_99 (by decide) ?_
            refine zR_iconst (v := 0) C eX6_put_102 (by decide) ?_
            refine zR_goto C eX6_put_103 ?_
            refine zR_iadd C eX6_put_107 ?_
            refine zR_topi (b := nI n) (Int32.add_zero _) ?_
            refine zR_istore_n (lv' := [(3, _), (5, _), (4, _), (7, _), (6, _), (0, _), (1, _)]) C eX6_put_108 rfl (by rw [hn]; decide) rfl ?_
            refine zR_iinc (lv' := [(6, _), (3, _), (5, _), (4, _), (7, _), (0, _), (1, _)]) (v' := nI (k + 1)) C eX6_put_109 4 rfl (zinc k) (by rw [hn]; decide) rfl ?_
            refine zR_goto C eX6_put_112 ?_
            have e1 : m_pe c k e = true := (if_pos h44)
            rw [e1]
            have e2 : m_pb c k true b = true := by unfold m_pb; rw [if_neg h61, if_neg h66] <;> rfl
            rw [e2]
            have e3 : m_pn n true = n := rfl
            rw [e3]
            refine zR_lv [(6, _), (5, .int (zB true)), (4, .int (zB true)), (3, _), (0, _), (1, _)] [0, 2, 3, 1, 5, 6] rfl ?_
            exact ih (k + 1) _ true true (by omega) (by omega)
      · skip
        refine zR_iload C eX6_put_47 0 rfl ?_
        refine zR_ifne C eX6_put_49 (fun h49 => ?_) (fun h49 => ?_)
        · skip
          refine zR_iconst (v := 0) C eX6_put_56 (by decide) ?_
          refine zR_istore (lv' := [(4, _), (7, _), (6, _), (5, _), (3, _), (0, _), (1, _)]) C eX6_put_57 (by rw [hn]; decide) rfl ?_
          refine zR_iload C eX6_put_59 3 rfl ?_
          refine zR_bfne C eX6_put_61 (fun h61 => ?_) (fun h61 => ?_)
          · skip
            refine zR_iconst (v := 1) C eX6_put_89 (by decide) ?_
            refine zR_goto C eX6_put_90 ?_
            refine zR_istore (lv' := [(5, _), (4, _), (7, _), (6, _), (3, _), (0, _), (1, _)]) C eX6_put_94 (by rw [hn]; decide) rfl ?_
            refine zR_iload_n C eX6_put_96 4 rfl rfl ?_
            refine zR_iload C eX6_put_97 1 rfl ?_
            refine zR_ifeq_t C eX6_put_99 (by decide) ?_
            refine zR_iconst (v := 1) C eX6_put_106 (by decide) ?_
            refine zR_iadd C eX6_put_107 ?_
            refine zR_topi (b := nI (n + 1)) (nI_1 n) ?_
            refine zR_istore_n (lv' := [(3, _), (5, _), (4, _), (7, _), (6, _), (0, _), (1, _)]) C eX6_put_108 rfl (by rw [hn]; decide) rfl ?_
            refine zR_iinc (lv' := [(6, _), (3, _), (5, _), (4, _), (7, _), (0, _), (1, _)]) (v' := nI (k + 1)) C eX6_put_109 4 rfl (zinc k) (by rw [hn]; decide) rfl ?_
            refine zR_goto C eX6_put_112 ?_
            have e1 : m_pe c k e = false := ((if_neg h44).trans (if_neg h49))
            rw [e1]
            have e2 : m_pb c k false b = true := by unfold m_pb; rw [if_pos h61]
            rw [e2]
            have e3 : m_pn n false = n + 1 := rfl
            rw [e3]
            refine zR_lv [(6, _), (5, .int (zB true)), (4, .int (zB false)), (3, _), (0, _), (1, _)] [0, 2, 3, 1, 5, 6] rfl ?_
            exact ih (k + 1) _ false true (by omega) (by omega)
          · skip
            refine zR_iload C eX6_put_64 1 rfl ?_
            refine zR_ifeq C eX6_put_66 (fun h66 => ?_) (fun h66 => ?_)
            · skip
              exact absurd h66 h49
            · skip
              refine zR_iload C eX6_put_69 0 rfl ?_
              refine zR_ifne_f C eX6_put_71 (by decide) ?_
              refine zR_iload C eX6_put_74 1 rfl ?_
              refine zR_i2l C eX6_put_76 ?_
              refine zR_ldc2 C qX6_248 eX6_put_77 ?_
              refine zR_ldc2 C qX6_250 eX6_put_80 ?_
              refine zR_callS1 C kX6_56 eX6_put_83 (c_X6_in _ _ _ ) rfl rfl (by decide) (by decide) (Nat.le_of_ble_eq_true rfl) (Nat.zero_le _) (Nat.zero_le _) ?_
              refine zR_bfne C eX6_put_86 (fun h86 => ?_) (fun h86 => ?_)
              · skip
                refine zR_iconst (v := 0) C eX6_put_93 (by decide) ?_
                refine zR_istore (lv' := [(5, _), (4, _), (7, _), (6, _), (3, _), (0, _), (1, _)]) C eX6_put_94 (by rw [hn]; decide) rfl ?_
                refine zR_iload_n C eX6_put_96 4 rfl rfl ?_
                refine zR_iload C eX6_put_97 1 rfl ?_
                refine zR_ifeq_t C eX6_put_99 (by decide) ?_
                refine zR_iconst (v := 1) C eX6_put_106 (by decide) ?_
                refine zR_iadd C eX6_put_107 ?_
                refine zR_topi (b := nI (n + 1)) (nI_1 n) ?_
                refine zR_istore_n (lv' := [(3, _), (5, _), (4, _), (7, _), (6, _), (0, _), (1, _)]) C eX6_put_108 rfl (by rw [hn]; decide) rfl ?_
                refine zR_iinc (lv' := [(6, _), (3, _), (5, _), (4, _), (7, _), (0, _), (1, _)]) (v' := nI (k + 1)) C eX6_put_109 4 rfl (zinc k) (by rw [hn]; decide) rfl ?_
                refine zR_goto C eX6_put_112 ?_
                have e1 : m_pe c k e = false := ((if_neg h44).trans (if_neg h49))
                rw [e1]
                have e2 : m_pb c k false b = false := by unfold m_pb; rw [if_neg h61, if_neg h66]; rw [if_neg (by decide), if_pos h86]
                rw [e2]
                have e3 : m_pn n false = n + 1 := rfl
                rw [e3]
                refine zR_lv [(6, _), (5, .int (zB false)), (4, .int (zB false)), (3, _), (0, _), (1, _)] [0, 2, 3, 1, 5, 6] rfl ?_
                exact ih (k + 1) _ false false (by omega) (by omega)
              · skip
                refine zR_iconst (v := 1) C eX6_put_89 (by decide) ?_
                refine zR_goto C eX6_put_90 ?_
                refine zR_istore (lv' := [(5, _), (4, _), (7, _), (6, _), (3, _), (0, _), (1, _)]) C eX6_put_94 (by rw [hn]; decide) rfl ?_
                refine zR_iload_n C eX6_put_96 4 rfl rfl ?_
                refine zR_iload C eX6_put_97 1 rfl ?_
                refine zR_ifeq_t C eX6_put_99 (by decide) ?_
                refine zR_iconst (v := 1) C eX6_put_106 (by decide) ?_
                refine zR_iadd C eX6_put_107 ?_
                refine zR_topi (b := nI (n + 1)) (nI_1 n) ?_
                refine zR_istore_n (lv' := [(3, _), (5, _), (4, _), (7, _), (6, _), (0, _), (1, _)]) C eX6_put_108 rfl (by rw [hn]; decide) rfl ?_
                refine zR_iinc (lv' := [(6, _), (3, _), (5, _), (4, _), (7, _), (0, _), (1, _)]) (v' := nI (k + 1)) C eX6_put_109 4 rfl (zinc k) (by rw [hn]; decide) rfl ?_
                refine zR_goto C eX6_put_112 ?_
                have e1 : m_pe c k e = false := ((if_neg h44).trans (if_neg h49))
                rw [e1]
                have e2 : m_pb c k false b = true := by unfold m_pb; rw [if_neg h61, if_neg h66]; rw [if_neg (by decide), if_neg h86]
                rw [e2]
                have e3 : m_pn n false = n + 1 := rfl
                rw [e3]
                refine zR_lv [(6, _), (5, .int (zB true)), (4, .int (zB false)), (3, _), (0, _), (1, _)] [0, 2, 3, 1, 5, 6] rfl ?_
                exact ih (k + 1) _ false true (by omega) (by omega)
        · skip
          refine zR_iconst (v := 1) C eX6_put_52 (by decide) ?_
          refine zR_goto C eX6_put_53 ?_
          refine zR_istore (lv' := [(4, _), (7, _), (6, _), (5, _), (3, _), (0, _), (1, _)]) C eX6_put_57 (by rw [hn]; decide) rfl ?_
          refine zR_iload C eX6_put_59 3 rfl ?_
          refine zR_bfne C eX6_put_61 (fun h61 => ?_) (fun h61 => ?_)
          · skip
            refine zR_iconst (v := 1) C eX6_put_89 (by decide) ?_
            refine zR_goto C eX6_put_90 ?_
            refine zR_istore (lv' := [(5, _), (4, _), (7, _), (6, _), (3, _), (0, _), (1, _)]) C eX6_put_94 (by rw [hn]; decide) rfl ?_
            refine zR_iload_n C eX6_put_96 4 rfl rfl ?_
            refine zR_iload C eX6_put_97 1 rfl ?_
            refine zR_ifeq_f C eX6_put_99 (by decide) ?_
            refine zR_iconst (v := 0) C eX6_put_102 (by decide) ?_
            refine zR_goto C eX6_put_103 ?_
            refine zR_iadd C eX6_put_107 ?_
            refine zR_topi (b := nI n) (Int32.add_zero _) ?_
            refine zR_istore_n (lv' := [(3, _), (5, _), (4, _), (7, _), (6, _), (0, _), (1, _)]) C eX6_put_108 rfl (by rw [hn]; decide) rfl ?_
            refine zR_iinc (lv' := [(6, _), (3, _), (5, _), (4, _), (7, _), (0, _), (1, _)]) (v' := nI (k + 1)) C eX6_put_109 4 rfl (zinc k) (by rw [hn]; decide) rfl ?_
            refine zR_goto C eX6_put_112 ?_
            have e1 : m_pe c k e = true := ((if_neg h44).trans (if_pos h49))
            rw [e1]
            have e2 : m_pb c k true b = true := by unfold m_pb; rw [if_pos h61]
            rw [e2]
            have e3 : m_pn n true = n := rfl
            rw [e3]
            refine zR_lv [(6, _), (5, .int (zB true)), (4, .int (zB true)), (3, _), (0, _), (1, _)] [0, 2, 3, 1, 5, 6] rfl ?_
            exact ih (k + 1) _ true true (by omega) (by omega)
          · skip
            refine zR_iload C eX6_put_64 1 rfl ?_
            refine zR_ifeq C eX6_put_66 (fun h66 => ?_) (fun h66 => ?_)
            · skip
              refine zR_iconst (v := 0) C eX6_put_93 (by decide) ?_
              refine zR_istore (lv' := [(5, _), (4, _), (7, _), (6, _), (3, _), (0, _), (1, _)]) C eX6_put_94 (by rw [hn]; decide) rfl ?_
              refine zR_iload_n C eX6_put_96 4 rfl rfl ?_
              refine zR_iload C eX6_put_97 1 rfl ?_
              refine zR_ifeq_f C eX6_put_99 (by decide) ?_
              refine zR_iconst (v := 0) C eX6_put_102 (by decide) ?_
              refine zR_goto C eX6_put_103 ?_
              refine zR_iadd C eX6_put_107 ?_
              refine zR_topi (b := nI n) (Int32.add_zero _) ?_
              refine zR_istore_n (lv' := [(3, _), (5, _), (4, _), (7, _), (6, _), (0, _), (1, _)]) C eX6_put_108 rfl (by rw [hn]; decide) rfl ?_
              refine zR_iinc (lv' := [(6, _), (3, _), (5, _), (4, _), (7, _), (0, _), (1, _)]) (v' := nI (k + 1)) C eX6_put_109 4 rfl (zinc k) (by rw [hn]; decide) rfl ?_
              refine zR_goto C eX6_put_112 ?_
              have e1 : m_pe c k e = true := ((if_neg h44).trans (if_pos h49))
              rw [e1]
              have e2 : m_pb c k true b = false := by unfold m_pb; rw [if_neg h61, if_pos h66]
              rw [e2]
              have e3 : m_pn n true = n := rfl
              rw [e3]
              refine zR_lv [(6, _), (5, .int (zB false)), (4, .int (zB true)), (3, _), (0, _), (1, _)] [0, 2, 3, 1, 5, 6] rfl ?_
              exact ih (k + 1) _ true false (by omega) (by omega)
            · skip
              exact absurd h49 h66
set_option maxHeartbeats 1000000 in
set_option maxRecDepth 100000 in
theorem c_X6_put {l : Launch} {g : zG} (q : Nat → Nat) (m : MD) (c : Int64) (hl : zok (m_len m) 80) : zM l g yX6_put cX6_put 8 (some .int) 1 0 0 [.ref (q 0), .long c] (rW g q m (m_row m)) (zE (some (.int (m_put m c).1)) (rW g q ((m_put m c).2) (m_row ((m_put m c).2)))) := by
  refine zM_of (by decide +kernel) (Nat.le_of_ble_eq_true rfl) (fun x hl hn _ _ _ C => ?_)
  subst hl
  show zR x g _ (0, 0) 0 [(0, .ref (q 0)), (1, .long c)] [] _
  refine zR_iconst (v := 0) C eX6_put_0 (by decide) ?_
  refine zR_istore_n (lv' := [(3, _), (0, _), (1, _)]) C eX6_put_1 rfl (by rw [hn]; decide) rfl ?_
  refine zR_iconst (v := 0) C eX6_put_2 (by decide) ?_
  refine zR_istore (lv' := [(4, _), (3, _), (0, _), (1, _)]) C eX6_put_3 (by rw [hn]; decide) rfl ?_
  refine zR_lload_n C eX6_put_5 3 rfl rfl ?_
  refine zR_lconst (v := 0) C eX6_put_6 (by decide) ?_
  refine zR_cifne C eX6_put_7 eX6_put_8 (fun h7 => ?_) (fun h7 => ?_)
  · skip
    refine zR_iconst (v := 0) C eX6_put_15 (by decide) ?_
    refine zR_istore (lv' := [(5, _), (4, _), (3, _), (0, _), (1, _)]) C eX6_put_16 (by rw [hn]; decide) rfl ?_
    refine zR_iconst (v := 0) C eX6_put_18 (by decide) ?_
    refine zR_istore (lv' := [(6, _), (5, _), (4, _), (3, _), (0, _), (1, _)]) C eX6_put_19 (by rw [hn]; decide) rfl ?_
    have e0 : decide (c = 0) = false := decide_eq_false h7
    unfold m_put
    rw [e0]
    refine zR_lv [(6, .int (nI 0)), (5, .int (zB false)), (4, .int (zB false)), (3, .int (nI 0)), (0, _), (1, _)] [0, 1, 2, 3, 4, 5] rfl ?_
    exact c_X6_put_lp1 hl hn C 8 0 0 false false (by decide) (Nat.le_refl _)
  · skip
    refine zR_iconst (v := 1) C eX6_put_11 (by decide) ?_
    refine zR_goto C eX6_put_12 ?_
    refine zR_istore (lv' := [(5, _), (4, _), (3, _), (0, _), (1, _)]) C eX6_put_16 (by rw [hn]; decide) rfl ?_
    refine zR_iconst (v := 0) C eX6_put_18 (by decide) ?_
    refine zR_istore (lv' := [(6, _), (5, _), (4, _), (3, _), (0, _), (1, _)]) C eX6_put_19 (by rw [hn]; decide) rfl ?_
    have e0 : decide (c = 0) = true := decide_eq_true h7
    unfold m_put
    rw [e0]
    refine zR_lv [(6, .int (nI 0)), (5, .int (zB true)), (4, .int (zB false)), (3, .int (nI 0)), (0, _), (1, _)] [0, 1, 2, 3, 4, 5] rfl ?_
    exact c_X6_put_lp1 hl hn C 8 0 0 false true (by decide) (Nat.le_refl _)
