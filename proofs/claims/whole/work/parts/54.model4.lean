/-! The reference: the walks, fourth part: plans, windows, hours. -/
theorem rW_full {g : zG} {q : Nat → Nat} {m : MD} {r : RW} : rW g q m r = rW g q (m_srow m r) (m_row (m_srow m r)) := rfl
theorem vp_uLo {f : RW} {i j : Nat} {v : Int64} (h : i ≠ j) : vp_updL f i v j = f j := pk_uLn (fun e => h e.symm)
theorem r_add_o {r : RW} {i j : Nat} {v : Int64} (h : i ≠ j) : r_add r i v j = r j := vp_uLo h
theorem r_sett_o {r : RW} {s j : Nat} (hs : s < 8) (hj : j < 14 ∨ 134 ≤ j) : r_sett r s j = r j := by
  unfold r_sett; split
  · split
    · rw [vp_uLo (by omega), r_add_o (by omega)]
    · rw [vp_uLo (by omega), r_add_o (by omega)]
  · split
    · rfl
    · rw [vp_uLo (by omega)]
theorem r_change_o {r : RW} {s j : Nat} {b : Int64} (hs : s < 8) (hj : j < 14 ∨ 134 ≤ j) : r_change r s b j = r j := by
  unfold r_change; rw [r_sett_o hs hj, r_add_o (by omega)]
theorem r_spend_o {r : RW} {s j : Nat} {b : Int64} (hs : s < 8) (hj : j < 14 ∨ 134 ≤ j) : r_spend r s b j = r j := by
  unfold r_spend; rw [r_change_o hs hj, r_add_o (by omega), r_add_o (by omega)]
theorem r_grant_o {r : RW} {s j : Nat} (hs : s < 8) (hj : j < 14 ∨ 134 ≤ j) : r_grant r s j = r j := by
  unfold r_grant r_grant2 r_ex; rw [r_change_o hs hj, vp_uLo (by omega), r_add_o (by omega), r_add_o (by omega)]
theorem r_bwg_o {r : RW} {j : Nat} : ∀ {n : Nat}, n ≤ 8 → j < 14 ∨ 134 ≤ j → r_bwg r n j = r_bw0 r j
  | 0, _, _ => rfl
  | n + 1, h, hj => (r_grant_o (by omega) hj).trans (r_bwg_o (n := n) (by omega) hj)
def r_wgood : Nat → RW → Prop
  | 0, r => zokl (r 12) 40 ∧ r_nextL r = -6
  | k + 1, r => zokl (r 12) 40 ∧ (¬ r_nextL r = -6 → zinl (r (134 + 5 * zn32 (r_nextL r) + 0)) 8 ∧ zinl (r (134 + 5 * zn32 (r_nextL r) + 1)) 8 ∧ zokl (r_wlstep r (zn32 (r_nextL r)) 12) 40 ∧ r_wgood k (r_wlstep r (zn32 (r_nextL r))))
theorem r_wgood_k {k : Nat} {r : RW} (h : r_wgood k r) : zokl (r 12) 40 := by
  cases k with
  | zero => exact h.1
  | succ k => exact h.1
def r_bgood (r : RW) : Prop := zokl (r 11) 8 ∧ r_wgood 40 (r_bwg r (zn64 (r 11)))
set_option maxHeartbeats 4000000 in
set_option maxRecDepth 100000 in
theorem c_X6_beginWindow_w {x : zX} {g : zG} {q : Nat → Nat} {m : MD} (hn : zn x = 4) (C : zC x g RX6 cX6_beginWindow none 5) : ∀ (k : Nat) (r : RW), r_wgood k r → zR x g (zE none (rW g q m (r_clear (r_wloop k r)))) (0, 0) 56 [(1, .int (r_nextL r)), (0, .ref (q 0))] [] (rW g q m r) := by
  intro k
  induction k with
  | zero =>
    intro r hw
    refine zR_iload_n C eX6_beginWindow_56 0 rfl rfl ?_
    refine zR_bipush (v := -6) C eX6_beginWindow_57 (by decide) ?_
    refine zR_icmp_eq C eX6_beginWindow_59 (fun h59 => ?_) (fun h59 => ?_)
    · skip
      have hk := r_wgood_k hw
      refine zR_aload_n C eX6_beginWindow_145 1 rfl rfl ?_
      refine zR_callVv C kX6_165 eX6_beginWindow_146 (c_X6_clearLoans q _ _ hk) rfl 0 6 rW_g0 rfl rfl _ rW_c rW_n rfl (by decide) (by decide) (Nat.le_of_ble_eq_true rfl) (Nat.zero_le _) (Nat.zero_le _) rW_f rW_r ?_
      have e1 : r_wloop 0 r = r := rfl
      exact zR_vret C rfl eX6_beginWindow_149 (Nat.zero_le _) (Nat.zero_le _) ⟨rfl, by rw [e1]⟩
    · skip
      exact absurd hw.2 h59
  | succ k ih =>
    intro r hw
    have hk := hw.1
    refine zR_iload_n C eX6_beginWindow_56 0 rfl rfl ?_
    refine zR_bipush (v := -6) C eX6_beginWindow_57 (by decide) ?_
    refine zR_icmp_eq C eX6_beginWindow_59 (fun h59 => ?_) (fun h59 => ?_)
    · skip
      have hk := r_wgood_k hw
      refine zR_aload_n C eX6_beginWindow_145 1 rfl rfl ?_
      refine zR_callVv C kX6_165 eX6_beginWindow_146 (c_X6_clearLoans q _ _ hk) rfl 0 6 rW_g0 rfl rfl _ rW_c rW_n rfl (by decide) (by decide) (Nat.le_of_ble_eq_true rfl) (Nat.zero_le _) (Nat.zero_le _) rW_f rW_r ?_
      have e1 : r_wloop (k + 1) r = r := if_pos h59
      exact zR_vret C rfl eX6_beginWindow_149 (Nat.zero_le _) (Nat.zero_le _) ⟨rfl, by rw [e1]⟩
    · skip
      have hv := z6_in (n := 40) (r_nl_in r _) h59 hk.2 (by decide)
      obtain ⟨ha, hb, hc, hg⟩ := hw.2 h59
      have hw2 : r_wloop (k + 1) r = r_wloop k (r_wlstep r (zn32 (r_nextL r))) := if_neg h59
      obtain ⟨l0, hl0⟩ : ∃ l0, l0 = zn32 (r_nextL r) := ⟨_, rfl⟩
      have hl : l0 < 40 := by rw [hl0]; exact vp_lt hv.1 (by decide)
      have el : r_nextL r = nI l0 := by rw [hl0]; exact hv.2.2
      rw [← hl0] at ha hb hc hg hw2
      rw [hw2]
      refine zR_lv [(1, .int (nI l0)), (0, _)] [0, 1] (by rw [← el] <;> rfl) ?_
      refine zR_aload_n C eX6_beginWindow_62 1 rfl rfl ?_
      refine zR_iload_n C eX6_beginWindow_63 0 rfl rfl ?_
      refine zR_callVv C kX6_161 eX6_beginWindow_64 (c_X6_pay q _ _ _ hl ha hb) rfl 0 6 rW_g0 rfl rfl _ rW_c rW_n rfl (by decide) (by decide) (Nat.le_of_ble_eq_true rfl) (Nat.zero_le _) (Nat.zero_le _) rW_f rW_r ?_
      refine zR_aload_n C eX6_beginWindow_67 1 rfl rfl ?_
      refine zR_get C fX6_7 eX6_beginWindow_68 0 rW_g0 rfl ?_
      refine zR_iload_n C eX6_beginWindow_71 0 rfl rfl ?_
      refine zR_iconst (v := 3) C eX6_beginWindow_72 (by decide) ?_
      refine zR_callS1 C kX6_138 eX6_beginWindow_73 (c_X6_ofLoanAtN _ 3 hl (by decide)) rfl rfl (by decide) (by decide) (Nat.le_of_ble_eq_true rfl) (Nat.zero_le _) (Nat.zero_le _) ?_
      refine zR_laldN C eX6_beginWindow_76 1 rW_g1 ⟨by omega, by decide⟩ ?_
      refine zR_lstore_n (lv' := [(2, _), (1, _), (0, _)]) C eX6_beginWindow_77 rfl (by rw [hn]; decide) rfl ?_
      refine zR_lload_n C eX6_beginWindow_78 0 rfl rfl ?_
      refine zR_lload_n C eX6_beginWindow_79 0 rfl rfl ?_
      refine zR_aload_n C eX6_beginWindow_80 2 rfl rfl ?_
      refine zR_get C fX6_7 eX6_beginWindow_81 0 rW_g0 rfl ?_
      refine zR_iconst (v := 4) C eX6_beginWindow_84 (by decide) ?_
      refine zR_laldK C eX6_beginWindow_85 1 rW_g1 4 rfl (vp_in_iff.mpr (by decide)) ?_
      refine zR_lmul C eX6_beginWindow_86 ?_
      refine zR_ldc2 C qX6_80 eX6_beginWindow_87 ?_
      refine zR_ldiv C eX6_beginWindow_90 (by decide) ?_
      refine zR_ladd C eX6_beginWindow_91 ?_
      refine zR_lstore_n (lv' := [(2, _), (1, _), (0, _)]) C eX6_beginWindow_92 rfl (by rw [hn]; decide) rfl ?_
      refine zR_aload_n C eX6_beginWindow_93 2 rfl rfl ?_
      refine zR_get C fX6_7 eX6_beginWindow_94 0 rW_g0 rfl ?_
      refine zR_iload_n C eX6_beginWindow_97 1 rfl rfl ?_
      refine zR_iconst (v := 3) C eX6_beginWindow_98 (by decide) ?_
      refine zR_callS1 C kX6_138 eX6_beginWindow_99 (c_X6_ofLoanAtN _ 3 hl (by decide)) rfl rfl (by decide) (by decide) (Nat.le_of_ble_eq_true rfl) (Nat.zero_le _) (Nat.zero_le _) ?_
      refine zR_lload_n C eX6_beginWindow_102 0 rfl rfl ?_
      refine zR_ldc2 C qX6_206 eX6_beginWindow_103 ?_
      refine zR_cifge C eX6_beginWindow_106 eX6_beginWindow_107 (fun h106 => ?_) (fun h106 => ?_)
      · skip
        refine zR_ldc2 C qX6_206 eX6_beginWindow_114 ?_
        refine zR_topl (b := if r_grown (r_pay r l0) l0 < 10000000 then r_grown (r_pay r l0) l0 else 10000000) (if_neg h106).symm ?_
        refine zR_lastN C eX6_beginWindow_117 1 rW_g1 ⟨by omega, by decide⟩ rW_s1 ?_
        refine zR_ws (rW g q m (r_wl1 (r_pay r l0) l0)) rfl ?_
        refine zR_aload_n C eX6_beginWindow_118 2 rfl rfl ?_
        refine zR_get C fX6_7 eX6_beginWindow_119 0 rW_g0 rfl ?_
        refine zR_iload_n C eX6_beginWindow_122 1 rfl rfl ?_
        refine zR_iconst (v := 4) C eX6_beginWindow_123 (by decide) ?_
        refine zR_callS1 C kX6_138 eX6_beginWindow_124 (c_X6_ofLoanAtN _ 4 hl (by decide)) rfl rfl (by decide) (by decide) (Nat.le_of_ble_eq_true rfl) (Nat.zero_le _) (Nat.zero_le _) ?_
        refine zR_aload_n C eX6_beginWindow_127 2 rfl rfl ?_
        refine zR_get C fX6_7 eX6_beginWindow_128 0 rW_g0 rfl ?_
        refine zR_bipush (v := 9) C eX6_beginWindow_131 (by decide) ?_
        refine zR_laldK C eX6_beginWindow_133 1 rW_g1 9 rfl (vp_in_iff.mpr (by decide)) ?_
        refine zR_lconst (v := 1) C eX6_beginWindow_134 (by decide) ?_
        refine zR_ladd C eX6_beginWindow_135 ?_
        refine zR_lastN C eX6_beginWindow_136 1 rW_g1 ⟨by omega, by decide⟩ rW_s1 ?_
        refine zR_ws (rW g q m (r_wlstep r l0)) rfl ?_
        refine zR_aload_n C eX6_beginWindow_137 2 rfl rfl ?_
        refine zR_callV1 C kX6_203 eX6_beginWindow_138 (c_X6_nextLoan q _ _ hc) rfl 0 6 rW_g0 rfl rfl _ rW_c rW_n rfl (by decide) (by decide) (Nat.le_of_ble_eq_true rfl) (Nat.zero_le _) (Nat.zero_le _) rW_f rW_r ?_
        refine zR_istore_n (lv' := [(1, _), (2, _), (0, _)]) C eX6_beginWindow_141 rfl (by rw [hn]; decide) rfl ?_
        refine zR_goto C eX6_beginWindow_142 ?_
        refine zR_lv [(1, _), (0, _)] [0, 2] rfl ?_
        exact ih _ hg
      · skip
        refine zR_lload_n C eX6_beginWindow_110 0 rfl rfl ?_
        refine zR_goto C eX6_beginWindow_111 ?_
        refine zR_topl (b := if r_grown (r_pay r l0) l0 < 10000000 then r_grown (r_pay r l0) l0 else 10000000) (if_pos h106).symm ?_
        refine zR_lastN C eX6_beginWindow_117 1 rW_g1 ⟨by omega, by decide⟩ rW_s1 ?_
        refine zR_ws (rW g q m (r_wl1 (r_pay r l0) l0)) rfl ?_
        refine zR_aload_n C eX6_beginWindow_118 2 rfl rfl ?_
        refine zR_get C fX6_7 eX6_beginWindow_119 0 rW_g0 rfl ?_
        refine zR_iload_n C eX6_beginWindow_122 1 rfl rfl ?_
        refine zR_iconst (v := 4) C eX6_beginWindow_123 (by decide) ?_
        refine zR_callS1 C kX6_138 eX6_beginWindow_124 (c_X6_ofLoanAtN _ 4 hl (by decide)) rfl rfl (by decide) (by decide) (Nat.le_of_ble_eq_true rfl) (Nat.zero_le _) (Nat.zero_le _) ?_
        refine zR_aload_n C eX6_beginWindow_127 2 rfl rfl ?_
        refine zR_get C fX6_7 eX6_beginWindow_128 0 rW_g0 rfl ?_
        refine zR_bipush (v := 9) C eX6_beginWindow_131 (by decide) ?_
        refine zR_laldK C eX6_beginWindow_133 1 rW_g1 9 rfl (vp_in_iff.mpr (by decide)) ?_
        refine zR_lconst (v := 1) C eX6_beginWindow_134 (by decide) ?_
        refine zR_ladd C eX6_beginWindow_135 ?_
        refine zR_lastN C eX6_beginWindow_136 1 rW_g1 ⟨by omega, by decide⟩ rW_s1 ?_
        refine zR_ws (rW g q m (r_wlstep r l0)) rfl ?_
        refine zR_aload_n C eX6_beginWindow_137 2 rfl rfl ?_
        refine zR_callV1 C kX6_203 eX6_beginWindow_138 (c_X6_nextLoan q _ _ hc) rfl 0 6 rW_g0 rfl rfl _ rW_c rW_n rfl (by decide) (by decide) (Nat.le_of_ble_eq_true rfl) (Nat.zero_le _) (Nat.zero_le _) rW_f rW_r ?_
        refine zR_istore_n (lv' := [(1, _), (2, _), (0, _)]) C eX6_beginWindow_141 rfl (by rw [hn]; decide) rfl ?_
        refine zR_goto C eX6_beginWindow_142 ?_
        refine zR_lv [(1, _), (0, _)] [0, 2] rfl ?_
        exact ih _ hg
set_option maxHeartbeats 1000000 in
set_option maxRecDepth 100000 in
theorem c_X6_beginWindow_lp {x : zX} {g : zG} {q : Nat → Nat} {m : MD} {r : RW} (hn : zn x = 4) (C : zC x g RX6 cX6_beginWindow none 5) (hg : r_bgood r) : ∀ k i : Nat, i + k = zn64 (r 11) → zR x g (zE none (rW g q m (r_begin r))) (0, 0) 27 [(1, .int (nI i)), (0, .ref (q 0))] [] (rW g q m (r_bwg r i)) := by
  intro k
  induction k with
  | zero =>
    intro i hk
    have hi : i = zn64 (r 11) := by omega
    have hm : (r_bwg r i) 11 = r 11 := (r_bwg_o (by have := hg.1.2; omega) (by omega)).trans (by unfold r_bw0; rw [vp_uLo (by decide), r_add_o (by decide)])
    have hok : zokl ((r_bwg r i) 11) 8 := by rw [hm]; exact hg.1
    have hi1 : i = zn64 ((r_bwg r i) 11) := by rw [hm]; exact hi
    refine zR_iload_n C eX6_beginWindow_27 0 rfl rfl ?_
    refine zR_i2l C eX6_beginWindow_28 ?_
    refine zR_aload_n C eX6_beginWindow_29 1 rfl rfl ?_
    refine zR_get C fX6_7 eX6_beginWindow_30 0 rW_g0 rfl ?_
    refine zR_bipush (v := 11) C eX6_beginWindow_33 (by decide) ?_
    refine zR_laldK C eX6_beginWindow_35 1 rW_g1 11 rfl (vp_in_iff.mpr (by decide)) ?_
    refine zR_cifge C eX6_beginWindow_36 eX6_beginWindow_37 (fun h36 => ?_) (fun h36 => ?_)
    · skip
      subst hi
      refine zR_aload_n C eX6_beginWindow_51 1 rfl rfl ?_
      refine zR_callV1 C kX6_203 eX6_beginWindow_52 (c_X6_nextLoan q _ _ (r_wgood_k hg.2)) rfl 0 6 rW_g0 rfl rfl _ rW_c rW_n rfl (by decide) (by decide) (Nat.le_of_ble_eq_true rfl) (Nat.zero_le _) (Nat.zero_le _) rW_f rW_r ?_
      refine zR_istore_n (lv' := [(1, _), (0, _)]) C eX6_beginWindow_55 rfl (by rw [hn]; decide) rfl ?_
      exact c_X6_beginWindow_w hn C 40 _ hg.2
    · skip
      exact absurd h36 (zlpl_out hok (by decide) hi1)
  | succ k ih =>
    intro i hk
    have hlt : i < zn64 (r 11) := by omega
    have hm : (r_bwg r i) 11 = r 11 := (r_bwg_o (by have := hg.1.2; omega) (by omega)).trans (by unfold r_bw0; rw [vp_uLo (by decide), r_add_o (by decide)])
    have hok : zokl ((r_bwg r i) 11) 8 := by rw [hm]; exact hg.1
    have hlt1 : i < zn64 ((r_bwg r i) 11) := by rw [hm]; exact hlt
    have hi8 : i < 8 := Nat.lt_of_lt_of_le hlt hg.1.2
    refine zR_iload_n C eX6_beginWindow_27 0 rfl rfl ?_
    refine zR_i2l C eX6_beginWindow_28 ?_
    refine zR_aload_n C eX6_beginWindow_29 1 rfl rfl ?_
    refine zR_get C fX6_7 eX6_beginWindow_30 0 rW_g0 rfl ?_
    refine zR_bipush (v := 11) C eX6_beginWindow_33 (by decide) ?_
    refine zR_laldK C eX6_beginWindow_35 1 rW_g1 11 rfl (vp_in_iff.mpr (by decide)) ?_
    refine zR_cifge C eX6_beginWindow_36 eX6_beginWindow_37 (fun h36 => ?_) (fun h36 => ?_)
    · skip
      exact absurd (zlpl_in hok (by decide) hlt1) h36
    · skip
      refine zR_aload_n C eX6_beginWindow_40 1 rfl rfl ?_
      refine zR_iload_n C eX6_beginWindow_41 0 rfl rfl ?_
      refine zR_callVv C kX6_200 eX6_beginWindow_42 (c_X6_grant q _ _ _ hi8) rfl 0 6 rW_g0 rfl rfl _ rW_c rW_n rfl (by decide) (by decide) (Nat.le_of_ble_eq_true rfl) (Nat.zero_le _) (Nat.zero_le _) rW_f rW_r ?_
      refine zR_iinc (lv' := [(1, _), (0, _)]) (v' := nI (i + 1)) C eX6_beginWindow_45 0 rfl (zinc i) (by rw [hn]; decide) rfl ?_
      refine zR_goto C eX6_beginWindow_48 ?_
      exact ih (i + 1) (by omega)
set_option maxHeartbeats 1000000 in
set_option maxRecDepth 100000 in
theorem c_X6_beginWindow {l : Launch} {g : zG} (q : Nat → Nat) (m : MD) (r : RW)  (hg : r_bgood r) : zM l g yX6_beginWindow cX6_beginWindow 4 none 5 0 0 [.ref (q 0)] (rW g q m r) (zE none (rW g q m (r_begin r))) := by
  refine zM_of (by decide +kernel) (Nat.le_of_ble_eq_true rfl) (fun x hl hn _ _ _ C => ?_)
  subst hl
  show zR x g _ (0, 0) 0 [(0, .ref (q 0))] [] _
  refine zR_aload_n C eX6_beginWindow_0 0 rfl rfl ?_
  refine zR_get C fX6_7 eX6_beginWindow_1 0 rW_g0 rfl ?_
  refine zR_bipush (v := 9) C eX6_beginWindow_4 (by decide) ?_
  refine zR_dup2 C eX6_beginWindow_6 rfl rfl ?_
  refine zR_laldK C eX6_beginWindow_7 1 rW_g1 9 rfl (vp_in_iff.mpr (by decide)) ?_
  refine zR_lconst (v := 1) C eX6_beginWindow_8 (by decide) ?_
  refine zR_ladd C eX6_beginWindow_9 ?_
  refine zR_lastK C eX6_beginWindow_10 1 rW_g1 9 rfl (vp_in_iff.mpr (by decide)) rW_s1 ?_
  refine zR_ws (rW g q m (r_add r 9 1)) rfl ?_
  refine zR_aload_n C eX6_beginWindow_11 0 rfl rfl ?_
  refine zR_get C fX6_7 eX6_beginWindow_12 0 rW_g0 rfl ?_
  refine zR_bipush (v := 10) C eX6_beginWindow_15 (by decide) ?_
  refine zR_aload_n C eX6_beginWindow_17 0 rfl rfl ?_
  refine zR_get C fX6_7 eX6_beginWindow_18 0 rW_g0 rfl ?_
  refine zR_bipush (v := 8) C eX6_beginWindow_21 (by decide) ?_
  refine zR_laldK C eX6_beginWindow_23 1 rW_g1 8 rfl (vp_in_iff.mpr (by decide)) ?_
  refine zR_lastK C eX6_beginWindow_24 1 rW_g1 10 rfl (vp_in_iff.mpr (by decide)) rW_s1 ?_
  refine zR_ws (rW g q m (r_bw0 r)) rfl ?_
  refine zR_iconst (v := 0) C eX6_beginWindow_25 (by decide) ?_
  refine zR_istore_n (lv' := [(1, _), (0, _)]) C eX6_beginWindow_26 rfl (by rw [hn]; decide) rfl ?_
  exact c_X6_beginWindow_lp hn C hg _ 0 (Nat.zero_add _)
theorem c_X6_isAheadN {l : Launch} {g : zG} (q : Nat → Nat) (m : MD) (r : RW) (p : Nat) (y : Int32) (hp : p < 30) (hy : vp_in y 30) : zM l g yX6_isAhead cX6_isAhead 5 (some .boolean) 1 0 0 [.ref (q 0), .int (nI p), .int y] (rW g q m r) (zE (some (.int (zB (r_ahead r p (zn32 y))))) (rW g q m r)) := by
  have h := c_X6_isAhead (l := l) (g := g) q m r (nI p) y (vp_in_nI hp (by decide)) hy
  rw [show zn32 (nI p) = p from nI_clamp (Nat.lt_trans hp (by decide))] at h
  exact h
theorem m_np_in (m : MD) : ∀ i : Nat, zit (m_npstep m) (-6) i = -6 ∨ ∃ j, j < i ∧ zit (m_npstep m) (-6) i = nI j
  | 0 => Or.inl rfl
  | i + 1 => by
    have ih : zit (m_npstep m) (-6) i = -6 ∨ ∃ j, j < i + 1 ∧ zit (m_npstep m) (-6) i = nI j := (m_np_in m i).imp id (fun ⟨j, h, e⟩ => ⟨j, by omega, e⟩)
    have hi : ∃ j, j < i + 1 ∧ nI i = nI j := ⟨i, by omega, rfl⟩
    show m_npstep m i (zit (m_npstep m) (-6) i) = -6 ∨ ∃ j, j < i + 1 ∧ m_npstep m i (zit (m_npstep m) (-6) i) = nI j
    generalize zit (m_npstep m) (-6) i = b at ih ⊢
    unfold m_npstep
    split
    · split
      · split
        · exact Or.inr hi
        · split
          · exact Or.inr hi
          · exact ih
      · exact ih
    · exact ih
set_option maxHeartbeats 1000000 in
set_option maxRecDepth 100000 in
theorem c_X6_nextPlan_lp {x : zX} {g : zG} {q : Nat → Nat} {m : MD} (hn : zn x = 4) (C : zC x g RX6 cX6_nextPlan (some .int) 2) (hr : zokl (m_row m 13) 30) : ∀ k i : Nat, i + k = zn64 (m_row m 13) → zR x g (zE (some (.int (m_nextP m))) (rW g q m (m_row m))) (0, 0) 5 [(2, .int (nI i)), (1, .int (zit (m_npstep m) (-6) i)), (0, .ref (q 0))] [] (rW g q m (m_row m)) := by
  intro k
  induction k with
  | zero =>
    intro i hk
    have hi : i = zn64 (m_row m 13) := by omega
    refine zR_iload_n C eX6_nextPlan_5 0 rfl rfl ?_
    refine zR_i2l C eX6_nextPlan_6 ?_
    refine zR_aload_n C eX6_nextPlan_7 2 rfl rfl ?_
    refine zR_get C fX6_7 eX6_nextPlan_8 0 rW_g0 rfl ?_
    refine zR_bipush (v := 13) C eX6_nextPlan_11 (by decide) ?_
    refine zR_laldK C eX6_nextPlan_13 1 rW_g1 13 rfl (vp_in_iff.mpr (by decide)) ?_
    refine zR_cifge C eX6_nextPlan_14 eX6_nextPlan_15 (fun h14 => ?_) (fun h14 => ?_)
    · skip
      refine zR_iload_n C eX6_nextPlan_85 1 rfl rfl ?_
      subst hi
      exact zR_iret C rfl rfl eX6_nextPlan_86 (Nat.zero_le _) (Nat.zero_le _) ⟨rfl, rfl⟩
    · skip
      exact absurd h14 (zlpl_out hr (by decide) hi)
  | succ k ih =>
    intro i hk
    have hlt : i < zn64 (m_row m 13) := by omega
    have hi30 : i < 30 := Nat.lt_of_lt_of_le hlt hr.2
    refine zR_iload_n C eX6_nextPlan_5 0 rfl rfl ?_
    refine zR_i2l C eX6_nextPlan_6 ?_
    refine zR_aload_n C eX6_nextPlan_7 2 rfl rfl ?_
    refine zR_get C fX6_7 eX6_nextPlan_8 0 rW_g0 rfl ?_
    refine zR_bipush (v := 13) C eX6_nextPlan_11 (by decide) ?_
    refine zR_laldK C eX6_nextPlan_13 1 rW_g1 13 rfl (vp_in_iff.mpr (by decide)) ?_
    refine zR_cifge C eX6_nextPlan_14 eX6_nextPlan_15 (fun h14 => ?_) (fun h14 => ?_)
    · skip
      exact absurd (zlpl_in hr (by decide) hlt) h14
    · skip
      refine zR_aload_n C eX6_nextPlan_18 2 rfl rfl ?_
      refine zR_get C fX6_28 eX6_nextPlan_19 0 rW_g0 rfl ?_
      refine zR_iload_n C eX6_nextPlan_22 0 rfl rfl ?_
      refine zR_zaldN C eX6_nextPlan_23 5 rW_g5 ⟨by omega, by decide⟩ ?_
      refine zR_ifne C eX6_nextPlan_24 (fun h24 => ?_) (fun h24 => ?_)
      · skip
        refine zR_iconst (v := 0) C eX6_nextPlan_52 (by decide) ?_
        refine zR_istore_n (lv' := [(3, _), (2, _), (1, _), (0, _)]) C eX6_nextPlan_53 rfl (by rw [hn]; decide) rfl ?_
        refine zR_iload_n C eX6_nextPlan_54 0 rfl rfl ?_
        refine zR_ifeq_t C eX6_nextPlan_55 (by decide) ?_
        refine zR_iload_n C eX6_nextPlan_77 2 rfl rfl ?_
        refine zR_istore_n (lv' := [(1, _), (3, _), (2, _), (0, _)]) C eX6_nextPlan_78 rfl (by rw [hn]; decide) rfl ?_
        refine zR_iinc (lv' := [(2, _), (1, _), (3, _), (0, _)]) (v' := nI (i + 1)) C eX6_nextPlan_79 2 rfl (zinc i) (by rw [hn]; decide) rfl ?_
        refine zR_goto C eX6_nextPlan_82 ?_
        have e1 : zit (m_npstep m) (-6) (i + 1) = (zit (m_npstep m) (-6) i) := by
          show m_npstep m i (zit (m_npstep m) (-6) i) = _
          exact (if_neg h24)
        refine zR_lv [(2, _), (1, .int (zit (m_npstep m) (-6) (i + 1))), (0, _)] [0, 1, 3] (by rw [e1] <;> rfl) ?_
        exact ih (i + 1) (by omega)
      · skip
        refine zR_aload_n C eX6_nextPlan_27 2 rfl rfl ?_
        refine zR_get C fX6_7 eX6_nextPlan_28 0 rW_g0 rfl ?_
        refine zR_iload_n C eX6_nextPlan_31 0 rfl rfl ?_
        refine zR_iconst (v := 1) C eX6_nextPlan_32 (by decide) ?_
        refine zR_callS1 C kX6_172 eX6_nextPlan_33 (c_X6_ofPlanAtN _ 1 hi30 (by decide)) rfl rfl (by decide) (by decide) (Nat.le_of_ble_eq_true rfl) (Nat.zero_le _) (Nat.zero_le _) ?_
        refine zR_laldN C eX6_nextPlan_36 1 rW_g1 ⟨by omega, by decide⟩ ?_
        refine zR_aload_n C eX6_nextPlan_37 2 rfl rfl ?_
        refine zR_get C fX6_7 eX6_nextPlan_38 0 rW_g0 rfl ?_
        refine zR_bipush (v := 8) C eX6_nextPlan_41 (by decide) ?_
        refine zR_laldK C eX6_nextPlan_43 1 rW_g1 8 rfl (vp_in_iff.mpr (by decide)) ?_
        refine zR_cifgt C eX6_nextPlan_44 eX6_nextPlan_45 (fun h44 => ?_) (fun h44 => ?_)
        · skip
          refine zR_iconst (v := 0) C eX6_nextPlan_52 (by decide) ?_
          refine zR_istore_n (lv' := [(3, _), (2, _), (1, _), (0, _)]) C eX6_nextPlan_53 rfl (by rw [hn]; decide) rfl ?_
          refine zR_iload_n C eX6_nextPlan_54 0 rfl rfl ?_
          refine zR_ifeq_t C eX6_nextPlan_55 (by decide) ?_
          refine zR_iload_n C eX6_nextPlan_77 2 rfl rfl ?_
          refine zR_istore_n (lv' := [(1, _), (3, _), (2, _), (0, _)]) C eX6_nextPlan_78 rfl (by rw [hn]; decide) rfl ?_
          refine zR_iinc (lv' := [(2, _), (1, _), (3, _), (0, _)]) (v' := nI (i + 1)) C eX6_nextPlan_79 2 rfl (zinc i) (by rw [hn]; decide) rfl ?_
          refine zR_goto C eX6_nextPlan_82 ?_
          have e1 : zit (m_npstep m) (-6) (i + 1) = (zit (m_npstep m) (-6) i) := by
            show m_npstep m i (zit (m_npstep m) (-6) i) = _
            exact ((if_pos h24).trans (if_neg h44))
          refine zR_lv [(2, _), (1, .int (zit (m_npstep m) (-6) (i + 1))), (0, _)] [0, 1, 3] (by rw [e1] <;> rfl) ?_
          exact ih (i + 1) (by omega)
        · skip
          refine zR_iconst (v := 1) C eX6_nextPlan_48 (by decide) ?_
          refine zR_goto C eX6_nextPlan_49 ?_
          refine zR_istore_n (lv' := [(3, _), (2, _), (1, _), (0, _)]) C eX6_nextPlan_53 rfl (by rw [hn]; decide) rfl ?_
          refine zR_iload_n C eX6_nextPlan_54 0 rfl rfl ?_
          refine zR_ifeq_f C eX6_nextPlan_55 (by decide) ?_
          refine zR_iload_n C eX6_nextPlan_58 2 rfl rfl ?_
          refine zR_bipush (v := -6) C eX6_nextPlan_59 (by decide) ?_
          refine zR_icmp_eq C eX6_nextPlan_61 (fun h61 => ?_) (fun h61 => ?_)
          · skip
            refine zR_iload_n C eX6_nextPlan_73 1 rfl rfl ?_
            refine zR_goto C eX6_nextPlan_74 ?_
            refine zR_istore_n (lv' := [(1, _), (3, _), (2, _), (0, _)]) C eX6_nextPlan_78 rfl (by rw [hn]; decide) rfl ?_
            refine zR_iinc (lv' := [(2, _), (1, _), (3, _), (0, _)]) (v' := nI (i + 1)) C eX6_nextPlan_79 2 rfl (zinc i) (by rw [hn]; decide) rfl ?_
            refine zR_goto C eX6_nextPlan_82 ?_
            have e1 : zit (m_npstep m) (-6) (i + 1) = nI i := by
              show m_npstep m i (zit (m_npstep m) (-6) i) = _
              exact ((if_pos h24).trans ((if_pos h44).trans (if_pos h61)))
            refine zR_lv [(2, _), (1, .int (zit (m_npstep m) (-6) (i + 1))), (0, _)] [0, 1, 3] (by rw [e1] <;> rfl) ?_
            exact ih (i + 1) (by omega)
          · skip
            have hv6 := (z6_in (m_np_in m i) h61 (Nat.le_of_lt hi30) (by decide)).1
            refine zR_aload_n C eX6_nextPlan_64 3 rfl rfl ?_
            refine zR_iload_n C eX6_nextPlan_65 1 rfl rfl ?_
            refine zR_iload_n C eX6_nextPlan_66 2 rfl rfl ?_
            refine zR_callV1 C kX6_190 eX6_nextPlan_67 (c_X6_isAheadN q _ _ _ _ hi30 hv6) rfl 0 6 rW_g0 rfl rfl _ rW_c rW_n rfl (by decide) (by decide) (Nat.le_of_ble_eq_true rfl) (Nat.zero_le _) (Nat.zero_le _) rW_f rW_r ?_
            refine zR_bfeq C eX6_nextPlan_70 (fun h70 => ?_) (fun h70 => ?_)
            · skip
              refine zR_iload_n C eX6_nextPlan_77 2 rfl rfl ?_
              refine zR_istore_n (lv' := [(1, _), (3, _), (2, _), (0, _)]) C eX6_nextPlan_78 rfl (by rw [hn]; decide) rfl ?_
              refine zR_iinc (lv' := [(2, _), (1, _), (3, _), (0, _)]) (v' := nI (i + 1)) C eX6_nextPlan_79 2 rfl (zinc i) (by rw [hn]; decide) rfl ?_
              refine zR_goto C eX6_nextPlan_82 ?_
              have e1 : zit (m_npstep m) (-6) (i + 1) = (zit (m_npstep m) (-6) i) := by
                show m_npstep m i (zit (m_npstep m) (-6) i) = _
                exact ((if_pos h24).trans ((if_pos h44).trans ((if_neg h61).trans (if_neg h70))))
              refine zR_lv [(2, _), (1, .int (zit (m_npstep m) (-6) (i + 1))), (0, _)] [0, 1, 3] (by rw [e1] <;> rfl) ?_
              exact ih (i + 1) (by omega)
            · skip
              refine zR_iload_n C eX6_nextPlan_73 1 rfl rfl ?_
              refine zR_goto C eX6_nextPlan_74 ?_
              refine zR_istore_n (lv' := [(1, _), (3, _), (2, _), (0, _)]) C eX6_nextPlan_78 rfl (by rw [hn]; decide) rfl ?_
              refine zR_iinc (lv' := [(2, _), (1, _), (3, _), (0, _)]) (v' := nI (i + 1)) C eX6_nextPlan_79 2 rfl (zinc i) (by rw [hn]; decide) rfl ?_
              refine zR_goto C eX6_nextPlan_82 ?_
              have e1 : zit (m_npstep m) (-6) (i + 1) = nI i := by
                show m_npstep m i (zit (m_npstep m) (-6) i) = _
                exact ((if_pos h24).trans ((if_pos h44).trans ((if_neg h61).trans (if_pos h70))))
              refine zR_lv [(2, _), (1, .int (zit (m_npstep m) (-6) (i + 1))), (0, _)] [0, 1, 3] (by rw [e1] <;> rfl) ?_
              exact ih (i + 1) (by omega)
set_option maxHeartbeats 1000000 in
set_option maxRecDepth 100000 in
theorem c_X6_nextPlan {l : Launch} {g : zG} (q : Nat → Nat) (m : MD)  (hr : zokl (m_row m 13) 30) : zM l g yX6_nextPlan cX6_nextPlan 4 (some .int) 2 0 0 [.ref (q 0)] (rW g q m (m_row m)) (zE (some (.int (m_nextP m))) (rW g q (m) (m_row (m)))) := by
  refine zM_of (by decide +kernel) (Nat.le_of_ble_eq_true rfl) (fun x hl hn _ _ _ C => ?_)
  subst hl
  show zR x g _ (0, 0) 0 [(0, .ref (q 0))] [] _
  refine zR_bipush (v := -6) C eX6_nextPlan_0 (by decide) ?_
  refine zR_istore_n (lv' := [(1, _), (0, _)]) C eX6_nextPlan_2 rfl (by rw [hn]; decide) rfl ?_
  refine zR_iconst (v := 0) C eX6_nextPlan_3 (by decide) ?_
  refine zR_istore_n (lv' := [(2, _), (1, _), (0, _)]) C eX6_nextPlan_4 rfl (by rw [hn]; decide) rfl ?_
  refine zR_lv [(2, .int (nI 0)), (1, .int (zit (m_npstep m) (-6) 0)), (0, _)] [0, 1, 2] rfl ?_
  exact c_X6_nextPlan_lp hn C hr _ 0 (Nat.zero_add _)
theorem r_mv4_ne {r : RW} {i j k : Nat} (h : k < 334 + 4 * j ∨ 334 + 4 * j + 4 ≤ k) : r_mv4 r i j k = r k := by
  unfold r_mv4
  rw [r_mv1_ne (by omega), r_mv1_ne (by omega), r_mv1_ne (by omega), r_mv1_ne (by omega)]
theorem m_c1_row {w : Int32} {i : Nat} {s : MD × Nat} : m_row (m_c1 w i s) = m_row s.1 := by
  unfold m_c1; split
  · split <;> rfl
  · rfl
theorem m_cloop_k (m : MD) : ∀ i : Nat, m_row (m_cloop m i).1 13 = m_row m 13 ∧ (m_cloop m i).2 ≤ i
  | 0 => ⟨rfl, Nat.le_refl _⟩
  | i + 1 => by
    have ih := m_cloop_k m i
    show m_row (m_cstep (m_wat m) i (m_cloop m i)).1 13 = _ ∧ (m_cstep (m_wat m) i (m_cloop m i)).2 ≤ _
    unfold m_cstep; split
    · exact ⟨by show r_mv4 _ _ _ 13 = _; rw [r_mv4_ne (by omega), m_c1_row]; exact ih.1, by show (m_cloop m i).2 + 1 ≤ _; omega⟩
    · exact ⟨by show m_row (m_c1 _ _ _) 13 = _; rw [m_c1_row]; exact ih.1, by show (m_cloop m i).2 ≤ _; omega⟩
set_option maxHeartbeats 4000000 in
set_option maxRecDepth 100000 in
theorem c_X6_clearPlans_lp {x : zX} {g : zG} {q : Nat → Nat} {m : MD} (hn : zn x = 5) (C : zC x g RX6 cX6_clearPlans none 1) (hr : zokl (m_row m 13) 30) : ∀ k i : Nat, i + k = zn64 (m_row m 13) → zR x g (zE none (rW g q (m_clear m) (m_row (m_clear m)))) (0, 0) 9 [(3, .int (nI i)), (2, .int (m_wat m)), (1, .int (nI (m_cloop m i).2)), (0, .ref (q 0))] [] (rW g q (m_cloop m i).1 (m_row (m_cloop m i).1)) := by
  intro k
  induction k with
  | zero =>
    intro i hk
    have hi : i = zn64 (m_row m 13) := by omega
    have hm := m_cloop_k m i
    have hok : zokl (m_row (m_cloop m i).1 13) 30 := by rw [hm.1]; exact hr
    have hi1 : i = zn64 (m_row (m_cloop m i).1 13) := by rw [hm.1]; exact hi
    refine zR_iload_n C eX6_clearPlans_9 0 rfl rfl ?_
    refine zR_i2l C eX6_clearPlans_10 ?_
    refine zR_aload_n C eX6_clearPlans_11 3 rfl rfl ?_
    refine zR_get C fX6_7 eX6_clearPlans_12 0 rW_g0 rfl ?_
    refine zR_bipush (v := 13) C eX6_clearPlans_15 (by decide) ?_
    refine zR_laldK C eX6_clearPlans_17 1 rW_g1 13 rfl (vp_in_iff.mpr (by decide)) ?_
    refine zR_cifge C eX6_clearPlans_18 eX6_clearPlans_19 (fun h18 => ?_) (fun h18 => ?_)
    · skip
      refine zR_aload_n C eX6_clearPlans_115 3 rfl rfl ?_
      refine zR_get C fX6_7 eX6_clearPlans_116 0 rW_g0 rfl ?_
      refine zR_bipush (v := 13) C eX6_clearPlans_119 (by decide) ?_
      refine zR_iload_n C eX6_clearPlans_121 2 rfl rfl ?_
      refine zR_i2l C eX6_clearPlans_122 ?_
      refine zR_lastK C eX6_clearPlans_123 1 rW_g1 13 rfl (vp_in_iff.mpr (by decide)) rW_s1 ?_
      subst hi
      exact zR_vret C rfl eX6_clearPlans_124 (Nat.zero_le _) (Nat.zero_le _) ⟨rfl, rfl⟩
    · skip
      exact absurd h18 (zlpl_out hok (by decide) hi1)
  | succ k ih =>
    intro i hk
    have hlt : i < zn64 (m_row m 13) := by omega
    have hm := m_cloop_k m i
    have hok : zokl (m_row (m_cloop m i).1 13) 30 := by rw [hm.1]; exact hr
    have hlt1 : i < zn64 (m_row (m_cloop m i).1 13) := by rw [hm.1]; exact hlt
    have hi30 : i < 30 := Nat.lt_of_lt_of_le hlt1 hok.2
    have hj30 : (m_cloop m i).2 < 30 := Nat.lt_of_le_of_lt hm.2 hi30
    refine zR_iload_n C eX6_clearPlans_9 0 rfl rfl ?_
    refine zR_i2l C eX6_clearPlans_10 ?_
    refine zR_aload_n C eX6_clearPlans_11 3 rfl rfl ?_
    refine zR_get C fX6_7 eX6_clearPlans_12 0 rW_g0 rfl ?_
    refine zR_bipush (v := 13) C eX6_clearPlans_15 (by decide) ?_
    refine zR_laldK C eX6_clearPlans_17 1 rW_g1 13 rfl (vp_in_iff.mpr (by decide)) ?_
    refine zR_cifge C eX6_clearPlans_18 eX6_clearPlans_19 (fun h18 => ?_) (fun h18 => ?_)
    · skip
      exact absurd (zlpl_in hok (by decide) hlt1) h18
    · skip
      refine zR_iload_n C eX6_clearPlans_22 0 rfl rfl ?_
      refine zR_iload_n C eX6_clearPlans_23 1 rfl rfl ?_
      refine zR_icmp_ne C eX6_clearPlans_24 (fun h24 => ?_) (fun h24 => ?_)
      · skip
        refine zR_aload_n C eX6_clearPlans_46 3 rfl rfl ?_
        refine zR_get C fX6_25 eX6_clearPlans_47 0 rW_g0 rfl ?_
        refine zR_iload_n C eX6_clearPlans_50 0 rfl rfl ?_
        refine zR_zaldN C eX6_clearPlans_51 4 rW_g4 ⟨by omega, by decide⟩ ?_
        refine zR_ifne C eX6_clearPlans_52 (fun h52 => ?_) (fun h52 => ?_)
        · skip
          refine zR_aload_n C eX6_clearPlans_95 3 rfl rfl ?_
          refine zR_get C fX6_25 eX6_clearPlans_96 0 rW_g0 rfl ?_
          refine zR_iload_n C eX6_clearPlans_99 0 rfl rfl ?_
          refine zR_iconst (v := 0) C eX6_clearPlans_100 (by decide) ?_
          refine zR_zastN C eX6_clearPlans_101 4 rW_g4 ⟨by omega, by decide⟩ rfl rW_s4 ?_
          refine zR_aload_n C eX6_clearPlans_102 3 rfl rfl ?_
          refine zR_get C fX6_28 eX6_clearPlans_103 0 rW_g0 rfl ?_
          refine zR_iload_n C eX6_clearPlans_106 0 rfl rfl ?_
          refine zR_iconst (v := 0) C eX6_clearPlans_107 (by decide) ?_
          refine zR_zastN C eX6_clearPlans_108 5 rW_g5 ⟨by omega, by decide⟩ rfl rW_s5 ?_
          refine zR_iinc (lv' := [(3, _), (2, _), (1, _), (0, _)]) (v' := nI (i + 1)) C eX6_clearPlans_109 0 rfl (zinc i) (by rw [hn]; decide) rfl ?_
          refine zR_goto C eX6_clearPlans_112 ?_
          have c1 : m_c1 (m_wat m) i (m_cloop m i) = (m_cloop m i).1 := (if_neg h24)
          have e1 : m_cloop m (i + 1) = (m_c2 (m_cloop m i).1 i, (m_cloop m i).2) := by
            show m_cstep (m_wat m) i (m_cloop m i) = _
            unfold m_cstep
            rw [c1]
            exact if_neg h52
          refine zR_lv [(3, .int (nI (i + 1))), (2, .int (m_wat m)), (1, .int (nI (m_cloop m (i + 1)).2)), (0, .ref (q 0))] [0, 1, 2, 3] (by rw [e1] <;> rfl) ?_
          refine zR_ws (rW g q (m_cloop m (i + 1)).1 (m_row (m_cloop m (i + 1)).1)) (by rw [e1] <;> rfl) ?_
          exact ih (i + 1) (by omega)
        · skip
          refine zR_iconst (v := 0) C eX6_clearPlans_55 (by decide) ?_
          refine zR_istore (lv' := [(4, _), (3, _), (2, _), (1, _), (0, _)]) C eX6_clearPlans_56 (by rw [hn]; decide) rfl ?_
          refine zR_iload C eX6_clearPlans_58 0 rfl ?_
          refine zR_iconst (v := 4) C eX6_clearPlans_60 (by decide) ?_
          refine zR_icmp_ge C eX6_clearPlans_61 (fun h => absurd h (by decide)) (fun _ => ?_)
          refine zR_aload_n C eX6_clearPlans_64 4 rfl rfl ?_
          refine zR_get C fX6_7 eX6_clearPlans_65 0 rW_g0 rfl ?_
          refine zR_iload_n C eX6_clearPlans_68 3 rfl rfl ?_
          refine zR_iload C eX6_clearPlans_69 0 rfl ?_
          refine zR_callS1 C kX6_172 eX6_clearPlans_71 (c_X6_ofPlanAtN _ 0 hj30 (by decide)) rfl rfl (by decide) (by decide) (Nat.le_of_ble_eq_true rfl) (Nat.zero_le _) (Nat.zero_le _) ?_
          refine zR_aload_n C eX6_clearPlans_74 4 rfl rfl ?_
          refine zR_get C fX6_7 eX6_clearPlans_75 0 rW_g0 rfl ?_
          refine zR_iload_n C eX6_clearPlans_78 1 rfl rfl ?_
          refine zR_iload C eX6_clearPlans_79 0 rfl ?_
          refine zR_callS1 C kX6_172 eX6_clearPlans_81 (c_X6_ofPlanAtN _ 0 hi30 (by decide)) rfl rfl (by decide) (by decide) (Nat.le_of_ble_eq_true rfl) (Nat.zero_le _) (Nat.zero_le _) ?_
          refine zR_laldN C eX6_clearPlans_84 1 rW_g1 ⟨by omega, by decide⟩ ?_
          refine zR_lastN C eX6_clearPlans_85 1 rW_g1 ⟨by omega, by decide⟩ rW_s1 ?_
          refine zR_iinc (lv' := [(4, _), (3, _), (2, _), (1, _), (0, _)]) (v' := 1) C eX6_clearPlans_86 0 rfl (by decide) (by rw [hn]; decide) rfl ?_
          refine zR_goto C eX6_clearPlans_89 ?_
          refine zR_iload C eX6_clearPlans_58 0 rfl ?_
          refine zR_iconst (v := 4) C eX6_clearPlans_60 (by decide) ?_
          refine zR_icmp_ge C eX6_clearPlans_61 (fun h => absurd h (by decide)) (fun _ => ?_)
          refine zR_aload_n C eX6_clearPlans_64 4 rfl rfl ?_
          refine zR_get C fX6_7 eX6_clearPlans_65 0 rW_g0 rfl ?_
          refine zR_iload_n C eX6_clearPlans_68 3 rfl rfl ?_
          refine zR_iload C eX6_clearPlans_69 0 rfl ?_
          refine zR_callS1 C kX6_172 eX6_clearPlans_71 (c_X6_ofPlanAtN _ 1 hj30 (by decide)) rfl rfl (by decide) (by decide) (Nat.le_of_ble_eq_true rfl) (Nat.zero_le _) (Nat.zero_le _) ?_
          refine zR_aload_n C eX6_clearPlans_74 4 rfl rfl ?_
          refine zR_get C fX6_7 eX6_clearPlans_75 0 rW_g0 rfl ?_
          refine zR_iload_n C eX6_clearPlans_78 1 rfl rfl ?_
          refine zR_iload C eX6_clearPlans_79 0 rfl ?_
          refine zR_callS1 C kX6_172 eX6_clearPlans_81 (c_X6_ofPlanAtN _ 1 hi30 (by decide)) rfl rfl (by decide) (by decide) (Nat.le_of_ble_eq_true rfl) (Nat.zero_le _) (Nat.zero_le _) ?_
          refine zR_laldN C eX6_clearPlans_84 1 rW_g1 ⟨by omega, by decide⟩ ?_
          refine zR_lastN C eX6_clearPlans_85 1 rW_g1 ⟨by omega, by decide⟩ rW_s1 ?_
          refine zR_iinc (lv' := [(4, _), (3, _), (2, _), (1, _), (0, _)]) (v' := 2) C eX6_clearPlans_86 0 rfl (by decide) (by rw [hn]; decide) rfl ?_
          refine zR_goto C eX6_clearPlans_89 ?_
          refine zR_iload C eX6_clearPlans_58 0 rfl ?_
          refine zR_iconst (v := 4) C eX6_clearPlans_60 (by decide) ?_
          refine zR_icmp_ge C eX6_clearPlans_61 (fun h => absurd h (by decide)) (fun _ => ?_)
          refine zR_aload_n C eX6_clearPlans_64 4 rfl rfl ?_
          refine zR_get C fX6_7 eX6_clearPlans_65 0 rW_g0 rfl ?_
          refine zR_iload_n C eX6_clearPlans_68 3 rfl rfl ?_
          refine zR_iload C eX6_clearPlans_69 0 rfl ?_
          refine zR_callS1 C kX6_172 eX6_clearPlans_71 (c_X6_ofPlanAtN _ 2 hj30 (by decide)) rfl rfl (by decide) (by decide) (Nat.le_of_ble_eq_true rfl) (Nat.zero_le _) (Nat.zero_le _) ?_
          refine zR_aload_n C eX6_clearPlans_74 4 rfl rfl ?_
          refine zR_get C fX6_7 eX6_clearPlans_75 0 rW_g0 rfl ?_
          refine zR_iload_n C eX6_clearPlans_78 1 rfl rfl ?_
          refine zR_iload C eX6_clearPlans_79 0 rfl ?_
          refine zR_callS1 C kX6_172 eX6_clearPlans_81 (c_X6_ofPlanAtN _ 2 hi30 (by decide)) rfl rfl (by decide) (by decide) (Nat.le_of_ble_eq_true rfl) (Nat.zero_le _) (Nat.zero_le _) ?_
          refine zR_laldN C eX6_clearPlans_84 1 rW_g1 ⟨by omega, by decide⟩ ?_
          refine zR_lastN C eX6_clearPlans_85 1 rW_g1 ⟨by omega, by decide⟩ rW_s1 ?_
          refine zR_iinc (lv' := [(4, _), (3, _), (2, _), (1, _), (0, _)]) (v' := 3) C eX6_clearPlans_86 0 rfl (by decide) (by rw [hn]; decide) rfl ?_
          refine zR_goto C eX6_clearPlans_89 ?_
          refine zR_iload C eX6_clearPlans_58 0 rfl ?_
          refine zR_iconst (v := 4) C eX6_clearPlans_60 (by decide) ?_
          refine zR_icmp_ge C eX6_clearPlans_61 (fun h => absurd h (by decide)) (fun _ => ?_)
          refine zR_aload_n C eX6_clearPlans_64 4 rfl rfl ?_
          refine zR_get C fX6_7 eX6_clearPlans_65 0 rW_g0 rfl ?_
          refine zR_iload_n C eX6_clearPlans_68 3 rfl rfl ?_
          refine zR_iload C eX6_clearPlans_69 0 rfl ?_
          refine zR_callS1 C kX6_172 eX6_clearPlans_71 (c_X6_ofPlanAtN _ 3 hj30 (by decide)) rfl rfl (by decide) (by decide) (Nat.le_of_ble_eq_true rfl) (Nat.zero_le _) (Nat.zero_le _) ?_
          refine zR_aload_n C eX6_clearPlans_74 4 rfl rfl ?_
          refine zR_get C fX6_7 eX6_clearPlans_75 0 rW_g0 rfl ?_
          refine zR_iload_n C eX6_clearPlans_78 1 rfl rfl ?_
          refine zR_iload C eX6_clearPlans_79 0 rfl ?_
          refine zR_callS1 C kX6_172 eX6_clearPlans_81 (c_X6_ofPlanAtN _ 3 hi30 (by decide)) rfl rfl (by decide) (by decide) (Nat.le_of_ble_eq_true rfl) (Nat.zero_le _) (Nat.zero_le _) ?_
          refine zR_laldN C eX6_clearPlans_84 1 rW_g1 ⟨by omega, by decide⟩ ?_
          refine zR_lastN C eX6_clearPlans_85 1 rW_g1 ⟨by omega, by decide⟩ rW_s1 ?_
          refine zR_iinc (lv' := [(4, _), (3, _), (2, _), (1, _), (0, _)]) (v' := 4) C eX6_clearPlans_86 0 rfl (by decide) (by rw [hn]; decide) rfl ?_
          refine zR_goto C eX6_clearPlans_89 ?_
          refine zR_iload C eX6_clearPlans_58 0 rfl ?_
          refine zR_iconst (v := 4) C eX6_clearPlans_60 (by decide) ?_
          refine zR_icmp_ge C eX6_clearPlans_61 (fun _ => ?_) (fun h => absurd h (by decide))
          refine zR_iinc (lv' := [(1, _), (4, _), (3, _), (2, _), (0, _)]) (v' := nI ((m_cloop m i).2 + 1)) C eX6_clearPlans_92 3 rfl (zinc _) (by rw [hn]; decide) rfl ?_
          refine zR_aload_n C eX6_clearPlans_95 4 rfl rfl ?_
          refine zR_get C fX6_25 eX6_clearPlans_96 0 rW_g0 rfl ?_
          refine zR_iload_n C eX6_clearPlans_99 2 rfl rfl ?_
          refine zR_iconst (v := 0) C eX6_clearPlans_100 (by decide) ?_
          refine zR_zastN C eX6_clearPlans_101 4 rW_g4 ⟨by omega, by decide⟩ rfl rW_s4 ?_
          refine zR_aload_n C eX6_clearPlans_102 4 rfl rfl ?_
          refine zR_get C fX6_28 eX6_clearPlans_103 0 rW_g0 rfl ?_
          refine zR_iload_n C eX6_clearPlans_106 2 rfl rfl ?_
          refine zR_iconst (v := 0) C eX6_clearPlans_107 (by decide) ?_
          refine zR_zastN C eX6_clearPlans_108 5 rW_g5 ⟨by omega, by decide⟩ rfl rW_s5 ?_
          refine zR_iinc (lv' := [(3, _), (1, _), (4, _), (2, _), (0, _)]) (v' := nI (i + 1)) C eX6_clearPlans_109 2 rfl (zinc i) (by rw [hn]; decide) rfl ?_
          refine zR_goto C eX6_clearPlans_112 ?_
          have c1 : m_c1 (m_wat m) i (m_cloop m i) = (m_cloop m i).1 := (if_neg h24)
          have e1 : m_cloop m (i + 1) = (m_c2 (m_srow (m_cloop m i).1 (r_mv4 (m_row (m_cloop m i).1) i (m_cloop m i).2)) i, (m_cloop m i).2 + 1) := by
            show m_cstep (m_wat m) i (m_cloop m i) = _
            unfold m_cstep
            rw [c1]
            exact if_pos h52
          refine zR_lv [(3, .int (nI (i + 1))), (2, .int (m_wat m)), (1, .int (nI (m_cloop m (i + 1)).2)), (0, .ref (q 0))] [0, 3, 1, 4] (by rw [e1] <;> rfl) ?_
          refine zR_ws (rW g q (m_cloop m (i + 1)).1 (m_row (m_cloop m (i + 1)).1)) (by rw [e1] <;> rfl) ?_
          exact ih (i + 1) (by omega)
      · skip
        refine zR_aload_n C eX6_clearPlans_27 3 rfl rfl ?_
        refine zR_aload_n C eX6_clearPlans_28 3 rfl rfl ?_
        refine zR_get C fX6_25 eX6_clearPlans_29 0 rW_g0 rfl ?_
        refine zR_iload_n C eX6_clearPlans_32 0 rfl rfl ?_
        refine zR_zaldN C eX6_clearPlans_33 4 rW_g4 ⟨by omega, by decide⟩ ?_
        refine zR_ifeq C eX6_clearPlans_34 (fun h34 => ?_) (fun h34 => ?_)
        · skip
          refine zR_iload_n C eX6_clearPlans_42 2 rfl rfl ?_
          refine zR_put C pX6_21 eX6_clearPlans_43 0 rW_g0 (Nat.le_of_ble_eq_true rfl) rW_s0_6 ?_
          refine zR_aload_n C eX6_clearPlans_46 3 rfl rfl ?_
          refine zR_get C fX6_25 eX6_clearPlans_47 0 rW_g0 rfl ?_
          refine zR_iload_n C eX6_clearPlans_50 0 rfl rfl ?_
          refine zR_zaldN C eX6_clearPlans_51 4 rW_g4 ⟨by omega, by decide⟩ ?_
          refine zR_ifne C eX6_clearPlans_52 (fun h52 => ?_) (fun h52 => ?_)
          · skip
            exact absurd h34 h52
          · skip
            refine zR_iconst (v := 0) C eX6_clearPlans_55 (by decide) ?_
            refine zR_istore (lv' := [(4, _), (3, _), (2, _), (1, _), (0, _)]) C eX6_clearPlans_56 (by rw [hn]; decide) rfl ?_
            refine zR_iload C eX6_clearPlans_58 0 rfl ?_
            refine zR_iconst (v := 4) C eX6_clearPlans_60 (by decide) ?_
            refine zR_icmp_ge C eX6_clearPlans_61 (fun h => absurd h (by decide)) (fun _ => ?_)
            refine zR_aload_n C eX6_clearPlans_64 4 rfl rfl ?_
            refine zR_get C fX6_7 eX6_clearPlans_65 0 rW_g0 rfl ?_
            refine zR_iload_n C eX6_clearPlans_68 3 rfl rfl ?_
            refine zR_iload C eX6_clearPlans_69 0 rfl ?_
            refine zR_callS1 C kX6_172 eX6_clearPlans_71 (c_X6_ofPlanAtN _ 0 hj30 (by decide)) rfl rfl (by decide) (by decide) (Nat.le_of_ble_eq_true rfl) (Nat.zero_le _) (Nat.zero_le _) ?_
            refine zR_aload_n C eX6_clearPlans_74 4 rfl rfl ?_
            refine zR_get C fX6_7 eX6_clearPlans_75 0 rW_g0 rfl ?_
            refine zR_iload_n C eX6_clearPlans_78 1 rfl rfl ?_
            refine zR_iload C eX6_clearPlans_79 0 rfl ?_
            refine zR_callS1 C kX6_172 eX6_clearPlans_81 (c_X6_ofPlanAtN _ 0 hi30 (by decide)) rfl rfl (by decide) (by decide) (Nat.le_of_ble_eq_true rfl) (Nat.zero_le _) (Nat.zero_le _) ?_
            refine zR_laldN C eX6_clearPlans_84 1 rW_g1 ⟨by omega, by decide⟩ ?_
            refine zR_lastN C eX6_clearPlans_85 1 rW_g1 ⟨by omega, by decide⟩ rW_s1 ?_
            refine zR_iinc (lv' := [(4, _), (3, _), (2, _), (1, _), (0, _)]) (v' := 1) C eX6_clearPlans_86 0 rfl (by decide) (by rw [hn]; decide) rfl ?_
            refine zR_goto C eX6_clearPlans_89 ?_
            refine zR_iload C eX6_clearPlans_58 0 rfl ?_
            refine zR_iconst (v := 4) C eX6_clearPlans_60 (by decide) ?_
            refine zR_icmp_ge C eX6_clearPlans_61 (fun h => absurd h (by decide)) (fun _ => ?_)
            refine zR_aload_n C eX6_clearPlans_64 4 rfl rfl ?_
            refine zR_get C fX6_7 eX6_clearPlans_65 0 rW_g0 rfl ?_
            refine zR_iload_n C eX6_clearPlans_68 3 rfl rfl ?_
            refine zR_iload C eX6_clearPlans_69 0 rfl ?_
            refine zR_callS1 C kX6_172 eX6_clearPlans_71 (c_X6_ofPlanAtN _ 1 hj30 (by decide)) rfl rfl (by decide) (by decide) (Nat.le_of_ble_eq_true rfl) (Nat.zero_le _) (Nat.zero_le _) ?_
            refine zR_aload_n C eX6_clearPlans_74 4 rfl rfl ?_
            refine zR_get C fX6_7 eX6_clearPlans_75 0 rW_g0 rfl ?_
            refine zR_iload_n C eX6_clearPlans_78 1 rfl rfl ?_
            refine zR_iload C eX6_clearPlans_79 0 rfl ?_
            refine zR_callS1 C kX6_172 eX6_clearPlans_81 (c_X6_ofPlanAtN _ 1 hi30 (by decide)) rfl rfl (by decide) (by decide) (Nat.le_of_ble_eq_true rfl) (Nat.zero_le _) (Nat.zero_le _) ?_
            refine zR_laldN C eX6_clearPlans_84 1 rW_g1 ⟨by omega, by decide⟩ ?_
            refine zR_lastN C eX6_clearPlans_85 1 rW_g1 ⟨by omega, by decide⟩ rW_s1 ?_
            refine zR_iinc (lv' := [(4, _), (3, _), (2, _), (1, _), (0, _)]) (v' := 2) C eX6_clearPlans_86 0 rfl (by decide) (by rw [hn]; decide) rfl ?_
            refine zR_goto C eX6_clearPlans_89 ?_
            refine zR_iload C eX6_clearPlans_58 0 rfl ?_
            refine zR_iconst (v := 4) C eX6_clearPlans_60 (by decide) ?_
            refine zR_icmp_ge C eX6_clearPlans_61 (fun h => absurd h (by decide)) (fun _ => ?_)
            refine zR_aload_n C eX6_clearPlans_64 4 rfl rfl ?_
            refine zR_get C fX6_7 eX6_clearPlans_65 0 rW_g0 rfl ?_
            refine zR_iload_n C eX6_clearPlans_68 3 rfl rfl ?_
            refine zR_iload C eX6_clearPlans_69 0 rfl ?_
            refine zR_callS1 C kX6_172 eX6_clearPlans_71 (c_X6_ofPlanAtN _ 2 hj30 (by decide)) rfl rfl (by decide) (by decide) (Nat.le_of_ble_eq_true rfl) (Nat.zero_le _) (Nat.zero_le _) ?_
            refine zR_aload_n C eX6_clearPlans_74 4 rfl rfl ?_
            refine zR_get C fX6_7 eX6_clearPlans_75 0 rW_g0 rfl ?_
            refine zR_iload_n C eX6_clearPlans_78 1 rfl rfl ?_
            refine zR_iload C eX6_clearPlans_79 0 rfl ?_
            refine zR_callS1 C kX6_172 eX6_clearPlans_81 (c_X6_ofPlanAtN _ 2 hi30 (by decide)) rfl rfl (by decide) (by decide) (Nat.le_of_ble_eq_true rfl) (Nat.zero_le _) (Nat.zero_le _) ?_
            refine zR_laldN C eX6_clearPlans_84 1 rW_g1 ⟨by omega, by decide⟩ ?_
            refine zR_lastN C eX6_clearPlans_85 1 rW_g1 ⟨by omega, by decide⟩ rW_s1 ?_
            refine zR_iinc (lv' := [(4, _), (3, _), (2, _), (1, _), (0, _)]) (v' := 3) C eX6_clearPlans_86 0 rfl (by decide) (by rw [hn]; decide) rfl ?_
            refine zR_goto C eX6_clearPlans_89 ?_
            refine zR_iload C eX6_clearPlans_58 0 rfl ?_
            refine zR_iconst (v := 4) C eX6_clearPlans_60 (by decide) ?_
            refine zR_icmp_ge C eX6_clearPlans_61 (fun h => absurd h (by decide)) (fun _ => ?_)
            refine zR_aload_n C eX6_clearPlans_64 4 rfl rfl ?_
            refine zR_get C fX6_7 eX6_clearPlans_65 0 rW_g0 rfl ?_
            refine zR_iload_n C eX6_clearPlans_68 3 rfl rfl ?_
            refine zR_iload C eX6_clearPlans_69 0 rfl ?_
            refine zR_callS1 C kX6_172 eX6_clearPlans_71 (c_X6_ofPlanAtN _ 3 hj30 (by decide)) rfl rfl (by decide) (by decide) (Nat.le_of_ble_eq_true rfl) (Nat.zero_le _) (Nat.zero_le _) ?_
            refine zR_aload_n C eX6_clearPlans_74 4 rfl rfl ?_
            refine zR_get C fX6_7 eX6_clearPlans_75 0 rW_g0 rfl ?_
            refine zR_iload_n C eX6_clearPlans_78 1 rfl rfl ?_
            refine zR_iload C eX6_clearPlans_79 0 rfl ?_
            refine zR_callS1 C kX6_172 eX6_clearPlans_81 (c_X6_ofPlanAtN _ 3 hi30 (by decide)) rfl rfl (by decide) (by decide) (Nat.le_of_ble_eq_true rfl) (Nat.zero_le _) (Nat.zero_le _) ?_
            refine zR_laldN C eX6_clearPlans_84 1 rW_g1 ⟨by omega, by decide⟩ ?_
            refine zR_lastN C eX6_clearPlans_85 1 rW_g1 ⟨by omega, by decide⟩ rW_s1 ?_
            refine zR_iinc (lv' := [(4, _), (3, _), (2, _), (1, _), (0, _)]) (v' := 4) C eX6_clearPlans_86 0 rfl (by decide) (by rw [hn]; decide) rfl ?_
            refine zR_goto C eX6_clearPlans_89 ?_
            refine zR_iload C eX6_clearPlans_58 0 rfl ?_
            refine zR_iconst (v := 4) C eX6_clearPlans_60 (by decide) ?_
            refine zR_icmp_ge C eX6_clearPlans_61 (fun _ => ?_) (fun h => absurd h (by decide))
            refine zR_iinc (lv' := [(1, _), (4, _), (3, _), (2, _), (0, _)]) (v' := nI ((m_cloop m i).2 + 1)) C eX6_clearPlans_92 3 rfl (zinc _) (by rw [hn]; decide) rfl ?_
            refine zR_aload_n C eX6_clearPlans_95 4 rfl rfl ?_
            refine zR_get C fX6_25 eX6_clearPlans_96 0 rW_g0 rfl ?_
            refine zR_iload_n C eX6_clearPlans_99 2 rfl rfl ?_
            refine zR_iconst (v := 0) C eX6_clearPlans_100 (by decide) ?_
            refine zR_zastN C eX6_clearPlans_101 4 rW_g4 ⟨by omega, by decide⟩ rfl rW_s4 ?_
            refine zR_aload_n C eX6_clearPlans_102 4 rfl rfl ?_
            refine zR_get C fX6_28 eX6_clearPlans_103 0 rW_g0 rfl ?_
            refine zR_iload_n C eX6_clearPlans_106 2 rfl rfl ?_
            refine zR_iconst (v := 0) C eX6_clearPlans_107 (by decide) ?_
            refine zR_zastN C eX6_clearPlans_108 5 rW_g5 ⟨by omega, by decide⟩ rfl rW_s5 ?_
            refine zR_iinc (lv' := [(3, _), (1, _), (4, _), (2, _), (0, _)]) (v' := nI (i + 1)) C eX6_clearPlans_109 2 rfl (zinc i) (by rw [hn]; decide) rfl ?_
            refine zR_goto C eX6_clearPlans_112 ?_
            have c1 : m_c1 (m_wat m) i (m_cloop m i) = (m_swat (m_cloop m i).1 (nI (m_cloop m i).2)) := ((if_pos h24).trans (if_pos h34))
            have e1 : m_cloop m (i + 1) = (m_c2 (m_srow (m_swat (m_cloop m i).1 (nI (m_cloop m i).2)) (r_mv4 (m_row (m_swat (m_cloop m i).1 (nI (m_cloop m i).2))) i (m_cloop m i).2)) i, (m_cloop m i).2 + 1) := by
              show m_cstep (m_wat m) i (m_cloop m i) = _
              unfold m_cstep
              rw [c1]
              exact if_pos h52
            refine zR_lv [(3, .int (nI (i + 1))), (2, .int (m_wat m)), (1, .int (nI (m_cloop m (i + 1)).2)), (0, .ref (q 0))] [0, 3, 1, 4] (by rw [e1] <;> rfl) ?_
            refine zR_ws (rW g q (m_cloop m (i + 1)).1 (m_row (m_cloop m (i + 1)).1)) (by rw [e1] <;> rfl) ?_
            exact ih (i + 1) (by omega)
        · skip
          refine zR_bipush (v := -6) C eX6_clearPlans_37 (by decide) ?_
          refine zR_goto C eX6_clearPlans_39 ?_
          refine zR_put C pX6_21 eX6_clearPlans_43 0 rW_g0 (Nat.le_of_ble_eq_true rfl) rW_s0_6 ?_
          refine zR_aload_n C eX6_clearPlans_46 3 rfl rfl ?_
          refine zR_get C fX6_25 eX6_clearPlans_47 0 rW_g0 rfl ?_
          refine zR_iload_n C eX6_clearPlans_50 0 rfl rfl ?_
          refine zR_zaldN C eX6_clearPlans_51 4 rW_g4 ⟨by omega, by decide⟩ ?_
          refine zR_ifne C eX6_clearPlans_52 (fun h52 => ?_) (fun h52 => ?_)
          · skip
            refine zR_aload_n C eX6_clearPlans_95 3 rfl rfl ?_
            refine zR_get C fX6_25 eX6_clearPlans_96 0 rW_g0 rfl ?_
            refine zR_iload_n C eX6_clearPlans_99 0 rfl rfl ?_
            refine zR_iconst (v := 0) C eX6_clearPlans_100 (by decide) ?_
            refine zR_zastN C eX6_clearPlans_101 4 rW_g4 ⟨by omega, by decide⟩ rfl rW_s4 ?_
            refine zR_aload_n C eX6_clearPlans_102 3 rfl rfl ?_
            refine zR_get C fX6_28 eX6_clearPlans_103 0 rW_g0 rfl ?_
            refine zR_iload_n C eX6_clearPlans_106 0 rfl rfl ?_
            refine zR_iconst (v := 0) C eX6_clearPlans_107 (by decide) ?_
            refine zR_zastN C eX6_clearPlans_108 5 rW_g5 ⟨by omega, by decide⟩ rfl rW_s5 ?_
            refine zR_iinc (lv' := [(3, _), (2, _), (1, _), (0, _)]) (v' := nI (i + 1)) C eX6_clearPlans_109 0 rfl (zinc i) (by rw [hn]; decide) rfl ?_
            refine zR_goto C eX6_clearPlans_112 ?_
            have c1 : m_c1 (m_wat m) i (m_cloop m i) = (m_swat (m_cloop m i).1 (-6)) := ((if_pos h24).trans (if_neg h34))
            have e1 : m_cloop m (i + 1) = (m_c2 (m_swat (m_cloop m i).1 (-6)) i, (m_cloop m i).2) := by
              show m_cstep (m_wat m) i (m_cloop m i) = _
              unfold m_cstep
              rw [c1]
              exact if_neg h52
            refine zR_lv [(3, .int (nI (i + 1))), (2, .int (m_wat m)), (1, .int (nI (m_cloop m (i + 1)).2)), (0, .ref (q 0))] [0, 1, 2, 3] (by rw [e1] <;> rfl) ?_
            refine zR_ws (rW g q (m_cloop m (i + 1)).1 (m_row (m_cloop m (i + 1)).1)) (by rw [e1] <;> rfl) ?_
            exact ih (i + 1) (by omega)
          · skip
            exact absurd h52 h34
set_option maxHeartbeats 1000000 in
set_option maxRecDepth 100000 in
theorem c_X6_clearPlans {l : Launch} {g : zG} (q : Nat → Nat) (m : MD)  (hr : zokl (m_row m 13) 30) : zM l g yX6_clearPlans cX6_clearPlans 5 none 1 0 0 [.ref (q 0)] (rW g q m (m_row m)) (zE none (rW g q (m_clear m) (m_row (m_clear m)))) := by
  refine zM_of (by decide +kernel) (Nat.le_of_ble_eq_true rfl) (fun x hl hn _ _ _ C => ?_)
  subst hl
  show zR x g _ (0, 0) 0 [(0, .ref (q 0))] [] _
  refine zR_iconst (v := 0) C eX6_clearPlans_0 (by decide) ?_
  refine zR_istore_n (lv' := [(1, _), (0, _)]) C eX6_clearPlans_1 rfl (by rw [hn]; decide) rfl ?_
  refine zR_aload_n C eX6_clearPlans_2 1 rfl rfl ?_
  refine zR_get C fX6_21 eX6_clearPlans_3 0 rW_g0 rfl ?_
  refine zR_istore_n (lv' := [(2, _), (1, _), (0, _)]) C eX6_clearPlans_6 rfl (by rw [hn]; decide) rfl ?_
  refine zR_iconst (v := 0) C eX6_clearPlans_7 (by decide) ?_
  refine zR_istore_n (lv' := [(3, _), (2, _), (1, _), (0, _)]) C eX6_clearPlans_8 rfl (by rw [hn]; decide) rfl ?_
  refine zR_lv [(3, .int (nI 0)), (2, _), (1, .int (nI 0)), (0, _)] [0, 1, 2, 3] rfl ?_
  exact c_X6_clearPlans_lp hn C hr _ 0 (Nat.zero_add _)
def m_dgood : Nat → MD → Prop
  | 0, m => zokl (m_row m 13) 30 ∧ m_nextP m = -6
  | k + 1, m => zokl (m_row m 13) 30 ∧ (¬ m_nextP m = -6 → zinl (m_row m (334 + 4 * zn32 (m_nextP m) + 0)) 8 ∧ m_dgood k (m_dpstep m (zn32 (m_nextP m))))
theorem m_dgood_k {k : Nat} {m : MD} (h : m_dgood k m) : zokl (m_row m 13) 30 := by
  cases k with
  | zero => exact h.1
  | succ k => exact h.1
set_option maxHeartbeats 4000000 in
set_option maxRecDepth 100000 in
theorem c_X6_doPlans_w {x : zX} {g : zG} {q : Nat → Nat} (hn : zn x = 4) (C : zC x g RX6 cX6_doPlans none 4) : ∀ (k : Nat) (m : MD), m_dgood k m → zR x g (zE none (rW g q (m_clear (m_dploop k m)) (m_row (m_clear (m_dploop k m))))) (0, 0) 5 [(1, .int (m_nextP m)), (0, .ref (q 0))] [] (rW g q m (m_row m)) := by
  intro k
  induction k with
  | zero =>
    intro m hw
    have hk := hw.1
    refine zR_iload_n C eX6_doPlans_5 0 rfl rfl ?_
    refine zR_bipush (v := -6) C eX6_doPlans_6 (by decide) ?_
    refine zR_icmp_eq C eX6_doPlans_8 (fun h8 => ?_) (fun h8 => ?_)
    · skip
      refine zR_aload_n C eX6_doPlans_162 1 rfl rfl ?_
      refine zR_callVv C kX6_181 eX6_doPlans_163 (c_X6_clearPlans q _ hk) rfl 0 6 rW_g0 rfl rfl _ rW_c rW_n rfl (by decide) (by decide) (Nat.le_of_ble_eq_true rfl) (Nat.zero_le _) (Nat.zero_le _) rW_f rW_r ?_
      have e1 : m_dploop 0 m = m := rfl
      exact zR_vret C rfl eX6_doPlans_166 (Nat.zero_le _) (Nat.zero_le _) ⟨rfl, by rw [e1]⟩
    · skip
      exact absurd hw.2 h8
  | succ k ih =>
    intro m hw
    have hk := hw.1
    refine zR_iload_n C eX6_doPlans_5 0 rfl rfl ?_
    refine zR_bipush (v := -6) C eX6_doPlans_6 (by decide) ?_
    refine zR_icmp_eq C eX6_doPlans_8 (fun h8 => ?_) (fun h8 => ?_)
    · skip
      refine zR_aload_n C eX6_doPlans_162 1 rfl rfl ?_
      refine zR_callVv C kX6_181 eX6_doPlans_163 (c_X6_clearPlans q _ hk) rfl 0 6 rW_g0 rfl rfl _ rW_c rW_n rfl (by decide) (by decide) (Nat.le_of_ble_eq_true rfl) (Nat.zero_le _) (Nat.zero_le _) rW_f rW_r ?_
      have e1 : m_dploop (k + 1) m = m := if_pos h8
      exact zR_vret C rfl eX6_doPlans_166 (Nat.zero_le _) (Nat.zero_le _) ⟨rfl, by rw [e1]⟩
    · skip
      have hv := z6_in (n := 30) (m_np_in m _) h8 hk.2 (by decide)
      obtain ⟨ha, hg⟩ := hw.2 h8
      have hw2 : m_dploop (k + 1) m = m_dploop k (m_dpstep m (zn32 (m_nextP m))) := if_neg h8
      obtain ⟨l0, hl0⟩ : ∃ l0, l0 = zn32 (m_nextP m) := ⟨_, rfl⟩
      have hl : l0 < 30 := by rw [hl0]; exact vp_lt hv.1 (by decide)
      have el : m_nextP m = nI l0 := by rw [hl0]; exact hv.2.2
      rw [← hl0] at ha hg hw2
      rw [hw2]
      have hs := (zinl_i ha (by decide)).2.1
      have hsl : m_ps m l0 < 8 := vp_lt hs (by decide)
      have hz := vp_lt hs (by decide)
      refine zR_lv [(1, .int (nI l0)), (0, _)] [0, 1] (by rw [← el] <;> rfl) ?_
      refine zR_aload_n C eX6_doPlans_11 1 rfl rfl ?_
      refine zR_iload_n C eX6_doPlans_12 0 rfl rfl ?_
      refine zR_iconst (v := 0) C eX6_doPlans_13 (by decide) ?_
      refine zR_callS1 C kX6_172 eX6_doPlans_14 (c_X6_ofPlanAtN _ 0 hl (by decide)) rfl rfl (by decide) (by decide) (Nat.le_of_ble_eq_true rfl) (Nat.zero_le _) (Nat.zero_le _) ?_
      refine zR_callV1 C kX6_60 eX6_doPlans_17 (c_X6_number q _ _ _ (by omega)) rfl 0 6 rW_g0 rfl rfl _ rW_c rW_n rfl (by decide) (by decide) (Nat.le_of_ble_eq_true rfl) (Nat.zero_le _) (Nat.zero_le _) rW_f rW_r ?_
      refine zR_istore_n (lv' := [(2, _), (1, _), (0, _)]) C eX6_doPlans_20 rfl (by rw [hn]; decide) rfl ?_
      refine zR_aload_n C eX6_doPlans_21 2 rfl rfl ?_
      refine zR_get C fX6_7 eX6_doPlans_22 0 rW_g0 rfl ?_
      refine zR_bipush (v := 8) C eX6_doPlans_25 (by decide) ?_
      refine zR_laldK C eX6_doPlans_27 1 rW_g1 8 rfl (vp_in_iff.mpr (by decide)) ?_
      refine zR_aload_n C eX6_doPlans_28 2 rfl rfl ?_
      refine zR_get C fX6_7 eX6_doPlans_29 0 rW_g0 rfl ?_
      refine zR_iload_n C eX6_doPlans_32 1 rfl rfl ?_
      refine zR_iconst (v := 1) C eX6_doPlans_33 (by decide) ?_
      refine zR_callS1 C kX6_172 eX6_doPlans_34 (c_X6_ofPlanAtN _ 1 hl (by decide)) rfl rfl (by decide) (by decide) (Nat.le_of_ble_eq_true rfl) (Nat.zero_le _) (Nat.zero_le _) ?_
      refine zR_laldN C eX6_doPlans_37 1 rW_g1 ⟨by omega, by decide⟩ ?_
      refine zR_lsub C eX6_doPlans_38 ?_
      refine zR_aload_n C eX6_doPlans_39 2 rfl rfl ?_
      refine zR_get C fX6_7 eX6_doPlans_40 0 rW_g0 rfl ?_
      refine zR_iconst (v := 5) C eX6_doPlans_43 (by decide) ?_
      refine zR_laldK C eX6_doPlans_44 1 rW_g1 5 rfl (vp_in_iff.mpr (by decide)) ?_
      refine zR_ciflt C eX6_doPlans_45 eX6_doPlans_46 (fun h45 => ?_) (fun h45 => ?_)
      · skip
        refine zR_iconst (v := 0) C eX6_doPlans_53 (by decide) ?_
        refine zR_istore_n (lv' := [(3, _), (2, _), (1, _), (0, _)]) C eX6_doPlans_54 rfl (by rw [hn]; decide) rfl ?_
        refine zR_aload_n C eX6_doPlans_55 3 rfl rfl ?_
        refine zR_get C fX6_28 eX6_doPlans_56 0 rW_g0 rfl ?_
        refine zR_iload_n C eX6_doPlans_59 2 rfl rfl ?_
        refine zR_iconst (v := 1) C eX6_doPlans_60 (by decide) ?_
        refine zR_zastN C eX6_doPlans_61 5 rW_g5 ⟨by omega, by decide⟩ rfl rW_s5 ?_
        refine zR_aload_n C eX6_doPlans_62 3 rfl rfl ?_
        refine zR_get C fX6_25 eX6_doPlans_63 0 rW_g0 rfl ?_
        refine zR_iload_n C eX6_doPlans_66 2 rfl rfl ?_
        refine zR_aload_n C eX6_doPlans_67 3 rfl rfl ?_
        refine zR_iload_n C eX6_doPlans_68 1 rfl rfl ?_
        refine zR_callV1 C kX6_94 eX6_doPlans_69 (c_X6_isFrozen q _ _ _ hs) rfl 0 6 rW_g0 rfl rfl _ rW_c rW_n rfl (by decide) (by decide) (Nat.le_of_ble_eq_true rfl) (Nat.zero_le _) (Nat.zero_le _) rW_f rW_r ?_
        refine zR_bfeq C eX6_doPlans_72 (fun h72 => ?_) (fun h72 => ?_)
        · skip
          refine zR_iconst (v := 1) C eX6_doPlans_79 (by decide) ?_
          refine zR_goto C eX6_doPlans_80 ?_
          refine zR_zastN C eX6_doPlans_84 4 rW_g4 ⟨by omega, by decide⟩ rfl rW_s4 ?_
          refine zR_aload_n C eX6_doPlans_85 3 rfl rfl ?_
          refine zR_iload_n C eX6_doPlans_86 1 rfl rfl ?_
          refine zR_callV1 C kX6_94 eX6_doPlans_87 (c_X6_isFrozen q _ _ _ hs) rfl 0 6 rW_g0 rfl rfl _ rW_c rW_n rfl (by decide) (by decide) (Nat.le_of_ble_eq_true rfl) (Nat.zero_le _) (Nat.zero_le _) rW_f rW_r ?_
          refine zR_bfne C eX6_doPlans_90 (fun h90 => ?_) (fun h90 => ?_)
          · skip
            exact absurd h90 h72
          · skip
            refine zR_aload_n C eX6_doPlans_93 3 rfl rfl ?_
            refine zR_iload_n C eX6_doPlans_94 2 rfl rfl ?_
            refine zR_aload_n C eX6_doPlans_95 3 rfl rfl ?_
            refine zR_get C fX6_21 eX6_doPlans_96 0 rW_g0 rfl ?_
            refine zR_icmp_ne C eX6_doPlans_99 (fun h99 => ?_) (fun h99 => ?_)
            · skip
              refine zR_aload_n C eX6_doPlans_111 3 rfl rfl ?_
              refine zR_get C fX6_197 eX6_doPlans_112 0 rW_g0 rfl ?_
              refine zR_put C pX6_197 eX6_doPlans_115 0 rW_g0 (Nat.le_of_ble_eq_true rfl) rW_s0_7 ?_
              refine zR_aload_n C eX6_doPlans_118 3 rfl rfl ?_
              refine zR_iload_n C eX6_doPlans_119 1 rfl rfl ?_
              refine zR_aload_n C eX6_doPlans_120 3 rfl rfl ?_
              refine zR_get C fX6_7 eX6_doPlans_121 0 rW_g0 rfl ?_
              refine zR_iload_n C eX6_doPlans_124 2 rfl rfl ?_
              refine zR_iconst (v := 2) C eX6_doPlans_125 (by decide) ?_
              refine zR_callS1 C kX6_172 eX6_doPlans_126 (c_X6_ofPlanAtN _ 2 hl (by decide)) rfl rfl (by decide) (by decide) (Nat.le_of_ble_eq_true rfl) (Nat.zero_le _) (Nat.zero_le _) ?_
              refine zR_laldN C eX6_doPlans_129 1 rW_g1 ⟨by omega, by decide⟩ ?_
              refine zR_callVv C kX6_124 eX6_doPlans_130 (c_X6_spend q _ _ _ _ hs) rfl 0 6 rW_g0 rfl rfl _ rW_c rW_n rfl (by decide) (by decide) (Nat.le_of_ble_eq_true rfl) (Nat.zero_le _) (Nat.zero_le _) rW_f rW_r ?_
              refine zR_goto C eX6_doPlans_133 ?_
              have hl8 : m_late m l0 = false := if_pos h45
              have e2 : m_wh1 (m_go (m_see m l0) l0 1) l0 = _ := if_neg h99
              have e1 : m_dpstep m l0 = _ := if_neg h72
              rw [e2] at e1
              refine zR_ws (rW g q (m_dpstep m l0) (m_row (m_dpstep m l0))) (by rw [e1] <;> rfl) ?_
              refine zR_aload_n C eX6_doPlans_154 3 rfl rfl ?_
              refine zR_callV1 C kX6_193 eX6_doPlans_155 (c_X6_nextPlan q _ (m_dgood_k hg)) rfl 0 6 rW_g0 rfl rfl _ rW_c rW_n rfl (by decide) (by decide) (Nat.le_of_ble_eq_true rfl) (Nat.zero_le _) (Nat.zero_le _) rW_f rW_r ?_
              refine zR_istore_n (lv' := [(1, _), (3, _), (2, _), (0, _)]) C eX6_doPlans_158 rfl (by rw [hn]; decide) rfl ?_
              refine zR_goto C eX6_doPlans_159 ?_
              refine zR_lv [(1, _), (0, _)] [0, 3] rfl ?_
              exact ih _ hg
            · skip
              refine zR_aload_n C eX6_doPlans_102 3 rfl rfl ?_
              refine zR_bipush (v := 8) C eX6_doPlans_103 (by decide) ?_
              refine zR_callV1 C kX6_60 eX6_doPlans_105 (c_X6_number q _ _ 8 (by decide)) rfl 0 6 rW_g0 rfl rfl _ rW_c rW_n rfl (by decide) (by decide) (Nat.le_of_ble_eq_true rfl) (Nat.zero_le _) (Nat.zero_le _) rW_f rW_r ?_
              refine zR_goto C eX6_doPlans_108 ?_
              refine zR_put C pX6_197 eX6_doPlans_115 0 rW_g0 (Nat.le_of_ble_eq_true rfl) rW_s0_7 ?_
              refine zR_aload_n C eX6_doPlans_118 3 rfl rfl ?_
              refine zR_iload_n C eX6_doPlans_119 1 rfl rfl ?_
              refine zR_aload_n C eX6_doPlans_120 3 rfl rfl ?_
              refine zR_get C fX6_7 eX6_doPlans_121 0 rW_g0 rfl ?_
              refine zR_iload_n C eX6_doPlans_124 2 rfl rfl ?_
              refine zR_iconst (v := 2) C eX6_doPlans_125 (by decide) ?_
              refine zR_callS1 C kX6_172 eX6_doPlans_126 (c_X6_ofPlanAtN _ 2 hl (by decide)) rfl rfl (by decide) (by decide) (Nat.le_of_ble_eq_true rfl) (Nat.zero_le _) (Nat.zero_le _) ?_
              refine zR_laldN C eX6_doPlans_129 1 rW_g1 ⟨by omega, by decide⟩ ?_
              refine zR_callVv C kX6_124 eX6_doPlans_130 (c_X6_spend q _ _ _ _ hs) rfl 0 6 rW_g0 rfl rfl _ rW_c rW_n rfl (by decide) (by decide) (Nat.le_of_ble_eq_true rfl) (Nat.zero_le _) (Nat.zero_le _) rW_f rW_r ?_
              refine zR_goto C eX6_doPlans_133 ?_
              have hl8 : m_late m l0 = false := if_pos h45
              have e2 : m_wh1 (m_go (m_see m l0) l0 1) l0 = _ := if_pos h99
              have e1 : m_dpstep m l0 = _ := if_neg h72
              rw [e2] at e1
              refine zR_ws (rW g q (m_dpstep m l0) (m_row (m_dpstep m l0))) (by rw [e1] <;> rfl) ?_
              refine zR_aload_n C eX6_doPlans_154 3 rfl rfl ?_
              refine zR_callV1 C kX6_193 eX6_doPlans_155 (c_X6_nextPlan q _ (m_dgood_k hg)) rfl 0 6 rW_g0 rfl rfl _ rW_c rW_n rfl (by decide) (by decide) (Nat.le_of_ble_eq_true rfl) (Nat.zero_le _) (Nat.zero_le _) rW_f rW_r ?_
              refine zR_istore_n (lv' := [(1, _), (3, _), (2, _), (0, _)]) C eX6_doPlans_158 rfl (by rw [hn]; decide) rfl ?_
              refine zR_goto C eX6_doPlans_159 ?_
              refine zR_lv [(1, _), (0, _)] [0, 3] rfl ?_
              exact ih _ hg
        · skip
          refine zR_iload_n C eX6_doPlans_75 0 rfl rfl ?_
          refine zR_ifeq_t C eX6_doPlans_76 (by decide) ?_
          refine zR_iconst (v := 0) C eX6_doPlans_83 (by decide) ?_
          refine zR_zastN C eX6_doPlans_84 4 rW_g4 ⟨by omega, by decide⟩ rfl rW_s4 ?_
          refine zR_aload_n C eX6_doPlans_85 3 rfl rfl ?_
          refine zR_iload_n C eX6_doPlans_86 1 rfl rfl ?_
          refine zR_callV1 C kX6_94 eX6_doPlans_87 (c_X6_isFrozen q _ _ _ hs) rfl 0 6 rW_g0 rfl rfl _ rW_c rW_n rfl (by decide) (by decide) (Nat.le_of_ble_eq_true rfl) (Nat.zero_le _) (Nat.zero_le _) rW_f rW_r ?_
          refine zR_bfne C eX6_doPlans_90 (fun h90 => ?_) (fun h90 => ?_)
          · skip
            refine zR_iload_n C eX6_doPlans_136 0 rfl rfl ?_
            refine zR_ifeq_t C eX6_doPlans_137 (by decide) ?_
            have hl8 : m_late m l0 = false := if_pos h45
            have e1 : m_dpstep m l0 = _ := (if_pos h72).trans (if_neg (by rw [hl8]; decide))
            refine zR_ws (rW g q (m_dpstep m l0) (m_row (m_dpstep m l0))) (by rw [e1] <;> rfl) ?_
            refine zR_aload_n C eX6_doPlans_154 3 rfl rfl ?_
            refine zR_callV1 C kX6_193 eX6_doPlans_155 (c_X6_nextPlan q _ (m_dgood_k hg)) rfl 0 6 rW_g0 rfl rfl _ rW_c rW_n rfl (by decide) (by decide) (Nat.le_of_ble_eq_true rfl) (Nat.zero_le _) (Nat.zero_le _) rW_f rW_r ?_
            refine zR_istore_n (lv' := [(1, _), (3, _), (2, _), (0, _)]) C eX6_doPlans_158 rfl (by rw [hn]; decide) rfl ?_
            refine zR_goto C eX6_doPlans_159 ?_
            refine zR_lv [(1, _), (0, _)] [0, 3] rfl ?_
            exact ih _ hg
          · skip
            exact absurd h72 h90
      · skip
        refine zR_iconst (v := 1) C eX6_doPlans_49 (by decide) ?_
        refine zR_goto C eX6_doPlans_50 ?_
        refine zR_istore_n (lv' := [(3, _), (2, _), (1, _), (0, _)]) C eX6_doPlans_54 rfl (by rw [hn]; decide) rfl ?_
        refine zR_aload_n C eX6_doPlans_55 3 rfl rfl ?_
        refine zR_get C fX6_28 eX6_doPlans_56 0 rW_g0 rfl ?_
        refine zR_iload_n C eX6_doPlans_59 2 rfl rfl ?_
        refine zR_iconst (v := 1) C eX6_doPlans_60 (by decide) ?_
        refine zR_zastN C eX6_doPlans_61 5 rW_g5 ⟨by omega, by decide⟩ rfl rW_s5 ?_
        refine zR_aload_n C eX6_doPlans_62 3 rfl rfl ?_
        refine zR_get C fX6_25 eX6_doPlans_63 0 rW_g0 rfl ?_
        refine zR_iload_n C eX6_doPlans_66 2 rfl rfl ?_
        refine zR_aload_n C eX6_doPlans_67 3 rfl rfl ?_
        refine zR_iload_n C eX6_doPlans_68 1 rfl rfl ?_
        refine zR_callV1 C kX6_94 eX6_doPlans_69 (c_X6_isFrozen q _ _ _ hs) rfl 0 6 rW_g0 rfl rfl _ rW_c rW_n rfl (by decide) (by decide) (Nat.le_of_ble_eq_true rfl) (Nat.zero_le _) (Nat.zero_le _) rW_f rW_r ?_
        refine zR_bfeq C eX6_doPlans_72 (fun h72 => ?_) (fun h72 => ?_)
        · skip
          refine zR_iconst (v := 1) C eX6_doPlans_79 (by decide) ?_
          refine zR_goto C eX6_doPlans_80 ?_
          refine zR_zastN C eX6_doPlans_84 4 rW_g4 ⟨by omega, by decide⟩ rfl rW_s4 ?_
          refine zR_aload_n C eX6_doPlans_85 3 rfl rfl ?_
          refine zR_iload_n C eX6_doPlans_86 1 rfl rfl ?_
          refine zR_callV1 C kX6_94 eX6_doPlans_87 (c_X6_isFrozen q _ _ _ hs) rfl 0 6 rW_g0 rfl rfl _ rW_c rW_n rfl (by decide) (by decide) (Nat.le_of_ble_eq_true rfl) (Nat.zero_le _) (Nat.zero_le _) rW_f rW_r ?_
          refine zR_bfne C eX6_doPlans_90 (fun h90 => ?_) (fun h90 => ?_)
          · skip
            exact absurd h90 h72
          · skip
            refine zR_aload_n C eX6_doPlans_93 3 rfl rfl ?_
            refine zR_iload_n C eX6_doPlans_94 2 rfl rfl ?_
            refine zR_aload_n C eX6_doPlans_95 3 rfl rfl ?_
            refine zR_get C fX6_21 eX6_doPlans_96 0 rW_g0 rfl ?_
            refine zR_icmp_ne C eX6_doPlans_99 (fun h99 => ?_) (fun h99 => ?_)
            · skip
              refine zR_aload_n C eX6_doPlans_111 3 rfl rfl ?_
              refine zR_get C fX6_197 eX6_doPlans_112 0 rW_g0 rfl ?_
              refine zR_put C pX6_197 eX6_doPlans_115 0 rW_g0 (Nat.le_of_ble_eq_true rfl) rW_s0_7 ?_
              refine zR_aload_n C eX6_doPlans_118 3 rfl rfl ?_
              refine zR_iload_n C eX6_doPlans_119 1 rfl rfl ?_
              refine zR_aload_n C eX6_doPlans_120 3 rfl rfl ?_
              refine zR_get C fX6_7 eX6_doPlans_121 0 rW_g0 rfl ?_
              refine zR_iload_n C eX6_doPlans_124 2 rfl rfl ?_
              refine zR_iconst (v := 2) C eX6_doPlans_125 (by decide) ?_
              refine zR_callS1 C kX6_172 eX6_doPlans_126 (c_X6_ofPlanAtN _ 2 hl (by decide)) rfl rfl (by decide) (by decide) (Nat.le_of_ble_eq_true rfl) (Nat.zero_le _) (Nat.zero_le _) ?_
              refine zR_laldN C eX6_doPlans_129 1 rW_g1 ⟨by omega, by decide⟩ ?_
              refine zR_callVv C kX6_124 eX6_doPlans_130 (c_X6_spend q _ _ _ _ hs) rfl 0 6 rW_g0 rfl rfl _ rW_c rW_n rfl (by decide) (by decide) (Nat.le_of_ble_eq_true rfl) (Nat.zero_le _) (Nat.zero_le _) rW_f rW_r ?_
              refine zR_goto C eX6_doPlans_133 ?_
              have hl8 : m_late m l0 = true := if_neg h45
              have e2 : m_wh1 (m_go (m_see m l0) l0 1) l0 = _ := if_neg h99
              have e1 : m_dpstep m l0 = _ := if_neg h72
              rw [e2] at e1
              refine zR_ws (rW g q (m_dpstep m l0) (m_row (m_dpstep m l0))) (by rw [e1] <;> rfl) ?_
              refine zR_aload_n C eX6_doPlans_154 3 rfl rfl ?_
              refine zR_callV1 C kX6_193 eX6_doPlans_155 (c_X6_nextPlan q _ (m_dgood_k hg)) rfl 0 6 rW_g0 rfl rfl _ rW_c rW_n rfl (by decide) (by decide) (Nat.le_of_ble_eq_true rfl) (Nat.zero_le _) (Nat.zero_le _) rW_f rW_r ?_
              refine zR_istore_n (lv' := [(1, _), (3, _), (2, _), (0, _)]) C eX6_doPlans_158 rfl (by rw [hn]; decide) rfl ?_
              refine zR_goto C eX6_doPlans_159 ?_
              refine zR_lv [(1, _), (0, _)] [0, 3] rfl ?_
              exact ih _ hg
            · skip
              refine zR_aload_n C eX6_doPlans_102 3 rfl rfl ?_
              refine zR_bipush (v := 8) C eX6_doPlans_103 (by decide) ?_
              refine zR_callV1 C kX6_60 eX6_doPlans_105 (c_X6_number q _ _ 8 (by decide)) rfl 0 6 rW_g0 rfl rfl _ rW_c rW_n rfl (by decide) (by decide) (Nat.le_of_ble_eq_true rfl) (Nat.zero_le _) (Nat.zero_le _) rW_f rW_r ?_
              refine zR_goto C eX6_doPlans_108 ?_
              refine zR_put C pX6_197 eX6_doPlans_115 0 rW_g0 (Nat.le_of_ble_eq_true rfl) rW_s0_7 ?_
              refine zR_aload_n C eX6_doPlans_118 3 rfl rfl ?_
              refine zR_iload_n C eX6_doPlans_119 1 rfl rfl ?_
              refine zR_aload_n C eX6_doPlans_120 3 rfl rfl ?_
              refine zR_get C fX6_7 eX6_doPlans_121 0 rW_g0 rfl ?_
              refine zR_iload_n C eX6_doPlans_124 2 rfl rfl ?_
              refine zR_iconst (v := 2) C eX6_doPlans_125 (by decide) ?_
              refine zR_callS1 C kX6_172 eX6_doPlans_126 (c_X6_ofPlanAtN _ 2 hl (by decide)) rfl rfl (by decide) (by decide) (Nat.le_of_ble_eq_true rfl) (Nat.zero_le _) (Nat.zero_le _) ?_
              refine zR_laldN C eX6_doPlans_129 1 rW_g1 ⟨by omega, by decide⟩ ?_
              refine zR_callVv C kX6_124 eX6_doPlans_130 (c_X6_spend q _ _ _ _ hs) rfl 0 6 rW_g0 rfl rfl _ rW_c rW_n rfl (by decide) (by decide) (Nat.le_of_ble_eq_true rfl) (Nat.zero_le _) (Nat.zero_le _) rW_f rW_r ?_
              refine zR_goto C eX6_doPlans_133 ?_
              have hl8 : m_late m l0 = true := if_neg h45
              have e2 : m_wh1 (m_go (m_see m l0) l0 1) l0 = _ := if_pos h99
              have e1 : m_dpstep m l0 = _ := if_neg h72
              rw [e2] at e1
              refine zR_ws (rW g q (m_dpstep m l0) (m_row (m_dpstep m l0))) (by rw [e1] <;> rfl) ?_
              refine zR_aload_n C eX6_doPlans_154 3 rfl rfl ?_
              refine zR_callV1 C kX6_193 eX6_doPlans_155 (c_X6_nextPlan q _ (m_dgood_k hg)) rfl 0 6 rW_g0 rfl rfl _ rW_c rW_n rfl (by decide) (by decide) (Nat.le_of_ble_eq_true rfl) (Nat.zero_le _) (Nat.zero_le _) rW_f rW_r ?_
              refine zR_istore_n (lv' := [(1, _), (3, _), (2, _), (0, _)]) C eX6_doPlans_158 rfl (by rw [hn]; decide) rfl ?_
              refine zR_goto C eX6_doPlans_159 ?_
              refine zR_lv [(1, _), (0, _)] [0, 3] rfl ?_
              exact ih _ hg
        · skip
          refine zR_iload_n C eX6_doPlans_75 0 rfl rfl ?_
          refine zR_ifeq_f C eX6_doPlans_76 (by decide) ?_
          refine zR_iconst (v := 1) C eX6_doPlans_79 (by decide) ?_
          refine zR_goto C eX6_doPlans_80 ?_
          refine zR_zastN C eX6_doPlans_84 4 rW_g4 ⟨by omega, by decide⟩ rfl rW_s4 ?_
          refine zR_aload_n C eX6_doPlans_85 3 rfl rfl ?_
          refine zR_iload_n C eX6_doPlans_86 1 rfl rfl ?_
          refine zR_callV1 C kX6_94 eX6_doPlans_87 (c_X6_isFrozen q _ _ _ hs) rfl 0 6 rW_g0 rfl rfl _ rW_c rW_n rfl (by decide) (by decide) (Nat.le_of_ble_eq_true rfl) (Nat.zero_le _) (Nat.zero_le _) rW_f rW_r ?_
          refine zR_bfne C eX6_doPlans_90 (fun h90 => ?_) (fun h90 => ?_)
          · skip
            refine zR_iload_n C eX6_doPlans_136 0 rfl rfl ?_
            refine zR_ifeq_f C eX6_doPlans_137 (by decide) ?_
            refine zR_aload_n C eX6_doPlans_140 3 rfl rfl ?_
            refine zR_get C fX6_7 eX6_doPlans_141 0 rW_g0 rfl ?_
            refine zR_iload_n C eX6_doPlans_144 1 rfl rfl ?_
            refine zR_iconst (v := 5) C eX6_doPlans_145 (by decide) ?_
            refine zR_callS1 C kX6_86 eX6_doPlans_146 (c_X6_of _ 5 hs (by decide)) rfl rfl (by decide) (by decide) (Nat.le_of_ble_eq_true rfl) (Nat.zero_le _) (Nat.zero_le _) ?_
            refine zR_dup2 C eX6_doPlans_149 rfl rfl ?_
            refine zR_laldN C eX6_doPlans_150 1 rW_g1 ⟨by omega, by decide⟩ ?_
            refine zR_lconst (v := 1) C eX6_doPlans_151 (by decide) ?_
            refine zR_ladd C eX6_doPlans_152 ?_
            refine zR_lastN C eX6_doPlans_153 1 rW_g1 ⟨by omega, by decide⟩ rW_s1 ?_
            have hl8 : m_late m l0 = true := if_neg h45
            have e1 : m_dpstep m l0 = _ := (if_pos h72).trans (if_pos hl8)
            refine zR_ws (rW g q (m_dpstep m l0) (m_row (m_dpstep m l0))) (by rw [e1] <;> rfl) ?_
            refine zR_aload_n C eX6_doPlans_154 3 rfl rfl ?_
            refine zR_callV1 C kX6_193 eX6_doPlans_155 (c_X6_nextPlan q _ (m_dgood_k hg)) rfl 0 6 rW_g0 rfl rfl _ rW_c rW_n rfl (by decide) (by decide) (Nat.le_of_ble_eq_true rfl) (Nat.zero_le _) (Nat.zero_le _) rW_f rW_r ?_
            refine zR_istore_n (lv' := [(1, _), (3, _), (2, _), (0, _)]) C eX6_doPlans_158 rfl (by rw [hn]; decide) rfl ?_
            refine zR_goto C eX6_doPlans_159 ?_
            refine zR_lv [(1, _), (0, _)] [0, 3] rfl ?_
            exact ih _ hg
          · skip
            exact absurd h72 h90
set_option maxHeartbeats 1000000 in
set_option maxRecDepth 100000 in
theorem c_X6_doPlans {l : Launch} {g : zG} (q : Nat → Nat) (m : MD)  (hg : m_dgood 30 m) : zM l g yX6_doPlans cX6_doPlans 4 none 4 0 0 [.ref (q 0)] (rW g q m (m_row m)) (zE none (rW g q (m_doPlans m) (m_row (m_doPlans m)))) := by
  refine zM_of (by decide +kernel) (Nat.le_of_ble_eq_true rfl) (fun x hl hn _ _ _ C => ?_)
  subst hl
  show zR x g _ (0, 0) 0 [(0, .ref (q 0))] [] _
  refine zR_aload_n C eX6_doPlans_0 0 rfl rfl ?_
  refine zR_callV1 C kX6_193 eX6_doPlans_1 (c_X6_nextPlan q _ (m_dgood_k hg)) rfl 0 6 rW_g0 rfl rfl _ rW_c rW_n rfl (by decide) (by decide) (Nat.le_of_ble_eq_true rfl) (Nat.zero_le _) (Nat.zero_le _) rW_f rW_r ?_
  refine zR_istore_n (lv' := [(1, _), (0, _)]) C eX6_doPlans_4 rfl (by rw [hn]; decide) rfl ?_
  exact c_X6_doPlans_w hn C 30 _ hg
def m_hgood (m : MD) : Prop := (m_row (m_hr1 m) 8 - m_row (m_hr1 m) 10 < m_row (m_hr1 m) 0 → m_dgood 30 (m_hr1 m)) ∧ (¬ m_row (m_hr1 m) 8 - m_row (m_hr1 m) 10 < m_row (m_hr1 m) 0 → r_bgood (m_row (m_hr1 m)) ∧ m_dgood 30 (m_srow (m_hr1 m) (r_begin (m_row (m_hr1 m)))))
set_option maxHeartbeats 1000000 in
set_option maxRecDepth 100000 in
theorem c_X6_passHour {l : Launch} {g : zG} (q : Nat → Nat) (m : MD)  (hg : m_hgood m) : zM l g yX6_passHour cX6_passHour 1 none 6 0 0 [.ref (q 0)] (rW g q m (m_row m)) (zE none (rW g q (m_hour m) (m_row (m_hour m)))) := by
  refine zM_of (by decide +kernel) (Nat.le_of_ble_eq_true rfl) (fun x hl hn _ _ _ C => ?_)
  subst hl
  show zR x g _ (0, 0) 0 [(0, .ref (q 0))] [] _
  refine zR_aload_n C eX6_passHour_0 0 rfl rfl ?_
  refine zR_get C fX6_7 eX6_passHour_1 0 rW_g0 rfl ?_
  refine zR_bipush (v := 8) C eX6_passHour_4 (by decide) ?_
  refine zR_dup2 C eX6_passHour_6 rfl rfl ?_
  refine zR_laldK C eX6_passHour_7 1 rW_g1 8 rfl (vp_in_iff.mpr (by decide)) ?_
  refine zR_lconst (v := 1) C eX6_passHour_8 (by decide) ?_
  refine zR_ladd C eX6_passHour_9 ?_
  refine zR_lastK C eX6_passHour_10 1 rW_g1 8 rfl (vp_in_iff.mpr (by decide)) rW_s1 ?_
  refine zR_ws (rW g q (m_hr1 m) (m_row (m_hr1 m))) rfl ?_
  refine zR_aload_n C eX6_passHour_11 0 rfl rfl ?_
  refine zR_get C fX6_7 eX6_passHour_12 0 rW_g0 rfl ?_
  refine zR_bipush (v := 8) C eX6_passHour_15 (by decide) ?_
  refine zR_laldK C eX6_passHour_17 1 rW_g1 8 rfl (vp_in_iff.mpr (by decide)) ?_
  refine zR_aload_n C eX6_passHour_18 0 rfl rfl ?_
  refine zR_get C fX6_7 eX6_passHour_19 0 rW_g0 rfl ?_
  refine zR_bipush (v := 10) C eX6_passHour_22 (by decide) ?_
  refine zR_laldK C eX6_passHour_24 1 rW_g1 10 rfl (vp_in_iff.mpr (by decide)) ?_
  refine zR_lsub C eX6_passHour_25 ?_
  refine zR_aload_n C eX6_passHour_26 0 rfl rfl ?_
  refine zR_get C fX6_7 eX6_passHour_27 0 rW_g0 rfl ?_
  refine zR_iconst (v := 0) C eX6_passHour_30 (by decide) ?_
  refine zR_laldK C eX6_passHour_31 1 rW_g1 0 rfl (vp_in_iff.mpr (by decide)) ?_
  refine zR_ciflt C eX6_passHour_32 eX6_passHour_33 (fun h32 => ?_) (fun h32 => ?_)
  · skip
    have hd := hg.1 h32
    refine zR_aload_n C eX6_passHour_40 0 rfl rfl ?_
    refine zR_callVv C kX6_211 eX6_passHour_41 (c_X6_doPlans q _ hd) rfl 0 6 rW_g0 rfl rfl _ rW_c rW_n rfl (by decide) (by decide) (Nat.le_of_ble_eq_true rfl) (Nat.zero_le _) (Nat.zero_le _) rW_f rW_r ?_
    exact zR_vret C rfl eX6_passHour_44 (Nat.zero_le _) (Nat.zero_le _) ⟨rfl, (by unfold m_hour; rw [if_pos h32])⟩
  · skip
    have hb := hg.2 h32
    refine zR_aload_n C eX6_passHour_36 0 rfl rfl ?_
    refine zR_callVv C kX6_208 eX6_passHour_37 (c_X6_beginWindow q _ _ hb.1) rfl 0 6 rW_g0 rfl rfl _ rW_c rW_n rfl (by decide) (by decide) (Nat.le_of_ble_eq_true rfl) (Nat.zero_le _) (Nat.zero_le _) rW_f rW_r ?_
    have hd := hb.2
    refine zR_ws (rW g q (m_srow (m_hr1 m) (r_begin (m_row (m_hr1 m)))) (m_row (m_srow (m_hr1 m) (r_begin (m_row (m_hr1 m)))))) rW_full ?_
    refine zR_aload_n C eX6_passHour_40 0 rfl rfl ?_
    refine zR_callVv C kX6_211 eX6_passHour_41 (c_X6_doPlans q _ hd) rfl 0 6 rW_g0 rfl rfl _ rW_c rW_n rfl (by decide) (by decide) (Nat.le_of_ble_eq_true rfl) (Nat.zero_le _) (Nat.zero_le _) rW_f rW_r ?_
    exact zR_vret C rfl eX6_passHour_44 (Nat.zero_le _) (Nat.zero_le _) ⟨rfl, (by unfold m_hour; rw [if_neg h32])⟩
set_option maxHeartbeats 1000000 in
set_option maxRecDepth 100000 in
theorem c_X6_pass_lp {x : zX} {g : zG} {q : Nat → Nat} {m : MD} {k0 : Int32} (hn : zn x = 3) (C : zC x g RX6 cX6_pass (some .int) 7) (hk0 : zok k0 1000) (hg : ∀ i, i < zn32 k0 → m_hgood (m_hrs m i)) : ∀ k i : Nat, i + k = zn32 k0 → zR x g (zE (some (.int (m_pass m k0).1)) (rW g q (m_pass m k0).2 (m_row (m_pass m k0).2))) (0, 0) 2 [(2, .int (nI i)), (0, .ref (q 0)), (1, .int k0)] [] (rW g q (m_hrs m i) (m_row (m_hrs m i))) := by
  intro k
  induction k with
  | zero =>
    intro i hk
    have hi : i = zn32 k0 := by omega
    refine zR_iload_n C eX6_pass_2 0 rfl rfl ?_
    refine zR_iload_n C eX6_pass_3 2 rfl rfl ?_
    refine zR_icmp_ge C eX6_pass_4 (fun h4 => ?_) (fun h4 => ?_)
    · skip
      refine zR_aload_n C eX6_pass_17 1 rfl rfl ?_
      refine zR_bipush (v := 8) C eX6_pass_18 (by decide) ?_
      refine zR_callV1 C kX6_60 eX6_pass_20 (c_X6_number q _ _ 8 (by decide)) rfl 0 6 rW_g0 rfl rfl _ rW_c rW_n rfl (by decide) (by decide) (Nat.le_of_ble_eq_true rfl) (Nat.zero_le _) (Nat.zero_le _) rW_f rW_r ?_
      subst hi
      exact zR_iret C rfl rfl eX6_pass_23 (Nat.zero_le _) (Nat.zero_le _) ⟨rfl, rfl⟩
    · skip
      exact absurd h4 (zlp_out hk0 hi)
  | succ k ih =>
    intro i hk
    have hlt : i < zn32 k0 := by omega
    have hgi := hg i hlt
    refine zR_iload_n C eX6_pass_2 0 rfl rfl ?_
    refine zR_iload_n C eX6_pass_3 2 rfl rfl ?_
    refine zR_icmp_ge C eX6_pass_4 (fun h4 => ?_) (fun h4 => ?_)
    · skip
      exact absurd (zlp_in hk0 (by decide) hlt) h4
    · skip
      refine zR_aload_n C eX6_pass_7 1 rfl rfl ?_
      refine zR_callVv C kX6_214 eX6_pass_8 (c_X6_passHour q _ hgi) rfl 0 6 rW_g0 rfl rfl _ rW_c rW_n rfl (by decide) (by decide) (Nat.le_of_ble_eq_true rfl) (Nat.zero_le _) (Nat.zero_le _) rW_f rW_r ?_
      refine zR_iinc (lv' := [(2, _), (0, _), (1, _)]) (v' := nI (i + 1)) C eX6_pass_11 0 rfl (zinc i) (by rw [hn]; decide) rfl ?_
      refine zR_goto C eX6_pass_14 ?_
      exact ih (i + 1) (by omega)
set_option maxHeartbeats 1000000 in
set_option maxRecDepth 100000 in
theorem c_X6_pass {l : Launch} {g : zG} (q : Nat → Nat) (m : MD) (k0 : Int32) (hk0 : zok k0 1000) (hg : ∀ i, i < zn32 k0 → m_hgood (m_hrs m i)) : zM l g yX6_pass cX6_pass 3 (some .int) 7 0 0 [.ref (q 0), .int k0] (rW g q m (m_row m)) (zE (some (.int (m_pass m k0).1)) (rW g q ((m_pass m k0).2) (m_row ((m_pass m k0).2)))) := by
  refine zM_of (by decide +kernel) (Nat.le_of_ble_eq_true rfl) (fun x hl hn _ _ _ C => ?_)
  subst hl
  show zR x g _ (0, 0) 0 [(0, .ref (q 0)), (1, .int k0)] [] _
  refine zR_iconst (v := 0) C eX6_pass_0 (by decide) ?_
  refine zR_istore_n (lv' := [(2, _), (0, _), (1, _)]) C eX6_pass_1 rfl (by rw [hn]; decide) rfl ?_
  refine zR_lv [(2, .int (nI 0)), (0, _), (1, _)] [0, 1, 2] rfl ?_
  exact c_X6_pass_lp hn C hk0 hg _ 0 (Nat.zero_add _)
