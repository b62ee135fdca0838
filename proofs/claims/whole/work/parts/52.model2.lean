/-! The reference: the walks, second part. -/
theorem c_X6_ofN {l : Launch} {g : zG} (s : Nat) (w : Nat) (hs : s < 8) (hw : w < 15) : zM l g yX6_of cX6_of 2 (some .int) 0 0 0 [.int (nI s), .int (nI w)] [] (zE (some (.int (nI (14 + 15 * s + w)))) []) := by
  have h := c_X6_of (l := l) (g := g) (nI s) w (vp_in_nI hs (by decide)) hw
  rw [show zn32 (nI s) = s from nI_clamp (Nat.lt_trans hs (by decide))] at h
  exact h
theorem c_X6_accountOfN {l : Launch} {g : zG} (s : Nat) (w : Nat) (hs : s < 8) (hw : w < 15) : zM l g yX6_accountOf cX6_accountOf 2 (some .int) 0 0 0 [.int (nI s), .int (nI w)] [] (zE (some (.int (nI (14 + 15 * s + 7 + w)))) []) := by
  have h := c_X6_accountOf (l := l) (g := g) (nI s) w (vp_in_nI hs (by decide)) hw
  rw [show zn32 (nI s) = s from nI_clamp (Nat.lt_trans hs (by decide))] at h
  exact h
theorem c_X6_ofLoanAtN {l : Launch} {g : zG} (s : Nat) (w : Nat) (hs : s < 40) (hw : w < 15) : zM l g yX6_ofLoanAt cX6_ofLoanAt 2 (some .int) 0 0 0 [.int (nI s), .int (nI w)] [] (zE (some (.int (nI (134 + 5 * s + w)))) []) := by
  have h := c_X6_ofLoanAt (l := l) (g := g) (nI s) w (vp_in_nI hs (by decide)) hw
  rw [show zn32 (nI s) = s from nI_clamp (Nat.lt_trans hs (by decide))] at h
  exact h
theorem c_X6_ofPlanAtN {l : Launch} {g : zG} (s : Nat) (w : Nat) (hs : s < 30) (hw : w < 15) : zM l g yX6_ofPlanAt cX6_ofPlanAt 2 (some .int) 0 0 0 [.int (nI s), .int (nI w)] [] (zE (some (.int (nI (334 + 4 * s + w)))) []) := by
  have h := c_X6_ofPlanAt (l := l) (g := g) (nI s) w (vp_in_nI hs (by decide)) hw
  rw [show zn32 (nI s) = s from nI_clamp (Nat.lt_trans hs (by decide))] at h
  exact h
theorem c_X6_leftN {l : Launch} {g : zG} (q : Nat → Nat) (m : MD) (r : RW) (s : Nat) (hs : s < 8) : zM l g yX6_left cX6_left 2 (some .long) 1 0 0 [.ref (q 0), .int (nI s)] (rW g q m r) (zE (some (.long (r_left r s))) (rW g q m r)) := by
  have h := c_X6_left (l := l) (g := g) q m r (nI s) (vp_in_nI hs (by decide))
  rw [show zn32 (nI s) = s from nI_clamp (Nat.lt_trans hs (by decide))] at h
  exact h
theorem c_X6_isFrozenN {l : Launch} {g : zG} (q : Nat → Nat) (m : MD) (r : RW) (s : Nat) (hs : s < 8) : zM l g yX6_isFrozen cX6_isFrozen 2 (some .boolean) 1 0 0 [.ref (q 0), .int (nI s)] (rW g q m r) (zE (some (.int (zB (r_frz r s)))) (rW g q m r)) := by
  have h := c_X6_isFrozen (l := l) (g := g) q m r (nI s) (vp_in_nI hs (by decide))
  rw [show zn32 (nI s) = s from nI_clamp (Nat.lt_trans hs (by decide))] at h
  exact h
theorem c_X6_changeN {l : Launch} {g : zG} (q : Nat → Nat) (m : MD) (r : RW) (s : Nat) (b : Int64) (hs : s < 8) : zM l g yX6_change cX6_change 4 none 2 0 0 [.ref (q 0), .int (nI s), .long b] (rW g q m r) (zE none (rW g q m (r_change r s b))) := by
  have h := c_X6_change (l := l) (g := g) q m r (nI s) b (vp_in_nI hs (by decide))
  rw [show zn32 (nI s) = s from nI_clamp (Nat.lt_trans hs (by decide))] at h
  exact h
set_option maxHeartbeats 1000000 in
set_option maxRecDepth 100000 in
theorem c_X6_loansOf_lp {x : zX} {g : zG} {q : Nat → Nat} {m : MD} {r : RW} {s : Int32} {k0 : Nat} (hk0 : k0 < 2) (hn : zn x = 5) (C : zC x g RX6 cX6_loansOf (some .int) 1) (hr : r_ok r) : ∀ k i : Nat, i + k = zn64 (r 12) → zR x g (zE (some (.int (r_lcnt r k0 s (zn64 (r 12))))) (rW g q m r)) (0, 0) 5 [(4, .int (nI i)), (3, .int (r_lcnt r k0 s i)), (0, .ref (q 0)), (1, .int s), (2, .int (nI k0))] [] (rW g q m r) := by
  intro k
  induction k with
  | zero =>
    intro i hk
    have hi : i = zn64 (r 12) := by omega
    refine zR_iload C eX6_loansOf_5 0 rfl ?_
    refine zR_i2l C eX6_loansOf_7 ?_
    refine zR_aload_n C eX6_loansOf_8 2 rfl rfl ?_
    refine zR_get C fX6_7 eX6_loansOf_9 0 rW_g0 rfl ?_
    refine zR_bipush (v := 12) C eX6_loansOf_12 (by decide) ?_
    refine zR_laldK C eX6_loansOf_14 1 rW_g1 12 rfl (vp_in_iff.mpr (by decide)) ?_
    refine zR_cifge C eX6_loansOf_15 eX6_loansOf_16 (fun h15 => ?_) (fun h15 => ?_)
    · skip
      refine zR_iload_n C eX6_loansOf_50 1 rfl rfl ?_
      subst hi
      exact zR_iret C rfl rfl eX6_loansOf_51 (Nat.zero_le _) (Nat.zero_le _) ⟨rfl, rfl⟩
    · skip
      exact absurd h15 (zlpl_out hr.2.1 (by decide) hi)
  | succ k ih =>
    intro i hk
    have hlt : i < zn64 (r 12) := by omega
    have hi40 : i < 40 := Nat.lt_of_lt_of_le hlt hr.2.1.2
    refine zR_iload C eX6_loansOf_5 0 rfl ?_
    refine zR_i2l C eX6_loansOf_7 ?_
    refine zR_aload_n C eX6_loansOf_8 2 rfl rfl ?_
    refine zR_get C fX6_7 eX6_loansOf_9 0 rW_g0 rfl ?_
    refine zR_bipush (v := 12) C eX6_loansOf_12 (by decide) ?_
    refine zR_laldK C eX6_loansOf_14 1 rW_g1 12 rfl (vp_in_iff.mpr (by decide)) ?_
    refine zR_cifge C eX6_loansOf_15 eX6_loansOf_16 (fun h15 => ?_) (fun h15 => ?_)
    · skip
      exact absurd (zlpl_in hr.2.1 (by decide) hlt) h15
    · skip
      refine zR_iload_n C eX6_loansOf_19 1 rfl rfl ?_
      refine zR_aload_n C eX6_loansOf_20 2 rfl rfl ?_
      refine zR_get C fX6_7 eX6_loansOf_21 0 rW_g0 rfl ?_
      refine zR_iload C eX6_loansOf_24 0 rfl ?_
      refine zR_iload_n C eX6_loansOf_26 4 rfl rfl ?_
      refine zR_callS1 C kX6_138 eX6_loansOf_27 (c_X6_ofLoanAtN _ _ hi40 (by omega)) rfl rfl (by decide) (by decide) (Nat.le_of_ble_eq_true rfl) (Nat.zero_le _) (Nat.zero_le _) ?_
      refine zR_laldN C eX6_loansOf_30 1 rW_g1 ⟨by omega, by decide⟩ ?_
      refine zR_iload_n C eX6_loansOf_31 3 rfl rfl ?_
      refine zR_i2l C eX6_loansOf_32 ?_
      refine zR_cifne C eX6_loansOf_33 eX6_loansOf_34 (fun h33 => ?_) (fun h33 => ?_)
      · skip
        refine zR_iconst (v := 0) C eX6_loansOf_41 (by decide) ?_
        refine zR_iadd C eX6_loansOf_42 ?_
        refine zR_istore_n (lv' := [(3, _), (4, _), (0, _), (1, _), (2, _)]) C eX6_loansOf_43 rfl (by rw [hn]; decide) rfl ?_
        refine zR_iinc (lv' := [(4, _), (3, _), (0, _), (1, _), (2, _)]) (v' := nI (i + 1)) C eX6_loansOf_44 1 rfl (zinc i) (by rw [hn]; decide) rfl ?_
        refine zR_goto C eX6_loansOf_47 ?_
        have e1 : r_lcnt r k0 s (i + 1) = r_lcnt r k0 s i + 0 := if_neg h33
        refine zR_lv [(4, _), (3, .int (r_lcnt r k0 s (i + 1))), (0, _), (1, _), (2, _)] [0, 1, 2, 3, 4] (by rw [e1]; rfl) ?_
        exact ih (i + 1) (by omega)
      · skip
        refine zR_iconst (v := 1) C eX6_loansOf_37 (by decide) ?_
        refine zR_goto C eX6_loansOf_38 ?_
        refine zR_iadd C eX6_loansOf_42 ?_
        refine zR_istore_n (lv' := [(3, _), (4, _), (0, _), (1, _), (2, _)]) C eX6_loansOf_43 rfl (by rw [hn]; decide) rfl ?_
        refine zR_iinc (lv' := [(4, _), (3, _), (0, _), (1, _), (2, _)]) (v' := nI (i + 1)) C eX6_loansOf_44 1 rfl (zinc i) (by rw [hn]; decide) rfl ?_
        refine zR_goto C eX6_loansOf_47 ?_
        have e1 : r_lcnt r k0 s (i + 1) = r_lcnt r k0 s i + 1 := if_pos h33
        refine zR_lv [(4, _), (3, .int (r_lcnt r k0 s (i + 1))), (0, _), (1, _), (2, _)] [0, 1, 2, 3, 4] (by rw [e1]; rfl) ?_
        exact ih (i + 1) (by omega)
set_option maxHeartbeats 1000000 in
set_option maxRecDepth 100000 in
theorem c_X6_loansOf {l : Launch} {g : zG} (q : Nat → Nat) (m : MD) (r : RW) (s : Int32) (k0 : Nat) (hr : r_ok r) (hk0 : k0 < 2) : zM l g yX6_loansOf cX6_loansOf 5 (some .int) 1 0 0 [.ref (q 0), .int s, .int (nI k0)] (rW g q m r) (zE (some (.int (r_lcnt r k0 s (zn64 (r 12))))) (rW g q m r)) := by
  refine zM_of (by decide +kernel) (Nat.le_of_ble_eq_true rfl) (fun x hl hn _ _ _ C => ?_)
  subst hl
  show zR x g _ (0, 0) 0 [(0, .ref (q 0)), (1, .int s), (2, .int (nI k0))] [] _
  refine zR_iconst (v := 0) C eX6_loansOf_0 (by decide) ?_
  refine zR_istore_n (lv' := [(3, _), (0, _), (1, _), (2, _)]) C eX6_loansOf_1 rfl (by rw [hn]; decide) rfl ?_
  refine zR_iconst (v := 0) C eX6_loansOf_2 (by decide) ?_
  refine zR_istore (lv' := [(4, _), (3, _), (0, _), (1, _), (2, _)]) C eX6_loansOf_3 (by rw [hn]; decide) rfl ?_
  refine zR_lv [(4, .int (nI 0)), (3, .int (r_lcnt r k0 s 0)), (0, _), (1, _), (2, _)] [0, 1, 2, 3, 4] rfl ?_
  exact c_X6_loansOf_lp hk0 hn C hr _ 0 (Nat.zero_add _)
set_option maxHeartbeats 1000000 in
set_option maxRecDepth 100000 in
theorem c_X6_owedOf_lp {x : zX} {g : zG} {q : Nat → Nat} {m : MD} {r : RW} {s : Int32} {k0 : Nat} (hk0 : k0 < 2) (hn : zn x = 5) (C : zC x g RX6 cX6_owedOf (some .int) 1) (hr : r_ok r) : ∀ k i : Nat, i + k = zn64 (r 12) → zR x g (zE (some (.int (r_lsum r k0 s (zn64 (r 12))))) (rW g q m r)) (0, 0) 5 [(4, .int (nI i)), (3, .int (r_lsum r k0 s i)), (0, .ref (q 0)), (1, .int s), (2, .int (nI k0))] [] (rW g q m r) := by
  intro k
  induction k with
  | zero =>
    intro i hk
    have hi : i = zn64 (r 12) := by omega
    refine zR_iload C eX6_owedOf_5 0 rfl ?_
    refine zR_i2l C eX6_owedOf_7 ?_
    refine zR_aload_n C eX6_owedOf_8 2 rfl rfl ?_
    refine zR_get C fX6_7 eX6_owedOf_9 0 rW_g0 rfl ?_
    refine zR_bipush (v := 12) C eX6_owedOf_12 (by decide) ?_
    refine zR_laldK C eX6_owedOf_14 1 rW_g1 12 rfl (vp_in_iff.mpr (by decide)) ?_
    refine zR_cifge C eX6_owedOf_15 eX6_owedOf_16 (fun h15 => ?_) (fun h15 => ?_)
    · skip
      refine zR_iload_n C eX6_owedOf_59 1 rfl rfl ?_
      subst hi
      exact zR_iret C rfl rfl eX6_owedOf_60 (Nat.zero_le _) (Nat.zero_le _) ⟨rfl, rfl⟩
    · skip
      exact absurd h15 (zlpl_out hr.2.1 (by decide) hi)
  | succ k ih =>
    intro i hk
    have hlt : i < zn64 (r 12) := by omega
    have hi40 : i < 40 := Nat.lt_of_lt_of_le hlt hr.2.1.2
    refine zR_iload C eX6_owedOf_5 0 rfl ?_
    refine zR_i2l C eX6_owedOf_7 ?_
    refine zR_aload_n C eX6_owedOf_8 2 rfl rfl ?_
    refine zR_get C fX6_7 eX6_owedOf_9 0 rW_g0 rfl ?_
    refine zR_bipush (v := 12) C eX6_owedOf_12 (by decide) ?_
    refine zR_laldK C eX6_owedOf_14 1 rW_g1 12 rfl (vp_in_iff.mpr (by decide)) ?_
    refine zR_cifge C eX6_owedOf_15 eX6_owedOf_16 (fun h15 => ?_) (fun h15 => ?_)
    · skip
      exact absurd (zlpl_in hr.2.1 (by decide) hlt) h15
    · skip
      refine zR_iload_n C eX6_owedOf_19 1 rfl rfl ?_
      refine zR_aload_n C eX6_owedOf_20 2 rfl rfl ?_
      refine zR_get C fX6_7 eX6_owedOf_21 0 rW_g0 rfl ?_
      refine zR_iload C eX6_owedOf_24 0 rfl ?_
      refine zR_iload_n C eX6_owedOf_26 4 rfl rfl ?_
      refine zR_callS1 C kX6_138 eX6_owedOf_27 (c_X6_ofLoanAtN _ _ hi40 (by omega)) rfl rfl (by decide) (by decide) (Nat.le_of_ble_eq_true rfl) (Nat.zero_le _) (Nat.zero_le _) ?_
      refine zR_laldN C eX6_owedOf_30 1 rW_g1 ⟨by omega, by decide⟩ ?_
      refine zR_iload_n C eX6_owedOf_31 3 rfl rfl ?_
      refine zR_i2l C eX6_owedOf_32 ?_
      refine zR_cifne C eX6_owedOf_33 eX6_owedOf_34 (fun h33 => ?_) (fun h33 => ?_)
      · skip
        refine zR_iconst (v := 0) C eX6_owedOf_50 (by decide) ?_
        refine zR_iadd C eX6_owedOf_51 ?_
        refine zR_istore_n (lv' := [(3, _), (4, _), (0, _), (1, _), (2, _)]) C eX6_owedOf_52 rfl (by rw [hn]; decide) rfl ?_
        refine zR_iinc (lv' := [(4, _), (3, _), (0, _), (1, _), (2, _)]) (v' := nI (i + 1)) C eX6_owedOf_53 1 rfl (zinc i) (by rw [hn]; decide) rfl ?_
        refine zR_goto C eX6_owedOf_56 ?_
        have e1 : r_lsum r k0 s (i + 1) = r_lsum r k0 s i + 0 := if_neg h33
        refine zR_lv [(4, _), (3, .int (r_lsum r k0 s (i + 1))), (0, _), (1, _), (2, _)] [0, 1, 2, 3, 4] (by rw [e1]; rfl) ?_
        exact ih (i + 1) (by omega)
      · skip
        refine zR_aload_n C eX6_owedOf_37 2 rfl rfl ?_
        refine zR_iload C eX6_owedOf_38 0 rfl ?_
        refine zR_iconst (v := 3) C eX6_owedOf_40 (by decide) ?_
        refine zR_callS1 C kX6_138 eX6_owedOf_41 (c_X6_ofLoanAtN _ 3 hi40 (by omega)) rfl rfl (by decide) (by decide) (Nat.le_of_ble_eq_true rfl) (Nat.zero_le _) (Nat.zero_le _) ?_
        refine zR_callV1 C kX6_60 eX6_owedOf_44 (c_X6_number q _ _ _ (by omega)) rfl 0 6 rW_g0 rfl rfl _ rW_c rW_n rfl (by decide) (by decide) (Nat.le_of_ble_eq_true rfl) (Nat.zero_le _) (Nat.zero_le _) rW_f rW_r ?_
        refine zR_goto C eX6_owedOf_47 ?_
        refine zR_iadd C eX6_owedOf_51 ?_
        refine zR_istore_n (lv' := [(3, _), (4, _), (0, _), (1, _), (2, _)]) C eX6_owedOf_52 rfl (by rw [hn]; decide) rfl ?_
        refine zR_iinc (lv' := [(4, _), (3, _), (0, _), (1, _), (2, _)]) (v' := nI (i + 1)) C eX6_owedOf_53 1 rfl (zinc i) (by rw [hn]; decide) rfl ?_
        refine zR_goto C eX6_owedOf_56 ?_
        have e1 : r_lsum r k0 s (i + 1) = r_lsum r k0 s i + (r (134 + 5 * i + 3)).toInt32 := if_pos h33
        refine zR_lv [(4, _), (3, .int (r_lsum r k0 s (i + 1))), (0, _), (1, _), (2, _)] [0, 1, 2, 3, 4] (by rw [e1]; rfl) ?_
        exact ih (i + 1) (by omega)
set_option maxHeartbeats 1000000 in
set_option maxRecDepth 100000 in
theorem c_X6_owedOf {l : Launch} {g : zG} (q : Nat → Nat) (m : MD) (r : RW) (s : Int32) (k0 : Nat) (hr : r_ok r) (hk0 : k0 < 2) : zM l g yX6_owedOf cX6_owedOf 5 (some .int) 1 0 0 [.ref (q 0), .int s, .int (nI k0)] (rW g q m r) (zE (some (.int (r_lsum r k0 s (zn64 (r 12))))) (rW g q m r)) := by
  refine zM_of (by decide +kernel) (Nat.le_of_ble_eq_true rfl) (fun x hl hn _ _ _ C => ?_)
  subst hl
  show zR x g _ (0, 0) 0 [(0, .ref (q 0)), (1, .int s), (2, .int (nI k0))] [] _
  refine zR_iconst (v := 0) C eX6_owedOf_0 (by decide) ?_
  refine zR_istore_n (lv' := [(3, _), (0, _), (1, _), (2, _)]) C eX6_owedOf_1 rfl (by rw [hn]; decide) rfl ?_
  refine zR_iconst (v := 0) C eX6_owedOf_2 (by decide) ?_
  refine zR_istore (lv' := [(4, _), (3, _), (0, _), (1, _), (2, _)]) C eX6_owedOf_3 (by rw [hn]; decide) rfl ?_
  refine zR_lv [(4, .int (nI 0)), (3, .int (r_lsum r k0 s 0)), (0, _), (1, _), (2, _)] [0, 1, 2, 3, 4] rfl ?_
  exact c_X6_owedOf_lp hk0 hn C hr _ 0 (Nat.zero_add _)
set_option maxHeartbeats 1000000 in
set_option maxRecDepth 100000 in
theorem c_X6_plansOf_lp {x : zX} {g : zG} {q : Nat → Nat} {m : MD} {r : RW} {s : Int32} (hn : zn x = 4) (C : zC x g RX6 cX6_plansOf (some .int) 1) (hr : r_ok r) : ∀ k i : Nat, i + k = zn64 (r 13) → zR x g (zE (some (.int (r_pcnt r s (zn64 (r 13))))) (rW g q m r)) (0, 0) 4 [(3, .int (nI i)), (2, .int (r_pcnt r s i)), (0, .ref (q 0)), (1, .int s)] [] (rW g q m r) := by
  intro k
  induction k with
  | zero =>
    intro i hk
    have hi : i = zn64 (r 13) := by omega
    refine zR_iload_n C eX6_plansOf_4 0 rfl rfl ?_
    refine zR_i2l C eX6_plansOf_5 ?_
    refine zR_aload_n C eX6_plansOf_6 2 rfl rfl ?_
    refine zR_get C fX6_7 eX6_plansOf_7 0 rW_g0 rfl ?_
    refine zR_bipush (v := 13) C eX6_plansOf_10 (by decide) ?_
    refine zR_laldK C eX6_plansOf_12 1 rW_g1 13 rfl (vp_in_iff.mpr (by decide)) ?_
    refine zR_cifge C eX6_plansOf_13 eX6_plansOf_14 (fun h13 => ?_) (fun h13 => ?_)
    · skip
      refine zR_iload_n C eX6_plansOf_47 1 rfl rfl ?_
      subst hi
      exact zR_iret C rfl rfl eX6_plansOf_48 (Nat.zero_le _) (Nat.zero_le _) ⟨rfl, rfl⟩
    · skip
      exact absurd h13 (zlpl_out hr.2.2.2.1 (by decide) hi)
  | succ k ih =>
    intro i hk
    have hlt : i < zn64 (r 13) := by omega
    have hi40 : i < 30 := Nat.lt_of_lt_of_le hlt hr.2.2.2.1.2
    refine zR_iload_n C eX6_plansOf_4 0 rfl rfl ?_
    refine zR_i2l C eX6_plansOf_5 ?_
    refine zR_aload_n C eX6_plansOf_6 2 rfl rfl ?_
    refine zR_get C fX6_7 eX6_plansOf_7 0 rW_g0 rfl ?_
    refine zR_bipush (v := 13) C eX6_plansOf_10 (by decide) ?_
    refine zR_laldK C eX6_plansOf_12 1 rW_g1 13 rfl (vp_in_iff.mpr (by decide)) ?_
    refine zR_cifge C eX6_plansOf_13 eX6_plansOf_14 (fun h13 => ?_) (fun h13 => ?_)
    · skip
      exact absurd (zlpl_in hr.2.2.2.1 (by decide) hlt) h13
    · skip
      refine zR_iload_n C eX6_plansOf_17 1 rfl rfl ?_
      refine zR_aload_n C eX6_plansOf_18 2 rfl rfl ?_
      refine zR_get C fX6_7 eX6_plansOf_19 0 rW_g0 rfl ?_
      refine zR_iload_n C eX6_plansOf_22 0 rfl rfl ?_
      refine zR_iconst (v := 0) C eX6_plansOf_23 (by decide) ?_
      refine zR_callS1 C kX6_172 eX6_plansOf_24 (c_X6_ofPlanAtN _ 0 hi40 (by omega)) rfl rfl (by decide) (by decide) (Nat.le_of_ble_eq_true rfl) (Nat.zero_le _) (Nat.zero_le _) ?_
      refine zR_laldN C eX6_plansOf_27 1 rW_g1 ⟨by omega, by decide⟩ ?_
      refine zR_iload_n C eX6_plansOf_28 3 rfl rfl ?_
      refine zR_i2l C eX6_plansOf_29 ?_
      refine zR_cifne C eX6_plansOf_30 eX6_plansOf_31 (fun h30 => ?_) (fun h30 => ?_)
      · skip
        refine zR_iconst (v := 0) C eX6_plansOf_38 (by decide) ?_
        refine zR_iadd C eX6_plansOf_39 ?_
        refine zR_istore_n (lv' := [(2, _), (3, _), (0, _), (1, _)]) C eX6_plansOf_40 rfl (by rw [hn]; decide) rfl ?_
        refine zR_iinc (lv' := [(3, _), (2, _), (0, _), (1, _)]) (v' := nI (i + 1)) C eX6_plansOf_41 1 rfl (zinc i) (by rw [hn]; decide) rfl ?_
        refine zR_goto C eX6_plansOf_44 ?_
        have e1 : r_pcnt r s (i + 1) = r_pcnt r s i + 0 := if_neg h30
        refine zR_lv [(3, _), (2, .int (r_pcnt r s (i + 1))), (0, _), (1, _)] [0, 1, 2, 3] (by rw [e1]; rfl) ?_
        exact ih (i + 1) (by omega)
      · skip
        refine zR_iconst (v := 1) C eX6_plansOf_34 (by decide) ?_
        refine zR_goto C eX6_plansOf_35 ?_
        refine zR_iadd C eX6_plansOf_39 ?_
        refine zR_istore_n (lv' := [(2, _), (3, _), (0, _), (1, _)]) C eX6_plansOf_40 rfl (by rw [hn]; decide) rfl ?_
        refine zR_iinc (lv' := [(3, _), (2, _), (0, _), (1, _)]) (v' := nI (i + 1)) C eX6_plansOf_41 1 rfl (zinc i) (by rw [hn]; decide) rfl ?_
        refine zR_goto C eX6_plansOf_44 ?_
        have e1 : r_pcnt r s (i + 1) = r_pcnt r s i + 1 := if_pos h30
        refine zR_lv [(3, _), (2, .int (r_pcnt r s (i + 1))), (0, _), (1, _)] [0, 1, 2, 3] (by rw [e1]; rfl) ?_
        exact ih (i + 1) (by omega)
set_option maxHeartbeats 1000000 in
set_option maxRecDepth 100000 in
theorem c_X6_plansOf {l : Launch} {g : zG} (q : Nat → Nat) (m : MD) (r : RW) (s : Int32) (hr : r_ok r) : zM l g yX6_plansOf cX6_plansOf 4 (some .int) 1 0 0 [.ref (q 0), .int s] (rW g q m r) (zE (some (.int (r_pcnt r s (zn64 (r 13))))) (rW g q m r)) := by
  refine zM_of (by decide +kernel) (Nat.le_of_ble_eq_true rfl) (fun x hl hn _ _ _ C => ?_)
  subst hl
  show zR x g _ (0, 0) 0 [(0, .ref (q 0)), (1, .int s)] [] _
  refine zR_iconst (v := 0) C eX6_plansOf_0 (by decide) ?_
  refine zR_istore_n (lv' := [(2, _), (0, _), (1, _)]) C eX6_plansOf_1 rfl (by rw [hn]; decide) rfl ?_
  refine zR_iconst (v := 0) C eX6_plansOf_2 (by decide) ?_
  refine zR_istore_n (lv' := [(3, _), (2, _), (0, _), (1, _)]) C eX6_plansOf_3 rfl (by rw [hn]; decide) rfl ?_
  refine zR_lv [(3, .int (nI 0)), (2, .int (r_pcnt r s 0)), (0, _), (1, _)] [0, 1, 2, 3] rfl ?_
  exact c_X6_plansOf_lp hn C hr _ 0 (Nat.zero_add _)
set_option maxHeartbeats 1000000 in
set_option maxRecDepth 100000 in
theorem c_X6_whyNot {l : Launch} {g : zG} (q : Nat → Nat) (m : MD) (r : RW) (a : Int32) (b : Int32) (i : Int32) (ha : vp_in a 8) (hr : r_ok r) : zM l g yX6_whyNot cX6_whyNot 4 (some .int) 2 0 0 [.ref (q 0), .int a, .int b, .int i] (rW g q m r) (zE (some (.int (r_why r a b i))) (rW g q m r)) := by
  refine zM_of (by decide +kernel) (Nat.le_of_ble_eq_true rfl) (fun x hl hn _ _ _ C => ?_)
  subst hl
  show zR x g _ (0, 0) 0 [(0, .ref (q 0)), (1, .int a), (2, .int b), (3, .int i)] [] _
  have hz := vp_lt ha (by decide)
  refine zR_aload_n C eX6_whyNot_0 0 rfl rfl ?_
  refine zR_iload_n C eX6_whyNot_1 1 rfl rfl ?_
  refine zR_callV1 C kX6_94 eX6_whyNot_2 (c_X6_isFrozen q _ _ _ (by assumption)) rfl 0 6 rW_g0 rfl rfl _ rW_c rW_n rfl (by decide) (by decide) (Nat.le_of_ble_eq_true rfl) (Nat.zero_le _) (Nat.zero_le _) rW_f rW_r ?_
  refine zR_bfeq C eX6_whyNot_5 (fun h5 => ?_) (fun h5 => ?_)
  · skip
    refine zR_aload_n C eX6_whyNot_12 0 rfl rfl ?_
    refine zR_iload_n C eX6_whyNot_13 1 rfl rfl ?_
    refine zR_callV1 C kX6_90 eX6_whyNot_14 (c_X6_left q _ _ _ (by assumption)) rfl 0 6 rW_g0 rfl rfl _ rW_c rW_n rfl (by decide) (by decide) (Nat.le_of_ble_eq_true rfl) (Nat.zero_le _) (Nat.zero_le _) rW_f rW_r ?_
    refine zR_iload_n C eX6_whyNot_17 3 rfl rfl ?_
    refine zR_i2l C eX6_whyNot_18 ?_
    refine zR_lsub C eX6_whyNot_19 ?_
    refine zR_aload_n C eX6_whyNot_20 0 rfl rfl ?_
    refine zR_iload_n C eX6_whyNot_21 1 rfl rfl ?_
    refine zR_callV1 C kX6_98 eX6_whyNot_22 (c_X6_thawing q _ _ _ (by assumption)) rfl 0 6 rW_g0 rfl rfl _ rW_c rW_n rfl (by decide) (by decide) (Nat.le_of_ble_eq_true rfl) (Nat.zero_le _) (Nat.zero_le _) rW_f rW_r ?_
    refine zR_cifgt C eX6_whyNot_25 eX6_whyNot_26 (fun h25 => ?_) (fun h25 => ?_)
    · skip
      refine zR_aload_n C eX6_whyNot_33 0 rfl rfl ?_
      refine zR_iload_n C eX6_whyNot_34 2 rfl rfl ?_
      refine zR_iconst (v := 1) C eX6_whyNot_35 (by decide) ?_
      refine zR_callV1 C kX6_141 eX6_whyNot_36 (c_X6_loansOf q _ _ _ 1 hr (by decide)) rfl 0 6 rW_g0 rfl rfl _ rW_c rW_n rfl (by decide) (by decide) (Nat.le_of_ble_eq_true rfl) (Nat.zero_le _) (Nat.zero_le _) rW_f rW_r ?_
      refine zR_i2l C eX6_whyNot_39 ?_
      refine zR_aload_n C eX6_whyNot_40 0 rfl rfl ?_
      refine zR_get C fX6_7 eX6_whyNot_41 0 rW_g0 rfl ?_
      refine zR_bipush (v := 6) C eX6_whyNot_44 (by decide) ?_
      refine zR_laldK C eX6_whyNot_46 1 rW_g1 6 rfl (vp_in_iff.mpr (by decide)) ?_
      refine zR_ciflt C eX6_whyNot_47 eX6_whyNot_48 (fun h47 => ?_) (fun h47 => ?_)
      · skip
        refine zR_iconst (v := 0) C eX6_whyNot_55 (by decide) ?_
        exact zR_iret C rfl rfl eX6_whyNot_56 (Nat.zero_le _) (Nat.zero_le _) ⟨(by first | (unfold r_why; rw [if_neg h5, if_neg h25, if_pos h47]; first | done | rfl) | rfl | (simp only [r_why, if_neg h5, if_neg h25, if_pos h47]; first | done | rfl)), (by first | (unfold r_why; rw [if_neg h5, if_neg h25, if_pos h47]; first | done | rfl) | rfl | (simp only [r_why, if_neg h5, if_neg h25, if_pos h47]; first | done | rfl))⟩
      · skip
        refine zR_iconst (v := 4) C eX6_whyNot_51 (by decide) ?_
        refine zR_goto C eX6_whyNot_52 ?_
        exact zR_iret C rfl rfl eX6_whyNot_56 (Nat.zero_le _) (Nat.zero_le _) ⟨(by first | (unfold r_why; rw [if_neg h5, if_neg h25, if_neg h47]; first | done | rfl) | rfl | (simp only [r_why, if_neg h5, if_neg h25, if_neg h47]; first | done | rfl)), (by first | (unfold r_why; rw [if_neg h5, if_neg h25, if_neg h47]; first | done | rfl) | rfl | (simp only [r_why, if_neg h5, if_neg h25, if_neg h47]; first | done | rfl))⟩
    · skip
      refine zR_iconst (v := 3) C eX6_whyNot_29 (by decide) ?_
      refine zR_goto C eX6_whyNot_30 ?_
      exact zR_iret C rfl rfl eX6_whyNot_56 (Nat.zero_le _) (Nat.zero_le _) ⟨(by first | (unfold r_why; rw [if_neg h5, if_pos h25]; first | done | rfl) | rfl | (simp only [r_why, if_neg h5, if_pos h25]; first | done | rfl)), (by first | (unfold r_why; rw [if_neg h5, if_pos h25]; first | done | rfl) | rfl | (simp only [r_why, if_neg h5, if_pos h25]; first | done | rfl))⟩
  · skip
    refine zR_iconst (v := 2) C eX6_whyNot_8 (by decide) ?_
    refine zR_goto C eX6_whyNot_9 ?_
    exact zR_iret C rfl rfl eX6_whyNot_56 (Nat.zero_le _) (Nat.zero_le _) ⟨(by first | (unfold r_why; rw [if_pos h5]; first | done | rfl) | rfl | (simp only [r_why, if_pos h5]; first | done | rfl)), (by first | (unfold r_why; rw [if_pos h5]; first | done | rfl) | rfl | (simp only [r_why, if_pos h5]; first | done | rfl))⟩
