/-! Loans: the walks. -/
set_option maxHeartbeats 400000 in
set_option maxRecDepth 100000 in
theorem c_X2_has {l : Launch} {g : zG} (q : Nat → Nat) (d : LD) (i : Int32)  : zM l g yX2_has cX2_has 2 (some .boolean) 0 0 0 [.ref (q 0), .int i] (lW g q d) (zE (some (.int (zB (l_has d i)))) (lW g q d)) := by
  refine zM_of (by decide +kernel) (Nat.le_of_ble_eq_true rfl) (fun x hl hn _ _ _ C => ?_)
  subst hl
  show zR x g _ (0, 0) 0 [(0, .ref (q 0)), (1, .int i)] [] _
  refine zR_iload_n C eX2_has_0 1 rfl rfl ?_
  refine zR_iflt C eX2_has_1 (fun h1 => ?_) (fun h1 => ?_)
  · skip
    refine zR_iconst (v := 0) C eX2_has_16 (by decide) ?_
    exact zR_iret C rfl rfl eX2_has_17 (Nat.zero_le _) (Nat.zero_le _) ⟨(by first | (unfold l_has; rw [if_pos h1]; first | done | rfl) | rfl | (simp only [l_has, if_pos h1]; first | done | rfl)), (by first | (unfold l_has; rw [if_pos h1]; first | done | rfl) | rfl | (simp only [l_has, if_pos h1]; first | done | rfl))⟩
  · skip
    refine zR_iload_n C eX2_has_4 1 rfl rfl ?_
    refine zR_aload_n C eX2_has_5 0 rfl rfl ?_
    refine zR_get C fX2_9 eX2_has_6 0 lW_g0 rfl ?_
    refine zR_icmp_ge C eX2_has_9 (fun h9 => ?_) (fun h9 => ?_)
    · skip
      refine zR_iconst (v := 0) C eX2_has_16 (by decide) ?_
      exact zR_iret C rfl rfl eX2_has_17 (Nat.zero_le _) (Nat.zero_le _) ⟨(by first | (unfold l_has; rw [if_neg h1, if_neg h9]; first | done | rfl) | rfl | (simp only [l_has, if_neg h1, if_neg h9]; first | done | rfl)), (by first | (unfold l_has; rw [if_neg h1, if_neg h9]; first | done | rfl) | rfl | (simp only [l_has, if_neg h1, if_neg h9]; first | done | rfl))⟩
    · skip
      refine zR_iconst (v := 1) C eX2_has_12 (by decide) ?_
      refine zR_goto C eX2_has_13 ?_
      exact zR_iret C rfl rfl eX2_has_17 (Nat.zero_le _) (Nat.zero_le _) ⟨(by first | (unfold l_has; rw [if_neg h1, if_pos h9]; first | done | rfl) | rfl | (simp only [l_has, if_neg h1, if_pos h9]; first | done | rfl)), (by first | (unfold l_has; rw [if_neg h1, if_pos h9]; first | done | rfl) | rfl | (simp only [l_has, if_neg h1, if_pos h9]; first | done | rfl))⟩
set_option maxHeartbeats 400000 in
set_option maxRecDepth 100000 in
theorem c_X2_add {l : Launch} {g : zG} (q : Nat → Nat) (d : LD) (a : Int32) (b : Int32) (c : Int32) (e : Int32) (w : Int32) (hv : vp_in (l_num d) 40) : zM l g yX2_add cX2_add 7 (some .int) 0 0 0 [.ref (q 0), .int a, .int b, .int c, .int e, .int w] (lW g q d) (zE (some (.int (l_num d))) (lW g q (l_add d a b c e w))) := by
  refine zM_of (by decide +kernel) (Nat.le_of_ble_eq_true rfl) (fun x hl hn _ _ _ C => ?_)
  subst hl
  show zR x g _ (0, 0) 0 [(0, .ref (q 0)), (1, .int a), (2, .int b), (3, .int c), (4, .int e), (5, .int w)] [] _
  refine zR_aload_n C eX2_add_0 0 rfl rfl ?_
  refine zR_get C fX2_9 eX2_add_1 0 lW_g0 rfl ?_
  refine zR_istore (lv' := [(6, _), (0, _), (1, _), (2, _), (3, _), (4, _), (5, _)]) C eX2_add_4 (by rw [hn]; decide) rfl ?_
  refine zR_aload_n C eX2_add_6 1 rfl rfl ?_
  refine zR_get C fX2_15 eX2_add_7 0 lW_g0 rfl ?_
  refine zR_iload C eX2_add_10 0 rfl ?_
  refine zR_iload_n C eX2_add_12 2 rfl rfl ?_
  refine zR_iast C eX2_add_13 1 lW_g1 (by assumption) lW_s1 ?_
  refine zR_aload_n C eX2_add_14 1 rfl rfl ?_
  refine zR_get C fX2_19 eX2_add_15 0 lW_g0 rfl ?_
  refine zR_iload C eX2_add_18 0 rfl ?_
  refine zR_iload_n C eX2_add_20 3 rfl rfl ?_
  refine zR_iast C eX2_add_21 2 lW_g2 (by assumption) lW_s2 ?_
  refine zR_aload_n C eX2_add_22 1 rfl rfl ?_
  refine zR_get C fX2_22 eX2_add_23 0 lW_g0 rfl ?_
  refine zR_iload C eX2_add_26 0 rfl ?_
  refine zR_iload_n C eX2_add_28 4 rfl rfl ?_
  refine zR_iast C eX2_add_29 3 lW_g3 (by assumption) lW_s3 ?_
  refine zR_aload_n C eX2_add_30 1 rfl rfl ?_
  refine zR_get C fX2_25 eX2_add_31 0 lW_g0 rfl ?_
  refine zR_iload C eX2_add_34 0 rfl ?_
  refine zR_iload C eX2_add_36 5 rfl ?_
  refine zR_iast C eX2_add_38 4 lW_g4 (by assumption) lW_s4 ?_
  refine zR_aload_n C eX2_add_39 1 rfl rfl ?_
  refine zR_get C fX2_28 eX2_add_40 0 lW_g0 rfl ?_
  refine zR_iload C eX2_add_43 0 rfl ?_
  refine zR_iload C eX2_add_45 6 rfl ?_
  refine zR_iast C eX2_add_47 5 lW_g5 (by assumption) lW_s5 ?_
  refine zR_aload_n C eX2_add_48 1 rfl rfl ?_
  refine zR_dup C eX2_add_49 rfl ?_
  refine zR_get C fX2_9 eX2_add_50 0 lW_g0 rfl ?_
  refine zR_iconst (v := 1) C eX2_add_53 (by decide) ?_
  refine zR_iadd C eX2_add_54 ?_
  refine zR_put C pX2_9 eX2_add_55 0 lW_g0 (Nat.le_of_ble_eq_true rfl) lW_s0_0 ?_
  refine zR_iload C eX2_add_58 0 rfl ?_
  exact zR_iret C rfl rfl eX2_add_60 (Nat.zero_le _) (Nat.zero_le _) ⟨rfl, rfl⟩
set_option maxHeartbeats 400000 in
set_option maxRecDepth 100000 in
theorem c_X2_countWithL_lp {x : zX} {g : zG} {q : Nat → Nat} {d : LD} {s : Int32} (hn : zn x = 5) (C : zC x g RX2 cX2_countWith (some .int) 0) (hd : l_ok d) : ∀ k i : Nat, i + k = zn32 (l_num d) → zR x g (zE (some (.int (z_cnt (l_len d) s (zn32 (l_num d))))) (lW g q d)) (0, 0) 5 [(4, .int (nI i)), (3, .int (z_cnt (l_len d) s i)), (0, .ref (q 0)), (1, .ref (q 1)), (2, .int s)] [] (lW g q d) := by
  intro k
  induction k with
  | zero =>
    intro i hk
    have hi : i = zn32 (l_num d) := by omega
    refine zR_iload C eX2_countWith_5 0 rfl ?_
    refine zR_aload_n C eX2_countWith_7 2 rfl rfl ?_
    refine zR_get C fX2_9 eX2_countWith_8 0 lW_g0 rfl ?_
    refine zR_icmp_ge C eX2_countWith_11 (fun h11 => ?_) (fun h11 => ?_)
    · skip
      refine zR_iload_n C eX2_countWith_31 1 rfl rfl ?_
      subst hi
      exact zR_iret C rfl rfl eX2_countWith_32 (Nat.zero_le _) (Nat.zero_le _) ⟨rfl, rfl⟩
    · skip
      exact absurd h11 (zlp_out hd hi)
  | succ k ih =>
    intro i hk
    have hlt : i < zn32 (l_num d) := by omega
    refine zR_iload C eX2_countWith_5 0 rfl ?_
    refine zR_aload_n C eX2_countWith_7 2 rfl rfl ?_
    refine zR_get C fX2_9 eX2_countWith_8 0 lW_g0 rfl ?_
    refine zR_icmp_ge C eX2_countWith_11 (fun h11 => ?_) (fun h11 => ?_)
    · skip
      exact absurd (zlp_in hd (by decide) hlt) h11
    · skip
      refine zR_aload_n C eX2_countWith_14 3 rfl rfl ?_
      refine zR_iload C eX2_countWith_15 0 rfl ?_
      refine zR_ialdN C eX2_countWith_17 1 lW_g1 (zok_lt hd hlt (by decide)) ?_
      refine zR_iload_n C eX2_countWith_18 4 rfl rfl ?_
      refine zR_icmp_ne C eX2_countWith_19 (fun h19 => ?_) (fun h19 => ?_)
      · skip
        refine zR_iinc (lv' := [(4, _), (3, _), (0, _), (1, _), (2, _)]) (v' := nI (i + 1)) C eX2_countWith_25 0 rfl (zinc i) (by rw [hn]; decide) rfl ?_
        refine zR_goto C eX2_countWith_28 ?_
        have e1 : z_cnt (l_len d) s (i + 1) = z_cnt (l_len d) s i := if_neg h19
        refine zR_lv [(4, _), (3, .int (z_cnt (l_len d) s (i + 1))), (0, _), (1, _), (2, _)] [0, 1, 2, 3, 4] (by rw [e1]; rfl) ?_
        exact ih (i + 1) (by omega)
      · skip
        refine zR_iinc (lv' := [(3, _), (4, _), (0, _), (1, _), (2, _)]) C eX2_countWith_22 1 rfl rfl (by rw [hn]; decide) rfl ?_
        refine zR_iinc (lv' := [(4, _), (3, _), (0, _), (1, _), (2, _)]) (v' := nI (i + 1)) C eX2_countWith_25 1 rfl (zinc i) (by rw [hn]; decide) rfl ?_
        refine zR_goto C eX2_countWith_28 ?_
        have e1 : z_cnt (l_len d) s (i + 1) = z_cnt (l_len d) s i + 1 := if_pos h19
        refine zR_lv [(4, _), (3, .int (z_cnt (l_len d) s (i + 1))), (0, _), (1, _), (2, _)] [0, 1, 2, 3, 4] (by rw [e1]; rfl) ?_
        exact ih (i + 1) (by omega)
set_option maxHeartbeats 400000 in
set_option maxRecDepth 100000 in
theorem c_X2_countWithL {l : Launch} {g : zG} (q : Nat → Nat) (d : LD) (s : Int32) (hd : l_ok d) : zM l g yX2_countWith cX2_countWith 5 (some .int) 0 0 0 [.ref (q 0), .ref (q 1), .int s] (lW g q d) (zE (some (.int (z_cnt (l_len d) s (zn32 (l_num d))))) (lW g q d)) := by
  refine zM_of (by decide +kernel) (Nat.le_of_ble_eq_true rfl) (fun x hl hn _ _ _ C => ?_)
  subst hl
  show zR x g _ (0, 0) 0 [(0, .ref (q 0)), (1, .ref (q 1)), (2, .int s)] [] _
  refine zR_iconst (v := 0) C eX2_countWith_0 (by decide) ?_
  refine zR_istore_n (lv' := [(3, _), (0, _), (1, _), (2, _)]) C eX2_countWith_1 rfl (by rw [hn]; decide) rfl ?_
  refine zR_iconst (v := 0) C eX2_countWith_2 (by decide) ?_
  refine zR_istore (lv' := [(4, _), (3, _), (0, _), (1, _), (2, _)]) C eX2_countWith_3 (by rw [hn]; decide) rfl ?_
  exact c_X2_countWithL_lp hn C hd _ 0 (Nat.zero_add _)
set_option maxHeartbeats 400000 in
set_option maxRecDepth 100000 in
theorem c_X2_owedWithL_lp {x : zX} {g : zG} {q : Nat → Nat} {d : LD} {s : Int32} (hn : zn x = 5) (C : zC x g RX2 cX2_owedWith (some .int) 0) (hd : l_ok d) : ∀ k i : Nat, i + k = zn32 (l_num d) → zR x g (zE (some (.int (z_sum (l_len d) (l_owe d) s (zn32 (l_num d))))) (lW g q d)) (0, 0) 5 [(4, .int (nI i)), (3, .int (z_sum (l_len d) (l_owe d) s i)), (0, .ref (q 0)), (1, .ref (q 1)), (2, .int s)] [] (lW g q d) := by
  intro k
  induction k with
  | zero =>
    intro i hk
    have hi : i = zn32 (l_num d) := by omega
    refine zR_iload C eX2_owedWith_5 0 rfl ?_
    refine zR_aload_n C eX2_owedWith_7 2 rfl rfl ?_
    refine zR_get C fX2_9 eX2_owedWith_8 0 lW_g0 rfl ?_
    refine zR_icmp_ge C eX2_owedWith_11 (fun h11 => ?_) (fun h11 => ?_)
    · skip
      refine zR_iload_n C eX2_owedWith_38 1 rfl rfl ?_
      subst hi
      exact zR_iret C rfl rfl eX2_owedWith_39 (Nat.zero_le _) (Nat.zero_le _) ⟨rfl, rfl⟩
    · skip
      exact absurd h11 (zlp_out hd hi)
  | succ k ih =>
    intro i hk
    have hlt : i < zn32 (l_num d) := by omega
    refine zR_iload C eX2_owedWith_5 0 rfl ?_
    refine zR_aload_n C eX2_owedWith_7 2 rfl rfl ?_
    refine zR_get C fX2_9 eX2_owedWith_8 0 lW_g0 rfl ?_
    refine zR_icmp_ge C eX2_owedWith_11 (fun h11 => ?_) (fun h11 => ?_)
    · skip
      exact absurd (zlp_in hd (by decide) hlt) h11
    · skip
      refine zR_aload_n C eX2_owedWith_14 3 rfl rfl ?_
      refine zR_iload C eX2_owedWith_15 0 rfl ?_
      refine zR_ialdN C eX2_owedWith_17 1 lW_g1 (zok_lt hd hlt (by decide)) ?_
      refine zR_iload_n C eX2_owedWith_18 4 rfl rfl ?_
      refine zR_icmp_ne C eX2_owedWith_19 (fun h19 => ?_) (fun h19 => ?_)
      · skip
        refine zR_iinc (lv' := [(4, _), (3, _), (0, _), (1, _), (2, _)]) (v' := nI (i + 1)) C eX2_owedWith_32 0 rfl (zinc i) (by rw [hn]; decide) rfl ?_
        refine zR_goto C eX2_owedWith_35 ?_
        have e1 : z_sum (l_len d) (l_owe d) s (i + 1) = z_sum (l_len d) (l_owe d) s i := if_neg h19
        refine zR_lv [(4, _), (3, .int (z_sum (l_len d) (l_owe d) s (i + 1))), (0, _), (1, _), (2, _)] [0, 1, 2, 3, 4] (by rw [e1]; rfl) ?_
        exact ih (i + 1) (by omega)
      · skip
        refine zR_iload_n C eX2_owedWith_22 1 rfl rfl ?_
        refine zR_aload_n C eX2_owedWith_23 2 rfl rfl ?_
        refine zR_get C fX2_25 eX2_owedWith_24 0 lW_g0 rfl ?_
        refine zR_iload C eX2_owedWith_27 0 rfl ?_
        refine zR_ialdN C eX2_owedWith_29 4 lW_g4 (zok_lt hd hlt (by decide)) ?_
        refine zR_iadd C eX2_owedWith_30 ?_
        refine zR_istore_n (lv' := [(3, _), (4, _), (0, _), (1, _), (2, _)]) C eX2_owedWith_31 rfl (by rw [hn]; decide) rfl ?_
        refine zR_iinc (lv' := [(4, _), (3, _), (0, _), (1, _), (2, _)]) (v' := nI (i + 1)) C eX2_owedWith_32 1 rfl (zinc i) (by rw [hn]; decide) rfl ?_
        refine zR_goto C eX2_owedWith_35 ?_
        have e1 : z_sum (l_len d) (l_owe d) s (i + 1) = z_sum (l_len d) (l_owe d) s i + l_owe d i := if_pos h19
        refine zR_lv [(4, _), (3, .int (z_sum (l_len d) (l_owe d) s (i + 1))), (0, _), (1, _), (2, _)] [0, 1, 2, 3, 4] (by rw [e1]; rfl) ?_
        exact ih (i + 1) (by omega)
set_option maxHeartbeats 400000 in
set_option maxRecDepth 100000 in
theorem c_X2_owedWithL {l : Launch} {g : zG} (q : Nat → Nat) (d : LD) (s : Int32) (hd : l_ok d) : zM l g yX2_owedWith cX2_owedWith 5 (some .int) 0 0 0 [.ref (q 0), .ref (q 1), .int s] (lW g q d) (zE (some (.int (z_sum (l_len d) (l_owe d) s (zn32 (l_num d))))) (lW g q d)) := by
  refine zM_of (by decide +kernel) (Nat.le_of_ble_eq_true rfl) (fun x hl hn _ _ _ C => ?_)
  subst hl
  show zR x g _ (0, 0) 0 [(0, .ref (q 0)), (1, .ref (q 1)), (2, .int s)] [] _
  refine zR_iconst (v := 0) C eX2_owedWith_0 (by decide) ?_
  refine zR_istore_n (lv' := [(3, _), (0, _), (1, _), (2, _)]) C eX2_owedWith_1 rfl (by rw [hn]; decide) rfl ?_
  refine zR_iconst (v := 0) C eX2_owedWith_2 (by decide) ?_
  refine zR_istore (lv' := [(4, _), (3, _), (0, _), (1, _), (2, _)]) C eX2_owedWith_3 (by rw [hn]; decide) rfl ?_
  exact c_X2_owedWithL_lp hn C hd _ 0 (Nat.zero_add _)
set_option maxHeartbeats 400000 in
set_option maxRecDepth 100000 in
theorem c_X2_countWithB_lp {x : zX} {g : zG} {q : Nat → Nat} {d : LD} {s : Int32} (hn : zn x = 5) (C : zC x g RX2 cX2_countWith (some .int) 0) (hd : l_ok d) : ∀ k i : Nat, i + k = zn32 (l_num d) → zR x g (zE (some (.int (z_cnt (l_bor d) s (zn32 (l_num d))))) (lW g q d)) (0, 0) 5 [(4, .int (nI i)), (3, .int (z_cnt (l_bor d) s i)), (0, .ref (q 0)), (1, .ref (q 2)), (2, .int s)] [] (lW g q d) := by
  intro k
  induction k with
  | zero =>
    intro i hk
    have hi : i = zn32 (l_num d) := by omega
    refine zR_iload C eX2_countWith_5 0 rfl ?_
    refine zR_aload_n C eX2_countWith_7 2 rfl rfl ?_
    refine zR_get C fX2_9 eX2_countWith_8 0 lW_g0 rfl ?_
    refine zR_icmp_ge C eX2_countWith_11 (fun h11 => ?_) (fun h11 => ?_)
    · skip
      refine zR_iload_n C eX2_countWith_31 1 rfl rfl ?_
      subst hi
      exact zR_iret C rfl rfl eX2_countWith_32 (Nat.zero_le _) (Nat.zero_le _) ⟨rfl, rfl⟩
    · skip
      exact absurd h11 (zlp_out hd hi)
  | succ k ih =>
    intro i hk
    have hlt : i < zn32 (l_num d) := by omega
    refine zR_iload C eX2_countWith_5 0 rfl ?_
    refine zR_aload_n C eX2_countWith_7 2 rfl rfl ?_
    refine zR_get C fX2_9 eX2_countWith_8 0 lW_g0 rfl ?_
    refine zR_icmp_ge C eX2_countWith_11 (fun h11 => ?_) (fun h11 => ?_)
    · skip
      exact absurd (zlp_in hd (by decide) hlt) h11
    · skip
      refine zR_aload_n C eX2_countWith_14 3 rfl rfl ?_
      refine zR_iload C eX2_countWith_15 0 rfl ?_
      refine zR_ialdN C eX2_countWith_17 2 lW_g2 (zok_lt hd hlt (by decide)) ?_
      refine zR_iload_n C eX2_countWith_18 4 rfl rfl ?_
      refine zR_icmp_ne C eX2_countWith_19 (fun h19 => ?_) (fun h19 => ?_)
      · skip
        refine zR_iinc (lv' := [(4, _), (3, _), (0, _), (1, _), (2, _)]) (v' := nI (i + 1)) C eX2_countWith_25 0 rfl (zinc i) (by rw [hn]; decide) rfl ?_
        refine zR_goto C eX2_countWith_28 ?_
        have e1 : z_cnt (l_bor d) s (i + 1) = z_cnt (l_bor d) s i := if_neg h19
        refine zR_lv [(4, _), (3, .int (z_cnt (l_bor d) s (i + 1))), (0, _), (1, _), (2, _)] [0, 1, 2, 3, 4] (by rw [e1]; rfl) ?_
        exact ih (i + 1) (by omega)
      · skip
        refine zR_iinc (lv' := [(3, _), (4, _), (0, _), (1, _), (2, _)]) C eX2_countWith_22 1 rfl rfl (by rw [hn]; decide) rfl ?_
        refine zR_iinc (lv' := [(4, _), (3, _), (0, _), (1, _), (2, _)]) (v' := nI (i + 1)) C eX2_countWith_25 1 rfl (zinc i) (by rw [hn]; decide) rfl ?_
        refine zR_goto C eX2_countWith_28 ?_
        have e1 : z_cnt (l_bor d) s (i + 1) = z_cnt (l_bor d) s i + 1 := if_pos h19
        refine zR_lv [(4, _), (3, .int (z_cnt (l_bor d) s (i + 1))), (0, _), (1, _), (2, _)] [0, 1, 2, 3, 4] (by rw [e1]; rfl) ?_
        exact ih (i + 1) (by omega)
set_option maxHeartbeats 400000 in
set_option maxRecDepth 100000 in
theorem c_X2_countWithB {l : Launch} {g : zG} (q : Nat → Nat) (d : LD) (s : Int32) (hd : l_ok d) : zM l g yX2_countWith cX2_countWith 5 (some .int) 0 0 0 [.ref (q 0), .ref (q 2), .int s] (lW g q d) (zE (some (.int (z_cnt (l_bor d) s (zn32 (l_num d))))) (lW g q d)) := by
  refine zM_of (by decide +kernel) (Nat.le_of_ble_eq_true rfl) (fun x hl hn _ _ _ C => ?_)
  subst hl
  show zR x g _ (0, 0) 0 [(0, .ref (q 0)), (1, .ref (q 2)), (2, .int s)] [] _
  refine zR_iconst (v := 0) C eX2_countWith_0 (by decide) ?_
  refine zR_istore_n (lv' := [(3, _), (0, _), (1, _), (2, _)]) C eX2_countWith_1 rfl (by rw [hn]; decide) rfl ?_
  refine zR_iconst (v := 0) C eX2_countWith_2 (by decide) ?_
  refine zR_istore (lv' := [(4, _), (3, _), (0, _), (1, _), (2, _)]) C eX2_countWith_3 (by rw [hn]; decide) rfl ?_
  exact c_X2_countWithB_lp hn C hd _ 0 (Nat.zero_add _)
set_option maxHeartbeats 400000 in
set_option maxRecDepth 100000 in
theorem c_X2_owedWithB_lp {x : zX} {g : zG} {q : Nat → Nat} {d : LD} {s : Int32} (hn : zn x = 5) (C : zC x g RX2 cX2_owedWith (some .int) 0) (hd : l_ok d) : ∀ k i : Nat, i + k = zn32 (l_num d) → zR x g (zE (some (.int (z_sum (l_bor d) (l_owe d) s (zn32 (l_num d))))) (lW g q d)) (0, 0) 5 [(4, .int (nI i)), (3, .int (z_sum (l_bor d) (l_owe d) s i)), (0, .ref (q 0)), (1, .ref (q 2)), (2, .int s)] [] (lW g q d) := by
  intro k
  induction k with
  | zero =>
    intro i hk
    have hi : i = zn32 (l_num d) := by omega
    refine zR_iload C eX2_owedWith_5 0 rfl ?_
    refine zR_aload_n C eX2_owedWith_7 2 rfl rfl ?_
    refine zR_get C fX2_9 eX2_owedWith_8 0 lW_g0 rfl ?_
    refine zR_icmp_ge C eX2_owedWith_11 (fun h11 => ?_) (fun h11 => ?_)
    · skip
      refine zR_iload_n C eX2_owedWith_38 1 rfl rfl ?_
      subst hi
      exact zR_iret C rfl rfl eX2_owedWith_39 (Nat.zero_le _) (Nat.zero_le _) ⟨rfl, rfl⟩
    · skip
      exact absurd h11 (zlp_out hd hi)
  | succ k ih =>
    intro i hk
    have hlt : i < zn32 (l_num d) := by omega
    refine zR_iload C eX2_owedWith_5 0 rfl ?_
    refine zR_aload_n C eX2_owedWith_7 2 rfl rfl ?_
    refine zR_get C fX2_9 eX2_owedWith_8 0 lW_g0 rfl ?_
    refine zR_icmp_ge C eX2_owedWith_11 (fun h11 => ?_) (fun h11 => ?_)
    · skip
      exact absurd (zlp_in hd (by decide) hlt) h11
    · skip
      refine zR_aload_n C eX2_owedWith_14 3 rfl rfl ?_
      refine zR_iload C eX2_owedWith_15 0 rfl ?_
      refine zR_ialdN C eX2_owedWith_17 2 lW_g2 (zok_lt hd hlt (by decide)) ?_
      refine zR_iload_n C eX2_owedWith_18 4 rfl rfl ?_
      refine zR_icmp_ne C eX2_owedWith_19 (fun h19 => ?_) (fun h19 => ?_)
      · skip
        refine zR_iinc (lv' := [(4, _), (3, _), (0, _), (1, _), (2, _)]) (v' := nI (i + 1)) C eX2_owedWith_32 0 rfl (zinc i) (by rw [hn]; decide) rfl ?_
        refine zR_goto C eX2_owedWith_35 ?_
        have e1 : z_sum (l_bor d) (l_owe d) s (i + 1) = z_sum (l_bor d) (l_owe d) s i := if_neg h19
        refine zR_lv [(4, _), (3, .int (z_sum (l_bor d) (l_owe d) s (i + 1))), (0, _), (1, _), (2, _)] [0, 1, 2, 3, 4] (by rw [e1]; rfl) ?_
        exact ih (i + 1) (by omega)
      · skip
        refine zR_iload_n C eX2_owedWith_22 1 rfl rfl ?_
        refine zR_aload_n C eX2_owedWith_23 2 rfl rfl ?_
        refine zR_get C fX2_25 eX2_owedWith_24 0 lW_g0 rfl ?_
        refine zR_iload C eX2_owedWith_27 0 rfl ?_
        refine zR_ialdN C eX2_owedWith_29 4 lW_g4 (zok_lt hd hlt (by decide)) ?_
        refine zR_iadd C eX2_owedWith_30 ?_
        refine zR_istore_n (lv' := [(3, _), (4, _), (0, _), (1, _), (2, _)]) C eX2_owedWith_31 rfl (by rw [hn]; decide) rfl ?_
        refine zR_iinc (lv' := [(4, _), (3, _), (0, _), (1, _), (2, _)]) (v' := nI (i + 1)) C eX2_owedWith_32 1 rfl (zinc i) (by rw [hn]; decide) rfl ?_
        refine zR_goto C eX2_owedWith_35 ?_
        have e1 : z_sum (l_bor d) (l_owe d) s (i + 1) = z_sum (l_bor d) (l_owe d) s i + l_owe d i := if_pos h19
        refine zR_lv [(4, _), (3, .int (z_sum (l_bor d) (l_owe d) s (i + 1))), (0, _), (1, _), (2, _)] [0, 1, 2, 3, 4] (by rw [e1]; rfl) ?_
        exact ih (i + 1) (by omega)
set_option maxHeartbeats 400000 in
set_option maxRecDepth 100000 in
theorem c_X2_owedWithB {l : Launch} {g : zG} (q : Nat → Nat) (d : LD) (s : Int32) (hd : l_ok d) : zM l g yX2_owedWith cX2_owedWith 5 (some .int) 0 0 0 [.ref (q 0), .ref (q 2), .int s] (lW g q d) (zE (some (.int (z_sum (l_bor d) (l_owe d) s (zn32 (l_num d))))) (lW g q d)) := by
  refine zM_of (by decide +kernel) (Nat.le_of_ble_eq_true rfl) (fun x hl hn _ _ _ C => ?_)
  subst hl
  show zR x g _ (0, 0) 0 [(0, .ref (q 0)), (1, .ref (q 2)), (2, .int s)] [] _
  refine zR_iconst (v := 0) C eX2_owedWith_0 (by decide) ?_
  refine zR_istore_n (lv' := [(3, _), (0, _), (1, _), (2, _)]) C eX2_owedWith_1 rfl (by rw [hn]; decide) rfl ?_
  refine zR_iconst (v := 0) C eX2_owedWith_2 (by decide) ?_
  refine zR_istore (lv' := [(4, _), (3, _), (0, _), (1, _), (2, _)]) C eX2_owedWith_3 (by rw [hn]; decide) rfl ?_
  exact c_X2_owedWithB_lp hn C hd _ 0 (Nat.zero_add _)
theorem l_rloop_num (d : LD) : ∀ i : Nat, l_num (l_rloop d i).1 = l_num d ∧ (l_rloop d i).2 ≤ i
  | 0 => ⟨rfl, Nat.le_refl _⟩
  | i + 1 => by
    have ih := l_rloop_num d i
    show l_num (l_rstep i (l_rloop d i)).1 = _ ∧ (l_rstep i (l_rloop d i)).2 ≤ _
    unfold l_rstep
    split
    · exact ⟨ih.1, by omega⟩
    · exact ⟨ih.1, by show (l_rloop d i).2 + 1 ≤ _; omega⟩
set_option maxHeartbeats 400000 in
set_option maxRecDepth 100000 in
theorem c_X2_removePaid_lp {x : zX} {g : zG} {q : Nat → Nat} {d : LD} (hn : zn x = 3) (C : zC x g RX2 cX2_removePaid none 0) (hd : l_ok d) : ∀ k i : Nat, i + k = zn32 (l_num d) → zR x g (zE none (lW g q (l_rem d))) (0, 0) 4 [(0, .ref (q 0)), (1, .int (nI (l_rloop d i).2)), (2, .int (nI i))] [] (lW g q (l_rloop d i).1) := by
  intro k
  induction k with
  | zero =>
    intro i hk
    have hi : i = zn32 (l_num d) := by omega
    have hm := l_rloop_num d i
    have hok : zok (l_num (l_rloop d i).1) 40 := by rw [hm.1]; exact hd
    have hi1 : i = zn32 (l_num (l_rloop d i).1) := by rw [hm.1]; exact hi
    refine zR_iload_n C eX2_removePaid_4 2 rfl rfl ?_
    refine zR_aload_n C eX2_removePaid_5 0 rfl rfl ?_
    refine zR_get C fX2_9 eX2_removePaid_6 0 lW_g0 rfl ?_
    refine zR_icmp_ge C eX2_removePaid_9 (fun h9 => ?_) (fun h9 => ?_)
    · skip
      refine zR_aload_n C eX2_removePaid_90 0 rfl rfl ?_
      refine zR_iload_n C eX2_removePaid_91 1 rfl rfl ?_
      refine zR_put C pX2_9 eX2_removePaid_92 0 lW_g0 (Nat.le_of_ble_eq_true rfl) lW_s0_0 ?_
      subst hi
      exact zR_vret C rfl eX2_removePaid_95 (Nat.zero_le _) (Nat.zero_le _) ⟨rfl, rfl⟩
    · skip
      exact absurd h9 (zlp_out hok hi1)
  | succ k ih =>
    intro i hk
    have hlt : i < zn32 (l_num d) := by omega
    have hm := l_rloop_num d i
    have hok : zok (l_num (l_rloop d i).1) 40 := by rw [hm.1]; exact hd
    have hlt1 : i < zn32 (l_num (l_rloop d i).1) := by rw [hm.1]; exact hlt
    refine zR_iload_n C eX2_removePaid_4 2 rfl rfl ?_
    refine zR_aload_n C eX2_removePaid_5 0 rfl rfl ?_
    refine zR_get C fX2_9 eX2_removePaid_6 0 lW_g0 rfl ?_
    refine zR_icmp_ge C eX2_removePaid_9 (fun h9 => ?_) (fun h9 => ?_)
    · skip
      exact absurd (zlp_in hok (by decide) hlt1) h9
    · skip
      refine zR_aload_n C eX2_removePaid_12 0 rfl rfl ?_
      refine zR_get C fX2_25 eX2_removePaid_13 0 lW_g0 rfl ?_
      refine zR_iload_n C eX2_removePaid_16 2 rfl rfl ?_
      refine zR_ialdN C eX2_removePaid_17 4 lW_g4 (zok_lt hok hlt1 (by decide)) ?_
      refine zR_ifle C eX2_removePaid_18 (fun h18 => ?_) (fun h18 => ?_)
      · skip
        refine zR_iinc (lv' := [(2, _), (0, _), (1, _)]) (v' := nI (i + 1)) C eX2_removePaid_84 2 rfl (zinc i) (by rw [hn]; decide) rfl ?_
        refine zR_goto C eX2_removePaid_87 ?_
        have e1 : l_rloop d (i + 1) = l_rloop d i := if_pos h18
        refine zR_eq (lv' := [(2, .int (nI (i + 1))), (0, .ref (q 0)), (1, .int (nI (l_rloop d (i + 1)).2))]) (st' := []) (ws' := lW g q (l_rloop d (i + 1)).1) (by rw [e1] <;> rfl) rfl (by rw [e1] <;> rfl) ?_
        refine zR_lv [(0, .ref (q 0)), (1, .int (nI (l_rloop d (i + 1)).2)), (2, .int (nI (i + 1)))] [1, 2, 0] rfl ?_
        exact ih (i + 1) (by omega)
      · skip
        refine zR_aload_n C eX2_removePaid_21 0 rfl rfl ?_
        refine zR_get C fX2_15 eX2_removePaid_22 0 lW_g0 rfl ?_
        refine zR_iload_n C eX2_removePaid_25 1 rfl rfl ?_
        refine zR_aload_n C eX2_removePaid_26 0 rfl rfl ?_
        refine zR_get C fX2_15 eX2_removePaid_27 0 lW_g0 rfl ?_
        refine zR_iload_n C eX2_removePaid_30 2 rfl rfl ?_
        refine zR_ialdN C eX2_removePaid_31 1 lW_g1 (zok_lt hok hlt1 (by decide)) ?_
        refine zR_iastN C eX2_removePaid_32 1 lW_g1 (⟨Nat.lt_of_le_of_lt hm.2 (zok_lt hok hlt1 (by decide)).1, by decide⟩) lW_s1 ?_
        refine zR_aload_n C eX2_removePaid_33 0 rfl rfl ?_
        refine zR_get C fX2_19 eX2_removePaid_34 0 lW_g0 rfl ?_
        refine zR_iload_n C eX2_removePaid_37 1 rfl rfl ?_
        refine zR_aload_n C eX2_removePaid_38 0 rfl rfl ?_
        refine zR_get C fX2_19 eX2_removePaid_39 0 lW_g0 rfl ?_
        refine zR_iload_n C eX2_removePaid_42 2 rfl rfl ?_
        refine zR_ialdN C eX2_removePaid_43 2 lW_g2 (zok_lt hok hlt1 (by decide)) ?_
        refine zR_iastN C eX2_removePaid_44 2 lW_g2 (⟨Nat.lt_of_le_of_lt hm.2 (zok_lt hok hlt1 (by decide)).1, by decide⟩) lW_s2 ?_
        refine zR_aload_n C eX2_removePaid_45 0 rfl rfl ?_
        refine zR_get C fX2_22 eX2_removePaid_46 0 lW_g0 rfl ?_
        refine zR_iload_n C eX2_removePaid_49 1 rfl rfl ?_
        refine zR_aload_n C eX2_removePaid_50 0 rfl rfl ?_
        refine zR_get C fX2_22 eX2_removePaid_51 0 lW_g0 rfl ?_
        refine zR_iload_n C eX2_removePaid_54 2 rfl rfl ?_
        refine zR_ialdN C eX2_removePaid_55 3 lW_g3 (zok_lt hok hlt1 (by decide)) ?_
        refine zR_iastN C eX2_removePaid_56 3 lW_g3 (⟨Nat.lt_of_le_of_lt hm.2 (zok_lt hok hlt1 (by decide)).1, by decide⟩) lW_s3 ?_
        refine zR_aload_n C eX2_removePaid_57 0 rfl rfl ?_
        refine zR_get C fX2_25 eX2_removePaid_58 0 lW_g0 rfl ?_
        refine zR_iload_n C eX2_removePaid_61 1 rfl rfl ?_
        refine zR_aload_n C eX2_removePaid_62 0 rfl rfl ?_
        refine zR_get C fX2_25 eX2_removePaid_63 0 lW_g0 rfl ?_
        refine zR_iload_n C eX2_removePaid_66 2 rfl rfl ?_
        refine zR_ialdN C eX2_removePaid_67 4 lW_g4 (zok_lt hok hlt1 (by decide)) ?_
        refine zR_iastN C eX2_removePaid_68 4 lW_g4 (⟨Nat.lt_of_le_of_lt hm.2 (zok_lt hok hlt1 (by decide)).1, by decide⟩) lW_s4 ?_
        refine zR_aload_n C eX2_removePaid_69 0 rfl rfl ?_
        refine zR_get C fX2_28 eX2_removePaid_70 0 lW_g0 rfl ?_
        refine zR_iload_n C eX2_removePaid_73 1 rfl rfl ?_
        refine zR_aload_n C eX2_removePaid_74 0 rfl rfl ?_
        refine zR_get C fX2_28 eX2_removePaid_75 0 lW_g0 rfl ?_
        refine zR_iload_n C eX2_removePaid_78 2 rfl rfl ?_
        refine zR_ialdN C eX2_removePaid_79 5 lW_g5 (zok_lt hok hlt1 (by decide)) ?_
        refine zR_iastN C eX2_removePaid_80 5 lW_g5 (⟨Nat.lt_of_le_of_lt hm.2 (zok_lt hok hlt1 (by decide)).1, by decide⟩) lW_s5 ?_
        refine zR_iinc (lv' := [(1, _), (0, _), (2, _)]) (v' := nI ((l_rloop d i).2 + 1)) C eX2_removePaid_81 1 rfl (zinc _) (by rw [hn]; decide) rfl ?_
        refine zR_iinc (lv' := [(2, _), (1, _), (0, _)]) (v' := nI (i + 1)) C eX2_removePaid_84 2 rfl (zinc i) (by rw [hn]; decide) rfl ?_
        refine zR_goto C eX2_removePaid_87 ?_
        have e1 : l_rloop d (i + 1) = (l_put (l_rloop d i).1 (l_rloop d i).2 (l_len (l_rloop d i).1 i) (l_bor (l_rloop d i).1 i) (l_min (l_rloop d i).1 i) (l_owe (l_rloop d i).1 i) (l_due (l_rloop d i).1 i), (l_rloop d i).2 + 1) := if_neg h18
        refine zR_eq (lv' := [(2, .int (nI (i + 1))), (1, .int (nI (l_rloop d (i + 1)).2)), (0, .ref (q 0))]) (st' := []) (ws' := lW g q (l_rloop d (i + 1)).1) (by rw [e1] <;> rfl) rfl (by rw [e1] <;> rfl) ?_
        refine zR_lv [(0, .ref (q 0)), (1, .int (nI (l_rloop d (i + 1)).2)), (2, .int (nI (i + 1)))] [2, 1, 0] rfl ?_
        exact ih (i + 1) (by omega)
set_option maxHeartbeats 400000 in
set_option maxRecDepth 100000 in
theorem c_X2_removePaid {l : Launch} {g : zG} (q : Nat → Nat) (d : LD)  (hd : l_ok d) : zM l g yX2_removePaid cX2_removePaid 3 none 0 0 0 [.ref (q 0)] (lW g q d) (zE none (lW g q (l_rem d))) := by
  refine zM_of (by decide +kernel) (Nat.le_of_ble_eq_true rfl) (fun x hl hn _ _ _ C => ?_)
  subst hl
  show zR x g _ (0, 0) 0 [(0, .ref (q 0))] [] _
  refine zR_iconst (v := 0) C eX2_removePaid_0 (by decide) ?_
  refine zR_istore_n (lv' := [(1, _), (0, _)]) C eX2_removePaid_1 rfl (by rw [hn]; decide) rfl ?_
  refine zR_iconst (v := 0) C eX2_removePaid_2 (by decide) ?_
  refine zR_istore_n (lv' := [(2, _), (1, _), (0, _)]) C eX2_removePaid_3 rfl (by rw [hn]; decide) rfl ?_
  refine zR_lv [(0, _), (1, .int (nI 0)), (2, .int (nI 0))] [2, 1, 0] rfl ?_
  exact c_X2_removePaid_lp hn C hd _ 0 (Nat.zero_add _)
set_option maxHeartbeats 400000 in
set_option maxRecDepth 100000 in
theorem c_X2_copyFrom {l : Launch} {g : zG} (q : Nat → Nat) (d : LD) (r : Nat → Nat) (u : LD) (ho : l_ok u) : zM l g yX2_copyFrom cX2_copyFrom 2 none 1 0 0 [.ref (q 0), .ref (r 0)] (llW g q d r u) (zE none (llW g q (l_copy d u) r u)) := by
  refine zM_of (by decide +kernel) (Nat.le_of_ble_eq_true rfl) (fun x hl hn _ _ _ C => ?_)
  subst hl
  show zR x g _ (0, 0) 0 [(0, .ref (q 0)), (1, .ref (r 0))] [] _
  refine zR_aload_n C eX2_copyFrom_0 0 rfl rfl ?_
  refine zR_aload_n C eX2_copyFrom_1 1 rfl rfl ?_
  refine zR_get C fX2_9 eX2_copyFrom_2 6 llW_g6 rfl ?_
  refine zR_put C pX2_9 eX2_copyFrom_5 0 llW_g0 (Nat.le_of_ble_eq_true rfl) llW_s0_0 ?_
  refine zR_aload_n C eX2_copyFrom_8 1 rfl rfl ?_
  refine zR_get C fX2_15 eX2_copyFrom_9 6 llW_g6 rfl ?_
  refine zR_iconst (v := 0) C eX2_copyFrom_12 (by decide) ?_
  refine zR_aload_n C eX2_copyFrom_13 0 rfl rfl ?_
  refine zR_get C fX2_15 eX2_copyFrom_14 0 llW_g0 rfl ?_
  refine zR_iconst (v := 0) C eX2_copyFrom_17 (by decide) ?_
  refine zR_aload_n C eX2_copyFrom_18 0 rfl rfl ?_
  refine zR_get C fX2_9 eX2_copyFrom_19 0 llW_g0 rfl ?_
  refine zR_acpi C kX2_31 eX2_copyFrom_22 7 1 llW_g7 llW_g1 (zok_acp ho (by decide) (Nat.le_refl _)) (by decide) (Nat.le_of_ble_eq_true rfl) llW_s1 ?_
  refine zR_aload_n C eX2_copyFrom_25 1 rfl rfl ?_
  refine zR_get C fX2_19 eX2_copyFrom_26 6 llW_g6 rfl ?_
  refine zR_iconst (v := 0) C eX2_copyFrom_29 (by decide) ?_
  refine zR_aload_n C eX2_copyFrom_30 0 rfl rfl ?_
  refine zR_get C fX2_19 eX2_copyFrom_31 0 llW_g0 rfl ?_
  refine zR_iconst (v := 0) C eX2_copyFrom_34 (by decide) ?_
  refine zR_aload_n C eX2_copyFrom_35 0 rfl rfl ?_
  refine zR_get C fX2_9 eX2_copyFrom_36 0 llW_g0 rfl ?_
  refine zR_acpi C kX2_31 eX2_copyFrom_39 8 2 llW_g8 llW_g2 (zok_acp ho (by decide) (Nat.le_refl _)) (by decide) (Nat.le_of_ble_eq_true rfl) llW_s2 ?_
  refine zR_aload_n C eX2_copyFrom_42 1 rfl rfl ?_
  refine zR_get C fX2_22 eX2_copyFrom_43 6 llW_g6 rfl ?_
  refine zR_iconst (v := 0) C eX2_copyFrom_46 (by decide) ?_
  refine zR_aload_n C eX2_copyFrom_47 0 rfl rfl ?_
  refine zR_get C fX2_22 eX2_copyFrom_48 0 llW_g0 rfl ?_
  refine zR_iconst (v := 0) C eX2_copyFrom_51 (by decide) ?_
  refine zR_aload_n C eX2_copyFrom_52 0 rfl rfl ?_
  refine zR_get C fX2_9 eX2_copyFrom_53 0 llW_g0 rfl ?_
  refine zR_acpi C kX2_31 eX2_copyFrom_56 9 3 llW_g9 llW_g3 (zok_acp ho (by decide) (Nat.le_refl _)) (by decide) (Nat.le_of_ble_eq_true rfl) llW_s3 ?_
  refine zR_aload_n C eX2_copyFrom_59 1 rfl rfl ?_
  refine zR_get C fX2_25 eX2_copyFrom_60 6 llW_g6 rfl ?_
  refine zR_iconst (v := 0) C eX2_copyFrom_63 (by decide) ?_
  refine zR_aload_n C eX2_copyFrom_64 0 rfl rfl ?_
  refine zR_get C fX2_25 eX2_copyFrom_65 0 llW_g0 rfl ?_
  refine zR_iconst (v := 0) C eX2_copyFrom_68 (by decide) ?_
  refine zR_aload_n C eX2_copyFrom_69 0 rfl rfl ?_
  refine zR_get C fX2_9 eX2_copyFrom_70 0 llW_g0 rfl ?_
  refine zR_acpi C kX2_31 eX2_copyFrom_73 10 4 llW_g10 llW_g4 (zok_acp ho (by decide) (Nat.le_refl _)) (by decide) (Nat.le_of_ble_eq_true rfl) llW_s4 ?_
  refine zR_aload_n C eX2_copyFrom_76 1 rfl rfl ?_
  refine zR_get C fX2_28 eX2_copyFrom_77 6 llW_g6 rfl ?_
  refine zR_iconst (v := 0) C eX2_copyFrom_80 (by decide) ?_
  refine zR_aload_n C eX2_copyFrom_81 0 rfl rfl ?_
  refine zR_get C fX2_28 eX2_copyFrom_82 0 llW_g0 rfl ?_
  refine zR_iconst (v := 0) C eX2_copyFrom_85 (by decide) ?_
  refine zR_aload_n C eX2_copyFrom_86 0 rfl rfl ?_
  refine zR_get C fX2_9 eX2_copyFrom_87 0 llW_g0 rfl ?_
  refine zR_acpi C kX2_31 eX2_copyFrom_90 11 5 llW_g11 llW_g5 (zok_acp ho (by decide) (Nat.le_refl _)) (by decide) (Nat.le_of_ble_eq_true rfl) llW_s5 ?_
  exact zR_vret C rfl eX2_copyFrom_93 (Nat.zero_le _) (Nat.zero_le _) ⟨rfl, rfl⟩
