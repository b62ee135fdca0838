/-! The house: hours that pass, and copies. -/
set_option maxHeartbeats 400000 in
set_option maxRecDepth 100000 in
theorem c_X1_letPass_lp {x : zX} {g : zG} {q : Nat → Nat} {d : HD} {k0 : Int32} (hn : zn x = 3) (C : zC x g RX1 cX1_letPass (some .int) 4) (hd : h_ok d) (hok : zok k0 1000) : ∀ k i : Nat, i + k = zn32 k0 → zR x g (zE (some (.int (h_hour (h_hrs d (zn32 k0))))) (hW g q (h_hrs d (zn32 k0)))) (0, 0) 16 [(0, .ref (q 0)), (1, .int k0), (2, .int (nI i))] [] (hW g q (h_hrs d i)) := by
  intro k
  induction k with
  | zero =>
    intro i hk
    have hi : i = zn32 k0 := by omega
    refine zR_iload_n C eX1_letPass_16 2 rfl rfl ?_
    refine zR_iload_n C eX1_letPass_17 1 rfl rfl ?_
    refine zR_icmp_ge C eX1_letPass_18 (fun h18 => ?_) (fun h18 => ?_)
    · skip
      refine zR_aload_n C eX1_letPass_67 0 rfl rfl ?_
      refine zR_get C fX1_23 eX1_letPass_68 0 hW_g0 rfl ?_
      subst hi
      exact zR_iret C rfl rfl eX1_letPass_71 (Nat.zero_le _) (Nat.zero_le _) ⟨rfl, rfl⟩
    · skip
      exact absurd h18 (zlp_out hok hi)
  | succ k ih =>
    intro i hk
    have hlt : i < zn32 k0 := by omega
    have ho : h_ok (h_hr1 (h_hrs d i)) := h_hrs_ok hd i
    refine zR_iload_n C eX1_letPass_16 2 rfl rfl ?_
    refine zR_iload_n C eX1_letPass_17 1 rfl rfl ?_
    refine zR_icmp_ge C eX1_letPass_18 (fun h18 => ?_) (fun h18 => ?_)
    · skip
      exact absurd (zlp_in hok (by decide) hlt) h18
    · skip
      refine zR_aload_n C eX1_letPass_21 0 rfl rfl ?_
      refine zR_dup C eX1_letPass_22 rfl ?_
      refine zR_get C fX1_23 eX1_letPass_23 0 hW_g0 rfl ?_
      refine zR_iconst (v := 1) C eX1_letPass_26 (by decide) ?_
      refine zR_iadd C eX1_letPass_27 ?_
      refine zR_put C pX1_23 eX1_letPass_28 0 hW_g0 (Nat.le_of_ble_eq_true rfl) hW_s0_1 ?_
      refine zR_ws (hW g q (h_hr1 (h_hrs d i))) rfl ?_
      refine zR_aload_n C eX1_letPass_31 0 rfl rfl ?_
      refine zR_get C fX1_23 eX1_letPass_32 0 hW_g0 rfl ?_
      refine zR_aload_n C eX1_letPass_35 0 rfl rfl ?_
      refine zR_get C fX1_30 eX1_letPass_36 0 hW_g0 rfl ?_
      refine zR_isub C eX1_letPass_39 ?_
      refine zR_aload_n C eX1_letPass_40 0 rfl rfl ?_
      refine zR_get C fX1_18 eX1_letPass_41 0 hW_g0 rfl ?_
      refine zR_iconst (v := 0) C eX1_letPass_44 (by decide) ?_
      refine zR_ialdK C eX1_letPass_45 1 hW_g1 0 rfl (vp_in_iff.mpr (by decide)) ?_
      refine zR_icmp_lt C eX1_letPass_46 (fun h46 => ?_) (fun h46 => ?_)
      · skip
        refine zR_aload_n C eX1_letPass_57 0 rfl rfl ?_
        refine zR_callVv C kX1_137 eX1_letPass_58 (c_X1_takePlans q _ (by first | exact ho | exact h_due_ok (h_begin_ok ho))) rfl 0 1 hW_g0 rfl rfl _ hW_c hW_n rfl (by decide) (by decide) (Nat.le_of_ble_eq_true rfl) (Nat.zero_le _) (Nat.zero_le _) hW_f hW_r ?_
        refine zR_iinc (lv' := [(2, _), (0, _), (1, _)]) (v' := nI (i + 1)) C eX1_letPass_61 2 rfl (zinc i) (by rw [hn]; decide) rfl ?_
        refine zR_goto C eX1_letPass_64 ?_
        have e1 : h_hrs d (i + 1) = h_take (h_hr1 (h_hrs d i)) := if_pos h46
        rw [← e1]
        refine zR_lv [(0, _), (1, _), (2, _)] [1, 2, 0] rfl ?_
        exact ih (i + 1) (by omega)
      · skip
        refine zR_aload_n C eX1_letPass_49 0 rfl rfl ?_
        refine zR_callVv C kX1_131 eX1_letPass_50 (c_X1_beginWindow q _ (by exact ho.1)) rfl 0 1 hW_g0 rfl rfl _ hW_c hW_n rfl (by decide) (by decide) (Nat.le_of_ble_eq_true rfl) (Nat.zero_le _) (Nat.zero_le _) hW_f hW_r ?_
        refine zR_aload_n C eX1_letPass_53 0 rfl rfl ?_
        refine zR_callVv C kX1_134 eX1_letPass_54 (c_X1_payDueLoans q _ (by exact h_begin_ok ho)) rfl 0 1 hW_g0 rfl rfl _ hW_c hW_n rfl (by decide) (by decide) (Nat.le_of_ble_eq_true rfl) (Nat.zero_le _) (Nat.zero_le _) hW_f hW_r ?_
        refine zR_aload_n C eX1_letPass_57 0 rfl rfl ?_
        refine zR_callVv C kX1_137 eX1_letPass_58 (c_X1_takePlans q _ (by first | exact ho | exact h_due_ok (h_begin_ok ho))) rfl 0 1 hW_g0 rfl rfl _ hW_c hW_n rfl (by decide) (by decide) (Nat.le_of_ble_eq_true rfl) (Nat.zero_le _) (Nat.zero_le _) hW_f hW_r ?_
        refine zR_iinc (lv' := [(2, _), (0, _), (1, _)]) (v' := nI (i + 1)) C eX1_letPass_61 2 rfl (zinc i) (by rw [hn]; decide) rfl ?_
        refine zR_goto C eX1_letPass_64 ?_
        have e1 : h_hrs d (i + 1) = h_take (h_due (h_begin (h_hr1 (h_hrs d i)))) := if_neg h46
        rw [← e1]
        refine zR_lv [(0, _), (1, _), (2, _)] [1, 2, 0] rfl ?_
        exact ih (i + 1) (by omega)
set_option maxHeartbeats 400000 in
set_option maxRecDepth 100000 in
theorem c_X1_letPass {l : Launch} {g : zG} (q : Nat → Nat) (d : HD) (k0 : Int32) (hd : h_ok d) : zM l g yX1_letPass cX1_letPass 3 (some .int) 4 0 0 [.ref (q 0), .int k0] (hW g q d) (zE (some (.int (h_passr d k0))) (hW g q (h_pass d k0))) := by
  refine zM_of (by decide +kernel) (Nat.le_of_ble_eq_true rfl) (fun x hl hn _ _ _ C => ?_)
  subst hl
  show zR x g _ (0, 0) 0 [(0, .ref (q 0)), (1, .int k0)] [] _
  refine zR_iload_n C eX1_letPass_0 1 rfl rfl ?_
  refine zR_iconst (v := 1) C eX1_letPass_1 (by decide) ?_
  refine zR_sipush (v := 1000) C eX1_letPass_2 (by decide) ?_
  refine zR_callS1 C kX1_127 eX1_letPass_5 (c_X5_isWithin _ _ _ ) rfl rfl (by decide) (by decide) (Nat.le_of_ble_eq_true rfl) (Nat.zero_le _) (Nat.zero_le _) ?_
  refine zR_bfne C eX1_letPass_8 (fun h8 => ?_) (fun h8 => ?_)
  · skip
    refine zR_iconst (v := 0) C eX1_letPass_14 (by decide) ?_
    refine zR_istore_n (lv' := [(2, _), (0, _), (1, _)]) C eX1_letPass_15 rfl (by rw [hn]; decide) rfl ?_
    refine zR_ws (hW g q (h_hrs d 0)) rfl ?_
    refine zR_lv [(0, _), (1, _), (2, .int (nI 0))] [1, 2, 0] rfl ?_
    have e1 : h_passr d k0 = h_hour (h_hrs d (zn32 k0)) := if_pos h8
    have e2 : h_pass d k0 = h_hrs d (zn32 k0) := if_pos h8
    rw [e1, e2]
    exact c_X1_letPass_lp hn C hd (z_in_ok h8) _ 0 (Nat.zero_add _)
  · skip
    refine zR_bipush (v := -2) C eX1_letPass_11 (by decide) ?_
    exact zR_iret C rfl rfl eX1_letPass_13 (Nat.zero_le _) (Nat.zero_le _) ⟨(by first | (unfold h_passr; rw [if_neg h8]) | (unfold h_pass; rw [if_neg h8])), (by first | (unfold h_passr; rw [if_neg h8]) | (unfold h_pass; rw [if_neg h8]))⟩
set_option maxHeartbeats 8000000 in
set_option maxRecDepth 100000 in
theorem c_X1_copyFrom {l : Launch} {g : zG} (q : Nat → Nat) (d : HD) (r : Nat → Nat) (u : HD) (ho : h_ok u) : zM l g yX1_copyFrom cX1_copyFrom 2 none 2 0 0 [.ref (q 0), .ref (r 0)] (hhW g q d r u) (zE none (hhW g q (h_copy d u) r u)) := by
  refine zM_of (by decide +kernel) (Nat.le_of_ble_eq_true rfl) (fun x hl hn _ _ _ C => ?_)
  subst hl
  show zR x g _ (0, 0) 0 [(0, .ref (q 0)), (1, .ref (r 0))] [] _
  refine zR_aload_n C eX1_copyFrom_0 1 rfl rfl ?_
  refine zR_get C fX1_18 eX1_copyFrom_1 21 hhW_g21 rfl ?_
  refine zR_iconst (v := 0) C eX1_copyFrom_4 (by decide) ?_
  refine zR_aload_n C eX1_copyFrom_5 0 rfl rfl ?_
  refine zR_get C fX1_18 eX1_copyFrom_6 0 hhW_g0 rfl ?_
  refine zR_iconst (v := 0) C eX1_copyFrom_9 (by decide) ?_
  refine zR_bipush (v := 8) C eX1_copyFrom_10 (by decide) ?_
  refine zR_acpi C kX1_72 eX1_copyFrom_12 22 1 hhW_g22 hhW_g1 (by decide) (by decide) (Nat.le_of_ble_eq_true rfl) hhW_s1 ?_
  refine zR_aload_n C eX1_copyFrom_15 0 rfl rfl ?_
  refine zR_aload_n C eX1_copyFrom_16 1 rfl rfl ?_
  refine zR_get C fX1_23 eX1_copyFrom_17 21 hhW_g21 rfl ?_
  refine zR_put C pX1_23 eX1_copyFrom_20 0 hhW_g0 (Nat.le_of_ble_eq_true rfl) hhW_s0_1 ?_
  refine zR_aload_n C eX1_copyFrom_23 0 rfl rfl ?_
  refine zR_aload_n C eX1_copyFrom_24 1 rfl rfl ?_
  refine zR_get C fX1_27 eX1_copyFrom_25 21 hhW_g21 rfl ?_
  refine zR_put C pX1_27 eX1_copyFrom_28 0 hhW_g0 (Nat.le_of_ble_eq_true rfl) hhW_s0_2 ?_
  refine zR_aload_n C eX1_copyFrom_31 0 rfl rfl ?_
  refine zR_aload_n C eX1_copyFrom_32 1 rfl rfl ?_
  refine zR_get C fX1_30 eX1_copyFrom_33 21 hhW_g21 rfl ?_
  refine zR_put C pX1_30 eX1_copyFrom_36 0 hhW_g0 (Nat.le_of_ble_eq_true rfl) hhW_s0_3 ?_
  refine zR_aload_n C eX1_copyFrom_39 0 rfl rfl ?_
  refine zR_aload_n C eX1_copyFrom_40 1 rfl rfl ?_
  refine zR_get C fX1_33 eX1_copyFrom_41 21 hhW_g21 rfl ?_
  refine zR_put C pX1_33 eX1_copyFrom_44 0 hhW_g0 (Nat.le_of_ble_eq_true rfl) hhW_s0_4 ?_
  refine zR_aload_n C eX1_copyFrom_47 0 rfl rfl ?_
  refine zR_aload_n C eX1_copyFrom_48 1 rfl rfl ?_
  refine zR_get C fX1_36 eX1_copyFrom_49 21 hhW_g21 rfl ?_
  refine zR_put C pX1_36 eX1_copyFrom_52 0 hhW_g0 (Nat.le_of_ble_eq_true rfl) hhW_s0_5 ?_
  refine zR_aload_n C eX1_copyFrom_55 1 rfl rfl ?_
  refine zR_get C fX1_39 eX1_copyFrom_56 21 hhW_g21 rfl ?_
  refine zR_iconst (v := 0) C eX1_copyFrom_59 (by decide) ?_
  refine zR_aload_n C eX1_copyFrom_60 0 rfl rfl ?_
  refine zR_get C fX1_39 eX1_copyFrom_61 0 hhW_g0 rfl ?_
  refine zR_iconst (v := 0) C eX1_copyFrom_64 (by decide) ?_
  refine zR_bipush (v := 8) C eX1_copyFrom_65 (by decide) ?_
  refine zR_acpi C kX1_72 eX1_copyFrom_67 23 2 hhW_g23 hhW_g2 (by decide) (by decide) (Nat.le_of_ble_eq_true rfl) hhW_s2 ?_
  refine zR_aload_n C eX1_copyFrom_70 1 rfl rfl ?_
  refine zR_get C fX1_42 eX1_copyFrom_71 21 hhW_g21 rfl ?_
  refine zR_iconst (v := 0) C eX1_copyFrom_74 (by decide) ?_
  refine zR_aload_n C eX1_copyFrom_75 0 rfl rfl ?_
  refine zR_get C fX1_42 eX1_copyFrom_76 0 hhW_g0 rfl ?_
  refine zR_iconst (v := 0) C eX1_copyFrom_79 (by decide) ?_
  refine zR_bipush (v := 8) C eX1_copyFrom_80 (by decide) ?_
  refine zR_acpi C kX1_72 eX1_copyFrom_82 24 3 hhW_g24 hhW_g3 (by decide) (by decide) (Nat.le_of_ble_eq_true rfl) hhW_s3 ?_
  refine zR_aload_n C eX1_copyFrom_85 1 rfl rfl ?_
  refine zR_get C fX1_45 eX1_copyFrom_86 21 hhW_g21 rfl ?_
  refine zR_iconst (v := 0) C eX1_copyFrom_89 (by decide) ?_
  refine zR_aload_n C eX1_copyFrom_90 0 rfl rfl ?_
  refine zR_get C fX1_45 eX1_copyFrom_91 0 hhW_g0 rfl ?_
  refine zR_iconst (v := 0) C eX1_copyFrom_94 (by decide) ?_
  refine zR_bipush (v := 8) C eX1_copyFrom_95 (by decide) ?_
  refine zR_acpi C kX1_72 eX1_copyFrom_97 25 4 hhW_g25 hhW_g4 (by decide) (by decide) (Nat.le_of_ble_eq_true rfl) hhW_s4 ?_
  refine zR_aload_n C eX1_copyFrom_100 1 rfl rfl ?_
  refine zR_get C fX1_48 eX1_copyFrom_101 21 hhW_g21 rfl ?_
  refine zR_iconst (v := 0) C eX1_copyFrom_104 (by decide) ?_
  refine zR_aload_n C eX1_copyFrom_105 0 rfl rfl ?_
  refine zR_get C fX1_48 eX1_copyFrom_106 0 hhW_g0 rfl ?_
  refine zR_iconst (v := 0) C eX1_copyFrom_109 (by decide) ?_
  refine zR_bipush (v := 8) C eX1_copyFrom_110 (by decide) ?_
  refine zR_acpi C kX1_72 eX1_copyFrom_112 26 5 hhW_g26 hhW_g5 (by decide) (by decide) (Nat.le_of_ble_eq_true rfl) hhW_s5 ?_
  refine zR_aload_n C eX1_copyFrom_115 1 rfl rfl ?_
  refine zR_get C fX1_51 eX1_copyFrom_116 21 hhW_g21 rfl ?_
  refine zR_iconst (v := 0) C eX1_copyFrom_119 (by decide) ?_
  refine zR_aload_n C eX1_copyFrom_120 0 rfl rfl ?_
  refine zR_get C fX1_51 eX1_copyFrom_121 0 hhW_g0 rfl ?_
  refine zR_iconst (v := 0) C eX1_copyFrom_124 (by decide) ?_
  refine zR_bipush (v := 8) C eX1_copyFrom_125 (by decide) ?_
  refine zR_acpi C kX1_72 eX1_copyFrom_127 27 6 hhW_g27 hhW_g6 (by decide) (by decide) (Nat.le_of_ble_eq_true rfl) hhW_s6 ?_
  refine zR_aload_n C eX1_copyFrom_130 1 rfl rfl ?_
  refine zR_get C fX1_54 eX1_copyFrom_131 21 hhW_g21 rfl ?_
  refine zR_iconst (v := 0) C eX1_copyFrom_134 (by decide) ?_
  refine zR_aload_n C eX1_copyFrom_135 0 rfl rfl ?_
  refine zR_get C fX1_54 eX1_copyFrom_136 0 hhW_g0 rfl ?_
  refine zR_iconst (v := 0) C eX1_copyFrom_139 (by decide) ?_
  refine zR_bipush (v := 72) C eX1_copyFrom_140 (by decide) ?_
  refine zR_acpl C kX1_72 eX1_copyFrom_142 28 7 hhW_g28 hhW_g7 (by decide) (by decide) (Nat.le_of_ble_eq_true rfl) hhW_s7 ?_
  refine zR_aload_n C eX1_copyFrom_145 0 rfl rfl ?_
  refine zR_get C fX1_61 eX1_copyFrom_146 0 hhW_g0 rfl ?_
  refine zR_aload_n C eX1_copyFrom_149 1 rfl rfl ?_
  refine zR_get C fX1_61 eX1_copyFrom_150 21 hhW_g21 rfl ?_
  refine zR_callVv C kX1_78 eX1_copyFrom_153 (c_X2_copyFrom (fun j => q (8 + j)) _ (fun j => r (8 + j)) _ (by exact ho.2.1.1)) rfl 8 2 hhW_g8 rfl rfl _ hhW_c8 hhW_n8 rfl (by decide) (by decide) (Nat.le_of_ble_eq_true rfl) (Nat.zero_le _) (Nat.zero_le _) llW_f hhW_r8 ?_
  refine zR_aload_n C eX1_copyFrom_156 0 rfl rfl ?_
  refine zR_get C fX1_68 eX1_copyFrom_157 0 hhW_g0 rfl ?_
  refine zR_aload_n C eX1_copyFrom_160 1 rfl rfl ?_
  refine zR_get C fX1_68 eX1_copyFrom_161 21 hhW_g21 rfl ?_
  refine zR_callVv C kX1_82 eX1_copyFrom_164 (c_X4_copyFrom (fun j => q (14 + j)) _ (fun j => r (14 + j)) _ (by exact ho.2.2.1)) rfl 14 4 hhW_g14 rfl rfl _ hhW_c14 hhW_n14 rfl (by decide) (by decide) (Nat.le_of_ble_eq_true rfl) (Nat.zero_le _) (Nat.zero_le _) ppW_f hhW_r14 ?_
  exact zR_vret C rfl eX1_copyFrom_167 (Nat.zero_le _) (Nat.zero_le _) ⟨rfl, rfl⟩
