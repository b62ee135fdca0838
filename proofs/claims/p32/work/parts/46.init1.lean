
/-! The constructors of Loans, Plans, Pad and House: what is made. -/
def l_new : LD := (0, fun _ => 0, fun _ => 0, fun _ => 0, fun _ => 0, fun _ => 0)
def p_new : PD := (0, fun _ => 0, fun _ => 0, fun _ => 0, fun _ => 0, fun _ => 0, fun _ => 0, -1, 0)
def a_new : AD := (fun _ => 0, 0, 0, 0, fun _ => 0, fun _ => 0)
def h_new : HD := (zFI, 0, 0, 0, 0, 0, fun _ => 0, fun _ => 0, fun _ => 0, fun _ => 0, fun _ => 0, fun _ => 0, l_new, p_new)
theorem c_X2_init {l : Launch} {g : zG} (b : Nat) : zM l g yX2_init cX2_init 1 none 1 5 200 [.ref b] [(b, .inr (2, [.int 0, .null, .null, .null, .null, .null]))] (fun r w => r = none ∧ ∃ q : Nat → Nat, q 0 = b ∧ w = lW g q l_new) := by
  refine zM_of (by decide +kernel) (Nat.le_of_ble_eq_true rfl) (fun x hl hn hmc hms hin C => ?_)
  subst hl
  show zR x g _ (0, 0) 0 [(0, .ref b)] [] _
  refine zR_aload_n C eX2_init_0 0 rfl rfl ?_
  refine zR_objInit C (zT_in 79 (by decide +kernel) rfl) eX2_init_1 (by decide) (by decide) ?_
  refine zR_aload_n C eX2_init_4 0 rfl rfl ?_
  refine zR_iconst (v := 0) C eX2_init_5 (by decide) ?_
  refine zR_put C pX2_9 eX2_init_6 0 rfl (Nat.le_of_ble_eq_true rfl) (ws1 := [(b, .inr (2, [.int 0, .null, .null, .null, .null, .null]))]) rfl ?_
  refine zR_aload_n C eX2_init_9 0 rfl rfl ?_
  refine zR_bipush (v := 40) C eX2_init_10 (by decide) ?_
  refine zR_newI (N := 40) C eX2_init_12 (by decide) (by decide) (by decide) (by rw [hmc]; decide) (by rw [hms]; decide) (fun q1 => ?_)
  refine zR_ws [(b, .inr (2, [.int 0, .null, .null, .null, .null, .null])), (q1, .inl (g.2.1 0, 40, .inl (fun _ => 0)))] rfl ?_
  refine zR_putf C hin qX2_15 eX2_init_14 rfl rfl 0 rfl (Nat.le_of_ble_eq_true rfl) (ws1 := [(b, .inr (2, [.int 0, .ref q1, .null, .null, .null, .null])), (q1, .inl (g.2.1 0, 40, .inl (fun _ => 0)))]) rfl ?_
  refine zR_aload_n C eX2_init_17 0 rfl rfl ?_
  refine zR_bipush (v := 40) C eX2_init_18 (by decide) ?_
  refine zR_newI (N := 40) C eX2_init_20 (by decide) (by decide) (by decide) (by rw [hmc]; decide) (by rw [hms]; decide) (fun q2 => ?_)
  refine zR_ws [(b, .inr (2, [.int 0, .ref q1, .null, .null, .null, .null])), (q1, .inl (g.2.1 0, 40, .inl (fun _ => 0))), (q2, .inl (g.2.1 0, 40, .inl (fun _ => 0)))] rfl ?_
  refine zR_putf C hin qX2_19 eX2_init_22 rfl rfl 0 rfl (Nat.le_of_ble_eq_true rfl) (ws1 := [(b, .inr (2, [.int 0, .ref q1, .ref q2, .null, .null, .null])), (q1, .inl (g.2.1 0, 40, .inl (fun _ => 0))), (q2, .inl (g.2.1 0, 40, .inl (fun _ => 0)))]) rfl ?_
  refine zR_aload_n C eX2_init_25 0 rfl rfl ?_
  refine zR_bipush (v := 40) C eX2_init_26 (by decide) ?_
  refine zR_newI (N := 40) C eX2_init_28 (by decide) (by decide) (by decide) (by rw [hmc]; decide) (by rw [hms]; decide) (fun q3 => ?_)
  refine zR_ws [(b, .inr (2, [.int 0, .ref q1, .ref q2, .null, .null, .null])), (q1, .inl (g.2.1 0, 40, .inl (fun _ => 0))), (q2, .inl (g.2.1 0, 40, .inl (fun _ => 0))), (q3, .inl (g.2.1 0, 40, .inl (fun _ => 0)))] rfl ?_
  refine zR_putf C hin qX2_22 eX2_init_30 rfl rfl 0 rfl (Nat.le_of_ble_eq_true rfl) (ws1 := [(b, .inr (2, [.int 0, .ref q1, .ref q2, .ref q3, .null, .null])), (q1, .inl (g.2.1 0, 40, .inl (fun _ => 0))), (q2, .inl (g.2.1 0, 40, .inl (fun _ => 0))), (q3, .inl (g.2.1 0, 40, .inl (fun _ => 0)))]) rfl ?_
  refine zR_aload_n C eX2_init_33 0 rfl rfl ?_
  refine zR_bipush (v := 40) C eX2_init_34 (by decide) ?_
  refine zR_newI (N := 40) C eX2_init_36 (by decide) (by decide) (by decide) (by rw [hmc]; decide) (by rw [hms]; decide) (fun q4 => ?_)
  refine zR_ws [(b, .inr (2, [.int 0, .ref q1, .ref q2, .ref q3, .null, .null])), (q1, .inl (g.2.1 0, 40, .inl (fun _ => 0))), (q2, .inl (g.2.1 0, 40, .inl (fun _ => 0))), (q3, .inl (g.2.1 0, 40, .inl (fun _ => 0))), (q4, .inl (g.2.1 0, 40, .inl (fun _ => 0)))] rfl ?_
  refine zR_putf C hin qX2_25 eX2_init_38 rfl rfl 0 rfl (Nat.le_of_ble_eq_true rfl) (ws1 := [(b, .inr (2, [.int 0, .ref q1, .ref q2, .ref q3, .ref q4, .null])), (q1, .inl (g.2.1 0, 40, .inl (fun _ => 0))), (q2, .inl (g.2.1 0, 40, .inl (fun _ => 0))), (q3, .inl (g.2.1 0, 40, .inl (fun _ => 0))), (q4, .inl (g.2.1 0, 40, .inl (fun _ => 0)))]) rfl ?_
  refine zR_aload_n C eX2_init_41 0 rfl rfl ?_
  refine zR_bipush (v := 40) C eX2_init_42 (by decide) ?_
  refine zR_newI (N := 40) C eX2_init_44 (by decide) (by decide) (by decide) (by rw [hmc]; decide) (by rw [hms]; decide) (fun q5 => ?_)
  refine zR_ws [(b, .inr (2, [.int 0, .ref q1, .ref q2, .ref q3, .ref q4, .null])), (q1, .inl (g.2.1 0, 40, .inl (fun _ => 0))), (q2, .inl (g.2.1 0, 40, .inl (fun _ => 0))), (q3, .inl (g.2.1 0, 40, .inl (fun _ => 0))), (q4, .inl (g.2.1 0, 40, .inl (fun _ => 0))), (q5, .inl (g.2.1 0, 40, .inl (fun _ => 0)))] rfl ?_
  refine zR_putf C hin qX2_28 eX2_init_46 rfl rfl 0 rfl (Nat.le_of_ble_eq_true rfl) (ws1 := [(b, .inr (2, [.int 0, .ref q1, .ref q2, .ref q3, .ref q4, .ref q5])), (q1, .inl (g.2.1 0, 40, .inl (fun _ => 0))), (q2, .inl (g.2.1 0, 40, .inl (fun _ => 0))), (q3, .inl (g.2.1 0, 40, .inl (fun _ => 0))), (q4, .inl (g.2.1 0, 40, .inl (fun _ => 0))), (q5, .inl (g.2.1 0, 40, .inl (fun _ => 0)))]) rfl ?_
  exact zR_vret C rfl eX2_init_49 (by rw [hmc]; decide) (by rw [hms]; decide) ⟨rfl, fun j => ([b, q1, q2, q3, q4, q5] : List Nat).getD j 0, rfl, rfl⟩
theorem c_X4_init {l : Launch} {g : zG} (b : Nat) : zM l g yX4_init cX4_init 1 none 1 6 180 [.ref b] [(b, .inr (4, [.int 0, .null, .null, .null, .null, .null, .null, .int 0, .int 0]))] (fun r w => r = none ∧ ∃ q : Nat → Nat, q 0 = b ∧ w = pW g q p_new) := by
  refine zM_of (by decide +kernel) (Nat.le_of_ble_eq_true rfl) (fun x hl hn hmc hms hin C => ?_)
  subst hl
  show zR x g _ (0, 0) 0 [(0, .ref b)] [] _
  refine zR_aload_n C eX4_init_0 0 rfl rfl ?_
  refine zR_objInit C (zT_in 117 (by decide +kernel) rfl) eX4_init_1 (by decide) (by decide) ?_
  refine zR_aload_n C eX4_init_4 0 rfl rfl ?_
  refine zR_iconst (v := 0) C eX4_init_5 (by decide) ?_
  refine zR_put C pX4_9 eX4_init_6 0 rfl (Nat.le_of_ble_eq_true rfl) (ws1 := [(b, .inr (4, [.int 0, .null, .null, .null, .null, .null, .null, .int 0, .int 0]))]) rfl ?_
  refine zR_aload_n C eX4_init_9 0 rfl rfl ?_
  refine zR_bipush (v := 30) C eX4_init_10 (by decide) ?_
  refine zR_newI (N := 30) C eX4_init_12 (by decide) (by decide) (by decide) (by rw [hmc]; decide) (by rw [hms]; decide) (fun q1 => ?_)
  refine zR_ws [(b, .inr (4, [.int 0, .null, .null, .null, .null, .null, .null, .int 0, .int 0])), (q1, .inl (g.2.1 0, 30, .inl (fun _ => 0)))] rfl ?_
  refine zR_putf C hin qX4_15 eX4_init_14 rfl rfl 0 rfl (Nat.le_of_ble_eq_true rfl) (ws1 := [(b, .inr (4, [.int 0, .ref q1, .null, .null, .null, .null, .null, .int 0, .int 0])), (q1, .inl (g.2.1 0, 30, .inl (fun _ => 0)))]) rfl ?_
  refine zR_aload_n C eX4_init_17 0 rfl rfl ?_
  refine zR_bipush (v := 30) C eX4_init_18 (by decide) ?_
  refine zR_newI (N := 30) C eX4_init_20 (by decide) (by decide) (by decide) (by rw [hmc]; decide) (by rw [hms]; decide) (fun q2 => ?_)
  refine zR_ws [(b, .inr (4, [.int 0, .ref q1, .null, .null, .null, .null, .null, .int 0, .int 0])), (q1, .inl (g.2.1 0, 30, .inl (fun _ => 0))), (q2, .inl (g.2.1 0, 30, .inl (fun _ => 0)))] rfl ?_
  refine zR_putf C hin qX4_19 eX4_init_22 rfl rfl 0 rfl (Nat.le_of_ble_eq_true rfl) (ws1 := [(b, .inr (4, [.int 0, .ref q1, .ref q2, .null, .null, .null, .null, .int 0, .int 0])), (q1, .inl (g.2.1 0, 30, .inl (fun _ => 0))), (q2, .inl (g.2.1 0, 30, .inl (fun _ => 0)))]) rfl ?_
  refine zR_aload_n C eX4_init_25 0 rfl rfl ?_
  refine zR_bipush (v := 30) C eX4_init_26 (by decide) ?_
  refine zR_newI (N := 30) C eX4_init_28 (by decide) (by decide) (by decide) (by rw [hmc]; decide) (by rw [hms]; decide) (fun q3 => ?_)
  refine zR_ws [(b, .inr (4, [.int 0, .ref q1, .ref q2, .null, .null, .null, .null, .int 0, .int 0])), (q1, .inl (g.2.1 0, 30, .inl (fun _ => 0))), (q2, .inl (g.2.1 0, 30, .inl (fun _ => 0))), (q3, .inl (g.2.1 0, 30, .inl (fun _ => 0)))] rfl ?_
  refine zR_putf C hin qX4_22 eX4_init_30 rfl rfl 0 rfl (Nat.le_of_ble_eq_true rfl) (ws1 := [(b, .inr (4, [.int 0, .ref q1, .ref q2, .ref q3, .null, .null, .null, .int 0, .int 0])), (q1, .inl (g.2.1 0, 30, .inl (fun _ => 0))), (q2, .inl (g.2.1 0, 30, .inl (fun _ => 0))), (q3, .inl (g.2.1 0, 30, .inl (fun _ => 0)))]) rfl ?_
  refine zR_aload_n C eX4_init_33 0 rfl rfl ?_
  refine zR_bipush (v := 30) C eX4_init_34 (by decide) ?_
  refine zR_newI (N := 30) C eX4_init_36 (by decide) (by decide) (by decide) (by rw [hmc]; decide) (by rw [hms]; decide) (fun q4 => ?_)
  refine zR_ws [(b, .inr (4, [.int 0, .ref q1, .ref q2, .ref q3, .null, .null, .null, .int 0, .int 0])), (q1, .inl (g.2.1 0, 30, .inl (fun _ => 0))), (q2, .inl (g.2.1 0, 30, .inl (fun _ => 0))), (q3, .inl (g.2.1 0, 30, .inl (fun _ => 0))), (q4, .inl (g.2.1 0, 30, .inl (fun _ => 0)))] rfl ?_
  refine zR_putf C hin qX4_25 eX4_init_38 rfl rfl 0 rfl (Nat.le_of_ble_eq_true rfl) (ws1 := [(b, .inr (4, [.int 0, .ref q1, .ref q2, .ref q3, .ref q4, .null, .null, .int 0, .int 0])), (q1, .inl (g.2.1 0, 30, .inl (fun _ => 0))), (q2, .inl (g.2.1 0, 30, .inl (fun _ => 0))), (q3, .inl (g.2.1 0, 30, .inl (fun _ => 0))), (q4, .inl (g.2.1 0, 30, .inl (fun _ => 0)))]) rfl ?_
  refine zR_aload_n C eX4_init_41 0 rfl rfl ?_
  refine zR_bipush (v := 30) C eX4_init_42 (by decide) ?_
  refine zR_newI (N := 30) C eX4_init_44 (by decide) (by decide) (by decide) (by rw [hmc]; decide) (by rw [hms]; decide) (fun q5 => ?_)
  refine zR_ws [(b, .inr (4, [.int 0, .ref q1, .ref q2, .ref q3, .ref q4, .null, .null, .int 0, .int 0])), (q1, .inl (g.2.1 0, 30, .inl (fun _ => 0))), (q2, .inl (g.2.1 0, 30, .inl (fun _ => 0))), (q3, .inl (g.2.1 0, 30, .inl (fun _ => 0))), (q4, .inl (g.2.1 0, 30, .inl (fun _ => 0))), (q5, .inl (g.2.1 0, 30, .inl (fun _ => 0)))] rfl ?_
  refine zR_putf C hin qX4_28 eX4_init_46 rfl rfl 0 rfl (Nat.le_of_ble_eq_true rfl) (ws1 := [(b, .inr (4, [.int 0, .ref q1, .ref q2, .ref q3, .ref q4, .ref q5, .null, .int 0, .int 0])), (q1, .inl (g.2.1 0, 30, .inl (fun _ => 0))), (q2, .inl (g.2.1 0, 30, .inl (fun _ => 0))), (q3, .inl (g.2.1 0, 30, .inl (fun _ => 0))), (q4, .inl (g.2.1 0, 30, .inl (fun _ => 0))), (q5, .inl (g.2.1 0, 30, .inl (fun _ => 0)))]) rfl ?_
  refine zR_aload_n C eX4_init_49 0 rfl rfl ?_
  refine zR_bipush (v := 30) C eX4_init_50 (by decide) ?_
  refine zR_newI (N := 30) C eX4_init_52 (by decide) (by decide) (by decide) (by rw [hmc]; decide) (by rw [hms]; decide) (fun q6 => ?_)
  refine zR_ws [(b, .inr (4, [.int 0, .ref q1, .ref q2, .ref q3, .ref q4, .ref q5, .null, .int 0, .int 0])), (q1, .inl (g.2.1 0, 30, .inl (fun _ => 0))), (q2, .inl (g.2.1 0, 30, .inl (fun _ => 0))), (q3, .inl (g.2.1 0, 30, .inl (fun _ => 0))), (q4, .inl (g.2.1 0, 30, .inl (fun _ => 0))), (q5, .inl (g.2.1 0, 30, .inl (fun _ => 0))), (q6, .inl (g.2.1 0, 30, .inl (fun _ => 0)))] rfl ?_
  refine zR_putf C hin qX4_31 eX4_init_54 rfl rfl 0 rfl (Nat.le_of_ble_eq_true rfl) (ws1 := [(b, .inr (4, [.int 0, .ref q1, .ref q2, .ref q3, .ref q4, .ref q5, .ref q6, .int 0, .int 0])), (q1, .inl (g.2.1 0, 30, .inl (fun _ => 0))), (q2, .inl (g.2.1 0, 30, .inl (fun _ => 0))), (q3, .inl (g.2.1 0, 30, .inl (fun _ => 0))), (q4, .inl (g.2.1 0, 30, .inl (fun _ => 0))), (q5, .inl (g.2.1 0, 30, .inl (fun _ => 0))), (q6, .inl (g.2.1 0, 30, .inl (fun _ => 0)))]) rfl ?_
  refine zR_aload_n C eX4_init_57 0 rfl rfl ?_
  refine zR_iconst (v := -1) C eX4_init_58 (by decide) ?_
  refine zR_put C pX4_34 eX4_init_59 0 rfl (Nat.le_of_ble_eq_true rfl) (ws1 := [(b, .inr (4, [.int 0, .ref q1, .ref q2, .ref q3, .ref q4, .ref q5, .ref q6, .int (-1), .int 0])), (q1, .inl (g.2.1 0, 30, .inl (fun _ => 0))), (q2, .inl (g.2.1 0, 30, .inl (fun _ => 0))), (q3, .inl (g.2.1 0, 30, .inl (fun _ => 0))), (q4, .inl (g.2.1 0, 30, .inl (fun _ => 0))), (q5, .inl (g.2.1 0, 30, .inl (fun _ => 0))), (q6, .inl (g.2.1 0, 30, .inl (fun _ => 0)))]) rfl ?_
  refine zR_aload_n C eX4_init_62 0 rfl rfl ?_
  refine zR_iconst (v := 0) C eX4_init_63 (by decide) ?_
  refine zR_put C pX4_37 eX4_init_64 0 rfl (Nat.le_of_ble_eq_true rfl) (ws1 := [(b, .inr (4, [.int 0, .ref q1, .ref q2, .ref q3, .ref q4, .ref q5, .ref q6, .int (-1), .int 0])), (q1, .inl (g.2.1 0, 30, .inl (fun _ => 0))), (q2, .inl (g.2.1 0, 30, .inl (fun _ => 0))), (q3, .inl (g.2.1 0, 30, .inl (fun _ => 0))), (q4, .inl (g.2.1 0, 30, .inl (fun _ => 0))), (q5, .inl (g.2.1 0, 30, .inl (fun _ => 0))), (q6, .inl (g.2.1 0, 30, .inl (fun _ => 0)))]) rfl ?_
  exact zR_vret C rfl eX4_init_67 (by rw [hmc]; decide) (by rw [hms]; decide) ⟨rfl, fun j => ([b, q1, q2, q3, q4, q5, q6] : List Nat).getD j 0, rfl, rfl⟩
theorem c_X3_init {l : Launch} {g : zG} (b : Nat) : zM l g yX3_init cX3_init 1 none 1 3 215 [.ref b] [(b, .inr (3, [.null, .int 0, .int 0, .int 0, .null, .null]))] (fun r w => r = none ∧ ∃ q : Nat → Nat, q 0 = b ∧ w = aW g q a_new) := by
  refine zM_of (by decide +kernel) (Nat.le_of_ble_eq_true rfl) (fun x hl hn hmc hms hin C => ?_)
  subst hl
  show zR x g _ (0, 0) 0 [(0, .ref b)] [] _
  refine zR_aload_n C eX3_init_0 0 rfl rfl ?_
  refine zR_objInit C (zT_in 240 (by decide +kernel) rfl) eX3_init_1 (by decide) (by decide) ?_
  refine zR_aload_n C eX3_init_4 0 rfl rfl ?_
  refine zR_bipush (v := 80) C eX3_init_5 (by decide) ?_
  refine zR_newC (N := 80) C eX3_init_7 (by decide) (by decide) (by decide) (by rw [hmc]; decide) (by rw [hms]; decide) (fun q1 => ?_)
  refine zR_ws [(b, .inr (3, [.null, .int 0, .int 0, .int 0, .null, .null])), (q1, .inl (g.2.1 3, 80, .inl (fun _ => 0)))] rfl ?_
  refine zR_putf C hin qX3_9 eX3_init_9 rfl rfl 0 rfl (Nat.le_of_ble_eq_true rfl) (ws1 := [(b, .inr (3, [.ref q1, .int 0, .int 0, .int 0, .null, .null])), (q1, .inl (g.2.1 3, 80, .inl (fun _ => 0)))]) rfl ?_
  refine zR_aload_n C eX3_init_12 0 rfl rfl ?_
  refine zR_iconst (v := 0) C eX3_init_13 (by decide) ?_
  refine zR_put C pX3_15 eX3_init_14 0 rfl (Nat.le_of_ble_eq_true rfl) (ws1 := [(b, .inr (3, [.ref q1, .int 0, .int 0, .int 0, .null, .null])), (q1, .inl (g.2.1 3, 80, .inl (fun _ => 0)))]) rfl ?_
  refine zR_aload_n C eX3_init_17 0 rfl rfl ?_
  refine zR_iconst (v := 0) C eX3_init_18 (by decide) ?_
  refine zR_put C pX3_19 eX3_init_19 0 rfl (Nat.le_of_ble_eq_true rfl) (ws1 := [(b, .inr (3, [.ref q1, .int 0, .int 0, .int 0, .null, .null])), (q1, .inl (g.2.1 3, 80, .inl (fun _ => 0)))]) rfl ?_
  refine zR_aload_n C eX3_init_22 0 rfl rfl ?_
  refine zR_iconst (v := 0) C eX3_init_23 (by decide) ?_
  refine zR_put C pX3_22 eX3_init_24 0 rfl (Nat.le_of_ble_eq_true rfl) (ws1 := [(b, .inr (3, [.ref q1, .int 0, .int 0, .int 0, .null, .null])), (q1, .inl (g.2.1 3, 80, .inl (fun _ => 0)))]) rfl ?_
  refine zR_aload_n C eX3_init_27 0 rfl rfl ?_
  refine zR_bipush (v := 27) C eX3_init_28 (by decide) ?_
  refine zR_newC (N := 27) C eX3_init_30 (by decide) (by decide) (by decide) (by rw [hmc]; decide) (by rw [hms]; decide) (fun q2 => ?_)
  refine zR_ws [(b, .inr (3, [.ref q1, .int 0, .int 0, .int 0, .null, .null])), (q1, .inl (g.2.1 3, 80, .inl (fun _ => 0))), (q2, .inl (g.2.1 3, 27, .inl (fun _ => 0)))] rfl ?_
  refine zR_putf C hin qX3_25 eX3_init_32 rfl rfl 0 rfl (Nat.le_of_ble_eq_true rfl) (ws1 := [(b, .inr (3, [.ref q1, .int 0, .int 0, .int 0, .ref q2, .null])), (q1, .inl (g.2.1 3, 80, .inl (fun _ => 0))), (q2, .inl (g.2.1 3, 27, .inl (fun _ => 0)))]) rfl ?_
  refine zR_aload_n C eX3_init_35 0 rfl rfl ?_
  refine zR_bipush (v := 108) C eX3_init_36 (by decide) ?_
  refine zR_newI (N := 108) C eX3_init_38 (by decide) (by decide) (by decide) (by rw [hmc]; decide) (by rw [hms]; decide) (fun q3 => ?_)
  refine zR_ws [(b, .inr (3, [.ref q1, .int 0, .int 0, .int 0, .ref q2, .null])), (q1, .inl (g.2.1 3, 80, .inl (fun _ => 0))), (q2, .inl (g.2.1 3, 27, .inl (fun _ => 0))), (q3, .inl (g.2.1 0, 108, .inl (fun _ => 0)))] rfl ?_
  refine zR_putf C hin qX3_28 eX3_init_40 rfl rfl 0 rfl (Nat.le_of_ble_eq_true rfl) (ws1 := [(b, .inr (3, [.ref q1, .int 0, .int 0, .int 0, .ref q2, .ref q3])), (q1, .inl (g.2.1 3, 80, .inl (fun _ => 0))), (q2, .inl (g.2.1 3, 27, .inl (fun _ => 0))), (q3, .inl (g.2.1 0, 108, .inl (fun _ => 0)))]) rfl ?_
  exact zR_vret C rfl eX3_init_43 (by rw [hmc]; decide) (by rw [hms]; decide) ⟨rfl, fun j => ([b, q1, q2, q3] : List Nat).getD j 0, rfl, rfl⟩
theorem c_X1_init {l : Launch} {g : zG} (b : Nat) : zM l g yX1_init cX1_init 1 none 2 20 515 [.ref b] [(b, .inr (1, [.null, .int 0, .int 0, .int 0, .int 0, .int 0, .null, .null, .null, .null, .null, .null, .null, .null]))] (fun r w => r = none ∧ ∃ q : Nat → Nat, q 0 = b ∧ w = hW g q h_new) := by
  refine zM_of (by decide +kernel) (Nat.le_of_ble_eq_true rfl) (fun x hl hn hmc hms hin C => ?_)
  subst hl
  show zR x g _ (0, 0) 0 [(0, .ref b)] [] _
  refine zR_aload_n C eX1_init_0 0 rfl rfl ?_
  refine zR_objInit C (zT_in 64 (by decide +kernel) rfl) eX1_init_1 (by decide) (by decide) ?_
  refine zR_aload_n C eX1_init_4 0 rfl rfl ?_
  refine zR_first (host := "ErrorBudgets") C (zN_in 23 (by decide +kernel) rfl) eX1_init_5 ?_
  refine zR_clone C (zT_in 67 (by decide +kernel) rfl) eX1_init_8 (by decide) (Nat.le_of_ble_eq_true rfl) (by rw [hmc]; decide) (by rw [hms]; decide) (fun q1 => ?_)
  refine zR_ws [(b, .inr (1, [.null, .int 0, .int 0, .int 0, .int 0, .int 0, .null, .null, .null, .null, .null, .null, .null, .null])), (q1, .inl (g.2.1 0, 8, .inl zFI))] rfl ?_
  refine zR_castA C (zT_in 73 (by decide +kernel) rfl) eX1_init_11 1 rfl ?_
  refine zR_putf C hin qX1_18 eX1_init_14 rfl rfl 0 rfl (Nat.le_of_ble_eq_true rfl) (ws1 := [(b, .inr (1, [.ref q1, .int 0, .int 0, .int 0, .int 0, .int 0, .null, .null, .null, .null, .null, .null, .null, .null])), (q1, .inl (g.2.1 0, 8, .inl zFI))]) rfl ?_
  refine zR_aload_n C eX1_init_17 0 rfl rfl ?_
  refine zR_iconst (v := 0) C eX1_init_18 (by decide) ?_
  refine zR_put C pX1_23 eX1_init_19 0 rfl (Nat.le_of_ble_eq_true rfl) (ws1 := [(b, .inr (1, [.ref q1, .int 0, .int 0, .int 0, .int 0, .int 0, .null, .null, .null, .null, .null, .null, .null, .null])), (q1, .inl (g.2.1 0, 8, .inl zFI))]) rfl ?_
  refine zR_aload_n C eX1_init_22 0 rfl rfl ?_
  refine zR_iconst (v := 0) C eX1_init_23 (by decide) ?_
  refine zR_put C pX1_27 eX1_init_24 0 rfl (Nat.le_of_ble_eq_true rfl) (ws1 := [(b, .inr (1, [.ref q1, .int 0, .int 0, .int 0, .int 0, .int 0, .null, .null, .null, .null, .null, .null, .null, .null])), (q1, .inl (g.2.1 0, 8, .inl zFI))]) rfl ?_
  refine zR_aload_n C eX1_init_27 0 rfl rfl ?_
  refine zR_iconst (v := 0) C eX1_init_28 (by decide) ?_
  refine zR_put C pX1_30 eX1_init_29 0 rfl (Nat.le_of_ble_eq_true rfl) (ws1 := [(b, .inr (1, [.ref q1, .int 0, .int 0, .int 0, .int 0, .int 0, .null, .null, .null, .null, .null, .null, .null, .null])), (q1, .inl (g.2.1 0, 8, .inl zFI))]) rfl ?_
  refine zR_aload_n C eX1_init_32 0 rfl rfl ?_
  refine zR_iconst (v := 0) C eX1_init_33 (by decide) ?_
  refine zR_put C pX1_33 eX1_init_34 0 rfl (Nat.le_of_ble_eq_true rfl) (ws1 := [(b, .inr (1, [.ref q1, .int 0, .int 0, .int 0, .int 0, .int 0, .null, .null, .null, .null, .null, .null, .null, .null])), (q1, .inl (g.2.1 0, 8, .inl zFI))]) rfl ?_
  refine zR_aload_n C eX1_init_37 0 rfl rfl ?_
  refine zR_iconst (v := 0) C eX1_init_38 (by decide) ?_
  refine zR_put C pX1_36 eX1_init_39 0 rfl (Nat.le_of_ble_eq_true rfl) (ws1 := [(b, .inr (1, [.ref q1, .int 0, .int 0, .int 0, .int 0, .int 0, .null, .null, .null, .null, .null, .null, .null, .null])), (q1, .inl (g.2.1 0, 8, .inl zFI))]) rfl ?_
  refine zR_aload_n C eX1_init_42 0 rfl rfl ?_
  refine zR_bipush (v := 8) C eX1_init_43 (by decide) ?_
  refine zR_newI (N := 8) C eX1_init_45 (by decide) (by decide) (by decide) (by rw [hmc]; decide) (by rw [hms]; decide) (fun q2 => ?_)
  refine zR_ws [(b, .inr (1, [.ref q1, .int 0, .int 0, .int 0, .int 0, .int 0, .null, .null, .null, .null, .null, .null, .null, .null])), (q1, .inl (g.2.1 0, 8, .inl zFI)), (q2, .inl (g.2.1 0, 8, .inl (fun _ => 0)))] rfl ?_
  refine zR_putf C hin qX1_39 eX1_init_47 rfl rfl 0 rfl (Nat.le_of_ble_eq_true rfl) (ws1 := [(b, .inr (1, [.ref q1, .int 0, .int 0, .int 0, .int 0, .int 0, .ref q2, .null, .null, .null, .null, .null, .null, .null])), (q1, .inl (g.2.1 0, 8, .inl zFI)), (q2, .inl (g.2.1 0, 8, .inl (fun _ => 0)))]) rfl ?_
  refine zR_aload_n C eX1_init_50 0 rfl rfl ?_
  refine zR_bipush (v := 8) C eX1_init_51 (by decide) ?_
  refine zR_newI (N := 8) C eX1_init_53 (by decide) (by decide) (by decide) (by rw [hmc]; decide) (by rw [hms]; decide) (fun q3 => ?_)
  refine zR_ws [(b, .inr (1, [.ref q1, .int 0, .int 0, .int 0, .int 0, .int 0, .ref q2, .null, .null, .null, .null, .null, .null, .null])), (q1, .inl (g.2.1 0, 8, .inl zFI)), (q2, .inl (g.2.1 0, 8, .inl (fun _ => 0))), (q3, .inl (g.2.1 0, 8, .inl (fun _ => 0)))] rfl ?_
  refine zR_putf C hin qX1_42 eX1_init_55 rfl rfl 0 rfl (Nat.le_of_ble_eq_true rfl) (ws1 := [(b, .inr (1, [.ref q1, .int 0, .int 0, .int 0, .int 0, .int 0, .ref q2, .ref q3, .null, .null, .null, .null, .null, .null])), (q1, .inl (g.2.1 0, 8, .inl zFI)), (q2, .inl (g.2.1 0, 8, .inl (fun _ => 0))), (q3, .inl (g.2.1 0, 8, .inl (fun _ => 0)))]) rfl ?_
  refine zR_aload_n C eX1_init_58 0 rfl rfl ?_
  refine zR_bipush (v := 8) C eX1_init_59 (by decide) ?_
  refine zR_newI (N := 8) C eX1_init_61 (by decide) (by decide) (by decide) (by rw [hmc]; decide) (by rw [hms]; decide) (fun q4 => ?_)
  refine zR_ws [(b, .inr (1, [.ref q1, .int 0, .int 0, .int 0, .int 0, .int 0, .ref q2, .ref q3, .null, .null, .null, .null, .null, .null])), (q1, .inl (g.2.1 0, 8, .inl zFI)), (q2, .inl (g.2.1 0, 8, .inl (fun _ => 0))), (q3, .inl (g.2.1 0, 8, .inl (fun _ => 0))), (q4, .inl (g.2.1 0, 8, .inl (fun _ => 0)))] rfl ?_
  refine zR_putf C hin qX1_45 eX1_init_63 rfl rfl 0 rfl (Nat.le_of_ble_eq_true rfl) (ws1 := [(b, .inr (1, [.ref q1, .int 0, .int 0, .int 0, .int 0, .int 0, .ref q2, .ref q3, .ref q4, .null, .null, .null, .null, .null])), (q1, .inl (g.2.1 0, 8, .inl zFI)), (q2, .inl (g.2.1 0, 8, .inl (fun _ => 0))), (q3, .inl (g.2.1 0, 8, .inl (fun _ => 0))), (q4, .inl (g.2.1 0, 8, .inl (fun _ => 0)))]) rfl ?_
  refine zR_aload_n C eX1_init_66 0 rfl rfl ?_
  refine zR_bipush (v := 8) C eX1_init_67 (by decide) ?_
  refine zR_newI (N := 8) C eX1_init_69 (by decide) (by decide) (by decide) (by rw [hmc]; decide) (by rw [hms]; decide) (fun q5 => ?_)
  refine zR_ws [(b, .inr (1, [.ref q1, .int 0, .int 0, .int 0, .int 0, .int 0, .ref q2, .ref q3, .ref q4, .null, .null, .null, .null, .null])), (q1, .inl (g.2.1 0, 8, .inl zFI)), (q2, .inl (g.2.1 0, 8, .inl (fun _ => 0))), (q3, .inl (g.2.1 0, 8, .inl (fun _ => 0))), (q4, .inl (g.2.1 0, 8, .inl (fun _ => 0))), (q5, .inl (g.2.1 0, 8, .inl (fun _ => 0)))] rfl ?_
  refine zR_putf C hin qX1_48 eX1_init_71 rfl rfl 0 rfl (Nat.le_of_ble_eq_true rfl) (ws1 := [(b, .inr (1, [.ref q1, .int 0, .int 0, .int 0, .int 0, .int 0, .ref q2, .ref q3, .ref q4, .ref q5, .null, .null, .null, .null])), (q1, .inl (g.2.1 0, 8, .inl zFI)), (q2, .inl (g.2.1 0, 8, .inl (fun _ => 0))), (q3, .inl (g.2.1 0, 8, .inl (fun _ => 0))), (q4, .inl (g.2.1 0, 8, .inl (fun _ => 0))), (q5, .inl (g.2.1 0, 8, .inl (fun _ => 0)))]) rfl ?_
  refine zR_aload_n C eX1_init_74 0 rfl rfl ?_
  refine zR_bipush (v := 8) C eX1_init_75 (by decide) ?_
  refine zR_newI (N := 8) C eX1_init_77 (by decide) (by decide) (by decide) (by rw [hmc]; decide) (by rw [hms]; decide) (fun q6 => ?_)
  refine zR_ws [(b, .inr (1, [.ref q1, .int 0, .int 0, .int 0, .int 0, .int 0, .ref q2, .ref q3, .ref q4, .ref q5, .null, .null, .null, .null])), (q1, .inl (g.2.1 0, 8, .inl zFI)), (q2, .inl (g.2.1 0, 8, .inl (fun _ => 0))), (q3, .inl (g.2.1 0, 8, .inl (fun _ => 0))), (q4, .inl (g.2.1 0, 8, .inl (fun _ => 0))), (q5, .inl (g.2.1 0, 8, .inl (fun _ => 0))), (q6, .inl (g.2.1 0, 8, .inl (fun _ => 0)))] rfl ?_
  refine zR_putf C hin qX1_51 eX1_init_79 rfl rfl 0 rfl (Nat.le_of_ble_eq_true rfl) (ws1 := [(b, .inr (1, [.ref q1, .int 0, .int 0, .int 0, .int 0, .int 0, .ref q2, .ref q3, .ref q4, .ref q5, .ref q6, .null, .null, .null])), (q1, .inl (g.2.1 0, 8, .inl zFI)), (q2, .inl (g.2.1 0, 8, .inl (fun _ => 0))), (q3, .inl (g.2.1 0, 8, .inl (fun _ => 0))), (q4, .inl (g.2.1 0, 8, .inl (fun _ => 0))), (q5, .inl (g.2.1 0, 8, .inl (fun _ => 0))), (q6, .inl (g.2.1 0, 8, .inl (fun _ => 0)))]) rfl ?_
  refine zR_aload_n C eX1_init_82 0 rfl rfl ?_
  refine zR_bipush (v := 72) C eX1_init_83 (by decide) ?_
  refine zR_newL (N := 72) C eX1_init_85 (by decide) (by decide) (by decide) (by rw [hmc]; decide) (by rw [hms]; decide) (fun q7 => ?_)
  refine zR_ws [(b, .inr (1, [.ref q1, .int 0, .int 0, .int 0, .int 0, .int 0, .ref q2, .ref q3, .ref q4, .ref q5, .ref q6, .null, .null, .null])), (q1, .inl (g.2.1 0, 8, .inl zFI)), (q2, .inl (g.2.1 0, 8, .inl (fun _ => 0))), (q3, .inl (g.2.1 0, 8, .inl (fun _ => 0))), (q4, .inl (g.2.1 0, 8, .inl (fun _ => 0))), (q5, .inl (g.2.1 0, 8, .inl (fun _ => 0))), (q6, .inl (g.2.1 0, 8, .inl (fun _ => 0))), (q7, .inl (g.2.1 1, 72, .inr (.inl (fun _ => 0))))] rfl ?_
  refine zR_putf C hin qX1_54 eX1_init_87 rfl rfl 0 rfl (Nat.le_of_ble_eq_true rfl) (ws1 := [(b, .inr (1, [.ref q1, .int 0, .int 0, .int 0, .int 0, .int 0, .ref q2, .ref q3, .ref q4, .ref q5, .ref q6, .ref q7, .null, .null])), (q1, .inl (g.2.1 0, 8, .inl zFI)), (q2, .inl (g.2.1 0, 8, .inl (fun _ => 0))), (q3, .inl (g.2.1 0, 8, .inl (fun _ => 0))), (q4, .inl (g.2.1 0, 8, .inl (fun _ => 0))), (q5, .inl (g.2.1 0, 8, .inl (fun _ => 0))), (q6, .inl (g.2.1 0, 8, .inl (fun _ => 0))), (q7, .inl (g.2.1 1, 72, .inr (.inl (fun _ => 0))))]) rfl ?_
  refine zR_aload_n C eX1_init_90 0 rfl rfl ?_
  refine zR_new C nX1_58 eX1_init_91 (by rw [hmc]; decide) (by rw [hms]; decide) (fun q8 => ?_)
  refine zR_ws [(b, .inr (1, [.ref q1, .int 0, .int 0, .int 0, .int 0, .int 0, .ref q2, .ref q3, .ref q4, .ref q5, .ref q6, .ref q7, .null, .null])), (q1, .inl (g.2.1 0, 8, .inl zFI)), (q2, .inl (g.2.1 0, 8, .inl (fun _ => 0))), (q3, .inl (g.2.1 0, 8, .inl (fun _ => 0))), (q4, .inl (g.2.1 0, 8, .inl (fun _ => 0))), (q5, .inl (g.2.1 0, 8, .inl (fun _ => 0))), (q6, .inl (g.2.1 0, 8, .inl (fun _ => 0))), (q7, .inl (g.2.1 1, 72, .inr (.inl (fun _ => 0)))), (q8, .inr (2, [.int 0, .null, .null, .null, .null, .null]))] rfl ?_
  refine zR_dup C eX1_init_94 rfl ?_
  refine zR_callI0 C kX1_60 eX1_init_95 (c_X2_init q8) [8] rfl rfl rfl rfl (by decide) (by decide) (Nat.le_of_ble_eq_true rfl) (by rw [hmc]; decide) (by rw [hms]; decide) (fun r w h => ?_)
  obtain ⟨rfl, s8, rfl, rfl⟩ := h
  refine ⟨[(s8 0, .inr (2, [.int 0, .ref (s8 1), .ref (s8 2), .ref (s8 3), .ref (s8 4), .ref (s8 5)]))], [(s8 1, .inl (g.2.1 0, 40, .inl (fun _ => 0))), (s8 2, .inl (g.2.1 0, 40, .inl (fun _ => 0))), (s8 3, .inl (g.2.1 0, 40, .inl (fun _ => 0))), (s8 4, .inl (g.2.1 0, 40, .inl (fun _ => 0))), (s8 5, .inl (g.2.1 0, 40, .inl (fun _ => 0)))], rfl, rfl, ?_⟩
  show zR x g _ _ _ _ _ _
  refine zR_ws [(b, .inr (1, [.ref q1, .int 0, .int 0, .int 0, .int 0, .int 0, .ref q2, .ref q3, .ref q4, .ref q5, .ref q6, .ref q7, .null, .null])), (q1, .inl (g.2.1 0, 8, .inl zFI)), (q2, .inl (g.2.1 0, 8, .inl (fun _ => 0))), (q3, .inl (g.2.1 0, 8, .inl (fun _ => 0))), (q4, .inl (g.2.1 0, 8, .inl (fun _ => 0))), (q5, .inl (g.2.1 0, 8, .inl (fun _ => 0))), (q6, .inl (g.2.1 0, 8, .inl (fun _ => 0))), (q7, .inl (g.2.1 1, 72, .inr (.inl (fun _ => 0)))), (s8 0, .inr (2, [.int 0, .ref (s8 1), .ref (s8 2), .ref (s8 3), .ref (s8 4), .ref (s8 5)])), (s8 1, .inl (g.2.1 0, 40, .inl (fun _ => 0))), (s8 2, .inl (g.2.1 0, 40, .inl (fun _ => 0))), (s8 3, .inl (g.2.1 0, 40, .inl (fun _ => 0))), (s8 4, .inl (g.2.1 0, 40, .inl (fun _ => 0))), (s8 5, .inl (g.2.1 0, 40, .inl (fun _ => 0)))] rfl ?_
  refine zR_putf C hin qX1_61 eX1_init_98 rfl rfl 0 rfl (Nat.le_of_ble_eq_true rfl) (ws1 := [(b, .inr (1, [.ref q1, .int 0, .int 0, .int 0, .int 0, .int 0, .ref q2, .ref q3, .ref q4, .ref q5, .ref q6, .ref q7, .ref (s8 0), .null])), (q1, .inl (g.2.1 0, 8, .inl zFI)), (q2, .inl (g.2.1 0, 8, .inl (fun _ => 0))), (q3, .inl (g.2.1 0, 8, .inl (fun _ => 0))), (q4, .inl (g.2.1 0, 8, .inl (fun _ => 0))), (q5, .inl (g.2.1 0, 8, .inl (fun _ => 0))), (q6, .inl (g.2.1 0, 8, .inl (fun _ => 0))), (q7, .inl (g.2.1 1, 72, .inr (.inl (fun _ => 0)))), (s8 0, .inr (2, [.int 0, .ref (s8 1), .ref (s8 2), .ref (s8 3), .ref (s8 4), .ref (s8 5)])), (s8 1, .inl (g.2.1 0, 40, .inl (fun _ => 0))), (s8 2, .inl (g.2.1 0, 40, .inl (fun _ => 0))), (s8 3, .inl (g.2.1 0, 40, .inl (fun _ => 0))), (s8 4, .inl (g.2.1 0, 40, .inl (fun _ => 0))), (s8 5, .inl (g.2.1 0, 40, .inl (fun _ => 0)))]) rfl ?_
  refine zR_aload_n C eX1_init_101 0 rfl rfl ?_
  refine zR_new C nX1_65 eX1_init_102 (by rw [hmc]; decide) (by rw [hms]; decide) (fun q9 => ?_)
  refine zR_ws [(b, .inr (1, [.ref q1, .int 0, .int 0, .int 0, .int 0, .int 0, .ref q2, .ref q3, .ref q4, .ref q5, .ref q6, .ref q7, .ref (s8 0), .null])), (q1, .inl (g.2.1 0, 8, .inl zFI)), (q2, .inl (g.2.1 0, 8, .inl (fun _ => 0))), (q3, .inl (g.2.1 0, 8, .inl (fun _ => 0))), (q4, .inl (g.2.1 0, 8, .inl (fun _ => 0))), (q5, .inl (g.2.1 0, 8, .inl (fun _ => 0))), (q6, .inl (g.2.1 0, 8, .inl (fun _ => 0))), (q7, .inl (g.2.1 1, 72, .inr (.inl (fun _ => 0)))), (s8 0, .inr (2, [.int 0, .ref (s8 1), .ref (s8 2), .ref (s8 3), .ref (s8 4), .ref (s8 5)])), (s8 1, .inl (g.2.1 0, 40, .inl (fun _ => 0))), (s8 2, .inl (g.2.1 0, 40, .inl (fun _ => 0))), (s8 3, .inl (g.2.1 0, 40, .inl (fun _ => 0))), (s8 4, .inl (g.2.1 0, 40, .inl (fun _ => 0))), (s8 5, .inl (g.2.1 0, 40, .inl (fun _ => 0))), (q9, .inr (4, [.int 0, .null, .null, .null, .null, .null, .null, .int 0, .int 0]))] rfl ?_
  refine zR_dup C eX1_init_105 rfl ?_
  refine zR_callI0 C kX1_67 eX1_init_106 (c_X4_init q9) [14] rfl rfl rfl rfl (by decide) (by decide) (Nat.le_of_ble_eq_true rfl) (by rw [hmc]; decide) (by rw [hms]; decide) (fun r w h => ?_)
  obtain ⟨rfl, s14, rfl, rfl⟩ := h
  refine ⟨[(s14 0, .inr (4, [.int 0, .ref (s14 1), .ref (s14 2), .ref (s14 3), .ref (s14 4), .ref (s14 5), .ref (s14 6), .int (-1), .int 0]))], [(s14 1, .inl (g.2.1 0, 30, .inl (fun _ => 0))), (s14 2, .inl (g.2.1 0, 30, .inl (fun _ => 0))), (s14 3, .inl (g.2.1 0, 30, .inl (fun _ => 0))), (s14 4, .inl (g.2.1 0, 30, .inl (fun _ => 0))), (s14 5, .inl (g.2.1 0, 30, .inl (fun _ => 0))), (s14 6, .inl (g.2.1 0, 30, .inl (fun _ => 0)))], rfl, rfl, ?_⟩
  show zR x g _ _ _ _ _ _
  refine zR_ws [(b, .inr (1, [.ref q1, .int 0, .int 0, .int 0, .int 0, .int 0, .ref q2, .ref q3, .ref q4, .ref q5, .ref q6, .ref q7, .ref (s8 0), .null])), (q1, .inl (g.2.1 0, 8, .inl zFI)), (q2, .inl (g.2.1 0, 8, .inl (fun _ => 0))), (q3, .inl (g.2.1 0, 8, .inl (fun _ => 0))), (q4, .inl (g.2.1 0, 8, .inl (fun _ => 0))), (q5, .inl (g.2.1 0, 8, .inl (fun _ => 0))), (q6, .inl (g.2.1 0, 8, .inl (fun _ => 0))), (q7, .inl (g.2.1 1, 72, .inr (.inl (fun _ => 0)))), (s8 0, .inr (2, [.int 0, .ref (s8 1), .ref (s8 2), .ref (s8 3), .ref (s8 4), .ref (s8 5)])), (s8 1, .inl (g.2.1 0, 40, .inl (fun _ => 0))), (s8 2, .inl (g.2.1 0, 40, .inl (fun _ => 0))), (s8 3, .inl (g.2.1 0, 40, .inl (fun _ => 0))), (s8 4, .inl (g.2.1 0, 40, .inl (fun _ => 0))), (s8 5, .inl (g.2.1 0, 40, .inl (fun _ => 0))), (s14 0, .inr (4, [.int 0, .ref (s14 1), .ref (s14 2), .ref (s14 3), .ref (s14 4), .ref (s14 5), .ref (s14 6), .int (-1), .int 0])), (s14 1, .inl (g.2.1 0, 30, .inl (fun _ => 0))), (s14 2, .inl (g.2.1 0, 30, .inl (fun _ => 0))), (s14 3, .inl (g.2.1 0, 30, .inl (fun _ => 0))), (s14 4, .inl (g.2.1 0, 30, .inl (fun _ => 0))), (s14 5, .inl (g.2.1 0, 30, .inl (fun _ => 0))), (s14 6, .inl (g.2.1 0, 30, .inl (fun _ => 0)))] rfl ?_
  refine zR_putf C hin qX1_68 eX1_init_109 rfl rfl 0 rfl (Nat.le_of_ble_eq_true rfl) (ws1 := [(b, .inr (1, [.ref q1, .int 0, .int 0, .int 0, .int 0, .int 0, .ref q2, .ref q3, .ref q4, .ref q5, .ref q6, .ref q7, .ref (s8 0), .ref (s14 0)])), (q1, .inl (g.2.1 0, 8, .inl zFI)), (q2, .inl (g.2.1 0, 8, .inl (fun _ => 0))), (q3, .inl (g.2.1 0, 8, .inl (fun _ => 0))), (q4, .inl (g.2.1 0, 8, .inl (fun _ => 0))), (q5, .inl (g.2.1 0, 8, .inl (fun _ => 0))), (q6, .inl (g.2.1 0, 8, .inl (fun _ => 0))), (q7, .inl (g.2.1 1, 72, .inr (.inl (fun _ => 0)))), (s8 0, .inr (2, [.int 0, .ref (s8 1), .ref (s8 2), .ref (s8 3), .ref (s8 4), .ref (s8 5)])), (s8 1, .inl (g.2.1 0, 40, .inl (fun _ => 0))), (s8 2, .inl (g.2.1 0, 40, .inl (fun _ => 0))), (s8 3, .inl (g.2.1 0, 40, .inl (fun _ => 0))), (s8 4, .inl (g.2.1 0, 40, .inl (fun _ => 0))), (s8 5, .inl (g.2.1 0, 40, .inl (fun _ => 0))), (s14 0, .inr (4, [.int 0, .ref (s14 1), .ref (s14 2), .ref (s14 3), .ref (s14 4), .ref (s14 5), .ref (s14 6), .int (-1), .int 0])), (s14 1, .inl (g.2.1 0, 30, .inl (fun _ => 0))), (s14 2, .inl (g.2.1 0, 30, .inl (fun _ => 0))), (s14 3, .inl (g.2.1 0, 30, .inl (fun _ => 0))), (s14 4, .inl (g.2.1 0, 30, .inl (fun _ => 0))), (s14 5, .inl (g.2.1 0, 30, .inl (fun _ => 0))), (s14 6, .inl (g.2.1 0, 30, .inl (fun _ => 0)))]) rfl ?_
  exact zR_vret C rfl eX1_init_112 (by rw [hmc]; decide) (by rw [hms]; decide) ⟨rfl, fun j => ([b, q1, q2, q3, q4, q5, q6, q7, s8 0, s8 1, s8 2, s8 3, s8 4, s8 5, s14 0, s14 1, s14 2, s14 3, s14 4, s14 5, s14 6] : List Nat).getD j 0, rfl, rfl⟩
