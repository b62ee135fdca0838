/-! The law: all the numbers in one. -/
def al_i (f : Int32 → Int32) (n : Nat) (s : Int64) : Int64 := zit (fun i s => 31 * s + (f (nI i)).toInt64) s n
def al_l (f : Int32 → Int64) (n : Nat) (s : Int64) : Int64 := zit (fun i s => 31 * s + f (nI i)) s n
def al_s (e : ED) (n : Nat) (s : Int64) : Int64 := zit (fun i s => al_l (e_account e (nI i)) (zn32 9) (al_i (e_ofService e (nI i)) (zn32 11) s)) s n
def al_1 (e : ED) : Int64 := al_i (cntF e) (zn32 18) 23
def al_2 (e : ED) : Int64 := al_s e (zn32 (e_count e 3)) (al_1 e)
def al_3 (e : ED) : Int64 := al_i (fun k => e_ofLoan e (k / 5) (k - k / 5 * 5)) (zn32 (5 * e_count e 5)) (al_2 e)
def allF (e : ED) : Int64 := al_i (fun k => e_ofPlan e (k / 4) (k - k / 4 * 4)) (zn32 (4 * e_count e 6)) (al_3 e)
theorem al_i_0 (f : Int32 → Int32) (s : Int64) : al_i f 0 s = s := rfl
theorem al_s_0 (e : ED) (s : Int64) : al_s e 0 s = s := rfl
theorem zok_k {a n : Nat} (h : a ≤ n) (ha : a < 2 ^ 31) : zok (nI a) n := ⟨by rw [zn_nI ha], by rw [zn_nI ha]; exact h⟩
theorem zok_mul {v : Int32} {n k : Nat} (h : zok v n) (hn : k * n < 2 ^ 31) (hk : 0 < k) : zok (nI k * v) (k * n) := by
  have h2 := h.2
  have : k * zn32 v ≤ k * n := Nat.mul_le_mul_left k h2
  have e : nI k * v = nI (k * zn32 v) := by rw [← pk_mul, ← h.1]
  rw [e]; exact zok_k this (by omega)
set_option maxHeartbeats 1000000 in
set_option maxRecDepth 100000 in
theorem c_L_all_a {x : zX} {g : zG} {q : Nat → Nat} {e : ED} (hn : zn x = 5) (C : zC x g RL cL_all (some .long) 2) (he : e_ok e) (K : zR x g (zE (some (.long (allF e))) (eW g q e)) (0, 0) 47 [(3, .int (nI (zn32 18))), (1, .long (al_1 e)), (0, .ref (q 0))] [] (eW g q e)) : ∀ k i : Nat, i + k = zn32 18 → zR x g (zE (some (.long (allF e))) (eW g q e)) (0, 0) 6 [(3, .int (nI i)), (1, .long (al_i (cntF e) i 23)), (0, .ref (q 0))] [] (eW g q e) := by
  intro k
  induction k with
  | zero =>
    intro i hk
    have hi : i = zn32 18 := by omega
    refine zR_iload_n C eL_all_6 0 rfl rfl ?_
    refine zR_bipush (v := 18) C eL_all_7 (by decide) ?_
    refine zR_icmp_ge C eL_all_9 (fun h9 => ?_) (fun h9 => ?_)
    · skip
      subst hi
      refine zR_lv [(3, _), (1, _), (0, _)] [0, 1, 2] rfl ?_
      exact K
    · skip
      exact absurd h9 (zlp_out (zok_k (a := 18) (n := 18) (by decide) (by decide)) hi)
  | succ k ih =>
    intro i hk
    have hlt : i < zn32 18 := by omega
    refine zR_iload_n C eL_all_6 0 rfl rfl ?_
    refine zR_bipush (v := 18) C eL_all_7 (by decide) ?_
    refine zR_icmp_ge C eL_all_9 (fun h9 => ?_) (fun h9 => ?_)
    · skip
      exact absurd (zlp_in (zok_k (a := 18) (n := 18) (by decide) (by decide)) (by decide) hlt) h9
    · skip
      refine zR_ldc2 C qL_10 eL_all_12 ?_
      refine zR_lload_n C eL_all_15 1 rfl rfl ?_
      refine zR_lmul C eL_all_16 ?_
      refine zR_iload_n C eL_all_17 0 rfl rfl ?_
      refine zR_bipush (v := 7) C eL_all_18 (by decide) ?_
      refine zR_icmp_eq C eL_all_20 (fun h20 => ?_) (fun h20 => ?_)
      · skip
        refine zR_iconst (v := 0) C eL_all_29 (by decide) ?_
        refine zR_goto C eL_all_30 ?_
        refine zR_i2l C eL_all_38 ?_
        refine zR_ladd C eL_all_39 ?_
        refine zR_lstore_n (lv' := [(1, _), (3, _), (0, _)]) C eL_all_40 rfl (by rw [hn]; decide) rfl ?_
        refine zR_iinc (lv' := [(3, _), (1, _), (0, _)]) (v' := nI (i + 1)) C eL_all_41 1 rfl (zinc i) (by rw [hn]; decide) rfl ?_
        refine zR_goto C eL_all_44 ?_
        have e1 : al_i (cntF e) (i + 1) 23 = 31 * al_i (cntF e) i 23 + ((0 : Int32)).toInt64 := by
          show 31 * al_i (cntF e) i 23 + (cntF e (nI i)).toInt64 = _
          unfold cntF; rw [if_pos h20]
        refine zR_lv [(3, .int (nI (i + 1))), (1, .long (al_i (cntF e) (i + 1) 23)), (0, _)] [0, 1, 2] (by rw [e1] <;> rfl) ?_
        exact ih (i + 1) (by omega)
      · skip
        refine zR_iload_n C eL_all_23 0 rfl rfl ?_
        refine zR_bipush (v := 9) C eL_all_24 (by decide) ?_
        refine zR_icmp_ne C eL_all_26 (fun h26 => ?_) (fun h26 => ?_)
        · skip
          refine zR_aload_n C eL_all_33 2 rfl rfl ?_
          refine zR_iload_n C eL_all_34 0 rfl rfl ?_
          refine zR_callV1 C kL_12 eL_all_35 (c_X5_count q _ _ he) rfl 0 5 eW_g0 rfl rfl _ eW_call eW_nall rfl (by decide) (by decide) (Nat.le_of_ble_eq_true rfl) (Nat.zero_le _) (Nat.zero_le _) eW_f eW_rall ?_
          refine zR_i2l C eL_all_38 ?_
          refine zR_ladd C eL_all_39 ?_
          refine zR_lstore_n (lv' := [(1, _), (3, _), (0, _)]) C eL_all_40 rfl (by rw [hn]; decide) rfl ?_
          refine zR_iinc (lv' := [(3, _), (1, _), (0, _)]) (v' := nI (i + 1)) C eL_all_41 1 rfl (zinc i) (by rw [hn]; decide) rfl ?_
          refine zR_goto C eL_all_44 ?_
          have e1 : al_i (cntF e) (i + 1) 23 = 31 * al_i (cntF e) i 23 + (e_count e (nI i)).toInt64 := by
            show 31 * al_i (cntF e) i 23 + (cntF e (nI i)).toInt64 = _
            unfold cntF; rw [if_neg h20, if_neg h26]
          refine zR_lv [(3, .int (nI (i + 1))), (1, .long (al_i (cntF e) (i + 1) 23)), (0, _)] [0, 1, 2] (by rw [e1] <;> rfl) ?_
          exact ih (i + 1) (by omega)
        · skip
          refine zR_iconst (v := 0) C eL_all_29 (by decide) ?_
          refine zR_goto C eL_all_30 ?_
          refine zR_i2l C eL_all_38 ?_
          refine zR_ladd C eL_all_39 ?_
          refine zR_lstore_n (lv' := [(1, _), (3, _), (0, _)]) C eL_all_40 rfl (by rw [hn]; decide) rfl ?_
          refine zR_iinc (lv' := [(3, _), (1, _), (0, _)]) (v' := nI (i + 1)) C eL_all_41 1 rfl (zinc i) (by rw [hn]; decide) rfl ?_
          refine zR_goto C eL_all_44 ?_
          have e1 : al_i (cntF e) (i + 1) 23 = 31 * al_i (cntF e) i 23 + ((0 : Int32)).toInt64 := by
            show 31 * al_i (cntF e) i 23 + (cntF e (nI i)).toInt64 = _
            unfold cntF; rw [if_neg h20, if_pos h26]
          refine zR_lv [(3, .int (nI (i + 1))), (1, .long (al_i (cntF e) (i + 1) 23)), (0, _)] [0, 1, 2] (by rw [e1] <;> rfl) ?_
          exact ih (i + 1) (by omega)
set_option maxHeartbeats 1000000 in
set_option maxRecDepth 100000 in
theorem c_L_all_c {x : zX} {g : zG} {q : Nat → Nat} {e : ED} (hn : zn x = 5) (C : zC x g RL cL_all (some .long) 2) (he : e_ok e) {s : Nat} {s0 : Int64} (K : zR x g (zE (some (.long (allF e))) (eW g q e)) (0, 0) 89 [(4, .int (nI (zn32 11))), (1, .long (al_i (e_ofService e (nI s)) (zn32 11) s0)), (3, .int (nI s)), (0, .ref (q 0))] [] (eW g q e)) : ∀ k i : Nat, i + k = zn32 11 → zR x g (zE (some (.long (allF e))) (eW g q e)) (0, 0) 61 [(4, .int (nI i)), (1, .long (al_i (e_ofService e (nI s)) i s0)), (3, .int (nI s)), (0, .ref (q 0))] [] (eW g q e) := by
  intro k
  induction k with
  | zero =>
    intro i hk
    have hi : i = zn32 11 := by omega
    refine zR_iload C eL_all_61 0 rfl ?_
    refine zR_bipush (v := 11) C eL_all_63 (by decide) ?_
    refine zR_icmp_ge C eL_all_65 (fun h65 => ?_) (fun h65 => ?_)
    · skip
      subst hi
      refine zR_lv [(4, _), (1, _), (3, _), (0, _)] [0, 1, 2, 3] rfl ?_
      exact K
    · skip
      exact absurd h65 (zlp_out (zok_k (a := 11) (n := 11) (by decide) (by decide)) hi)
  | succ k ih =>
    intro i hk
    have hlt : i < zn32 11 := by omega
    refine zR_iload C eL_all_61 0 rfl ?_
    refine zR_bipush (v := 11) C eL_all_63 (by decide) ?_
    refine zR_icmp_ge C eL_all_65 (fun h65 => ?_) (fun h65 => ?_)
    · skip
      exact absurd (zlp_in (zok_k (a := 11) (n := 11) (by decide) (by decide)) (by decide) hlt) h65
    · skip
      refine zR_ldc2 C qL_10 eL_all_68 ?_
      refine zR_lload_n C eL_all_71 1 rfl rfl ?_
      refine zR_lmul C eL_all_72 ?_
      refine zR_aload_n C eL_all_73 3 rfl rfl ?_
      refine zR_iload_n C eL_all_74 2 rfl rfl ?_
      refine zR_iload C eL_all_75 0 rfl ?_
      refine zR_callV1 C kL_18 eL_all_77 (c_X5_ofService q _ _ _ he) rfl 0 5 eW_g0 rfl rfl _ eW_call eW_nall rfl (by decide) (by decide) (Nat.le_of_ble_eq_true rfl) (Nat.zero_le _) (Nat.zero_le _) eW_f eW_rall ?_
      refine zR_i2l C eL_all_80 ?_
      refine zR_ladd C eL_all_81 ?_
      refine zR_lstore_n (lv' := [(1, _), (4, _), (3, _), (0, _)]) C eL_all_82 rfl (by rw [hn]; decide) rfl ?_
      refine zR_iinc (lv' := [(4, _), (1, _), (3, _), (0, _)]) (v' := nI (i + 1)) C eL_all_83 1 rfl (zinc i) (by rw [hn]; decide) rfl ?_
      refine zR_goto C eL_all_86 ?_
      refine zR_lv [(4, .int (nI (i + 1))), (1, .long (al_i (e_ofService e (nI s)) (i + 1) s0)), (3, _), (0, _)] [0, 1, 2, 3] rfl ?_
      exact ih (i + 1) (by omega)
set_option maxHeartbeats 1000000 in
set_option maxRecDepth 100000 in
theorem c_L_all_d {x : zX} {g : zG} {q : Nat → Nat} {e : ED} (hn : zn x = 5) (C : zC x g RL cL_all (some .long) 2) (he : e_ok e) {s : Nat} {s0 : Int64} (K : zR x g (zE (some (.long (allF e))) (eW g q e)) (0, 0) 119 [(4, .int (nI (zn32 9))), (1, .long (al_l (e_account e (nI s)) (zn32 9) s0)), (3, .int (nI s)), (0, .ref (q 0))] [] (eW g q e)) : ∀ k i : Nat, i + k = zn32 9 → zR x g (zE (some (.long (allF e))) (eW g q e)) (0, 0) 92 [(4, .int (nI i)), (1, .long (al_l (e_account e (nI s)) i s0)), (3, .int (nI s)), (0, .ref (q 0))] [] (eW g q e) := by
  intro k
  induction k with
  | zero =>
    intro i hk
    have hi : i = zn32 9 := by omega
    refine zR_iload C eL_all_92 0 rfl ?_
    refine zR_bipush (v := 9) C eL_all_94 (by decide) ?_
    refine zR_icmp_ge C eL_all_96 (fun h96 => ?_) (fun h96 => ?_)
    · skip
      subst hi
      refine zR_lv [(4, _), (1, _), (3, _), (0, _)] [0, 1, 2, 3] rfl ?_
      exact K
    · skip
      exact absurd h96 (zlp_out (zok_k (a := 9) (n := 9) (by decide) (by decide)) hi)
  | succ k ih =>
    intro i hk
    have hlt : i < zn32 9 := by omega
    refine zR_iload C eL_all_92 0 rfl ?_
    refine zR_bipush (v := 9) C eL_all_94 (by decide) ?_
    refine zR_icmp_ge C eL_all_96 (fun h96 => ?_) (fun h96 => ?_)
    · skip
      exact absurd (zlp_in (zok_k (a := 9) (n := 9) (by decide) (by decide)) (by decide) hlt) h96
    · skip
      refine zR_ldc2 C qL_10 eL_all_99 ?_
      refine zR_lload_n C eL_all_102 1 rfl rfl ?_
      refine zR_lmul C eL_all_103 ?_
      refine zR_aload_n C eL_all_104 3 rfl rfl ?_
      refine zR_iload_n C eL_all_105 2 rfl rfl ?_
      refine zR_iload C eL_all_106 0 rfl ?_
      refine zR_callV1 C kL_22 eL_all_108 (c_X5_account q _ _ _ he) rfl 0 5 eW_g0 rfl rfl _ eW_call eW_nall rfl (by decide) (by decide) (Nat.le_of_ble_eq_true rfl) (Nat.zero_le _) (Nat.zero_le _) eW_f eW_rall ?_
      refine zR_ladd C eL_all_111 ?_
      refine zR_lstore_n (lv' := [(1, _), (4, _), (3, _), (0, _)]) C eL_all_112 rfl (by rw [hn]; decide) rfl ?_
      refine zR_iinc (lv' := [(4, _), (1, _), (3, _), (0, _)]) (v' := nI (i + 1)) C eL_all_113 1 rfl (zinc i) (by rw [hn]; decide) rfl ?_
      refine zR_goto C eL_all_116 ?_
      refine zR_lv [(4, .int (nI (i + 1))), (1, .long (al_l (e_account e (nI s)) (i + 1) s0)), (3, _), (0, _)] [0, 1, 2, 3] rfl ?_
      exact ih (i + 1) (by omega)
set_option maxHeartbeats 1000000 in
set_option maxRecDepth 100000 in
theorem c_L_all_b {x : zX} {g : zG} {q : Nat → Nat} {e : ED} (hn : zn x = 5) (C : zC x g RL cL_all (some .long) 2) (he : e_ok e) (K : zR x g (zE (some (.long (allF e))) (eW g q e)) (0, 0) 125 [(3, .int (nI (zn32 (e_count e 3)))), (1, .long (al_2 e)), (0, .ref (q 0))] [] (eW g q e)) : ∀ k i : Nat, i + k = zn32 (e_count e 3) → zR x g (zE (some (.long (allF e))) (eW g q e)) (0, 0) 49 [(3, .int (nI i)), (1, .long (al_s e i (al_1 e))), (0, .ref (q 0))] [] (eW g q e) := by
  intro k
  induction k with
  | zero =>
    intro i hk
    have hi : i = zn32 (e_count e 3) := by omega
    refine zR_iload_n C eL_all_49 0 rfl rfl ?_
    refine zR_aload_n C eL_all_50 2 rfl rfl ?_
    refine zR_iconst (v := 3) C eL_all_51 (by decide) ?_
    refine zR_callV1 C kL_12 eL_all_52 (c_X5_count q _ _ he) rfl 0 5 eW_g0 rfl rfl _ eW_call eW_nall rfl (by decide) (by decide) (Nat.le_of_ble_eq_true rfl) (Nat.zero_le _) (Nat.zero_le _) eW_f eW_rall ?_
    refine zR_icmp_ge C eL_all_55 (fun h55 => ?_) (fun h55 => ?_)
    · skip
      subst hi
      refine zR_lv [(3, _), (1, _), (0, _)] [0, 1, 2] rfl ?_
      exact K
    · skip
      exact absurd h55 (zlp_out (show zok (e_count e 3) 8 from he.1.1) hi)
  | succ k ih =>
    intro i hk
    have hlt : i < zn32 (e_count e 3) := by omega
    refine zR_iload_n C eL_all_49 0 rfl rfl ?_
    refine zR_aload_n C eL_all_50 2 rfl rfl ?_
    refine zR_iconst (v := 3) C eL_all_51 (by decide) ?_
    refine zR_callV1 C kL_12 eL_all_52 (c_X5_count q _ _ he) rfl 0 5 eW_g0 rfl rfl _ eW_call eW_nall rfl (by decide) (by decide) (Nat.le_of_ble_eq_true rfl) (Nat.zero_le _) (Nat.zero_le _) eW_f eW_rall ?_
    refine zR_icmp_ge C eL_all_55 (fun h55 => ?_) (fun h55 => ?_)
    · skip
      exact absurd (zlp_in (show zok (e_count e 3) 8 from he.1.1) (by decide) hlt) h55
    · skip
      refine zR_iconst (v := 0) C eL_all_58 (by decide) ?_
      refine zR_istore (lv' := [(4, _), (3, _), (1, _), (0, _)]) C eL_all_59 (by rw [hn]; decide) rfl ?_
      refine zR_lv [(4, .int (nI 0)), (1, .long (al_i (e_ofService e (nI i)) 0 (al_s e i (al_1 e)))), (3, _), (0, _)] [0, 2, 1, 3] rfl ?_
      refine c_L_all_c hn C he ?_ _ 0 (Nat.zero_add _)
      refine zR_iconst (v := 0) C eL_all_89 (by decide) ?_
      refine zR_istore (lv' := [(4, _), (1, _), (3, _), (0, _)]) C eL_all_90 (by rw [hn]; decide) rfl ?_
      refine zR_lv [(4, .int (nI 0)), (1, .long (al_l (e_account e (nI i)) 0 (al_i (e_ofService e (nI i)) (zn32 11) (al_s e i (al_1 e))))), (3, _), (0, _)] [0, 1, 2, 3] rfl ?_
      refine c_L_all_d hn C he ?_ _ 0 (Nat.zero_add _)
      refine zR_iinc (lv' := [(3, _), (4, _), (1, _), (0, _)]) (v' := nI (i + 1)) C eL_all_119 2 rfl (zinc i) (by rw [hn]; decide) rfl ?_
      refine zR_goto C eL_all_122 ?_
      refine zR_lv [(3, .int (nI (i + 1))), (1, .long (al_s e (i + 1) (al_1 e))), (0, _)] [0, 2, 3] rfl ?_
      exact ih (i + 1) (by omega)
set_option maxHeartbeats 1000000 in
set_option maxRecDepth 100000 in
theorem c_L_all_e {x : zX} {g : zG} {q : Nat → Nat} {e : ED} (hn : zn x = 5) (C : zC x g RL cL_all (some .long) 2) (he : e_ok e) (K : zR x g (zE (some (.long (allF e))) (eW g q e)) (0, 0) 162 [(3, .int (nI (zn32 (5 * e_count e 5)))), (1, .long (al_3 e)), (0, .ref (q 0))] [] (eW g q e)) : ∀ k i : Nat, i + k = zn32 (5 * e_count e 5) → zR x g (zE (some (.long (allF e))) (eW g q e)) (0, 0) 127 [(3, .int (nI i)), (1, .long (al_i (fun k => e_ofLoan e (k / 5) (k - k / 5 * 5)) i (al_2 e))), (0, .ref (q 0))] [] (eW g q e) := by
  intro k
  induction k with
  | zero =>
    intro i hk
    have hi : i = zn32 (5 * e_count e 5) := by omega
    refine zR_iload_n C eL_all_127 0 rfl rfl ?_
    refine zR_iconst (v := 5) C eL_all_128 (by decide) ?_
    refine zR_aload_n C eL_all_129 2 rfl rfl ?_
    refine zR_iconst (v := 5) C eL_all_130 (by decide) ?_
    refine zR_callV1 C kL_12 eL_all_131 (c_X5_count q _ _ he) rfl 0 5 eW_g0 rfl rfl _ eW_call eW_nall rfl (by decide) (by decide) (Nat.le_of_ble_eq_true rfl) (Nat.zero_le _) (Nat.zero_le _) eW_f eW_rall ?_
    refine zR_imul C eL_all_134 ?_
    refine zR_icmp_ge C eL_all_135 (fun h135 => ?_) (fun h135 => ?_)
    · skip
      subst hi
      refine zR_lv [(3, _), (1, _), (0, _)] [0, 1, 2] rfl ?_
      exact K
    · skip
      exact absurd h135 (zlp_out (zok_mul (k := 5) (show zok (e_count e 5) 40 from he.1.2.1.1) (by decide) (by decide)) hi)
  | succ k ih =>
    intro i hk
    have hlt : i < zn32 (5 * e_count e 5) := by omega
    refine zR_iload_n C eL_all_127 0 rfl rfl ?_
    refine zR_iconst (v := 5) C eL_all_128 (by decide) ?_
    refine zR_aload_n C eL_all_129 2 rfl rfl ?_
    refine zR_iconst (v := 5) C eL_all_130 (by decide) ?_
    refine zR_callV1 C kL_12 eL_all_131 (c_X5_count q _ _ he) rfl 0 5 eW_g0 rfl rfl _ eW_call eW_nall rfl (by decide) (by decide) (Nat.le_of_ble_eq_true rfl) (Nat.zero_le _) (Nat.zero_le _) eW_f eW_rall ?_
    refine zR_imul C eL_all_134 ?_
    refine zR_icmp_ge C eL_all_135 (fun h135 => ?_) (fun h135 => ?_)
    · skip
      exact absurd (zlp_in (zok_mul (k := 5) (show zok (e_count e 5) 40 from he.1.2.1.1) (by decide) (by decide)) (by decide) hlt) h135
    · skip
      refine zR_ldc2 C qL_10 eL_all_138 ?_
      refine zR_lload_n C eL_all_141 1 rfl rfl ?_
      refine zR_lmul C eL_all_142 ?_
      refine zR_aload_n C eL_all_143 2 rfl rfl ?_
      refine zR_iload_n C eL_all_144 0 rfl rfl ?_
      refine zR_iconst (v := 5) C eL_all_145 (by decide) ?_
      refine zR_idiv C eL_all_146 (by decide) ?_
      refine zR_iload_n C eL_all_147 0 rfl rfl ?_
      refine zR_iconst (v := 5) C eL_all_148 (by decide) ?_
      refine zR_irem C eL_all_149 (by decide) ?_
      refine zR_callV1 C kL_26 eL_all_150 (c_X5_ofLoan q _ _ _ he) rfl 0 5 eW_g0 rfl rfl _ eW_call eW_nall rfl (by decide) (by decide) (Nat.le_of_ble_eq_true rfl) (Nat.zero_le _) (Nat.zero_le _) eW_f eW_rall ?_
      refine zR_i2l C eL_all_153 ?_
      refine zR_ladd C eL_all_154 ?_
      refine zR_lstore_n (lv' := [(1, _), (3, _), (0, _)]) C eL_all_155 rfl (by rw [hn]; decide) rfl ?_
      refine zR_iinc (lv' := [(3, _), (1, _), (0, _)]) (v' := nI (i + 1)) C eL_all_156 1 rfl (zinc i) (by rw [hn]; decide) rfl ?_
      refine zR_goto C eL_all_159 ?_
      refine zR_lv [(3, .int (nI (i + 1))), (1, .long (al_i (fun k => e_ofLoan e (k / 5) (k - k / 5 * 5)) (i + 1) (al_2 e))), (0, _)] [0, 1, 2] rfl ?_
      exact ih (i + 1) (by omega)
set_option maxHeartbeats 1000000 in
set_option maxRecDepth 100000 in
theorem c_L_all_f {x : zX} {g : zG} {q : Nat → Nat} {e : ED} (hn : zn x = 5) (C : zC x g RL cL_all (some .long) 2) (he : e_ok e) (K : zR x g (zE (some (.long (allF e))) (eW g q e)) (0, 0) 200 [(3, .int (nI (zn32 (4 * e_count e 6)))), (1, .long (allF e)), (0, .ref (q 0))] [] (eW g q e)) : ∀ k i : Nat, i + k = zn32 (4 * e_count e 6) → zR x g (zE (some (.long (allF e))) (eW g q e)) (0, 0) 164 [(3, .int (nI i)), (1, .long (al_i (fun k => e_ofPlan e (k / 4) (k - k / 4 * 4)) i (al_3 e))), (0, .ref (q 0))] [] (eW g q e) := by
  intro k
  induction k with
  | zero =>
    intro i hk
    have hi : i = zn32 (4 * e_count e 6) := by omega
    refine zR_iload_n C eL_all_164 0 rfl rfl ?_
    refine zR_iconst (v := 4) C eL_all_165 (by decide) ?_
    refine zR_aload_n C eL_all_166 2 rfl rfl ?_
    refine zR_bipush (v := 6) C eL_all_167 (by decide) ?_
    refine zR_callV1 C kL_12 eL_all_169 (c_X5_count q _ _ he) rfl 0 5 eW_g0 rfl rfl _ eW_call eW_nall rfl (by decide) (by decide) (Nat.le_of_ble_eq_true rfl) (Nat.zero_le _) (Nat.zero_le _) eW_f eW_rall ?_
    refine zR_imul C eL_all_172 ?_
    refine zR_icmp_ge C eL_all_173 (fun h173 => ?_) (fun h173 => ?_)
    · skip
      subst hi
      refine zR_lv [(3, _), (1, _), (0, _)] [0, 1, 2] rfl ?_
      exact K
    · skip
      exact absurd h173 (zlp_out (zok_mul (k := 4) (show zok (e_count e 6) 30 from he.1.2.2.1) (by decide) (by decide)) hi)
  | succ k ih =>
    intro i hk
    have hlt : i < zn32 (4 * e_count e 6) := by omega
    refine zR_iload_n C eL_all_164 0 rfl rfl ?_
    refine zR_iconst (v := 4) C eL_all_165 (by decide) ?_
    refine zR_aload_n C eL_all_166 2 rfl rfl ?_
    refine zR_bipush (v := 6) C eL_all_167 (by decide) ?_
    refine zR_callV1 C kL_12 eL_all_169 (c_X5_count q _ _ he) rfl 0 5 eW_g0 rfl rfl _ eW_call eW_nall rfl (by decide) (by decide) (Nat.le_of_ble_eq_true rfl) (Nat.zero_le _) (Nat.zero_le _) eW_f eW_rall ?_
    refine zR_imul C eL_all_172 ?_
    refine zR_icmp_ge C eL_all_173 (fun h173 => ?_) (fun h173 => ?_)
    · skip
      exact absurd (zlp_in (zok_mul (k := 4) (show zok (e_count e 6) 30 from he.1.2.2.1) (by decide) (by decide)) (by decide) hlt) h173
    · skip
      refine zR_ldc2 C qL_10 eL_all_176 ?_
      refine zR_lload_n C eL_all_179 1 rfl rfl ?_
      refine zR_lmul C eL_all_180 ?_
      refine zR_aload_n C eL_all_181 2 rfl rfl ?_
      refine zR_iload_n C eL_all_182 0 rfl rfl ?_
      refine zR_iconst (v := 4) C eL_all_183 (by decide) ?_
      refine zR_idiv C eL_all_184 (by decide) ?_
      refine zR_iload_n C eL_all_185 0 rfl rfl ?_
      refine zR_iconst (v := 4) C eL_all_186 (by decide) ?_
      refine zR_irem C eL_all_187 (by decide) ?_
      refine zR_callV1 C kL_29 eL_all_188 (c_X5_ofPlan q _ _ _ he) rfl 0 5 eW_g0 rfl rfl _ eW_call eW_nall rfl (by decide) (by decide) (Nat.le_of_ble_eq_true rfl) (Nat.zero_le _) (Nat.zero_le _) eW_f eW_rall ?_
      refine zR_i2l C eL_all_191 ?_
      refine zR_ladd C eL_all_192 ?_
      refine zR_lstore_n (lv' := [(1, _), (3, _), (0, _)]) C eL_all_193 rfl (by rw [hn]; decide) rfl ?_
      refine zR_iinc (lv' := [(3, _), (1, _), (0, _)]) (v' := nI (i + 1)) C eL_all_194 1 rfl (zinc i) (by rw [hn]; decide) rfl ?_
      refine zR_goto C eL_all_197 ?_
      refine zR_lv [(3, .int (nI (i + 1))), (1, .long (al_i (fun k => e_ofPlan e (k / 4) (k - k / 4 * 4)) (i + 1) (al_3 e))), (0, _)] [0, 1, 2] rfl ?_
      exact ih (i + 1) (by omega)
set_option maxHeartbeats 1000000 in
set_option maxRecDepth 100000 in
theorem c_L_all {l : Launch} {g : zG} (q : Nat → Nat) (e : ED) (he : e_ok e) : zM l g yL_all cL_all 5 (some .long) 2 0 0 [.ref (q 0)] (eW g q e) (zE (some (.long (allF e))) (eW g q e)) := by
  refine zM_of (by decide +kernel) (Nat.le_of_ble_eq_true rfl) (fun x hl hn _ _ _ C => ?_)
  subst hl
  show zR x g _ (0, 0) 0 [(0, .ref (q 0))] [] _
  refine zR_ldc2 C qL_8 eL_all_0 ?_
  refine zR_lstore_n (lv' := [(1, _), (0, _)]) C eL_all_3 rfl (by rw [hn]; decide) rfl ?_
  refine zR_iconst (v := 0) C eL_all_4 (by decide) ?_
  refine zR_istore_n (lv' := [(3, _), (1, _), (0, _)]) C eL_all_5 rfl (by rw [hn]; decide) rfl ?_
  refine zR_lv [(3, .int (nI 0)), (1, .long (al_i (cntF e) 0 23)), (0, _)] [0, 1, 2] (by rw [al_i_0] <;> rfl) ?_
  refine c_L_all_a hn C he ?_ _ 0 (Nat.zero_add _)
  refine zR_iconst (v := 0) C eL_all_47 (by decide) ?_
  refine zR_istore_n (lv' := [(3, _), (1, _), (0, _)]) C eL_all_48 rfl (by rw [hn]; decide) rfl ?_
  refine zR_lv [(3, .int (nI 0)), (1, .long (al_s e 0 (al_1 e))), (0, _)] [0, 1, 2] (by rw [al_s_0] <;> rfl) ?_
  refine c_L_all_b hn C he ?_ _ 0 (Nat.zero_add _)
  refine zR_iconst (v := 0) C eL_all_125 (by decide) ?_
  refine zR_istore_n (lv' := [(3, _), (1, _), (0, _)]) C eL_all_126 rfl (by rw [hn]; decide) rfl ?_
  refine zR_lv [(3, .int (nI 0)), (1, .long (al_i (fun k => e_ofLoan e (k / 5) (k - k / 5 * 5)) 0 (al_2 e))), (0, _)] [0, 1, 2] (by rw [al_i_0] <;> rfl) ?_
  refine c_L_all_e hn C he ?_ _ 0 (Nat.zero_add _)
  refine zR_iconst (v := 0) C eL_all_162 (by decide) ?_
  refine zR_istore_n (lv' := [(3, _), (1, _), (0, _)]) C eL_all_163 rfl (by rw [hn]; decide) rfl ?_
  refine zR_lv [(3, .int (nI 0)), (1, .long (al_i (fun k => e_ofPlan e (k / 4) (k - k / 4 * 4)) 0 (al_3 e))), (0, _)] [0, 1, 2] (by rw [al_i_0] <;> rfl) ?_
  refine c_L_all_f hn C he ?_ _ 0 (Nat.zero_add _)
  refine zR_lload_n C eL_all_200 1 rfl rfl ?_
  exact zR_lret C rfl eL_all_201 (Nat.zero_le _) (Nat.zero_le _) ⟨rfl, rfl⟩
