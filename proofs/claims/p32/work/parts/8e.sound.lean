/-! The law: what must hold of all accounts. -/
def oF (e : ED) (s : Nat) (n : Nat) : Int64 := zit (fun t x => if t < 3 then x else x + e_account e (nI s) (nI t)) 0 n
def sLent (e : ED) (n : Nat) : Int64 := zit (fun s x => x + (e_account e (nI s) 5 - e_account e (nI s) 1)) 0 n
def sPaid (e : ED) (n : Nat) : Int64 := zit (fun s x => x + (e_account e (nI s) 6 - e_account e (nI s) 2)) 0 n
def sFrz (e : ED) (n : Nat) : Int32 := zit (fun s x => x ||| (e_ofService e (nI s) 1 <<< (nI s &&& 31))) 0 n
def sSum (e : ED) (w : Int32) (n : Nat) : Int32 := zit (fun s x => x + e_ofService e (nI s) w) 0 n
def sLoans (e : ED) (n : Nat) : Int32 := zit (fun s x => x + (e_ofService e (nI s) 3 - e_ofService e (nI s) 4)) 0 n
def sOwe (e : ED) (v : Int32) (n : Nat) : Int32 := zit (fun l x => x - e_ofLoan e (nI l) 3) v n
def SND (e : ED) : Prop :=
  (∀ s, s < zn32 (e_count e 3) → (∀ t, 3 ≤ t → t < 8 → ¬ e_account e (nI s) (nI t) < 0) ∧ e_account e (nI s) 0 + e_account e (nI s) 1 + e_account e (nI s) 2 = oF e s (zn32 9) ∧ (e_account e (nI s) 8 < 1 → ¬ e_ofService e (nI s) 1 = 0) ∧ ¬ e_ofService e (nI s) 2 < 0 ∧ ¬ e_ofService e (nI s) 10 < e_ofService e (nI s) 1) ∧
  (∀ l, l < zn32 (e_count e 5) → ¬ e_ofLoan e (nI l) 0 = e_ofLoan e (nI l) 1 ∧ ¬ e_ofLoan e (nI l) 3 < 1 ∧ ¬ e_ofLoan e (nI l) 4 ≤ e_count e 1) ∧
  sLent e (zn32 (e_count e 3)) = 0 ∧ sPaid e (zn32 (e_count e 3)) = 0 ∧ sFrz e (zn32 (e_count e 3)) = e_count e 4 ∧ sOwe e (sSum e 5 (zn32 (e_count e 3))) (zn32 (e_count e 5)) = 0 ∧ ¬ sSum e 6 (zn32 (e_count e 3)) < 0 ∧ sLoans e (zn32 (e_count e 3)) = 0 ∧ sSum e 7 (zn32 (e_count e 3)) = e_count e 6 ∧ e_count e 2 ≤ e_count e 0
theorem z9 : zn32 9 = 9 := by decide
set_option maxHeartbeats 1000000 in
set_option maxRecDepth 100000 in
theorem c_L_isSound_i {x : zX} {g : zG} {q : Nat → Nat} {e : ED} (hn : zn x = 16) (C : zC x g RL cL_isSound (some .boolean) 2) (he : e_ok e) {s : Nat} {a1 a3 a11 : Int64} {b5 b6 b7 b8 b9 : Int32} (hF : ∀ t, 3 ≤ t → t < 8 → ¬ e_account e (nI s) (nI t) < 0) (K : zR x g (zE (some (.int 1)) (eW g q e)) (0, 0) 111 [(15, .int (nI (zn32 9))), (13, .long (oF e s (zn32 9))), (11, .long a11), (10, .int (nI s)), (9, .int b9), (8, .int b8), (7, .int b7), (6, .int b6), (5, .int b5), (3, .long a3), (1, .long a1), (0, .ref (q 0))] [] (eW g q e)) : ∀ k i : Nat, (i + k = zn32 9 ∧ 3 ≤ i) → zR x g (zE (some (.int 1)) (eW g q e)) (0, 0) 63 [(15, .int (nI i)), (13, .long (oF e s i)), (11, .long a11), (10, .int (nI s)), (9, .int b9), (8, .int b8), (7, .int b7), (6, .int b6), (5, .int b5), (3, .long a3), (1, .long a1), (0, .ref (q 0))] [] (eW g q e) := by
  intro k
  induction k with
  | zero =>
    intro i hk
    have hi : i = zn32 9 := by omega
    refine zR_iload C eL_isSound_63 0 rfl ?_
    refine zR_bipush (v := 9) C eL_isSound_65 (by decide) ?_
    refine zR_icmp_ge C eL_isSound_67 (fun h67 => ?_) (fun h67 => ?_)
    · skip
      subst hi
      refine zR_lv [(15, _), (13, _), (11, _), (10, _), (9, _), (8, _), (7, _), (6, _), (5, _), (3, _), (1, _), (0, _)] [0, 1, 2, 3, 4, 5, 6, 7, 8, 9, 10, 11] rfl ?_
      exact K
    · skip
      exact absurd h67 (zlp_out (zok_k (a := 9) (n := 9) (by decide) (by decide)) hi)
  | succ k ih =>
    intro i hk
    have hlt : i < zn32 9 := by omega
    have h9 := z9
    refine zR_iload C eL_isSound_63 0 rfl ?_
    refine zR_bipush (v := 9) C eL_isSound_65 (by decide) ?_
    refine zR_icmp_ge C eL_isSound_67 (fun h67 => ?_) (fun h67 => ?_)
    · skip
      exact absurd (zlp_in (zok_k (a := 9) (n := 9) (by decide) (by decide)) (by decide) hlt) h67
    · skip
      refine zR_lload C eL_isSound_70 1 rfl ?_
      refine zR_aload_n C eL_isSound_72 11 rfl rfl ?_
      refine zR_iload C eL_isSound_73 3 rfl ?_
      refine zR_iload C eL_isSound_75 0 rfl ?_
      refine zR_callV1 C kL_22 eL_isSound_77 (c_X5_account q _ _ _ he) rfl 0 5 eW_g0 rfl rfl _ eW_call eW_nall rfl (by decide) (by decide) (Nat.le_of_ble_eq_true rfl) (Nat.zero_le _) (Nat.zero_le _) eW_f eW_rall ?_
      refine zR_ladd C eL_isSound_80 ?_
      refine zR_lstore (lv' := [(13, _), (15, _), (11, _), (10, _), (9, _), (8, _), (7, _), (6, _), (5, _), (3, _), (1, _), (0, _)]) C eL_isSound_81 (by rw [hn]; decide) rfl ?_
      refine zR_iload C eL_isSound_83 1 rfl ?_
      refine zR_bipush (v := 8) C eL_isSound_85 (by decide) ?_
      refine zR_icmp_ge C eL_isSound_87 (fun h87 => ?_) (fun h87 => ?_)
      · skip
        refine zR_iinc (lv' := [(15, _), (13, _), (11, _), (10, _), (9, _), (8, _), (7, _), (6, _), (5, _), (3, _), (1, _), (0, _)]) (v' := nI (i + 1)) C eL_isSound_105 1 rfl (zinc i) (by rw [hn]; decide) rfl ?_
        refine zR_goto C eL_isSound_108 ?_
        have e1 : oF e s (i + 1) = oF e s i + e_account e (nI s) (nI i) := by
          show (if i < 3 then oF e s i else oF e s i + e_account e (nI s) (nI i)) = _
          rw [if_neg (by omega)]
        refine zR_lv [(15, .int (nI (i + 1))), (13, .long (oF e s (i + 1))), (11, _), (10, _), (9, _), (8, _), (7, _), (6, _), (5, _), (3, _), (1, _), (0, _)] [0, 1, 2, 3, 4, 5, 6, 7, 8, 9, 10, 11] (by rw [e1] <;> rfl) ?_
        exact ih (i + 1) (by omega)
      · skip
        refine zR_aload_n C eL_isSound_90 11 rfl rfl ?_
        refine zR_iload C eL_isSound_91 3 rfl ?_
        refine zR_iload C eL_isSound_93 1 rfl ?_
        refine zR_callV1 C kL_22 eL_isSound_95 (c_X5_account q _ _ _ he) rfl 0 5 eW_g0 rfl rfl _ eW_call eW_nall rfl (by decide) (by decide) (Nat.le_of_ble_eq_true rfl) (Nat.zero_le _) (Nat.zero_le _) eW_f eW_rall ?_
        refine zR_lconst (v := 0) C eL_isSound_98 (by decide) ?_
        refine zR_cifge C eL_isSound_99 eL_isSound_100 (fun h99 => ?_) (fun h99 => ?_)
        · skip
          refine zR_iinc (lv' := [(15, _), (13, _), (11, _), (10, _), (9, _), (8, _), (7, _), (6, _), (5, _), (3, _), (1, _), (0, _)]) (v' := nI (i + 1)) C eL_isSound_105 1 rfl (zinc i) (by rw [hn]; decide) rfl ?_
          refine zR_goto C eL_isSound_108 ?_
          have e1 : oF e s (i + 1) = oF e s i + e_account e (nI s) (nI i) := by
            show (if i < 3 then oF e s i else oF e s i + e_account e (nI s) (nI i)) = _
            rw [if_neg (by omega)]
          refine zR_lv [(15, .int (nI (i + 1))), (13, .long (oF e s (i + 1))), (11, _), (10, _), (9, _), (8, _), (7, _), (6, _), (5, _), (3, _), (1, _), (0, _)] [0, 1, 2, 3, 4, 5, 6, 7, 8, 9, 10, 11] (by rw [e1] <;> rfl) ?_
          exact ih (i + 1) (by omega)
        · skip
          exact absurd h99 (hF i (by omega) ((nI_ltI (b := 8) (by have := z9; omega) (by decide)).mp h87))
set_option maxHeartbeats 1000000 in
set_option maxRecDepth 100000 in
theorem c_L_isSound_o {x : zX} {g : zG} {q : Nat → Nat} {e : ED} (hn : zn x = 16) (C : zC x g RL cL_isSound (some .boolean) 2) (he : e_ok e) (hS : SND e) (K : zR x g (zE (some (.int 1)) (eW g q e)) (0, 0) 288 [(10, .int (nI (zn32 (e_count e 3)))), (9, .int (sSum e 7 (zn32 (e_count e 3)))), (8, .int (sLoans e (zn32 (e_count e 3)))), (7, .int (sSum e 6 (zn32 (e_count e 3)))), (6, .int (sSum e 5 (zn32 (e_count e 3)))), (5, .int (sFrz e (zn32 (e_count e 3)))), (3, .long (sPaid e (zn32 (e_count e 3)))), (1, .long (sLent e (zn32 (e_count e 3)))), (0, .ref (q 0))] [] (eW g q e)) : ∀ k i : Nat, i + k = zn32 (e_count e 3) → zR x g (zE (some (.int 1)) (eW g q e)) (0, 0) 22 [(10, .int (nI i)), (9, .int (sSum e 7 i)), (8, .int (sLoans e i)), (7, .int (sSum e 6 i)), (6, .int (sSum e 5 i)), (5, .int (sFrz e i)), (3, .long (sPaid e i)), (1, .long (sLent e i)), (0, .ref (q 0))] [] (eW g q e) := by
  intro k
  induction k with
  | zero =>
    intro i hk
    have hi : i = zn32 (e_count e 3) := by omega
    refine zR_iload C eL_isSound_22 0 rfl ?_
    refine zR_aload_n C eL_isSound_24 8 rfl rfl ?_
    refine zR_iconst (v := 3) C eL_isSound_25 (by decide) ?_
    refine zR_callV1 C kL_12 eL_isSound_26 (c_X5_count q _ _ he) rfl 0 5 eW_g0 rfl rfl _ eW_call eW_nall rfl (by decide) (by decide) (Nat.le_of_ble_eq_true rfl) (Nat.zero_le _) (Nat.zero_le _) eW_f eW_rall ?_
    refine zR_icmp_ge C eL_isSound_29 (fun h29 => ?_) (fun h29 => ?_)
    · skip
      subst hi
      refine zR_lv [(10, _), (9, _), (8, _), (7, _), (6, _), (5, _), (3, _), (1, _), (0, _)] [0, 1, 2, 3, 4, 5, 6, 7, 8] rfl ?_
      exact K
    · skip
      exact absurd h29 (zlp_out (show zok (e_count e 3) 8 from he.1.1) hi)
  | succ k ih =>
    intro i hk
    have hlt : i < zn32 (e_count e 3) := by omega
    refine zR_iload C eL_isSound_22 0 rfl ?_
    refine zR_aload_n C eL_isSound_24 8 rfl rfl ?_
    refine zR_iconst (v := 3) C eL_isSound_25 (by decide) ?_
    refine zR_callV1 C kL_12 eL_isSound_26 (c_X5_count q _ _ he) rfl 0 5 eW_g0 rfl rfl _ eW_call eW_nall rfl (by decide) (by decide) (Nat.le_of_ble_eq_true rfl) (Nat.zero_le _) (Nat.zero_le _) eW_f eW_rall ?_
    refine zR_icmp_ge C eL_isSound_29 (fun h29 => ?_) (fun h29 => ?_)
    · skip
      exact absurd (zlp_in (show zok (e_count e 3) 8 from he.1.1) (by decide) hlt) h29
    · skip
      refine zR_aload_n C eL_isSound_32 8 rfl rfl ?_
      refine zR_iload C eL_isSound_33 0 rfl ?_
      refine zR_iconst (v := 0) C eL_isSound_35 (by decide) ?_
      refine zR_callV1 C kL_22 eL_isSound_36 (c_X5_account q _ _ _ he) rfl 0 5 eW_g0 rfl rfl _ eW_call eW_nall rfl (by decide) (by decide) (Nat.le_of_ble_eq_true rfl) (Nat.zero_le _) (Nat.zero_le _) eW_f eW_rall ?_
      refine zR_aload_n C eL_isSound_39 8 rfl rfl ?_
      refine zR_iload C eL_isSound_40 0 rfl ?_
      refine zR_iconst (v := 1) C eL_isSound_42 (by decide) ?_
      refine zR_callV1 C kL_22 eL_isSound_43 (c_X5_account q _ _ _ he) rfl 0 5 eW_g0 rfl rfl _ eW_call eW_nall rfl (by decide) (by decide) (Nat.le_of_ble_eq_true rfl) (Nat.zero_le _) (Nat.zero_le _) eW_f eW_rall ?_
      refine zR_ladd C eL_isSound_46 ?_
      refine zR_aload_n C eL_isSound_47 8 rfl rfl ?_
      refine zR_iload C eL_isSound_48 0 rfl ?_
      refine zR_iconst (v := 2) C eL_isSound_50 (by decide) ?_
      refine zR_callV1 C kL_22 eL_isSound_51 (c_X5_account q _ _ _ he) rfl 0 5 eW_g0 rfl rfl _ eW_call eW_nall rfl (by decide) (by decide) (Nat.le_of_ble_eq_true rfl) (Nat.zero_le _) (Nat.zero_le _) eW_f eW_rall ?_
      refine zR_ladd C eL_isSound_54 ?_
      refine zR_lstore (lv' := [(11, _), (10, _), (9, _), (8, _), (7, _), (6, _), (5, _), (3, _), (1, _), (0, _)]) C eL_isSound_55 (by rw [hn]; decide) rfl ?_
      refine zR_lconst (v := 0) C eL_isSound_57 (by decide) ?_
      refine zR_lstore (lv' := [(13, _), (11, _), (10, _), (9, _), (8, _), (7, _), (6, _), (5, _), (3, _), (1, _), (0, _)]) C eL_isSound_58 (by rw [hn]; decide) rfl ?_
      refine zR_iconst (v := 3) C eL_isSound_60 (by decide) ?_
      refine zR_istore (lv' := [(15, _), (13, _), (11, _), (10, _), (9, _), (8, _), (7, _), (6, _), (5, _), (3, _), (1, _), (0, _)]) C eL_isSound_61 (by rw [hn]; decide) rfl ?_
      refine zR_lv [(15, .int (nI 3)), (13, .long (oF e i 3)), (11, _), (10, _), (9, _), (8, _), (7, _), (6, _), (5, _), (3, _), (1, _), (0, _)] [0, 1, 2, 3, 4, 5, 6, 7, 8, 9, 10, 11] rfl ?_
      refine c_L_isSound_i hn C he (hS.1 i hlt).1 ?_ 6 3 (by decide)
      refine zR_lload_n C eL_isSound_111 10 rfl rfl ?_
      refine zR_aload_n C eL_isSound_112 11 rfl rfl ?_
      refine zR_iload C eL_isSound_113 3 rfl ?_
      refine zR_iconst (v := 5) C eL_isSound_115 (by decide) ?_
      refine zR_callV1 C kL_22 eL_isSound_116 (c_X5_account q _ _ _ he) rfl 0 5 eW_g0 rfl rfl _ eW_call eW_nall rfl (by decide) (by decide) (Nat.le_of_ble_eq_true rfl) (Nat.zero_le _) (Nat.zero_le _) eW_f eW_rall ?_
      refine zR_aload_n C eL_isSound_119 11 rfl rfl ?_
      refine zR_iload C eL_isSound_120 3 rfl ?_
      refine zR_iconst (v := 1) C eL_isSound_122 (by decide) ?_
      refine zR_callV1 C kL_22 eL_isSound_123 (c_X5_account q _ _ _ he) rfl 0 5 eW_g0 rfl rfl _ eW_call eW_nall rfl (by decide) (by decide) (Nat.le_of_ble_eq_true rfl) (Nat.zero_le _) (Nat.zero_le _) eW_f eW_rall ?_
      refine zR_lsub C eL_isSound_126 ?_
      refine zR_ladd C eL_isSound_127 ?_
      refine zR_lstore_n (lv' := [(1, _), (15, _), (13, _), (11, _), (10, _), (9, _), (8, _), (7, _), (6, _), (5, _), (3, _), (0, _)]) C eL_isSound_128 rfl (by rw [hn]; decide) rfl ?_
      refine zR_lload_n C eL_isSound_129 10 rfl rfl ?_
      refine zR_aload_n C eL_isSound_130 11 rfl rfl ?_
      refine zR_iload C eL_isSound_131 4 rfl ?_
      refine zR_bipush (v := 6) C eL_isSound_133 (by decide) ?_
      refine zR_callV1 C kL_22 eL_isSound_135 (c_X5_account q _ _ _ he) rfl 0 5 eW_g0 rfl rfl _ eW_call eW_nall rfl (by decide) (by decide) (Nat.le_of_ble_eq_true rfl) (Nat.zero_le _) (Nat.zero_le _) eW_f eW_rall ?_
      refine zR_aload_n C eL_isSound_138 11 rfl rfl ?_
      refine zR_iload C eL_isSound_139 4 rfl ?_
      refine zR_iconst (v := 2) C eL_isSound_141 (by decide) ?_
      refine zR_callV1 C kL_22 eL_isSound_142 (c_X5_account q _ _ _ he) rfl 0 5 eW_g0 rfl rfl _ eW_call eW_nall rfl (by decide) (by decide) (Nat.le_of_ble_eq_true rfl) (Nat.zero_le _) (Nat.zero_le _) eW_f eW_rall ?_
      refine zR_lsub C eL_isSound_145 ?_
      refine zR_ladd C eL_isSound_146 ?_
      refine zR_lstore_n (lv' := [(3, _), (1, _), (15, _), (13, _), (11, _), (10, _), (9, _), (8, _), (7, _), (6, _), (5, _), (0, _)]) C eL_isSound_147 rfl (by rw [hn]; decide) rfl ?_
      refine zR_iload C eL_isSound_148 10 rfl ?_
      refine zR_aload_n C eL_isSound_150 11 rfl rfl ?_
      refine zR_iload C eL_isSound_151 5 rfl ?_
      refine zR_iconst (v := 1) C eL_isSound_153 (by decide) ?_
      refine zR_callV1 C kL_18 eL_isSound_154 (c_X5_ofService q _ _ _ he) rfl 0 5 eW_g0 rfl rfl _ eW_call eW_nall rfl (by decide) (by decide) (Nat.le_of_ble_eq_true rfl) (Nat.zero_le _) (Nat.zero_le _) eW_f eW_rall ?_
      refine zR_iload C eL_isSound_157 5 rfl ?_
      refine zR_ishl C eL_isSound_159 ?_
      refine zR_ior C eL_isSound_160 ?_
      refine zR_istore (lv' := [(5, _), (3, _), (1, _), (15, _), (13, _), (11, _), (10, _), (9, _), (8, _), (7, _), (6, _), (0, _)]) C eL_isSound_161 (by rw [hn]; decide) rfl ?_
      refine zR_iload C eL_isSound_163 10 rfl ?_
      refine zR_aload_n C eL_isSound_165 11 rfl rfl ?_
      refine zR_iload C eL_isSound_166 6 rfl ?_
      refine zR_iconst (v := 5) C eL_isSound_168 (by decide) ?_
      refine zR_callV1 C kL_18 eL_isSound_169 (c_X5_ofService q _ _ _ he) rfl 0 5 eW_g0 rfl rfl _ eW_call eW_nall rfl (by decide) (by decide) (Nat.le_of_ble_eq_true rfl) (Nat.zero_le _) (Nat.zero_le _) eW_f eW_rall ?_
      refine zR_iadd C eL_isSound_172 ?_
      refine zR_istore (lv' := [(6, _), (5, _), (3, _), (1, _), (15, _), (13, _), (11, _), (10, _), (9, _), (8, _), (7, _), (0, _)]) C eL_isSound_173 (by rw [hn]; decide) rfl ?_
      refine zR_iload C eL_isSound_175 10 rfl ?_
      refine zR_aload_n C eL_isSound_177 11 rfl rfl ?_
      refine zR_iload C eL_isSound_178 7 rfl ?_
      refine zR_bipush (v := 6) C eL_isSound_180 (by decide) ?_
      refine zR_callV1 C kL_18 eL_isSound_182 (c_X5_ofService q _ _ _ he) rfl 0 5 eW_g0 rfl rfl _ eW_call eW_nall rfl (by decide) (by decide) (Nat.le_of_ble_eq_true rfl) (Nat.zero_le _) (Nat.zero_le _) eW_f eW_rall ?_
      refine zR_iadd C eL_isSound_185 ?_
      refine zR_istore (lv' := [(7, _), (6, _), (5, _), (3, _), (1, _), (15, _), (13, _), (11, _), (10, _), (9, _), (8, _), (0, _)]) C eL_isSound_186 (by rw [hn]; decide) rfl ?_
      refine zR_iload C eL_isSound_188 10 rfl ?_
      refine zR_aload_n C eL_isSound_190 11 rfl rfl ?_
      refine zR_iload C eL_isSound_191 8 rfl ?_
      refine zR_iconst (v := 3) C eL_isSound_193 (by decide) ?_
      refine zR_callV1 C kL_18 eL_isSound_194 (c_X5_ofService q _ _ _ he) rfl 0 5 eW_g0 rfl rfl _ eW_call eW_nall rfl (by decide) (by decide) (Nat.le_of_ble_eq_true rfl) (Nat.zero_le _) (Nat.zero_le _) eW_f eW_rall ?_
      refine zR_aload_n C eL_isSound_197 11 rfl rfl ?_
      refine zR_iload C eL_isSound_198 8 rfl ?_
      refine zR_iconst (v := 4) C eL_isSound_200 (by decide) ?_
      refine zR_callV1 C kL_18 eL_isSound_201 (c_X5_ofService q _ _ _ he) rfl 0 5 eW_g0 rfl rfl _ eW_call eW_nall rfl (by decide) (by decide) (Nat.le_of_ble_eq_true rfl) (Nat.zero_le _) (Nat.zero_le _) eW_f eW_rall ?_
      refine zR_isub C eL_isSound_204 ?_
      refine zR_iadd C eL_isSound_205 ?_
      refine zR_istore (lv' := [(8, _), (7, _), (6, _), (5, _), (3, _), (1, _), (15, _), (13, _), (11, _), (10, _), (9, _), (0, _)]) C eL_isSound_206 (by rw [hn]; decide) rfl ?_
      refine zR_iload C eL_isSound_208 10 rfl ?_
      refine zR_aload_n C eL_isSound_210 11 rfl rfl ?_
      refine zR_iload C eL_isSound_211 9 rfl ?_
      refine zR_bipush (v := 7) C eL_isSound_213 (by decide) ?_
      refine zR_callV1 C kL_18 eL_isSound_215 (c_X5_ofService q _ _ _ he) rfl 0 5 eW_g0 rfl rfl _ eW_call eW_nall rfl (by decide) (by decide) (Nat.le_of_ble_eq_true rfl) (Nat.zero_le _) (Nat.zero_le _) eW_f eW_rall ?_
      refine zR_iadd C eL_isSound_218 ?_
      refine zR_istore (lv' := [(9, _), (8, _), (7, _), (6, _), (5, _), (3, _), (1, _), (15, _), (13, _), (11, _), (10, _), (0, _)]) C eL_isSound_219 (by rw [hn]; decide) rfl ?_
      refine zR_lload C eL_isSound_221 9 rfl ?_
      refine zR_lload C eL_isSound_223 8 rfl ?_
      refine zR_cifne C eL_isSound_225 eL_isSound_226 (fun h225 => ?_) (fun h225 => ?_)
      · skip
        exact absurd (hS.1 i hlt).2.1 h225
      · skip
        refine zR_aload_n C eL_isSound_229 11 rfl rfl ?_
        refine zR_iload C eL_isSound_230 10 rfl ?_
        refine zR_bipush (v := 8) C eL_isSound_232 (by decide) ?_
        refine zR_callV1 C kL_22 eL_isSound_234 (c_X5_account q _ _ _ he) rfl 0 5 eW_g0 rfl rfl _ eW_call eW_nall rfl (by decide) (by decide) (Nat.le_of_ble_eq_true rfl) (Nat.zero_le _) (Nat.zero_le _) eW_f eW_rall ?_
        refine zR_lconst (v := 1) C eL_isSound_237 (by decide) ?_
        refine zR_cifge C eL_isSound_238 eL_isSound_239 (fun h238 => ?_) (fun h238 => ?_)
        · skip
          refine zR_aload_n C eL_isSound_252 11 rfl rfl ?_
          refine zR_iload C eL_isSound_253 10 rfl ?_
          refine zR_iconst (v := 2) C eL_isSound_255 (by decide) ?_
          refine zR_callV1 C kL_18 eL_isSound_256 (c_X5_ofService q _ _ _ he) rfl 0 5 eW_g0 rfl rfl _ eW_call eW_nall rfl (by decide) (by decide) (Nat.le_of_ble_eq_true rfl) (Nat.zero_le _) (Nat.zero_le _) eW_f eW_rall ?_
          refine zR_iflt C eL_isSound_259 (fun h259 => ?_) (fun h259 => ?_)
          · skip
            exact absurd h259 (hS.1 i hlt).2.2.2.1
          · skip
            refine zR_aload_n C eL_isSound_262 11 rfl rfl ?_
            refine zR_iload C eL_isSound_263 10 rfl ?_
            refine zR_bipush (v := 10) C eL_isSound_265 (by decide) ?_
            refine zR_callV1 C kL_18 eL_isSound_267 (c_X5_ofService q _ _ _ he) rfl 0 5 eW_g0 rfl rfl _ eW_call eW_nall rfl (by decide) (by decide) (Nat.le_of_ble_eq_true rfl) (Nat.zero_le _) (Nat.zero_le _) eW_f eW_rall ?_
            refine zR_aload_n C eL_isSound_270 11 rfl rfl ?_
            refine zR_iload C eL_isSound_271 10 rfl ?_
            refine zR_iconst (v := 1) C eL_isSound_273 (by decide) ?_
            refine zR_callV1 C kL_18 eL_isSound_274 (c_X5_ofService q _ _ _ he) rfl 0 5 eW_g0 rfl rfl _ eW_call eW_nall rfl (by decide) (by decide) (Nat.le_of_ble_eq_true rfl) (Nat.zero_le _) (Nat.zero_le _) eW_f eW_rall ?_
            refine zR_icmp_ge C eL_isSound_277 (fun h277 => ?_) (fun h277 => ?_)
            · skip
              refine zR_iinc (lv' := [(10, _), (9, _), (8, _), (7, _), (6, _), (5, _), (3, _), (1, _), (15, _), (13, _), (11, _), (0, _)]) (v' := nI (i + 1)) C eL_isSound_282 10 rfl (zinc i) (by rw [hn]; decide) rfl ?_
              refine zR_goto C eL_isSound_285 ?_
              refine zR_lv [(10, .int (nI (i + 1))), (9, .int (sSum e 7 (i + 1))), (8, .int (sLoans e (i + 1))), (7, .int (sSum e 6 (i + 1))), (6, .int (sSum e 5 (i + 1))), (5, .int (sFrz e (i + 1))), (3, .long (sPaid e (i + 1))), (1, .long (sLent e (i + 1))), (0, _)] [0, 1, 2, 3, 4, 5, 6, 7, 11] rfl ?_
              exact ih (i + 1) (by omega)
            · skip
              exact absurd h277 (hS.1 i hlt).2.2.2.2
        · skip
          refine zR_aload_n C eL_isSound_242 11 rfl rfl ?_
          refine zR_iload C eL_isSound_243 10 rfl ?_
          refine zR_iconst (v := 1) C eL_isSound_245 (by decide) ?_
          refine zR_callV1 C kL_18 eL_isSound_246 (c_X5_ofService q _ _ _ he) rfl 0 5 eW_g0 rfl rfl _ eW_call eW_nall rfl (by decide) (by decide) (Nat.le_of_ble_eq_true rfl) (Nat.zero_le _) (Nat.zero_le _) eW_f eW_rall ?_
          refine zR_ifeq C eL_isSound_249 (fun h249 => ?_) (fun h249 => ?_)
          · skip
            exact absurd h249 ((hS.1 i hlt).2.2.1 h238)
          · skip
            refine zR_aload_n C eL_isSound_252 11 rfl rfl ?_
            refine zR_iload C eL_isSound_253 10 rfl ?_
            refine zR_iconst (v := 2) C eL_isSound_255 (by decide) ?_
            refine zR_callV1 C kL_18 eL_isSound_256 (c_X5_ofService q _ _ _ he) rfl 0 5 eW_g0 rfl rfl _ eW_call eW_nall rfl (by decide) (by decide) (Nat.le_of_ble_eq_true rfl) (Nat.zero_le _) (Nat.zero_le _) eW_f eW_rall ?_
            refine zR_iflt C eL_isSound_259 (fun h259 => ?_) (fun h259 => ?_)
            · skip
              exact absurd h259 (hS.1 i hlt).2.2.2.1
            · skip
              refine zR_aload_n C eL_isSound_262 11 rfl rfl ?_
              refine zR_iload C eL_isSound_263 10 rfl ?_
              refine zR_bipush (v := 10) C eL_isSound_265 (by decide) ?_
              refine zR_callV1 C kL_18 eL_isSound_267 (c_X5_ofService q _ _ _ he) rfl 0 5 eW_g0 rfl rfl _ eW_call eW_nall rfl (by decide) (by decide) (Nat.le_of_ble_eq_true rfl) (Nat.zero_le _) (Nat.zero_le _) eW_f eW_rall ?_
              refine zR_aload_n C eL_isSound_270 11 rfl rfl ?_
              refine zR_iload C eL_isSound_271 10 rfl ?_
              refine zR_iconst (v := 1) C eL_isSound_273 (by decide) ?_
              refine zR_callV1 C kL_18 eL_isSound_274 (c_X5_ofService q _ _ _ he) rfl 0 5 eW_g0 rfl rfl _ eW_call eW_nall rfl (by decide) (by decide) (Nat.le_of_ble_eq_true rfl) (Nat.zero_le _) (Nat.zero_le _) eW_f eW_rall ?_
              refine zR_icmp_ge C eL_isSound_277 (fun h277 => ?_) (fun h277 => ?_)
              · skip
                refine zR_iinc (lv' := [(10, _), (9, _), (8, _), (7, _), (6, _), (5, _), (3, _), (1, _), (15, _), (13, _), (11, _), (0, _)]) (v' := nI (i + 1)) C eL_isSound_282 10 rfl (zinc i) (by rw [hn]; decide) rfl ?_
                refine zR_goto C eL_isSound_285 ?_
                refine zR_lv [(10, .int (nI (i + 1))), (9, .int (sSum e 7 (i + 1))), (8, .int (sLoans e (i + 1))), (7, .int (sSum e 6 (i + 1))), (6, .int (sSum e 5 (i + 1))), (5, .int (sFrz e (i + 1))), (3, .long (sPaid e (i + 1))), (1, .long (sLent e (i + 1))), (0, _)] [0, 1, 2, 3, 4, 5, 6, 7, 11] rfl ?_
                exact ih (i + 1) (by omega)
              · skip
                exact absurd h277 (hS.1 i hlt).2.2.2.2
set_option maxHeartbeats 1000000 in
set_option maxRecDepth 100000 in
theorem c_L_isSound_l {x : zX} {g : zG} {q : Nat → Nat} {e : ED} (hn : zn x = 16) (C : zC x g RL cL_isSound (some .boolean) 2) (he : e_ok e) (hS : SND e) {a1 a3 : Int64} {b5 b6 b7 b8 b9 : Int32} (K : zR x g (zE (some (.int 1)) (eW g q e)) (0, 0) 364 [(10, .int (nI (zn32 (e_count e 5)))), (9, .int b9), (8, .int b8), (7, .int b7), (6, .int (sOwe e b6 (zn32 (e_count e 5)))), (5, .int b5), (3, .long a3), (1, .long a1), (0, .ref (q 0))] [] (eW g q e)) : ∀ k i : Nat, i + k = zn32 (e_count e 5) → zR x g (zE (some (.int 1)) (eW g q e)) (0, 0) 291 [(10, .int (nI i)), (9, .int b9), (8, .int b8), (7, .int b7), (6, .int (sOwe e b6 i)), (5, .int b5), (3, .long a3), (1, .long a1), (0, .ref (q 0))] [] (eW g q e) := by
  intro k
  induction k with
  | zero =>
    intro i hk
    have hi : i = zn32 (e_count e 5) := by omega
    refine zR_iload C eL_isSound_291 0 rfl ?_
    refine zR_aload_n C eL_isSound_293 8 rfl rfl ?_
    refine zR_iconst (v := 5) C eL_isSound_294 (by decide) ?_
    refine zR_callV1 C kL_12 eL_isSound_295 (c_X5_count q _ _ he) rfl 0 5 eW_g0 rfl rfl _ eW_call eW_nall rfl (by decide) (by decide) (Nat.le_of_ble_eq_true rfl) (Nat.zero_le _) (Nat.zero_le _) eW_f eW_rall ?_
    refine zR_icmp_ge C eL_isSound_298 (fun h298 => ?_) (fun h298 => ?_)
    · skip
      subst hi
      refine zR_lv [(10, _), (9, _), (8, _), (7, _), (6, _), (5, _), (3, _), (1, _), (0, _)] [0, 1, 2, 3, 4, 5, 6, 7, 8] rfl ?_
      exact K
    · skip
      exact absurd h298 (zlp_out (show zok (e_count e 5) 40 from he.1.2.1.1) hi)
  | succ k ih =>
    intro i hk
    have hlt : i < zn32 (e_count e 5) := by omega
    refine zR_iload C eL_isSound_291 0 rfl ?_
    refine zR_aload_n C eL_isSound_293 8 rfl rfl ?_
    refine zR_iconst (v := 5) C eL_isSound_294 (by decide) ?_
    refine zR_callV1 C kL_12 eL_isSound_295 (c_X5_count q _ _ he) rfl 0 5 eW_g0 rfl rfl _ eW_call eW_nall rfl (by decide) (by decide) (Nat.le_of_ble_eq_true rfl) (Nat.zero_le _) (Nat.zero_le _) eW_f eW_rall ?_
    refine zR_icmp_ge C eL_isSound_298 (fun h298 => ?_) (fun h298 => ?_)
    · skip
      exact absurd (zlp_in (show zok (e_count e 5) 40 from he.1.2.1.1) (by decide) hlt) h298
    · skip
      refine zR_iload C eL_isSound_301 4 rfl ?_
      refine zR_aload_n C eL_isSound_303 8 rfl rfl ?_
      refine zR_iload C eL_isSound_304 0 rfl ?_
      refine zR_iconst (v := 3) C eL_isSound_306 (by decide) ?_
      refine zR_callV1 C kL_26 eL_isSound_307 (c_X5_ofLoan q _ _ _ he) rfl 0 5 eW_g0 rfl rfl _ eW_call eW_nall rfl (by decide) (by decide) (Nat.le_of_ble_eq_true rfl) (Nat.zero_le _) (Nat.zero_le _) eW_f eW_rall ?_
      refine zR_isub C eL_isSound_310 ?_
      refine zR_istore (lv' := [(6, _), (10, _), (9, _), (8, _), (7, _), (5, _), (3, _), (1, _), (0, _)]) C eL_isSound_311 (by rw [hn]; decide) rfl ?_
      refine zR_aload_n C eL_isSound_313 8 rfl rfl ?_
      refine zR_iload C eL_isSound_314 1 rfl ?_
      refine zR_iconst (v := 0) C eL_isSound_316 (by decide) ?_
      refine zR_callV1 C kL_26 eL_isSound_317 (c_X5_ofLoan q _ _ _ he) rfl 0 5 eW_g0 rfl rfl _ eW_call eW_nall rfl (by decide) (by decide) (Nat.le_of_ble_eq_true rfl) (Nat.zero_le _) (Nat.zero_le _) eW_f eW_rall ?_
      refine zR_aload_n C eL_isSound_320 8 rfl rfl ?_
      refine zR_iload C eL_isSound_321 1 rfl ?_
      refine zR_iconst (v := 1) C eL_isSound_323 (by decide) ?_
      refine zR_callV1 C kL_26 eL_isSound_324 (c_X5_ofLoan q _ _ _ he) rfl 0 5 eW_g0 rfl rfl _ eW_call eW_nall rfl (by decide) (by decide) (Nat.le_of_ble_eq_true rfl) (Nat.zero_le _) (Nat.zero_le _) eW_f eW_rall ?_
      refine zR_icmp_eq C eL_isSound_327 (fun h327 => ?_) (fun h327 => ?_)
      · skip
        exact absurd h327 (hS.2.1 i hlt).1
      · skip
        refine zR_aload_n C eL_isSound_330 8 rfl rfl ?_
        refine zR_iload C eL_isSound_331 1 rfl ?_
        refine zR_iconst (v := 3) C eL_isSound_333 (by decide) ?_
        refine zR_callV1 C kL_26 eL_isSound_334 (c_X5_ofLoan q _ _ _ he) rfl 0 5 eW_g0 rfl rfl _ eW_call eW_nall rfl (by decide) (by decide) (Nat.le_of_ble_eq_true rfl) (Nat.zero_le _) (Nat.zero_le _) eW_f eW_rall ?_
        refine zR_iconst (v := 1) C eL_isSound_337 (by decide) ?_
        refine zR_icmp_lt C eL_isSound_338 (fun h338 => ?_) (fun h338 => ?_)
        · skip
          exact absurd h338 (hS.2.1 i hlt).2.1
        · skip
          refine zR_aload_n C eL_isSound_341 8 rfl rfl ?_
          refine zR_iload C eL_isSound_342 1 rfl ?_
          refine zR_iconst (v := 4) C eL_isSound_344 (by decide) ?_
          refine zR_callV1 C kL_26 eL_isSound_345 (c_X5_ofLoan q _ _ _ he) rfl 0 5 eW_g0 rfl rfl _ eW_call eW_nall rfl (by decide) (by decide) (Nat.le_of_ble_eq_true rfl) (Nat.zero_le _) (Nat.zero_le _) eW_f eW_rall ?_
          refine zR_aload_n C eL_isSound_348 8 rfl rfl ?_
          refine zR_iconst (v := 1) C eL_isSound_349 (by decide) ?_
          refine zR_callV1 C kL_12 eL_isSound_350 (c_X5_count q _ _ he) rfl 0 5 eW_g0 rfl rfl _ eW_call eW_nall rfl (by decide) (by decide) (Nat.le_of_ble_eq_true rfl) (Nat.zero_le _) (Nat.zero_le _) eW_f eW_rall ?_
          refine zR_icmp_gt C eL_isSound_353 (fun h353 => ?_) (fun h353 => ?_)
          · skip
            refine zR_iinc (lv' := [(10, _), (6, _), (9, _), (8, _), (7, _), (5, _), (3, _), (1, _), (0, _)]) (v' := nI (i + 1)) C eL_isSound_358 1 rfl (zinc i) (by rw [hn]; decide) rfl ?_
            refine zR_goto C eL_isSound_361 ?_
            refine zR_lv [(10, .int (nI (i + 1))), (9, _), (8, _), (7, _), (6, .int (sOwe e b6 (i + 1))), (5, _), (3, _), (1, _), (0, _)] [0, 2, 3, 4, 1, 5, 6, 7, 8] rfl ?_
            exact ih (i + 1) (by omega)
          · skip
            exact absurd h353 (hS.2.1 i hlt).2.2
set_option maxHeartbeats 1000000 in
set_option maxRecDepth 100000 in
theorem c_L_isSound {l : Launch} {g : zG} (q : Nat → Nat) (e : ED) (he : e_ok e) (hS : SND e) : zM l g yL_isSound cL_isSound 16 (some .boolean) 2 0 0 [.ref (q 0)] (eW g q e) (zE (some (.int 1)) (eW g q e)) := by
  refine zM_of (by decide +kernel) (Nat.le_of_ble_eq_true rfl) (fun x hl hn _ _ _ C => ?_)
  subst hl
  show zR x g _ (0, 0) 0 [(0, .ref (q 0))] [] _
  refine zR_lconst (v := 0) C eL_isSound_0 (by decide) ?_
  refine zR_lstore_n (lv' := [(1, _), (0, _)]) C eL_isSound_1 rfl (by rw [hn]; decide) rfl ?_
  refine zR_lconst (v := 0) C eL_isSound_2 (by decide) ?_
  refine zR_lstore_n (lv' := [(3, _), (1, _), (0, _)]) C eL_isSound_3 rfl (by rw [hn]; decide) rfl ?_
  refine zR_iconst (v := 0) C eL_isSound_4 (by decide) ?_
  refine zR_istore (lv' := [(5, _), (3, _), (1, _), (0, _)]) C eL_isSound_5 (by rw [hn]; decide) rfl ?_
  refine zR_iconst (v := 0) C eL_isSound_7 (by decide) ?_
  refine zR_istore (lv' := [(6, _), (5, _), (3, _), (1, _), (0, _)]) C eL_isSound_8 (by rw [hn]; decide) rfl ?_
  refine zR_iconst (v := 0) C eL_isSound_10 (by decide) ?_
  refine zR_istore (lv' := [(7, _), (6, _), (5, _), (3, _), (1, _), (0, _)]) C eL_isSound_11 (by rw [hn]; decide) rfl ?_
  refine zR_iconst (v := 0) C eL_isSound_13 (by decide) ?_
  refine zR_istore (lv' := [(8, _), (7, _), (6, _), (5, _), (3, _), (1, _), (0, _)]) C eL_isSound_14 (by rw [hn]; decide) rfl ?_
  refine zR_iconst (v := 0) C eL_isSound_16 (by decide) ?_
  refine zR_istore (lv' := [(9, _), (8, _), (7, _), (6, _), (5, _), (3, _), (1, _), (0, _)]) C eL_isSound_17 (by rw [hn]; decide) rfl ?_
  refine zR_iconst (v := 0) C eL_isSound_19 (by decide) ?_
  refine zR_istore (lv' := [(10, _), (9, _), (8, _), (7, _), (6, _), (5, _), (3, _), (1, _), (0, _)]) C eL_isSound_20 (by rw [hn]; decide) rfl ?_
  refine zR_lv [(10, .int (nI 0)), (9, .int (sSum e 7 0)), (8, .int (sLoans e 0)), (7, .int (sSum e 6 0)), (6, .int (sSum e 5 0)), (5, .int (sFrz e 0)), (3, .long (sPaid e 0)), (1, .long (sLent e 0)), (0, _)] [0, 1, 2, 3, 4, 5, 6, 7, 8] rfl ?_
  refine c_L_isSound_o hn C he hS ?_ _ 0 (Nat.zero_add _)
  refine zR_iconst (v := 0) C eL_isSound_288 (by decide) ?_
  refine zR_istore (lv' := [(10, _), (9, _), (8, _), (7, _), (6, _), (5, _), (3, _), (1, _), (0, _)]) C eL_isSound_289 (by rw [hn]; decide) rfl ?_
  refine zR_lv [(10, .int (nI 0)), (9, _), (8, _), (7, _), (6, .int (sOwe e (sSum e 5 (zn32 (e_count e 3))) 0)), (5, _), (3, _), (1, _), (0, _)] [0, 1, 2, 3, 4, 5, 6, 7, 8] rfl ?_
  refine c_L_isSound_l hn C he hS ?_ _ 0 (Nat.zero_add _)
  refine zR_lload_n C eL_isSound_364 7 rfl rfl ?_
  refine zR_lconst (v := 0) C eL_isSound_365 (by decide) ?_
  refine zR_cifne C eL_isSound_366 eL_isSound_367 (fun h366 => ?_) (fun h366 => ?_)
  · skip
    exact absurd hS.2.2.1 h366
  · skip
    refine zR_lload_n C eL_isSound_370 6 rfl rfl ?_
    refine zR_lconst (v := 0) C eL_isSound_371 (by decide) ?_
    refine zR_cifne C eL_isSound_372 eL_isSound_373 (fun h372 => ?_) (fun h372 => ?_)
    · skip
      exact absurd hS.2.2.2.1 h372
    · skip
      refine zR_iload C eL_isSound_376 5 rfl ?_
      refine zR_aload_n C eL_isSound_378 8 rfl rfl ?_
      refine zR_iconst (v := 4) C eL_isSound_379 (by decide) ?_
      refine zR_callV1 C kL_12 eL_isSound_380 (c_X5_count q _ _ he) rfl 0 5 eW_g0 rfl rfl _ eW_call eW_nall rfl (by decide) (by decide) (Nat.le_of_ble_eq_true rfl) (Nat.zero_le _) (Nat.zero_le _) eW_f eW_rall ?_
      refine zR_icmp_ne C eL_isSound_383 (fun h383 => ?_) (fun h383 => ?_)
      · skip
        exact absurd hS.2.2.2.2.1 h383
      · skip
        refine zR_iload C eL_isSound_386 4 rfl ?_
        refine zR_ifne C eL_isSound_388 (fun h388 => ?_) (fun h388 => ?_)
        · skip
          exact absurd hS.2.2.2.2.2.1 h388
        · skip
          refine zR_iload C eL_isSound_391 3 rfl ?_
          refine zR_iflt C eL_isSound_393 (fun h393 => ?_) (fun h393 => ?_)
          · skip
            exact absurd h393 hS.2.2.2.2.2.2.1
          · skip
            refine zR_iload C eL_isSound_396 2 rfl ?_
            refine zR_ifne C eL_isSound_398 (fun h398 => ?_) (fun h398 => ?_)
            · skip
              exact absurd hS.2.2.2.2.2.2.2.1 h398
            · skip
              refine zR_iload C eL_isSound_401 1 rfl ?_
              refine zR_aload_n C eL_isSound_403 8 rfl rfl ?_
              refine zR_bipush (v := 6) C eL_isSound_404 (by decide) ?_
              refine zR_callV1 C kL_12 eL_isSound_406 (c_X5_count q _ _ he) rfl 0 5 eW_g0 rfl rfl _ eW_call eW_nall rfl (by decide) (by decide) (Nat.le_of_ble_eq_true rfl) (Nat.zero_le _) (Nat.zero_le _) eW_f eW_rall ?_
              refine zR_icmp_ne C eL_isSound_409 (fun h409 => ?_) (fun h409 => ?_)
              · skip
                exact absurd hS.2.2.2.2.2.2.2.2.1 h409
              · skip
                refine zR_aload_n C eL_isSound_412 8 rfl rfl ?_
                refine zR_iconst (v := 2) C eL_isSound_413 (by decide) ?_
                refine zR_callV1 C kL_12 eL_isSound_414 (c_X5_count q _ _ he) rfl 0 5 eW_g0 rfl rfl _ eW_call eW_nall rfl (by decide) (by decide) (Nat.le_of_ble_eq_true rfl) (Nat.zero_le _) (Nat.zero_le _) eW_f eW_rall ?_
                refine zR_aload_n C eL_isSound_417 8 rfl rfl ?_
                refine zR_iconst (v := 0) C eL_isSound_418 (by decide) ?_
                refine zR_callV1 C kL_12 eL_isSound_419 (c_X5_count q _ _ he) rfl 0 5 eW_g0 rfl rfl _ eW_call eW_nall rfl (by decide) (by decide) (Nat.le_of_ble_eq_true rfl) (Nat.zero_le _) (Nat.zero_le _) eW_f eW_rall ?_
                refine zR_icmp_gt C eL_isSound_422 (fun h422 => ?_) (fun h422 => ?_)
                · skip
                  exact absurd hS.2.2.2.2.2.2.2.2.2 h422
                · skip
                  refine zR_iconst (v := 1) C eL_isSound_425 (by decide) ?_
                  refine zR_goto C eL_isSound_426 ?_
                  exact zR_iret C rfl rfl eL_isSound_430 (Nat.zero_le _) (Nat.zero_le _) ⟨rfl, rfl⟩
