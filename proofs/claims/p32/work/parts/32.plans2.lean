/-! Plans: the walks, second part. -/
set_option maxHeartbeats 400000 in
set_option maxRecDepth 100000 in
theorem c_X4_moveN {l : Launch} {g : zG} (q : Nat → Nat) (d : PD) (i : Nat) (j : Nat) (hi : i < 30) (hj : j < 30) : zM l g yX4_move cX4_move 3 none 0 0 0 [.ref (q 0), .int (nI i), .int (nI j)] (pW g q d) (zE none (pW g q (p_move d i j))) := by
  refine zM_of (by decide +kernel) (Nat.le_of_ble_eq_true rfl) (fun x hl hn _ _ _ C => ?_)
  subst hl
  show zR x g _ (0, 0) 0 [(0, .ref (q 0)), (1, .int (nI i)), (2, .int (nI j))] [] _
  refine zR_aload_n C eX4_move_0 0 rfl rfl ?_
  refine zR_get C fX4_15 eX4_move_1 0 pW_g0 rfl ?_
  refine zR_iload_n C eX4_move_4 2 rfl rfl ?_
  refine zR_aload_n C eX4_move_5 0 rfl rfl ?_
  refine zR_get C fX4_15 eX4_move_6 0 pW_g0 rfl ?_
  refine zR_iload_n C eX4_move_9 1 rfl rfl ?_
  refine zR_ialdN C eX4_move_10 1 pW_g1 ⟨hi, by decide⟩ ?_
  refine zR_iastN C eX4_move_11 1 pW_g1 ⟨hj, by decide⟩ pW_s1 ?_
  refine zR_aload_n C eX4_move_12 0 rfl rfl ?_
  refine zR_get C fX4_19 eX4_move_13 0 pW_g0 rfl ?_
  refine zR_iload_n C eX4_move_16 2 rfl rfl ?_
  refine zR_aload_n C eX4_move_17 0 rfl rfl ?_
  refine zR_get C fX4_19 eX4_move_18 0 pW_g0 rfl ?_
  refine zR_iload_n C eX4_move_21 1 rfl rfl ?_
  refine zR_ialdN C eX4_move_22 2 pW_g2 ⟨hi, by decide⟩ ?_
  refine zR_iastN C eX4_move_23 2 pW_g2 ⟨hj, by decide⟩ pW_s2 ?_
  refine zR_aload_n C eX4_move_24 0 rfl rfl ?_
  refine zR_get C fX4_22 eX4_move_25 0 pW_g0 rfl ?_
  refine zR_iload_n C eX4_move_28 2 rfl rfl ?_
  refine zR_aload_n C eX4_move_29 0 rfl rfl ?_
  refine zR_get C fX4_22 eX4_move_30 0 pW_g0 rfl ?_
  refine zR_iload_n C eX4_move_33 1 rfl rfl ?_
  refine zR_ialdN C eX4_move_34 3 pW_g3 ⟨hi, by decide⟩ ?_
  refine zR_iastN C eX4_move_35 3 pW_g3 ⟨hj, by decide⟩ pW_s3 ?_
  refine zR_aload_n C eX4_move_36 0 rfl rfl ?_
  refine zR_get C fX4_25 eX4_move_37 0 pW_g0 rfl ?_
  refine zR_iload_n C eX4_move_40 2 rfl rfl ?_
  refine zR_aload_n C eX4_move_41 0 rfl rfl ?_
  refine zR_get C fX4_25 eX4_move_42 0 pW_g0 rfl ?_
  refine zR_iload_n C eX4_move_45 1 rfl rfl ?_
  refine zR_ialdN C eX4_move_46 4 pW_g4 ⟨hi, by decide⟩ ?_
  refine zR_iastN C eX4_move_47 4 pW_g4 ⟨hj, by decide⟩ pW_s4 ?_
  refine zR_aload_n C eX4_move_48 0 rfl rfl ?_
  refine zR_get C fX4_28 eX4_move_49 0 pW_g0 rfl ?_
  refine zR_iload_n C eX4_move_52 2 rfl rfl ?_
  refine zR_aload_n C eX4_move_53 0 rfl rfl ?_
  refine zR_get C fX4_28 eX4_move_54 0 pW_g0 rfl ?_
  refine zR_iload_n C eX4_move_57 1 rfl rfl ?_
  refine zR_ialdN C eX4_move_58 5 pW_g5 ⟨hi, by decide⟩ ?_
  refine zR_iastN C eX4_move_59 5 pW_g5 ⟨hj, by decide⟩ pW_s5 ?_
  exact zR_vret C rfl eX4_move_60 (Nat.zero_le _) (Nat.zero_le _) ⟨rfl, rfl⟩
theorem p_ain_vp (d : PD) (i : Nat) (hi : i < 30) : ∀ (k : Nat) (t : Nat → Int32), k ≤ i → (∀ j, j ≤ i → j ≠ k → vp_in (t j) 30) → ∀ j, j ≤ i → vp_in (p_ain d i k t j) 30
  | 0, t, _, h, j, hj => by
    show vp_in (upd t 0 (nI i) j) 30
    by_cases e : j = 0
    · subst e; rw [pk_us]; exact vp_in_nI hi (by decide)
    · rw [pk_un e]; exact h j hj e
  | k + 1, t, hk, h, j, hj => by
    show vp_in ((if p_bef d (nI i) (t k) then p_ain d i k (upd t (k + 1) (t k)) else upd t (k + 1) (nI i)) j) 30
    split
    · refine p_ain_vp d i hi k _ (by omega) (fun j2 h2 n2 => ?_) j hj
      by_cases e : j2 = k + 1
      · subst e; rw [pk_us]; exact h k (by omega) (by omega)
      · rw [pk_un e]; exact h j2 h2 e
    · by_cases e : j = k + 1
      · subst e; rw [pk_us]; exact vp_in_nI hi (by decide)
      · rw [pk_un e]; exact h j hj e
theorem p_astep_keep (d : PD) : ∀ i : Nat, p_num (zit p_astep d i) = p_num d ∧ (i ≤ 30 → ∀ j, j < i → vp_in (p_turn (zit p_astep d i) j) 30)
  | 0 => ⟨rfl, fun _ j h => absurd h (Nat.not_lt_zero _)⟩
  | i + 1 => by
    have ih := p_astep_keep d i
    exact ⟨ih.1, fun hi j hj => p_ain_vp _ i (by omega) i _ (Nat.le_refl _) (fun j2 h2 n2 => ih.2 (by omega) j2 (by omega)) j (by omega)⟩
set_option maxRecDepth 100000 in
theorem c_X4_arrange_in {x : zX} {g : zG} {q : Nat → Nat} {post : Option Value → va_W → Prop} (hn : zn x = 3) (C : zC x g RX4 cX4_arrange none 1) (d : PD) (i : Nat) (hi : i < 30) : ∀ (k : Nat) (t : Nat → Int32), k ≤ i → (∀ j, j ≤ i → j ≠ k → vp_in (t j) 30) → (∀ v : Int32, zR x g post (0, 0) 59 [(2, .int v), (0, .ref (q 0)), (1, .int (nI i))] [] (pW g q (p_sturn d (p_ain d i k t)))) → zR x g post (0, 0) 12 [(2, .int (nI k)), (0, .ref (q 0)), (1, .int (nI i))] [] (pW g q (p_sturn d t)) := by
  intro k
  induction k with
  | zero =>
    intro t hk ht K
    refine zR_iload_n C eX4_arrange_12 0 rfl rfl ?_
    refine zR_ifle C eX4_arrange_13 (fun h13 => ?_) (fun h13 => ?_)
    · skip
      refine zR_aload_n C eX4_arrange_52 1 rfl rfl ?_
      refine zR_get C fX4_31 eX4_arrange_53 0 pW_g0 rfl ?_
      refine zR_iload_n C eX4_arrange_56 0 rfl rfl ?_
      refine zR_iload_n C eX4_arrange_57 2 rfl rfl ?_
      refine zR_iastN C eX4_arrange_58 6 pW_g6 ⟨by decide, by decide⟩ pW_s6 ?_
      exact K _
    · skip
      exact absurd (by decide) h13
  | succ k ih =>
    intro t hk ht K
    have htk : vp_in (t k) 30 := ht k (by omega) (by omega)
    have hvi : vp_in (nI i) 30 := vp_in_nI hi (by decide)
    refine zR_iload_n C eX4_arrange_12 0 rfl rfl ?_
    refine zR_ifle C eX4_arrange_13 (fun h13 => ?_) (fun h13 => ?_)
    · skip
      exact absurd h13 (nI_nle (Nat.succ_pos _) (by omega))
    · skip
      refine zR_aload_n C eX4_arrange_16 1 rfl rfl ?_
      refine zR_iload_n C eX4_arrange_17 2 rfl rfl ?_
      refine zR_aload_n C eX4_arrange_18 1 rfl rfl ?_
      refine zR_get C fX4_31 eX4_arrange_19 0 pW_g0 rfl ?_
      refine zR_iload_n C eX4_arrange_22 0 rfl rfl ?_
      refine zR_iconst (v := 1) C eX4_arrange_23 (by decide) ?_
      refine zR_isub C eX4_arrange_24 ?_
      refine zR_topi (nI_pred k) ?_
      refine zR_ialdN C eX4_arrange_25 6 pW_g6 ⟨by omega, by decide⟩ ?_
      refine zR_callV1 C kX4_57 eX4_arrange_26 (c_X4_isBefore q _ _ _ hvi htk) rfl 0 4 pW_g0 rfl rfl _ pW_c pW_n rfl (by decide) (by decide) (Nat.le_of_ble_eq_true rfl) (Nat.zero_le _) (Nat.zero_le _) pW_f pW_r ?_
      refine zR_bfeq C eX4_arrange_29 (fun h29 => ?_) (fun h29 => ?_)
      · skip
        have e1 : p_ain d i (k + 1) t = upd t (k + 1) (nI i) := if_neg h29
        refine zR_aload_n C eX4_arrange_52 1 rfl rfl ?_
        refine zR_get C fX4_31 eX4_arrange_53 0 pW_g0 rfl ?_
        refine zR_iload_n C eX4_arrange_56 0 rfl rfl ?_
        refine zR_iload_n C eX4_arrange_57 2 rfl rfl ?_
        refine zR_iastN C eX4_arrange_58 6 pW_g6 ⟨by omega, by decide⟩ pW_s6 ?_
        refine zR_ws _ (congrArg (fun z => pW g q (p_sturn d z)) e1.symm) (K _)
      · skip
        refine zR_aload_n C eX4_arrange_32 1 rfl rfl ?_
        refine zR_get C fX4_31 eX4_arrange_33 0 pW_g0 rfl ?_
        refine zR_iload_n C eX4_arrange_36 0 rfl rfl ?_
        refine zR_aload_n C eX4_arrange_37 1 rfl rfl ?_
        refine zR_get C fX4_31 eX4_arrange_38 0 pW_g0 rfl ?_
        refine zR_iload_n C eX4_arrange_41 0 rfl rfl ?_
        refine zR_iconst (v := 1) C eX4_arrange_42 (by decide) ?_
        refine zR_isub C eX4_arrange_43 ?_
        refine zR_topi (nI_pred k) ?_
        refine zR_ialdN C eX4_arrange_44 6 pW_g6 ⟨by omega, by decide⟩ ?_
        refine zR_iastN C eX4_arrange_45 6 pW_g6 ⟨by omega, by decide⟩ pW_s6 ?_
        refine zR_iinc (lv' := [(2, _), (0, _), (1, _)]) (v' := nI k) C eX4_arrange_46 0 rfl (pk_m1 k) (by rw [hn]; decide) rfl ?_
        refine zR_goto C eX4_arrange_49 ?_
        have e1 : p_ain d i (k + 1) t = p_ain d i k (upd t (k + 1) (t k)) := if_pos h29
        refine ih (upd t (k + 1) (t k)) (by omega) (fun j h2 n2 => ?_) (by rw [← e1]; exact K)
        by_cases e : j = k + 1
        · subst e; rw [pk_us]; exact htk
        · rw [pk_un e]; exact ht j h2 e
set_option maxHeartbeats 400000 in
set_option maxRecDepth 100000 in
theorem c_X4_arrange_lp {x : zX} {g : zG} {q : Nat → Nat} {d : PD} (hn : zn x = 3) (C : zC x g RX4 cX4_arrange none 1) (hd : p_ok d) : ∀ k i : Nat, i + k = zn32 (p_num d) → zR x g (zE none (pW g q (p_arr d))) (0, 0) 2 [(0, .ref (q 0)), (1, .int (nI i))] [] (pW g q (zit p_astep d i)) := by
  intro k
  induction k with
  | zero =>
    intro i hk
    have hi : i = zn32 (p_num d) := by omega
    have hm := p_astep_keep d i
    have hok : zok (p_num (zit p_astep d i)) 30 := by rw [hm.1]; exact hd
    have hi1 : i = zn32 (p_num (zit p_astep d i)) := by rw [hm.1]; exact hi
    refine zR_iload_n C eX4_arrange_2 1 rfl rfl ?_
    refine zR_aload_n C eX4_arrange_3 0 rfl rfl ?_
    refine zR_get C fX4_9 eX4_arrange_4 0 pW_g0 rfl ?_
    refine zR_icmp_ge C eX4_arrange_7 (fun h7 => ?_) (fun h7 => ?_)
    · skip
      subst hi
      exact zR_vret C rfl eX4_arrange_65 (Nat.zero_le _) (Nat.zero_le _) ⟨rfl, rfl⟩
    · skip
      exact absurd h7 (zlp_out hok hi1)
  | succ k ih =>
    intro i hk
    have hlt : i < zn32 (p_num d) := by omega
    have hm := p_astep_keep d i
    have hok : zok (p_num (zit p_astep d i)) 30 := by rw [hm.1]; exact hd
    have hlt1 : i < zn32 (p_num (zit p_astep d i)) := by rw [hm.1]; exact hlt
    refine zR_iload_n C eX4_arrange_2 1 rfl rfl ?_
    refine zR_aload_n C eX4_arrange_3 0 rfl rfl ?_
    refine zR_get C fX4_9 eX4_arrange_4 0 pW_g0 rfl ?_
    refine zR_icmp_ge C eX4_arrange_7 (fun h7 => ?_) (fun h7 => ?_)
    · skip
      exact absurd (zlp_in hok (by decide) hlt1) h7
    · skip
      refine zR_iload_n C eX4_arrange_10 1 rfl rfl ?_
      refine zR_istore_n (lv' := [(2, _), (0, _), (1, _)]) C eX4_arrange_11 rfl (by rw [hn]; decide) rfl ?_
      have h30 : i < 30 := (zok_lt hok hlt1 (by decide)).1
      refine zR_eq (ws' := pW g q (p_sturn (zit p_astep d i) (p_turn (zit p_astep d i)))) rfl rfl rfl ?_
      refine zR_lv [(2, _), (0, _), (1, _)] [0, 1, 2] rfl ?_
      refine c_X4_arrange_in hn C (zit p_astep d i) i h30 i _ (Nat.le_refl _) (fun j h2 n2 => hm.2 (by omega) j (by omega)) (fun v => ?_)
      refine zR_iinc (lv' := [(1, _), (2, _), (0, _)]) (v' := nI (i + 1)) C eX4_arrange_59 2 rfl (zinc i) (by rw [hn]; decide) rfl ?_
      refine zR_goto C eX4_arrange_62 ?_
      refine zR_lv [(0, _), (1, _)] [2, 0] rfl ?_
      exact ih (i + 1) (by omega)
set_option maxHeartbeats 400000 in
set_option maxRecDepth 100000 in
theorem c_X4_arrange {l : Launch} {g : zG} (q : Nat → Nat) (d : PD)  (hd : p_ok d) : zM l g yX4_arrange cX4_arrange 3 none 1 0 0 [.ref (q 0)] (pW g q d) (zE none (pW g q (p_arr d))) := by
  refine zM_of (by decide +kernel) (Nat.le_of_ble_eq_true rfl) (fun x hl hn _ _ _ C => ?_)
  subst hl
  show zR x g _ (0, 0) 0 [(0, .ref (q 0))] [] _
  refine zR_iconst (v := 0) C eX4_arrange_0 (by decide) ?_
  refine zR_istore_n (lv' := [(1, _), (0, _)]) C eX4_arrange_1 rfl (by rw [hn]; decide) rfl ?_
  refine zR_lv [(0, _), (1, .int (nI 0))] [1, 0] rfl ?_
  exact c_X4_arrange_lp hn C hd _ 0 (Nat.zero_add _)
set_option maxHeartbeats 400000 in
set_option maxRecDepth 100000 in
theorem c_X4_add {l : Launch} {g : zG} (q : Nat → Nat) (d : PD) (a : Int32) (b : Int32) (c : Int32) (e : Int32) (hd : zok (p_num d) 29) : zM l g yX4_add cX4_add 6 (some .int) 2 0 0 [.ref (q 0), .int a, .int b, .int c, .int e] (pW g q d) (zE (some (.int (p_num d))) (pW g q (p_add d a b c e))) := by
  refine zM_of (by decide +kernel) (Nat.le_of_ble_eq_true rfl) (fun x hl hn _ _ _ C => ?_)
  subst hl
  show zR x g _ (0, 0) 0 [(0, .ref (q 0)), (1, .int a), (2, .int b), (3, .int c), (4, .int e)] [] _
  refine zR_aload_n C eX4_add_0 0 rfl rfl ?_
  refine zR_get C fX4_9 eX4_add_1 0 pW_g0 rfl ?_
  refine zR_istore (lv' := [(5, _), (0, _), (1, _), (2, _), (3, _), (4, _)]) C eX4_add_4 (by rw [hn]; decide) rfl ?_
  refine zR_aload_n C eX4_add_6 1 rfl rfl ?_
  refine zR_get C fX4_15 eX4_add_7 0 pW_g0 rfl ?_
  refine zR_iload C eX4_add_10 0 rfl ?_
  refine zR_iload_n C eX4_add_12 2 rfl rfl ?_
  refine zR_iast C eX4_add_13 1 pW_g1 (zok_vp hd (by decide)) pW_s1 ?_
  refine zR_aload_n C eX4_add_14 1 rfl rfl ?_
  refine zR_get C fX4_19 eX4_add_15 0 pW_g0 rfl ?_
  refine zR_iload C eX4_add_18 0 rfl ?_
  refine zR_iload_n C eX4_add_20 3 rfl rfl ?_
  refine zR_iast C eX4_add_21 2 pW_g2 (zok_vp hd (by decide)) pW_s2 ?_
  refine zR_aload_n C eX4_add_22 1 rfl rfl ?_
  refine zR_get C fX4_22 eX4_add_23 0 pW_g0 rfl ?_
  refine zR_iload C eX4_add_26 0 rfl ?_
  refine zR_iload_n C eX4_add_28 4 rfl rfl ?_
  refine zR_iast C eX4_add_29 3 pW_g3 (zok_vp hd (by decide)) pW_s3 ?_
  refine zR_aload_n C eX4_add_30 1 rfl rfl ?_
  refine zR_get C fX4_25 eX4_add_31 0 pW_g0 rfl ?_
  refine zR_iload C eX4_add_34 0 rfl ?_
  refine zR_iload C eX4_add_36 5 rfl ?_
  refine zR_iast C eX4_add_38 4 pW_g4 (zok_vp hd (by decide)) pW_s4 ?_
  refine zR_aload_n C eX4_add_39 1 rfl rfl ?_
  refine zR_get C fX4_28 eX4_add_40 0 pW_g0 rfl ?_
  refine zR_iload C eX4_add_43 0 rfl ?_
  refine zR_iconst (v := 0) C eX4_add_45 (by decide) ?_
  refine zR_iast C eX4_add_46 5 pW_g5 (zok_vp hd (by decide)) pW_s5 ?_
  refine zR_aload_n C eX4_add_47 1 rfl rfl ?_
  refine zR_dup C eX4_add_48 rfl ?_
  refine zR_get C fX4_9 eX4_add_49 0 pW_g0 rfl ?_
  refine zR_iconst (v := 1) C eX4_add_52 (by decide) ?_
  refine zR_iadd C eX4_add_53 ?_
  refine zR_put C pX4_9 eX4_add_54 0 pW_g0 (Nat.le_of_ble_eq_true rfl) pW_s0_0 ?_
  refine zR_aload_n C eX4_add_57 1 rfl rfl ?_
  refine zR_callVv C kX4_50 eX4_add_58 (c_X4_arrange q _ (by exact zok_succ hd (by decide))) rfl 0 4 pW_g0 rfl rfl _ pW_c pW_n rfl (by decide) (by decide) (Nat.le_of_ble_eq_true rfl) (Nat.zero_le _) (Nat.zero_le _) pW_f pW_r ?_
  refine zR_iload C eX4_add_61 0 rfl ?_
  exact zR_iret C rfl rfl eX4_add_63 (Nat.zero_le _) (Nat.zero_le _) ⟨rfl, rfl⟩
theorem p_r1_num (fo : Int32) (i : Nat) (s : PD × Nat) : p_num (p_r1 fo i s) = p_num s.1 := by
  unfold p_r1; split
  · split <;> rfl
  · rfl
theorem p_rloop_num (d : PD) : ∀ i : Nat, p_num (p_rloop d i).1 = p_num d ∧ (p_rloop d i).2 ≤ i
  | 0 => ⟨rfl, Nat.le_refl _⟩
  | i + 1 => by
    have ih := p_rloop_num d i
    show p_num (p_rstep (p_wat d) i (p_rloop d i)).1 = _ ∧ (p_rstep (p_wat d) i (p_rloop d i)).2 ≤ _
    unfold p_rstep
    split
    · exact ⟨(p_r1_num _ _ _).trans ih.1, Nat.succ_le_succ ih.2⟩
    · exact ⟨(p_r1_num _ _ _).trans ih.1, Nat.le_succ_of_le ih.2⟩
theorem zok_nI {k n : Nat} (h : k ≤ n) (hn : n < 2 ^ 31) : zok (nI k) n := by
  have e : zn32 (nI k) = k := nI_clamp (Nat.lt_of_le_of_lt h hn)
  exact ⟨by rw [e], by rw [e]; exact h⟩
theorem p_rem_ok {d : PD} (hd : p_ok d) {w : PD} : p_ok (p_snum w (nI (p_rloop d (zn32 (p_num d))).2)) := zok_nI (Nat.le_trans (p_rloop_num d _).2 hd.2) (by decide)
set_option maxHeartbeats 400000 in
set_option maxRecDepth 100000 in
theorem c_X4_removeEnded_lp {x : zX} {g : zG} {q : Nat → Nat} {d : PD} (hn : zn x = 4) (C : zC x g RX4 cX4_removeEnded none 2) (hd : p_ok d) : ∀ k i : Nat, i + k = zn32 (p_num d) → zR x g (zE none (pW g q (p_rem d))) (0, 0) 9 [(0, .ref (q 0)), (1, .int (nI (p_rloop d i).2)), (2, .int (p_wat d)), (3, .int (nI i))] [] (pW g q (p_rloop d i).1) := by
  intro k
  induction k with
  | zero =>
    intro i hk
    have hi : i = zn32 (p_num d) := by omega
    have hm := p_rloop_num d i
    have hok : zok (p_num (p_rloop d i).1) 30 := by rw [hm.1]; exact hd
    have hi1 : i = zn32 (p_num (p_rloop d i).1) := by rw [hm.1]; exact hi
    refine zR_iload_n C eX4_removeEnded_9 3 rfl rfl ?_
    refine zR_aload_n C eX4_removeEnded_10 0 rfl rfl ?_
    refine zR_get C fX4_9 eX4_removeEnded_11 0 pW_g0 rfl ?_
    refine zR_icmp_ge C eX4_removeEnded_14 (fun h14 => ?_) (fun h14 => ?_)
    · skip
      refine zR_aload_n C eX4_removeEnded_74 0 rfl rfl ?_
      refine zR_iload_n C eX4_removeEnded_75 1 rfl rfl ?_
      refine zR_put C pX4_9 eX4_removeEnded_76 0 pW_g0 (Nat.le_of_ble_eq_true rfl) pW_s0_0 ?_
      refine zR_aload_n C eX4_removeEnded_79 0 rfl rfl ?_
      refine zR_callVv C kX4_50 eX4_removeEnded_80 (c_X4_arrange q _ (by subst hi; exact p_rem_ok hd)) rfl 0 4 pW_g0 rfl rfl _ pW_c pW_n rfl (by decide) (by decide) (Nat.le_of_ble_eq_true rfl) (Nat.zero_le _) (Nat.zero_le _) pW_f pW_r ?_
      subst hi
      exact zR_vret C rfl eX4_removeEnded_83 (Nat.zero_le _) (Nat.zero_le _) ⟨rfl, rfl⟩
    · skip
      exact absurd h14 (zlp_out hok hi1)
  | succ k ih =>
    intro i hk
    have hlt : i < zn32 (p_num d) := by omega
    have hm := p_rloop_num d i
    have hok : zok (p_num (p_rloop d i).1) 30 := by rw [hm.1]; exact hd
    have hlt1 : i < zn32 (p_num (p_rloop d i).1) := by rw [hm.1]; exact hlt
    refine zR_iload_n C eX4_removeEnded_9 3 rfl rfl ?_
    refine zR_aload_n C eX4_removeEnded_10 0 rfl rfl ?_
    refine zR_get C fX4_9 eX4_removeEnded_11 0 pW_g0 rfl ?_
    refine zR_icmp_ge C eX4_removeEnded_14 (fun h14 => ?_) (fun h14 => ?_)
    · skip
      exact absurd (zlp_in hok (by decide) hlt1) h14
    · skip
      refine zR_iload_n C eX4_removeEnded_17 3 rfl rfl ?_
      refine zR_iload_n C eX4_removeEnded_18 2 rfl rfl ?_
      refine zR_icmp_ne C eX4_removeEnded_19 (fun h19 => ?_) (fun h19 => ?_)
      · skip
        refine zR_aload_n C eX4_removeEnded_50 0 rfl rfl ?_
        refine zR_get C fX4_28 eX4_removeEnded_51 0 pW_g0 rfl ?_
        refine zR_iload_n C eX4_removeEnded_54 3 rfl rfl ?_
        refine zR_ialdN C eX4_removeEnded_55 5 pW_g5 (zok_lt hok hlt1 (by decide)) ?_
        refine zR_ifne C eX4_removeEnded_56 (fun h56 => ?_) (fun h56 => ?_)
        · skip
          refine zR_iinc (lv' := [(3, _), (0, _), (1, _), (2, _)]) (v' := nI (i + 1)) C eX4_removeEnded_68 3 rfl (zinc i) (by rw [hn]; decide) rfl ?_
          refine zR_goto C eX4_removeEnded_71 ?_
          have e0 : p_r1 (p_wat d) i (p_rloop d i) = (p_rloop d i).1 := if_neg h19
          have e1 : p_rloop d (i + 1) = (p_r1 (p_wat d) i (p_rloop d i), (p_rloop d i).2) := if_neg h56
          refine zR_eq (lv' := [(3, .int (nI (i + 1))), (0, .ref (q 0)), (1, .int (nI (p_rloop d (i + 1)).2)), (2, .int (p_wat d))]) (st' := []) (ws' := pW g q (p_rloop d (i + 1)).1) (by rw [e1] <;> rfl) rfl (by rw [e1, e0] <;> rfl) ?_
          refine zR_lv [(0, .ref (q 0)), (1, .int (nI (p_rloop d (i + 1)).2)), (2, .int (p_wat d)), (3, .int (nI (i + 1)))] [1, 2, 3, 0] rfl ?_
          exact ih (i + 1) (by omega)
        · skip
          refine zR_aload_n C eX4_removeEnded_59 0 rfl rfl ?_
          refine zR_iload_n C eX4_removeEnded_60 3 rfl rfl ?_
          refine zR_iload_n C eX4_removeEnded_61 1 rfl rfl ?_
          refine zR_callVv C kX4_53 eX4_removeEnded_62 (c_X4_moveN q _ _ _ (by exact (zok_lt hok hlt1 (by decide)).1) (by exact Nat.lt_of_le_of_lt hm.2 (zok_lt hok hlt1 (by decide)).1)) rfl 0 4 pW_g0 rfl rfl _ pW_c pW_n rfl (by decide) (by decide) (Nat.le_of_ble_eq_true rfl) (Nat.zero_le _) (Nat.zero_le _) pW_f pW_r ?_
          refine zR_iinc (lv' := [(1, _), (0, _), (2, _), (3, _)]) (v' := nI ((p_rloop d i).2 + 1)) C eX4_removeEnded_65 1 rfl (zinc _) (by rw [hn]; decide) rfl ?_
          refine zR_iinc (lv' := [(3, _), (1, _), (0, _), (2, _)]) (v' := nI (i + 1)) C eX4_removeEnded_68 3 rfl (zinc i) (by rw [hn]; decide) rfl ?_
          refine zR_goto C eX4_removeEnded_71 ?_
          have e0 : p_r1 (p_wat d) i (p_rloop d i) = (p_rloop d i).1 := if_neg h19
          have e1 : p_rloop d (i + 1) = (p_move (p_r1 (p_wat d) i (p_rloop d i)) i (p_rloop d i).2, (p_rloop d i).2 + 1) := if_pos h56
          refine zR_eq (lv' := [(3, .int (nI (i + 1))), (1, .int (nI (p_rloop d (i + 1)).2)), (0, .ref (q 0)), (2, .int (p_wat d))]) (st' := []) (ws' := pW g q (p_rloop d (i + 1)).1) (by rw [e1] <;> rfl) rfl (by rw [e1, e0] <;> rfl) ?_
          refine zR_lv [(0, .ref (q 0)), (1, .int (nI (p_rloop d (i + 1)).2)), (2, .int (p_wat d)), (3, .int (nI (i + 1)))] [2, 1, 3, 0] rfl ?_
          exact ih (i + 1) (by omega)
      · skip
        refine zR_aload_n C eX4_removeEnded_22 0 rfl rfl ?_
        refine zR_aload_n C eX4_removeEnded_23 0 rfl rfl ?_
        refine zR_get C fX4_28 eX4_removeEnded_24 0 pW_g0 rfl ?_
        refine zR_iload_n C eX4_removeEnded_27 3 rfl rfl ?_
        refine zR_ialdN C eX4_removeEnded_28 5 pW_g5 (zok_lt hok hlt1 (by decide)) ?_
        refine zR_put C pX4_37 eX4_removeEnded_29 0 pW_g0 (Nat.le_of_ble_eq_true rfl) pW_s0_8 ?_
        refine zR_aload_n C eX4_removeEnded_32 0 rfl rfl ?_
        refine zR_aload_n C eX4_removeEnded_33 0 rfl rfl ?_
        refine zR_get C fX4_28 eX4_removeEnded_34 0 pW_g0 rfl ?_
        refine zR_iload_n C eX4_removeEnded_37 3 rfl rfl ?_
        refine zR_ialdN C eX4_removeEnded_38 5 pW_g5 (zok_lt hok hlt1 (by decide)) ?_
        refine zR_ifne C eX4_removeEnded_39 (fun h39 => ?_) (fun h39 => ?_)
        · skip
          refine zR_iconst (v := -1) C eX4_removeEnded_46 (by decide) ?_
          refine zR_put C pX4_34 eX4_removeEnded_47 0 pW_g0 (Nat.le_of_ble_eq_true rfl) pW_s0_7 ?_
          refine zR_aload_n C eX4_removeEnded_50 0 rfl rfl ?_
          refine zR_get C fX4_28 eX4_removeEnded_51 0 pW_g0 rfl ?_
          refine zR_iload_n C eX4_removeEnded_54 3 rfl rfl ?_
          refine zR_ialdN C eX4_removeEnded_55 5 pW_g5 (zok_lt hok hlt1 (by decide)) ?_
          refine zR_ifne C eX4_removeEnded_56 (fun h56 => ?_) (fun h56 => ?_)
          · skip
            refine zR_iinc (lv' := [(3, _), (0, _), (1, _), (2, _)]) (v' := nI (i + 1)) C eX4_removeEnded_68 3 rfl (zinc i) (by rw [hn]; decide) rfl ?_
            refine zR_goto C eX4_removeEnded_71 ?_
            have e0 : p_r1 (p_wat d) i (p_rloop d i) = p_swat (p_swf (p_rloop d i).1 (p_fate (p_rloop d i).1 i)) (-1) := (if_pos h19).trans (if_neg h39)
            have e1 : p_rloop d (i + 1) = (p_r1 (p_wat d) i (p_rloop d i), (p_rloop d i).2) := if_neg h56
            refine zR_eq (lv' := [(3, .int (nI (i + 1))), (0, .ref (q 0)), (1, .int (nI (p_rloop d (i + 1)).2)), (2, .int (p_wat d))]) (st' := []) (ws' := pW g q (p_rloop d (i + 1)).1) (by rw [e1] <;> rfl) rfl (by rw [e1, e0] <;> rfl) ?_
            refine zR_lv [(0, .ref (q 0)), (1, .int (nI (p_rloop d (i + 1)).2)), (2, .int (p_wat d)), (3, .int (nI (i + 1)))] [1, 2, 3, 0] rfl ?_
            exact ih (i + 1) (by omega)
          · skip
            exact absurd h56 h39
        · skip
          refine zR_iload_n C eX4_removeEnded_42 1 rfl rfl ?_
          refine zR_goto C eX4_removeEnded_43 ?_
          refine zR_put C pX4_34 eX4_removeEnded_47 0 pW_g0 (Nat.le_of_ble_eq_true rfl) pW_s0_7 ?_
          refine zR_aload_n C eX4_removeEnded_50 0 rfl rfl ?_
          refine zR_get C fX4_28 eX4_removeEnded_51 0 pW_g0 rfl ?_
          refine zR_iload_n C eX4_removeEnded_54 3 rfl rfl ?_
          refine zR_ialdN C eX4_removeEnded_55 5 pW_g5 (zok_lt hok hlt1 (by decide)) ?_
          refine zR_ifne C eX4_removeEnded_56 (fun h56 => ?_) (fun h56 => ?_)
          · skip
            exact absurd h39 h56
          · skip
            refine zR_aload_n C eX4_removeEnded_59 0 rfl rfl ?_
            refine zR_iload_n C eX4_removeEnded_60 3 rfl rfl ?_
            refine zR_iload_n C eX4_removeEnded_61 1 rfl rfl ?_
            refine zR_callVv C kX4_53 eX4_removeEnded_62 (c_X4_moveN q _ _ _ (by exact (zok_lt hok hlt1 (by decide)).1) (by exact Nat.lt_of_le_of_lt hm.2 (zok_lt hok hlt1 (by decide)).1)) rfl 0 4 pW_g0 rfl rfl _ pW_c pW_n rfl (by decide) (by decide) (Nat.le_of_ble_eq_true rfl) (Nat.zero_le _) (Nat.zero_le _) pW_f pW_r ?_
            refine zR_iinc (lv' := [(1, _), (0, _), (2, _), (3, _)]) (v' := nI ((p_rloop d i).2 + 1)) C eX4_removeEnded_65 1 rfl (zinc _) (by rw [hn]; decide) rfl ?_
            refine zR_iinc (lv' := [(3, _), (1, _), (0, _), (2, _)]) (v' := nI (i + 1)) C eX4_removeEnded_68 3 rfl (zinc i) (by rw [hn]; decide) rfl ?_
            refine zR_goto C eX4_removeEnded_71 ?_
            have e0 : p_r1 (p_wat d) i (p_rloop d i) = p_swat (p_swf (p_rloop d i).1 (p_fate (p_rloop d i).1 i)) (nI (p_rloop d i).2) := (if_pos h19).trans (if_pos h39)
            have e1 : p_rloop d (i + 1) = (p_move (p_r1 (p_wat d) i (p_rloop d i)) i (p_rloop d i).2, (p_rloop d i).2 + 1) := if_pos h56
            refine zR_eq (lv' := [(3, .int (nI (i + 1))), (1, .int (nI (p_rloop d (i + 1)).2)), (0, .ref (q 0)), (2, .int (p_wat d))]) (st' := []) (ws' := pW g q (p_rloop d (i + 1)).1) (by rw [e1] <;> rfl) rfl (by rw [e1, e0] <;> rfl) ?_
            refine zR_lv [(0, .ref (q 0)), (1, .int (nI (p_rloop d (i + 1)).2)), (2, .int (p_wat d)), (3, .int (nI (i + 1)))] [2, 1, 3, 0] rfl ?_
            exact ih (i + 1) (by omega)
set_option maxHeartbeats 400000 in
set_option maxRecDepth 100000 in
theorem c_X4_removeEnded {l : Launch} {g : zG} (q : Nat → Nat) (d : PD)  (hd : p_ok d) : zM l g yX4_removeEnded cX4_removeEnded 4 none 2 0 0 [.ref (q 0)] (pW g q d) (zE none (pW g q (p_rem d))) := by
  refine zM_of (by decide +kernel) (Nat.le_of_ble_eq_true rfl) (fun x hl hn _ _ _ C => ?_)
  subst hl
  show zR x g _ (0, 0) 0 [(0, .ref (q 0))] [] _
  refine zR_iconst (v := 0) C eX4_removeEnded_0 (by decide) ?_
  refine zR_istore_n (lv' := [(1, _), (0, _)]) C eX4_removeEnded_1 rfl (by rw [hn]; decide) rfl ?_
  refine zR_aload_n C eX4_removeEnded_2 1 rfl rfl ?_
  refine zR_get C fX4_34 eX4_removeEnded_3 0 pW_g0 rfl ?_
  refine zR_istore_n (lv' := [(2, _), (1, _), (0, _)]) C eX4_removeEnded_6 rfl (by rw [hn]; decide) rfl ?_
  refine zR_iconst (v := 0) C eX4_removeEnded_7 (by decide) ?_
  refine zR_istore_n (lv' := [(3, _), (2, _), (1, _), (0, _)]) C eX4_removeEnded_8 rfl (by rw [hn]; decide) rfl ?_
  refine zR_lv [(0, _), (1, .int (nI 0)), (2, _), (3, .int (nI 0))] [3, 2, 1, 0] rfl ?_
  exact c_X4_removeEnded_lp hn C hd _ 0 (Nat.zero_add _)
