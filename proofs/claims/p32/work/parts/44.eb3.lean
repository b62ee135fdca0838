/-! ErrorBudgets: the loops. -/
set_option maxHeartbeats 1000000 in
set_option maxRecDepth 100000 in
theorem c_X5_hoursUntil_lp {x : zX} {g : zG} {q : Nat → Nat} {s : Int32} {b : Bool} (hn : zn x = 4) (C : zC x g RX5 cX5_hoursUntil (some .int) 5) : ∀ (k i : Nat) (e : ED), i + k = 1001 → e_ok e → zR x g (zE (some (.int (e_hl s b k i e).1)) (eW g q (e_hl s b k i e).2)) (0, 0) 27 [(0, .ref (q 0)), (1, .int s), (2, .int (zB b)), (3, .int (nI i))] [] (eW g q e) := by
  intro k
  induction k with
  | zero =>
    intro i e hk he
    have hi : i = 1001 := by omega
    subst hi
    refine zR_iload_n C eX5_hoursUntil_27 3 rfl rfl ?_
    refine zR_sipush (v := 1000) C eX5_hoursUntil_28 (by decide) ?_
    refine zR_icmp_gt C eX5_hoursUntil_31 (fun h31 => ?_) (fun h31 => ?_)
    · skip
      refine zR_bipush (v := -6) C eX5_hoursUntil_63 (by decide) ?_
      exact zR_iret C rfl rfl eX5_hoursUntil_65 (Nat.zero_le _) (Nat.zero_le _) ⟨rfl, rfl⟩
    · skip
      exact absurd h31 (by decide)
  | succ k ih =>
    intro i e hk he
    have ht := e_tpass_ok (k := 1) he
    refine zR_iload_n C eX5_hoursUntil_27 3 rfl rfl ?_
    refine zR_sipush (v := 1000) C eX5_hoursUntil_28 (by decide) ?_
    refine zR_icmp_gt C eX5_hoursUntil_31 (fun h31 => ?_) (fun h31 => ?_)
    · skip
      exact absurd (nI_le (a := i) (b := 1000) (by omega) (by decide)) h31
    · skip
      refine zR_aload_n C eX5_hoursUntil_34 0 rfl rfl ?_
      refine zR_get C fX5_16 eX5_hoursUntil_35 0 eW_g0 rfl ?_
      refine zR_iconst (v := 1) C eX5_hoursUntil_38 (by decide) ?_
      refine zR_callV1 C kX5_116 eX5_hoursUntil_39 (c_X1_letPass (fun j => q (22 + j)) _ _ (by exact he.2.1)) rfl 22 1 eW_g22 rfl rfl _ eW_c22 eW_n22 rfl (by decide) (by decide) (Nat.le_of_ble_eq_true rfl) (Nat.zero_le _) (Nat.zero_le _) hW_f eW_r22 ?_
      refine zR_ws (eW g q (e_tpass e 1)) rfl ?_
      refine zR_pop C eX5_hoursUntil_42 rfl ?_
      refine zR_aload_n C eX5_hoursUntil_43 0 rfl rfl ?_
      refine zR_get C fX5_16 eX5_hoursUntil_44 0 eW_g0 rfl ?_
      refine zR_iload_n C eX5_hoursUntil_47 1 rfl rfl ?_
      refine zR_callV1 C kX5_123 eX5_hoursUntil_48 (c_X1_isFrozen (fun j => q (22 + j)) _ _ ) rfl 22 1 eW_g22 rfl rfl _ eW_c22 eW_n22 rfl (by decide) (by decide) (Nat.le_of_ble_eq_true rfl) (Nat.zero_le _) (Nat.zero_le _) hW_f eW_r22o ?_
      refine zR_iload_n C eX5_hoursUntil_51 2 rfl rfl ?_
      refine zR_icmp_ne C eX5_hoursUntil_52 (fun h52 => ?_) (fun h52 => ?_)
      · skip
        refine zR_iinc (lv' := [(3, _), (0, _), (1, _), (2, _)]) (v' := nI (i + 1)) C eX5_hoursUntil_57 3 rfl (zinc i) (by rw [hn]; decide) rfl ?_
        refine zR_goto C eX5_hoursUntil_60 ?_
        have e1 : e_hl s b (k + 1) i e = e_hl s b k (i + 1) (e_tpass e 1) := if_neg h52
        rw [e1]
        refine zR_lv [(0, _), (1, _), (2, _), (3, _)] [1, 2, 3, 0] rfl ?_
        exact ih (i + 1) _ (by omega) ht
      · skip
        refine zR_iload_n C eX5_hoursUntil_55 3 rfl rfl ?_
        have e1 : e_hl s b (k + 1) i e = (nI i, e_tpass e 1) := if_pos h52
        rw [e1]
        exact zR_iret C rfl rfl eX5_hoursUntil_56 (Nat.zero_le _) (Nat.zero_le _) ⟨rfl, rfl⟩
set_option maxHeartbeats 400000 in
set_option maxRecDepth 100000 in
theorem c_X5_hoursUntil {l : Launch} {g : zG} (q : Nat → Nat) (e : ED) (s : Int32) (b : Bool) (he : e_ok e) : zM l g yX5_hoursUntil cX5_hoursUntil 4 (some .int) 5 0 0 [.ref (q 0), .int s, .int (zB b)] (eW g q e) (zE (some (.int (e_hu e s b).1)) (eW g q (e_hu e s b).2)) := by
  refine zM_of (by decide +kernel) (Nat.le_of_ble_eq_true rfl) (fun x hl hn _ _ _ C => ?_)
  subst hl
  show zR x g _ (0, 0) 0 [(0, .ref (q 0)), (1, .int s), (2, .int (zB b))] [] _
  refine zR_aload_n C eX5_hoursUntil_0 0 rfl rfl ?_
  refine zR_get C fX5_12 eX5_hoursUntil_1 0 eW_g0 rfl ?_
  refine zR_iload_n C eX5_hoursUntil_4 1 rfl rfl ?_
  refine zR_callV1 C kX5_123 eX5_hoursUntil_5 (c_X1_isFrozen (fun j => q (1 + j)) _ _ ) rfl 1 1 eW_g1 rfl rfl _ eW_c1 eW_n1 rfl (by decide) (by decide) (Nat.le_of_ble_eq_true rfl) (Nat.zero_le _) (Nat.zero_le _) hW_f eW_r1o ?_
  refine zR_iload_n C eX5_hoursUntil_8 2 rfl rfl ?_
  refine zR_icmp_ne C eX5_hoursUntil_9 (fun h9 => ?_) (fun h9 => ?_)
  · skip
    refine zR_aload_n C eX5_hoursUntil_14 0 rfl rfl ?_
    refine zR_get C fX5_16 eX5_hoursUntil_15 0 eW_g0 rfl ?_
    refine zR_aload_n C eX5_hoursUntil_18 0 rfl rfl ?_
    refine zR_get C fX5_12 eX5_hoursUntil_19 0 eW_g0 rfl ?_
    refine zR_callVv C kX5_237 eX5_hoursUntil_22 (c_X1_copyFrom (fun j => q (22 + j)) _ (fun j => q (1 + j)) _ (by exact he.1)) rfl 22 1 eW_g22 rfl rfl _ eW_cRn (zfrom_nd2 (by omega)) rfl (by decide) (by decide) (Nat.le_of_ble_eq_true rfl) (Nat.zero_le _) (Nat.zero_le _) hhW_f eW_rRn ?_
    refine zR_ws (eW g q (e_try e)) rfl ?_
    refine zR_iconst (v := 1) C eX5_hoursUntil_25 (by decide) ?_
    refine zR_istore_n (lv' := [(3, _), (0, _), (1, _), (2, _)]) C eX5_hoursUntil_26 rfl (by rw [hn]; decide) rfl ?_
    have e1 : e_hu e s b = e_hl s b 1000 1 (e_try e) := if_neg h9
    rw [e1]
    refine zR_lv [(0, _), (1, _), (2, _), (3, .int (nI 1))] [1, 2, 3, 0] rfl ?_
    exact c_X5_hoursUntil_lp hn C 1000 1 _ (by decide) (e_try_ok he)
  · skip
    refine zR_iconst (v := 0) C eX5_hoursUntil_12 (by decide) ?_
    exact zR_iret C rfl rfl eX5_hoursUntil_13 (Nat.zero_le _) (Nat.zero_le _) ⟨(by first | (unfold e_hu; rw [if_pos h9]; first | done | (dsimp only [e_fin]; done) | rfl) | rfl | (simp only [e_hu, if_pos h9]; first | done | rfl)), (by first | (unfold e_hu; rw [if_pos h9]; first | done | (dsimp only [e_fin]; done) | rfl) | rfl | (simp only [e_hu, if_pos h9]; first | done | rfl))⟩
set_option maxHeartbeats 400000 in
set_option maxRecDepth 100000 in
theorem c_X5_frozenIn {l : Launch} {g : zG} (q : Nat → Nat) (e : ED) (s : Int32) (he : e_ok e) : zM l g yX5_frozenIn cX5_frozenIn 2 (some .int) 6 0 0 [.ref (q 0), .int s] (eW g q e) (zE (some (.int (e_fin_ e s true).1)) (eW g q (e_fin_ e s true).2)) := by
  refine zM_of (by decide +kernel) (Nat.le_of_ble_eq_true rfl) (fun x hl hn _ _ _ C => ?_)
  subst hl
  show zR x g _ (0, 0) 0 [(0, .ref (q 0)), (1, .int s)] [] _
  refine zR_aload_n C eX5_frozenIn_0 0 rfl rfl ?_
  refine zR_get C fX5_12 eX5_frozenIn_1 0 eW_g0 rfl ?_
  refine zR_iload_n C eX5_frozenIn_4 1 rfl rfl ?_
  refine zR_callV1 C kX5_73 eX5_frozenIn_5 (c_X1_hasService (fun j => q (1 + j)) _ _ ) rfl 1 1 eW_g1 rfl rfl _ eW_c1 eW_n1 rfl (by decide) (by decide) (Nat.le_of_ble_eq_true rfl) (Nat.zero_le _) (Nat.zero_le _) hW_f eW_r1o ?_
  refine zR_bfeq C eX5_frozenIn_8 (fun h8 => ?_) (fun h8 => ?_)
  · skip
    refine zR_iconst (v := -1) C eX5_frozenIn_20 (by decide) ?_
    exact zR_iret C rfl rfl eX5_frozenIn_21 (Nat.zero_le _) (Nat.zero_le _) ⟨(by first | (unfold e_fin_; rw [if_neg h8]; first | done | (dsimp only [e_fin]; done) | rfl) | rfl | (simp only [e_fin_, if_neg h8]; first | done | rfl)), (by first | (unfold e_fin_; rw [if_neg h8]; first | done | (dsimp only [e_fin]; done) | rfl) | rfl | (simp only [e_fin_, if_neg h8]; first | done | rfl))⟩
  · skip
    refine zR_aload_n C eX5_frozenIn_11 0 rfl rfl ?_
    refine zR_iload_n C eX5_frozenIn_12 1 rfl rfl ?_
    refine zR_iconst (v := 1) C eX5_frozenIn_13 (by decide) ?_
    refine zR_callV1 C kX5_240 eX5_frozenIn_14 (c_X5_hoursUntil q _ _ true (by assumption)) rfl 0 5 eW_g0 rfl rfl _ eW_call eW_nall rfl (by decide) (by decide) (Nat.le_of_ble_eq_true rfl) (Nat.zero_le _) (Nat.zero_le _) eW_f eW_rall ?_
    refine zR_goto C eX5_frozenIn_17 ?_
    exact zR_iret C rfl rfl eX5_frozenIn_21 (Nat.zero_le _) (Nat.zero_le _) ⟨(by first | (unfold e_fin_; rw [if_pos h8]; first | done | (dsimp only [e_fin]; done) | rfl) | rfl | (simp only [e_fin_, if_pos h8]; first | done | rfl)), (by first | (unfold e_fin_; rw [if_pos h8]; first | done | (dsimp only [e_fin]; done) | rfl) | rfl | (simp only [e_fin_, if_pos h8]; first | done | rfl))⟩
set_option maxHeartbeats 400000 in
set_option maxRecDepth 100000 in
theorem c_X5_thawsIn {l : Launch} {g : zG} (q : Nat → Nat) (e : ED) (s : Int32) (he : e_ok e) : zM l g yX5_thawsIn cX5_thawsIn 2 (some .int) 6 0 0 [.ref (q 0), .int s] (eW g q e) (zE (some (.int (e_fin_ e s false).1)) (eW g q (e_fin_ e s false).2)) := by
  refine zM_of (by decide +kernel) (Nat.le_of_ble_eq_true rfl) (fun x hl hn _ _ _ C => ?_)
  subst hl
  show zR x g _ (0, 0) 0 [(0, .ref (q 0)), (1, .int s)] [] _
  refine zR_aload_n C eX5_thawsIn_0 0 rfl rfl ?_
  refine zR_get C fX5_12 eX5_thawsIn_1 0 eW_g0 rfl ?_
  refine zR_iload_n C eX5_thawsIn_4 1 rfl rfl ?_
  refine zR_callV1 C kX5_73 eX5_thawsIn_5 (c_X1_hasService (fun j => q (1 + j)) _ _ ) rfl 1 1 eW_g1 rfl rfl _ eW_c1 eW_n1 rfl (by decide) (by decide) (Nat.le_of_ble_eq_true rfl) (Nat.zero_le _) (Nat.zero_le _) hW_f eW_r1o ?_
  refine zR_bfeq C eX5_thawsIn_8 (fun h8 => ?_) (fun h8 => ?_)
  · skip
    refine zR_iconst (v := -1) C eX5_thawsIn_20 (by decide) ?_
    exact zR_iret C rfl rfl eX5_thawsIn_21 (Nat.zero_le _) (Nat.zero_le _) ⟨(by first | (unfold e_fin_; rw [if_neg h8]; first | done | (dsimp only [e_fin]; done) | rfl) | rfl | (simp only [e_fin_, if_neg h8]; first | done | rfl)), (by first | (unfold e_fin_; rw [if_neg h8]; first | done | (dsimp only [e_fin]; done) | rfl) | rfl | (simp only [e_fin_, if_neg h8]; first | done | rfl))⟩
  · skip
    refine zR_aload_n C eX5_thawsIn_11 0 rfl rfl ?_
    refine zR_iload_n C eX5_thawsIn_12 1 rfl rfl ?_
    refine zR_iconst (v := 0) C eX5_thawsIn_13 (by decide) ?_
    refine zR_callV1 C kX5_240 eX5_thawsIn_14 (c_X5_hoursUntil q _ _ false (by assumption)) rfl 0 5 eW_g0 rfl rfl _ eW_call eW_nall rfl (by decide) (by decide) (Nat.le_of_ble_eq_true rfl) (Nat.zero_le _) (Nat.zero_le _) eW_f eW_rall ?_
    refine zR_goto C eX5_thawsIn_17 ?_
    exact zR_iret C rfl rfl eX5_thawsIn_21 (Nat.zero_le _) (Nat.zero_le _) ⟨(by first | (unfold e_fin_; rw [if_pos h8]; first | done | (dsimp only [e_fin]; done) | rfl) | rfl | (simp only [e_fin_, if_pos h8]; first | done | rfl)), (by first | (unfold e_fin_; rw [if_pos h8]; first | done | (dsimp only [e_fin]; done) | rfl) | rfl | (simp only [e_fin_, if_pos h8]; first | done | rfl))⟩
set_option maxHeartbeats 1000000 in
set_option maxRecDepth 100000 in
theorem c_X5_doneAt_lp {x : zX} {g : zG} {q : Nat → Nat} {p : Int32} (hn : zn x = 3) (C : zC x g RX5 cX5_doneAt (some .int) 5) : ∀ (k i : Nat) (e : ED), i + k = 1000 → e_ok e → zR x g (zE (some (.int (e_dl k e).1)) (eW g q (e_dl k e).2)) (0, 0) 40 [(0, .ref (q 0)), (1, .int p), (2, .int (nI i))] [] (eW g q e) := by
  intro k
  induction k with
  | zero =>
    intro i e hk he
    have hi : i = 1000 := by omega
    subst hi
    refine zR_iload_n C eX5_doneAt_40 2 rfl rfl ?_
    refine zR_sipush (v := 1000) C eX5_doneAt_41 (by decide) ?_
    refine zR_icmp_ge C eX5_doneAt_44 (fun h44 => ?_) (fun h44 => ?_)
    · skip
      refine zR_bipush (v := -6) C eX5_doneAt_101 (by decide) ?_
      exact zR_iret C rfl rfl eX5_doneAt_103 (Nat.zero_le _) (Nat.zero_le _) ⟨rfl, rfl⟩
    · skip
      exact absurd h44 (by decide)
  | succ k ih =>
    intro i e hk he
    have ht := e_tpass_ok (k := 1) he
    refine zR_iload_n C eX5_doneAt_40 2 rfl rfl ?_
    refine zR_sipush (v := 1000) C eX5_doneAt_41 (by decide) ?_
    refine zR_icmp_ge C eX5_doneAt_44 (fun h44 => ?_) (fun h44 => ?_)
    · skip
      exact absurd (nI_lt (a := i) (b := 1000) (by omega) (by decide)) h44
    · skip
      refine zR_aload_n C eX5_doneAt_47 0 rfl rfl ?_
      refine zR_get C fX5_16 eX5_doneAt_48 0 eW_g0 rfl ?_
      refine zR_iconst (v := 1) C eX5_doneAt_51 (by decide) ?_
      refine zR_callV1 C kX5_116 eX5_doneAt_52 (c_X1_letPass (fun j => q (22 + j)) _ _ (by exact he.2.1)) rfl 22 1 eW_g22 rfl rfl _ eW_c22 eW_n22 rfl (by decide) (by decide) (Nat.le_of_ble_eq_true rfl) (Nat.zero_le _) (Nat.zero_le _) hW_f eW_r22 ?_
      refine zR_ws (eW g q (e_tpass e 1)) rfl ?_
      refine zR_pop C eX5_doneAt_55 rfl ?_
      refine zR_aload_n C eX5_doneAt_56 0 rfl rfl ?_
      refine zR_get C fX5_16 eX5_doneAt_57 0 eW_g0 rfl ?_
      refine zR_get C fX5_148 eX5_doneAt_60 22 eW_g22 rfl ?_
      refine zR_get C fX5_247 eX5_doneAt_63 36 eW_g36 rfl ?_
      refine zR_iconst (v := 1) C eX5_doneAt_66 (by decide) ?_
      refine zR_icmp_ne C eX5_doneAt_67 (fun h67 => ?_) (fun h67 => ?_)
      · skip
        refine zR_aload_n C eX5_doneAt_78 0 rfl rfl ?_
        refine zR_get C fX5_16 eX5_doneAt_79 0 eW_g0 rfl ?_
        refine zR_get C fX5_148 eX5_doneAt_82 22 eW_g22 rfl ?_
        refine zR_get C fX5_247 eX5_doneAt_85 36 eW_g36 rfl ?_
        refine zR_iconst (v := 2) C eX5_doneAt_88 (by decide) ?_
        refine zR_icmp_ne C eX5_doneAt_89 (fun h89 => ?_) (fun h89 => ?_)
        · skip
          refine zR_iinc (lv' := [(2, _), (0, _), (1, _)]) (v' := nI (i + 1)) C eX5_doneAt_95 2 rfl (zinc i) (by rw [hn]; decide) rfl ?_
          refine zR_goto C eX5_doneAt_98 ?_
          rw [e_dl, if_neg h67, if_neg h89]
          refine zR_lv [(0, _), (1, _), (2, _)] [1, 2, 0] rfl ?_
          exact ih (i + 1) _ (by omega) ht
        · skip
          refine zR_bipush (v := -6) C eX5_doneAt_92 (by decide) ?_
          rw [e_dl, if_neg h67, if_pos h89]
          exact zR_iret C rfl rfl eX5_doneAt_94 (Nat.zero_le _) (Nat.zero_le _) ⟨rfl, rfl⟩
      · skip
        refine zR_aload_n C eX5_doneAt_70 0 rfl rfl ?_
        refine zR_get C fX5_16 eX5_doneAt_71 0 eW_g0 rfl ?_
        refine zR_get C fX5_145 eX5_doneAt_74 22 eW_g22 rfl ?_
        rw [e_dl, if_pos h67]
        exact zR_iret C rfl rfl eX5_doneAt_77 (Nat.zero_le _) (Nat.zero_le _) ⟨rfl, rfl⟩
set_option maxHeartbeats 400000 in
set_option maxRecDepth 100000 in
theorem c_X5_doneAt {l : Launch} {g : zG} (q : Nat → Nat) (e : ED) (p : Int32) (he : e_ok e) : zM l g yX5_doneAt cX5_doneAt 3 (some .int) 5 0 0 [.ref (q 0), .int p] (eW g q e) (zE (some (.int (e_doneAt e p).1)) (eW g q (e_doneAt e p).2)) := by
  refine zM_of (by decide +kernel) (Nat.le_of_ble_eq_true rfl) (fun x hl hn _ _ _ C => ?_)
  subst hl
  show zR x g _ (0, 0) 0 [(0, .ref (q 0)), (1, .int p)] [] _
  refine zR_aload_n C eX5_doneAt_0 0 rfl rfl ?_
  refine zR_get C fX5_12 eX5_doneAt_1 0 eW_g0 rfl ?_
  refine zR_get C fX5_148 eX5_doneAt_4 1 eW_g1 rfl ?_
  refine zR_iload_n C eX5_doneAt_7 1 rfl rfl ?_
  refine zR_callV1 C kX5_158 eX5_doneAt_8 (c_X4_has (fun j => (fun j => q (1 + j)) (14 + j)) _ _ ) rfl 15 4 eW_g15 rfl rfl _ eW_c15 eW_n15 rfl (by decide) (by decide) (Nat.le_of_ble_eq_true rfl) (Nat.zero_le _) (Nat.zero_le _) pW_f eW_r15o ?_
  refine zR_bfne C eX5_doneAt_11 (fun h11 => ?_) (fun h11 => ?_)
  · skip
    refine zR_aload_n C eX5_doneAt_16 0 rfl rfl ?_
    refine zR_get C fX5_16 eX5_doneAt_17 0 eW_g0 rfl ?_
    refine zR_aload_n C eX5_doneAt_20 0 rfl rfl ?_
    refine zR_get C fX5_12 eX5_doneAt_21 0 eW_g0 rfl ?_
    refine zR_callVv C kX5_237 eX5_doneAt_24 (c_X1_copyFrom (fun j => q (22 + j)) _ (fun j => q (1 + j)) _ (by exact he.1)) rfl 22 1 eW_g22 rfl rfl _ eW_cRn (zfrom_nd2 (by omega)) rfl (by decide) (by decide) (Nat.le_of_ble_eq_true rfl) (Nat.zero_le _) (Nat.zero_le _) hhW_f eW_rRn ?_
    refine zR_ws (eW g q (e_try e)) rfl ?_
    refine zR_aload_n C eX5_doneAt_27 0 rfl rfl ?_
    refine zR_get C fX5_16 eX5_doneAt_28 0 eW_g0 rfl ?_
    refine zR_get C fX5_148 eX5_doneAt_31 22 eW_g22 rfl ?_
    refine zR_iload_n C eX5_doneAt_34 1 rfl rfl ?_
    refine zR_callVv C kX5_244 eX5_doneAt_35 (c_X4_watch (fun j => (fun j => q (22 + j)) (14 + j)) _ _ ) rfl 36 4 eW_g36 rfl rfl _ eW_c36 eW_n36 rfl (by decide) (by decide) (Nat.le_of_ble_eq_true rfl) (Nat.zero_le _) (Nat.zero_le _) pW_f eW_r36 ?_
    refine zR_ws (eW g q (e_twat (e_try e) p)) rfl ?_
    refine zR_iconst (v := 0) C eX5_doneAt_38 (by decide) ?_
    refine zR_istore_n (lv' := [(2, _), (0, _), (1, _)]) C eX5_doneAt_39 rfl (by rw [hn]; decide) rfl ?_
    have e1 : e_doneAt e p = e_dl 1000 (e_twat (e_try e) p) := if_pos h11
    rw [e1]
    refine zR_lv [(0, _), (1, _), (2, .int (nI 0))] [1, 2, 0] rfl ?_
    exact c_X5_doneAt_lp hn C 1000 0 _ (by decide) (e_twat_ok (e_try_ok he))
  · skip
    refine zR_iconst (v := -1) C eX5_doneAt_14 (by decide) ?_
    exact zR_iret C rfl rfl eX5_doneAt_15 (Nat.zero_le _) (Nat.zero_le _) ⟨(by first | (unfold e_doneAt; rw [if_neg h11]; first | done | (dsimp only [e_fin]; done) | rfl) | rfl | (simp only [e_doneAt, if_neg h11]; first | done | rfl)), (by first | (unfold e_doneAt; rw [if_neg h11]; first | done | (dsimp only [e_fin]; done) | rfl) | rfl | (simp only [e_doneAt, if_neg h11]; first | done | rfl))⟩
set_option maxHeartbeats 400000 in
set_option maxRecDepth 100000 in
theorem c_X5_bestLender_lp {x : zX} {g : zG} {q : Nat → Nat} {e : ED} {b m : Int32} (hn : zn x = 10) (C : zC x g RX5 cX5_bestLender (some .int) 2) (he : e_ok e) : ∀ k i : Nat, i + k = zn32 (h_cnt (e_now e)) → zR x g (zE (some (.int (h_bloop (e_now e) b m (zn32 (h_cnt (e_now e)))).1)) (eW g q e)) (0, 0) 54 [(6, .int (nI i)), (4, .long (h_bloop (e_now e) b m i).2), (3, .int (h_bloop (e_now e) b m i).1), (0, .ref (q 0)), (1, .int b), (2, .int m)] [] (eW g q e) := by
  intro k
  induction k with
  | zero =>
    intro i hk
    have hi : i = zn32 (h_cnt (e_now e)) := by omega
    refine zR_iload C eX5_bestLender_54 0 rfl ?_
    refine zR_aload_n C eX5_bestLender_56 3 rfl rfl ?_
    refine zR_get C fX5_12 eX5_bestLender_57 0 eW_g0 rfl ?_
    refine zR_get C fX5_67 eX5_bestLender_60 1 eW_g1 rfl ?_
    refine zR_icmp_ge C eX5_bestLender_63 (fun h63 => ?_) (fun h63 => ?_)
    · skip
      refine zR_iload_n C eX5_bestLender_138 2 rfl rfl ?_
      subst hi
      exact zR_iret C rfl rfl eX5_bestLender_139 (Nat.zero_le _) (Nat.zero_le _) ⟨rfl, rfl⟩
    · skip
      exact absurd h63 (zlp_out he.1.1 hi)
  | succ k ih =>
    intro i hk
    have hlt : i < zn32 (h_cnt (e_now e)) := by omega
    refine zR_iload C eX5_bestLender_54 0 rfl ?_
    refine zR_aload_n C eX5_bestLender_56 3 rfl rfl ?_
    refine zR_get C fX5_12 eX5_bestLender_57 0 eW_g0 rfl ?_
    refine zR_get C fX5_67 eX5_bestLender_60 1 eW_g1 rfl ?_
    refine zR_icmp_ge C eX5_bestLender_63 (fun h63 => ?_) (fun h63 => ?_)
    · skip
      exact absurd (zlp_in he.1.1 (by decide) hlt) h63
    · skip
      refine zR_aload_n C eX5_bestLender_66 3 rfl rfl ?_
      refine zR_get C fX5_12 eX5_bestLender_67 0 eW_g0 rfl ?_
      refine zR_iload C eX5_bestLender_70 0 rfl ?_
      refine zR_bipush (v := 8) C eX5_bestLender_72 (by decide) ?_
      refine zR_callV1 C kX5_201 eX5_bestLender_74 (c_X1_minutesOf (fun j => q (1 + j)) _ _ _ (vp_in_nI (zok_lt he.1.1 hlt (by decide)).1 (by decide)) (vp_in_iff.mpr (by decide))) rfl 1 1 eW_g1 rfl rfl _ eW_c1 eW_n1 rfl (by decide) (by decide) (Nat.le_of_ble_eq_true rfl) (Nat.zero_le _) (Nat.zero_le _) hW_f eW_r1o ?_
      refine zR_lstore (lv' := [(7, _), (6, _), (4, _), (3, _), (0, _), (1, _), (2, _)]) C eX5_bestLender_77 (by rw [hn]; decide) rfl ?_
      refine zR_iload C eX5_bestLender_79 1 rfl ?_
      refine zR_iload_n C eX5_bestLender_81 5 rfl rfl ?_
      refine zR_icmp_eq C eX5_bestLender_82 (fun h82 => ?_) (fun h82 => ?_)
      · skip
        refine zR_iconst (v := 0) C eX5_bestLender_103 (by decide) ?_
        refine zR_istore (lv' := [(9, _), (7, _), (6, _), (4, _), (3, _), (0, _), (1, _), (2, _)]) C eX5_bestLender_104 (by rw [hn]; decide) rfl ?_
        refine zR_iload C eX5_bestLender_106 0 rfl ?_
        refine zR_ifeq_t C eX5_bestLender_108 (by decide) ?_
        refine zR_iinc (lv' := [(6, _), (9, _), (7, _), (4, _), (3, _), (0, _), (1, _), (2, _)]) (v' := nI (i + 1)) C eX5_bestLender_132 2 rfl (zinc i) (by rw [hn]; decide) rfl ?_
        refine zR_goto C eX5_bestLender_135 ?_
        have e1 : h_bloop (e_now e) b m (i + 1) = (h_bloop (e_now e) b m i) := by
          show h_bstep (e_now e) b m i (h_bloop (e_now e) b m i) = _
          unfold h_bstep
          rw [if_pos h82]
        refine zR_lv [(6, .int (nI (i + 1))), (4, .long (h_bloop (e_now e) b m (i + 1)).2), (3, .int (h_bloop (e_now e) b m (i + 1)).1), (0, _), (1, _), (2, _)] [0, 3, 4, 5, 6, 7] (by rw [e1] <;> rfl) ?_
        exact ih (i + 1) (by omega)
      · skip
        refine zR_aload_n C eX5_bestLender_85 4 rfl rfl ?_
        refine zR_get C fX5_12 eX5_bestLender_86 0 eW_g0 rfl ?_
        refine zR_iload C eX5_bestLender_89 1 rfl ?_
        refine zR_iload_n C eX5_bestLender_91 5 rfl rfl ?_
        refine zR_iload_n C eX5_bestLender_92 6 rfl rfl ?_
        refine zR_callV1 C kX5_139 eX5_bestLender_93 (c_X1_refusalOfLoan (fun j => q (1 + j)) _ _ _ _ (vp_in_nI (zok_lt he.1.1 hlt (by decide)).1 (by decide)) he.1.2.1.1) rfl 1 1 eW_g1 rfl rfl _ eW_c1 eW_n1 rfl (by decide) (by decide) (Nat.le_of_ble_eq_true rfl) (Nat.zero_le _) (Nat.zero_le _) hW_f eW_r1o ?_
        refine zR_ifne C eX5_bestLender_96 (fun h96 => ?_) (fun h96 => ?_)
        · skip
          refine zR_iconst (v := 0) C eX5_bestLender_103 (by decide) ?_
          refine zR_istore (lv' := [(9, _), (7, _), (6, _), (4, _), (3, _), (0, _), (1, _), (2, _)]) C eX5_bestLender_104 (by rw [hn]; decide) rfl ?_
          refine zR_iload C eX5_bestLender_106 0 rfl ?_
          refine zR_ifeq_t C eX5_bestLender_108 (by decide) ?_
          refine zR_iinc (lv' := [(6, _), (9, _), (7, _), (4, _), (3, _), (0, _), (1, _), (2, _)]) (v' := nI (i + 1)) C eX5_bestLender_132 2 rfl (zinc i) (by rw [hn]; decide) rfl ?_
          refine zR_goto C eX5_bestLender_135 ?_
          have e1 : h_bloop (e_now e) b m (i + 1) = (h_bloop (e_now e) b m i) := by
            show h_bstep (e_now e) b m i (h_bloop (e_now e) b m i) = _
            unfold h_bstep
            rw [if_neg h82, if_neg h96]
          refine zR_lv [(6, .int (nI (i + 1))), (4, .long (h_bloop (e_now e) b m (i + 1)).2), (3, .int (h_bloop (e_now e) b m (i + 1)).1), (0, _), (1, _), (2, _)] [0, 3, 4, 5, 6, 7] (by rw [e1] <;> rfl) ?_
          exact ih (i + 1) (by omega)
        · skip
          refine zR_iconst (v := 1) C eX5_bestLender_99 (by decide) ?_
          refine zR_goto C eX5_bestLender_100 ?_
          refine zR_istore (lv' := [(9, _), (7, _), (6, _), (4, _), (3, _), (0, _), (1, _), (2, _)]) C eX5_bestLender_104 (by rw [hn]; decide) rfl ?_
          refine zR_iload C eX5_bestLender_106 0 rfl ?_
          refine zR_ifeq_f C eX5_bestLender_108 (by decide) ?_
          refine zR_iload_n C eX5_bestLender_111 4 rfl rfl ?_
          refine zR_bipush (v := -6) C eX5_bestLender_112 (by decide) ?_
          refine zR_icmp_eq C eX5_bestLender_114 (fun h114 => ?_) (fun h114 => ?_)
          · skip
            refine zR_iload C eX5_bestLender_125 2 rfl ?_
            refine zR_istore_n (lv' := [(3, _), (9, _), (7, _), (6, _), (4, _), (0, _), (1, _), (2, _)]) C eX5_bestLender_127 rfl (by rw [hn]; decide) rfl ?_
            refine zR_lload C eX5_bestLender_128 2 rfl ?_
            refine zR_lstore (lv' := [(4, _), (3, _), (9, _), (7, _), (6, _), (0, _), (1, _), (2, _)]) C eX5_bestLender_130 (by rw [hn]; decide) rfl ?_
            refine zR_iinc (lv' := [(6, _), (4, _), (3, _), (9, _), (7, _), (0, _), (1, _), (2, _)]) (v' := nI (i + 1)) C eX5_bestLender_132 4 rfl (zinc i) (by rw [hn]; decide) rfl ?_
            refine zR_goto C eX5_bestLender_135 ?_
            have e1 : h_bloop (e_now e) b m (i + 1) = (nI i, h_mo (e_now e) (nI i) 8) := by
              show h_bstep (e_now e) b m i (h_bloop (e_now e) b m i) = _
              unfold h_bstep
              rw [if_neg h82, if_pos h96, if_pos h114]
            refine zR_lv [(6, .int (nI (i + 1))), (4, .long (h_bloop (e_now e) b m (i + 1)).2), (3, .int (h_bloop (e_now e) b m (i + 1)).1), (0, _), (1, _), (2, _)] [0, 1, 2, 5, 6, 7] (by rw [e1] <;> rfl) ?_
            exact ih (i + 1) (by omega)
          · skip
            refine zR_lload C eX5_bestLender_117 1 rfl ?_
            refine zR_lload C eX5_bestLender_119 3 rfl ?_
            refine zR_cifle C eX5_bestLender_121 eX5_bestLender_122 (fun h121 => ?_) (fun h121 => ?_)
            · skip
              refine zR_iinc (lv' := [(6, _), (9, _), (7, _), (4, _), (3, _), (0, _), (1, _), (2, _)]) (v' := nI (i + 1)) C eX5_bestLender_132 2 rfl (zinc i) (by rw [hn]; decide) rfl ?_
              refine zR_goto C eX5_bestLender_135 ?_
              have e1 : h_bloop (e_now e) b m (i + 1) = (h_bloop (e_now e) b m i) := by
                show h_bstep (e_now e) b m i (h_bloop (e_now e) b m i) = _
                unfold h_bstep
                rw [if_neg h82, if_pos h96, if_neg h114, if_pos h121]
              refine zR_lv [(6, .int (nI (i + 1))), (4, .long (h_bloop (e_now e) b m (i + 1)).2), (3, .int (h_bloop (e_now e) b m (i + 1)).1), (0, _), (1, _), (2, _)] [0, 3, 4, 5, 6, 7] (by rw [e1] <;> rfl) ?_
              exact ih (i + 1) (by omega)
            · skip
              refine zR_iload C eX5_bestLender_125 2 rfl ?_
              refine zR_istore_n (lv' := [(3, _), (9, _), (7, _), (6, _), (4, _), (0, _), (1, _), (2, _)]) C eX5_bestLender_127 rfl (by rw [hn]; decide) rfl ?_
              refine zR_lload C eX5_bestLender_128 2 rfl ?_
              refine zR_lstore (lv' := [(4, _), (3, _), (9, _), (7, _), (6, _), (0, _), (1, _), (2, _)]) C eX5_bestLender_130 (by rw [hn]; decide) rfl ?_
              refine zR_iinc (lv' := [(6, _), (4, _), (3, _), (9, _), (7, _), (0, _), (1, _), (2, _)]) (v' := nI (i + 1)) C eX5_bestLender_132 4 rfl (zinc i) (by rw [hn]; decide) rfl ?_
              refine zR_goto C eX5_bestLender_135 ?_
              have e1 : h_bloop (e_now e) b m (i + 1) = (nI i, h_mo (e_now e) (nI i) 8) := by
                show h_bstep (e_now e) b m i (h_bloop (e_now e) b m i) = _
                unfold h_bstep
                rw [if_neg h82, if_pos h96, if_neg h114, if_neg h121]
              refine zR_lv [(6, .int (nI (i + 1))), (4, .long (h_bloop (e_now e) b m (i + 1)).2), (3, .int (h_bloop (e_now e) b m (i + 1)).1), (0, _), (1, _), (2, _)] [0, 1, 2, 5, 6, 7] (by rw [e1] <;> rfl) ?_
              exact ih (i + 1) (by omega)
set_option maxHeartbeats 400000 in
set_option maxRecDepth 100000 in
theorem c_X5_bestLender {l : Launch} {g : zG} (q : Nat → Nat) (e : ED) (b : Int32) (m : Int32) (he : e_ok e) : zM l g yX5_bestLender cX5_bestLender 10 (some .int) 2 0 0 [.ref (q 0), .int b, .int m] (eW g q e) (zE (some (.int (e_best e b m))) (eW g q e)) := by
  refine zM_of (by decide +kernel) (Nat.le_of_ble_eq_true rfl) (fun x hl hn _ _ _ C => ?_)
  subst hl
  show zR x g _ (0, 0) 0 [(0, .ref (q 0)), (1, .int b), (2, .int m)] [] _
  refine zR_aload_n C eX5_bestLender_0 0 rfl rfl ?_
  refine zR_get C fX5_12 eX5_bestLender_1 0 eW_g0 rfl ?_
  refine zR_iload_n C eX5_bestLender_4 1 rfl rfl ?_
  refine zR_callV1 C kX5_73 eX5_bestLender_5 (c_X1_hasService (fun j => q (1 + j)) _ _ ) rfl 1 1 eW_g1 rfl rfl _ eW_c1 eW_n1 rfl (by decide) (by decide) (Nat.le_of_ble_eq_true rfl) (Nat.zero_le _) (Nat.zero_le _) hW_f eW_r1o ?_
  refine zR_bfne C eX5_bestLender_8 (fun h8 => ?_) (fun h8 => ?_)
  · skip
    refine zR_iload_n C eX5_bestLender_13 2 rfl rfl ?_
    refine zR_iconst (v := 1) C eX5_bestLender_14 (by decide) ?_
    refine zR_sipush (v := 5000) C eX5_bestLender_15 (by decide) ?_
    refine zR_callS1 C kX5_52 eX5_bestLender_18 (c_X5_isWithin _ _ _ ) rfl rfl (by decide) (by decide) (Nat.le_of_ble_eq_true rfl) (Nat.zero_le _) (Nat.zero_le _) ?_
    refine zR_bfne C eX5_bestLender_21 (fun h21 => ?_) (fun h21 => ?_)
    · skip
      refine zR_aload_n C eX5_bestLender_27 0 rfl rfl ?_
      refine zR_get C fX5_12 eX5_bestLender_28 0 eW_g0 rfl ?_
      refine zR_get C fX5_91 eX5_bestLender_31 1 eW_g1 rfl ?_
      refine zR_get C fX5_136 eX5_bestLender_34 9 eW_g9 rfl ?_
      refine zR_bipush (v := 40) C eX5_bestLender_37 (by decide) ?_
      refine zR_icmp_lt C eX5_bestLender_39 (fun h39 => ?_) (fun h39 => ?_)
      · skip
        refine zR_bipush (v := -6) C eX5_bestLender_45 (by decide) ?_
        refine zR_istore_n (lv' := [(3, _), (0, _), (1, _), (2, _)]) C eX5_bestLender_47 rfl (by rw [hn]; decide) rfl ?_
        refine zR_lconst (v := 0) C eX5_bestLender_48 (by decide) ?_
        refine zR_lstore (lv' := [(4, _), (3, _), (0, _), (1, _), (2, _)]) C eX5_bestLender_49 (by rw [hn]; decide) rfl ?_
        refine zR_iconst (v := 0) C eX5_bestLender_51 (by decide) ?_
        refine zR_istore (lv' := [(6, _), (4, _), (3, _), (0, _), (1, _), (2, _)]) C eX5_bestLender_52 (by rw [hn]; decide) rfl ?_
        have e1 : e_best e b m = (h_bloop (e_now e) b m (zn32 (h_cnt (e_now e)))).1 := by
          unfold e_best
          rw [if_pos h8, if_pos h21, if_pos h39]
        rw [e1]
        refine zR_lv [(6, .int (nI 0)), (4, .long (h_bloop (e_now e) b m 0).2), (3, .int (h_bloop (e_now e) b m 0).1), (0, _), (1, _), (2, _)] [0, 1, 2, 3, 4, 5] rfl ?_
        exact c_X5_bestLender_lp hn C he _ 0 (Nat.zero_add _)
      · skip
        refine zR_bipush (v := -6) C eX5_bestLender_42 (by decide) ?_
        exact zR_iret C rfl rfl eX5_bestLender_44 (Nat.zero_le _) (Nat.zero_le _) ⟨(by first | (unfold e_best; rw [if_pos h8, if_pos h21, if_neg h39]; first | done | (dsimp only [e_fin]; done) | rfl) | rfl | (simp only [e_best, if_pos h8, if_pos h21, if_neg h39]; first | done | rfl)), rfl⟩
    · skip
      refine zR_bipush (v := -2) C eX5_bestLender_24 (by decide) ?_
      exact zR_iret C rfl rfl eX5_bestLender_26 (Nat.zero_le _) (Nat.zero_le _) ⟨(by first | (unfold e_best; rw [if_pos h8, if_neg h21]; first | done | (dsimp only [e_fin]; done) | rfl) | rfl | (simp only [e_best, if_pos h8, if_neg h21]; first | done | rfl)), rfl⟩
  · skip
    refine zR_iconst (v := -1) C eX5_bestLender_11 (by decide) ?_
    exact zR_iret C rfl rfl eX5_bestLender_12 (Nat.zero_le _) (Nat.zero_le _) ⟨(by first | (unfold e_best; rw [if_neg h8]; first | done | (dsimp only [e_fin]; done) | rfl) | rfl | (simp only [e_best, if_neg h8]; first | done | rfl)), rfl⟩
