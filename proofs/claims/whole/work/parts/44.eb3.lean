/-! ErrorBudgets: the loops. -/
set_option maxHeartbeats 1000000 in
set_option maxRecDepth 100000 in
theorem c_X5_hoursUntil_lp {x : zX} {g : zG} {q : Nat → Nat} {s : Int32} {b : Bool} (hn : zn x = 4) (C : zC x g RX5 cX5_hoursUntil (some .int) 5) : ∀ (k i : Nat) (e : ED), i + k = 1001 → e_ok e → zR x g (zE (some (.int (e_hl s b k i e).1)) (eW g q (e_hl s b k i e).2)) (0, 0) 27 [(0, .ref (q 0)), (1, .int s), (2, .int (zB b)), (3, .int (nI i))] [] (eW g q e) := by
  intro k
  induction k with
  | zero =>
    intro i e hk he
    have hi : i = 1001 := by omega
    subst hi
    refine zR_iload_n C eX5_hoursUntil_27 3 rfl rfl ?_
    refine zR_sipush (v := 1000) C eX5_hoursUntil_28 (by decide) ?_
    refine zR_icmp_gt C eX5_hoursUntil_31 (fun h31 => ?_) (fun h31 => ?_)
    · skip
      refine zR_bipush (v := -6) C eX5_hoursUntil_63 (by decide) ?_
      exact zR_iret C rfl rfl eX5_hoursUntil_65 (Nat.zero_le _) (Nat.zero_le _) ⟨rfl, rfl⟩
    · skip
      exact absurd h31 (by decide)
  | succ k ih =>
    intro i e hk he
    have ht := e_tpass_ok (k := 1) he
    refine zR_iload_n C eX5_hoursUntil_27 3 rfl rfl ?_
    refine zR_sipush (v := 1000) C eX5_hoursUntil_28 (by decide) ?_
    refine zR_icmp_gt C eX5_hoursUntil_31 (fun h31 => ?_) (fun h31 => ?_)
    · skip
      exact absurd (nI_le (a := i) (b := 1000) (by omega) (by decide)) h31
    · skip
      refine zR_aload_n C eX5_hoursUntil_34 0 rfl rfl ?_
      refine zR_get C fX5_16 eX5_hoursUntil_35 0 eW_g0 rfl ?_
      refine zR_iconst (v := 1) C eX5_hoursUntil_38 (by decide) ?_
      refine zR_callV1 C kX5_116 eX5_hoursUntil_39 (c_X1_letPass (fun j => q (22 + j)) _ _ (by exact he.2.1)) rfl 22 1 eW_g22 rfl rfl _ eW_c22 eW_n22 rfl (by decide) (by decide) (Nat.le_of_ble_eq_true rfl) (Nat.zero_le _) (Nat.zero_le _) hW_f eW_r22 ?_
      refine zR_ws (eW g q (e_tpass e 1)) rfl ?_
      refine zR_pop C eX5_hoursUntil_42 rfl ?_
      refine zR_aload_n C eX5_hoursUntil_43 0 rfl rfl ?_
      refine zR_get C fX5_16 eX5_hoursUntil_44 0 eW_g0 rfl ?_
      refine zR_iload_n C eX5_hoursUntil_47 1 rfl rfl ?_
      refine zR_callV1 C kX5_123 eX5_hoursUntil_48 (c_X1_isFrozen (fun j => q (22 + j)) _ _ ) rfl 22 1 eW_g22 rfl rfl _ eW_c22 eW_n22 rfl (by decide) (by decide) (Nat.le_of_ble_eq_true rfl) (Nat.zero_le _) (Nat.zero_le _) hW_f eW_r22o ?_
      refine zR_iload_n C eX5_hoursUntil_51 2 rfl rfl ?_
      refine zR_icmp_ne C eX5_hoursUntil_52 (fun h52 => ?_) (fun h52 => ?_)
      · skip
        refine zR_iinc (lv' := [(3, _), (0, _), (1, _), (2, _)]) (v' := nI (i + 1)) C eX5_hoursUntil_57 3 rfl (zinc i) (by rw [hn]; decide) rfl ?_
        refine zR_goto C eX5_hoursUntil_60 ?_
        have e1 : e_hl s b (k + 1) i e = e_hl s b k (i + 1) (e_tpass e 1) := if_neg h52
        rw [e1]
        refine zR_lv [(0, _), (1, _), (2, _), (3, _)] [1, 2, 3, 0] rfl ?_
        exact ih (i + 1) _ (by omega) ht
      · skip
        refine zR_iload_n C eX5_hoursUntil_55 3 rfl rfl ?_
        have e1 : e_hl s b (k + 1) i e = (nI i, e_tpass e 1) := if_pos h52
        rw [e1]
        exact zR_iret C rfl rfl eX5_hoursUntil_56 (Nat.zero_le _) (Nat.zero_le _) ⟨rfl, rfl⟩
set_option maxHeartbeats 400000 in
set_option maxRecDepth 100000 in
theorem c_X5_hoursUntil {l : Launch} {g : zG} (q : Nat → Nat) (e : ED) (s : Int32) (b : Bool) (he : e_ok e) : zM l g yX5_hoursUntil cX5_hoursUntil 4 (some .int) 5 0 0 [.ref (q 0), .int s, .int (zB b)] (eW g q e) (zE (some (.int (e_hu e s b).1)) (eW g q (e_hu e s b).2)) := by
  refine zM_of (by decide +kernel) (Nat.le_of_ble_eq_true rfl) (fun x hl hn _ _ _ C => ?_)
  subst hl
  show zR x g _ (0, 0) 0 [(0, .ref (q 0)), (1, .int s), (2, .int (zB b))] [] _
  refine zR_aload_n C eX5_hoursUntil_0 0 rfl rfl ?_
  refine zR_get C fX5_12 eX5_hoursUntil_1 0 eW_g0 rfl ?_
  refine zR_iload_n C eX5_hoursUntil_4 1 rfl rfl ?_
  refine zR_callV1 C kX5_123 eX5_hoursUntil_5 (c_X1_isFrozen (fun j => q (1 + j)) _ _ ) rfl 1 1 eW_g1 rfl rfl _ eW_c1 eW_n1 rfl (by decide) (by decide) (Nat.le_of_ble_eq_true rfl) (Nat.zero_le _) (Nat.zero_le _) hW_f eW_r1o ?_
  refine zR_iload_n C eX5_hoursUntil_8 2 rfl rfl ?_
  refine zR_icmp_ne C eX5_hoursUntil_9 (fun h9 => ?_) (fun h9 => ?_)
  · skip
    refine zR_aload_n C eX5_hoursUntil_14 0 rfl rfl ?_
    refine zR_get C fX5_16 eX5_hoursUntil_15 0 eW_g0 rfl ?_
    refine zR_aload_n C eX5_hoursUntil_18 0 rfl rfl ?_
    refine zR_get C fX5_12 eX5_hoursUntil_19 0 eW_g0 rfl ?_
    refine zR_callVv C kX5_237 eX5_hoursUntil_22 (c_X1_copyFrom (fun j => q (22 + j)) _ (fun j => q (1 + j)) _ (by exact he.1)) rfl 22 1 eW_g22 rfl rfl _ eW_cRn (zfrom_nd2 (by omega)) rfl (by decide) (by decide) (Nat.le_of_ble_eq_true rfl) (Nat.zero_le _) (Nat.zero_le _) hhW_f eW_rRn ?_
    refine zR_ws (eW g q (e_try e)) rfl ?_
    refine zR_iconst (v := 1) C eX5_hoursUntil_25 (by decide) ?_
    refine zR_istore_n (lv' := [(3, _), (0, _), (1, _), (2, _)]) C eX5_hoursUntil_26 rfl (by rw [hn]; decide) rfl ?_
    have e1 : e_hu e s b = e_hl s b 1000 1 (e_try e) := if_neg h9
    rw [e1]
    refine zR_lv [(0, _), (1, _), (2, _), (3, .int (nI 1))] [1, 2, 3, 0] rfl ?_
    exact c_X5_hoursUntil_lp hn C 1000 1 _ (by decide) (e_try_ok he)
  · skip
    refine zR_iconst (v := 0) C eX5_hoursUntil_12 (by decide) ?_
    exact zR_iret C rfl rfl eX5_hoursUntil_13 (Nat.zero_le _) (Nat.zero_le _) ⟨(by first | (unfold e_hu; rw [if_pos h9]; first | done | (dsimp only [e_fin]; done) | rfl) | rfl | (simp only [e_hu, if_pos h9]; first | done | rfl)), (by first | (unfold e_hu; rw [if_pos h9]; first | done | (dsimp only [e_fin]; done) | rfl) | rfl | (simp only [e_hu, if_pos h9]; first | done | rfl))⟩
set_option maxHeartbeats 400000 in
set_option maxRecDepth 100000 in
theorem c_X5_frozenIn {l : Launch} {g : zG} (q : Nat → Nat) (e : ED) (s : Int32) (he : e_ok e) : zM l g yX5_frozenIn cX5_frozenIn 2 (some .int) 6 0 0 [.ref (q 0), .int s] (eW g q e) (zE (some (.int (e_fin_ e s true).1)) (eW g q (e_fin_ e s true).2)) := by
  refine zM_of (by decide +kernel) (Nat.le_of_ble_eq_true rfl) (fun x hl hn _ _ _ C => ?_)
  subst hl
  show zR x g _ (0, 0) 0 [(0, .ref (q 0)), (1, .int s)] [] _
  refine zR_aload_n C eX5_frozenIn_0 0 rfl rfl ?_
  refine zR_get C fX5_12 eX5_frozenIn_1 0 eW_g0 rfl ?_
  refine zR_iload_n C eX5_frozenIn_4 1 rfl rfl ?_
  refine zR_callV1 C kX5_73 eX5_frozenIn_5 (c_X1_hasService (fun j => q (1 + j)) _ _ ) rfl 1 1 eW_g1 rfl rfl _ eW_c1 eW_n1 rfl (by decide) (by decide) (Nat.le_of_ble_eq_true rfl) (Nat.zero_le _) (Nat.zero_le _) hW_f eW_r1o ?_
  refine zR_bfeq C eX5_frozenIn_8 (fun h8 => ?_) (fun h8 => ?_)
  · skip
    refine zR_iconst (v := -1) C eX5_frozenIn_20 (by decide) ?_
    exact zR_iret C rfl rfl eX5_frozenIn_21 (Nat.zero_le _) (Nat.zero_le _) ⟨(by first | (unfold e_fin_; rw [if_neg h8]; first | done | (dsimp only [e_fin]; done) | rfl) | rfl | (simp only [e_fin_, if_neg h8]; first | done | rfl)), (by first | (unfold e_fin_; rw [if_neg h8]; first | done | (dsimp only [e_fin]; done) | rfl) | rfl | (simp only [e_fin_, if_neg h8]; first | done | rfl))⟩
  · skip
    refine zR_aload_n C eX5_frozenIn_11 0 rfl rfl ?_
    refine zR_iload_n C eX5_frozenIn_12 1 rfl rfl ?_
    refine zR_iconst (v := 1) C eX5_frozenIn_13 (by decide) ?_
    refine zR_callV1 C kX5_240 eX5_frozenIn_14 (c_X5_hoursUntil q _ _ true (by assumption)) rfl 0 5 eW_g0 rfl rfl _ eW_call eW_nall rfl (by decide) (by decide) (Nat.le_of_ble_eq_true rfl) (Nat.zero_le _) (Nat.zero_le _) eW_f eW_rall ?_
    refine zR_goto C eX5_frozenIn_17 ?_
    exact zR_iret C rfl rfl eX5_frozenIn_21 (Nat.zero_le _) (Nat.zero_le _) ⟨(by first | (unfold e_fin_; rw [if_pos h8]; first | done | (dsimp only [e_fin]; done) | rfl) | rfl | (simp only [e_fin_, if_pos h8]; first | done | rfl)), (by first | (unfold e_fin_; rw [if_pos h8]; first | done | (dsimp only [e_fin]; done) | rfl) | rfl | (simp only [e_fin_, if_pos h8]; first | done | rfl))⟩
set_option maxHeartbeats 400000 in
set_option maxRecDepth 100000 in
theorem c_X5_thawsIn {l : Launch} {g : zG} (q : Nat → Nat) (e : ED) (s : Int32) (he : e_ok e) : zM l g yX5_thawsIn cX5_thawsIn 2 (some .int) 6 0 0 [.ref (q 0), .int s] (eW g q e) (zE (some (.int (e_fin_ e s false).1)) (eW g q (e_fin_ e s false).2)) := by
  refine zM_of (by decide +kernel) (Nat.le_of_ble_eq_true rfl) (fun x hl hn _ _ _ C => ?_)
  subst hl
  show zR x g _ (0, 0) 0 [(0, .ref (q 0)), (1, .int s)] [] _
  refine zR_aload_n C eX5_thawsIn_0 0 rfl rfl ?_
  refine zR_get C fX5_12 eX5_thawsIn_1 0 eW_g0 rfl ?_
  refine zR_iload_n C eX5_thawsIn_4 1 rfl rfl ?_
  refine zR_callV1 C kX5_73 eX5_thawsIn_5 (c_X1_hasService (fun j => q (1 + j)) _ _ ) rfl 1 1 eW_g1 rfl rfl _ eW_c1 eW_n1 rfl (by decide) (by decide) (Nat.le_of_ble_eq_true rfl) (Nat.zero_le _) (Nat.zero_le _) hW_f eW_r1o ?_
  refine zR_bfeq C eX5_thawsIn_8 (fun h8 => ?_) (fun h8 => ?_)
  · skip
    refine zR_iconst (v := -1) C eX5_thawsIn_20 (by decide) ?_
    exact zR_iret C rfl rfl eX5_thawsIn_21 (Nat.zero_le _) (Nat.zero_le _) ⟨(by first | (unfold e_fin_; rw [if_neg h8]; first | done | (dsimp only [e_fin]; done) | rfl) | rfl | (simp only [e_fin_, if_neg h8]; first | done | rfl)), (by first | (unfold e_fin_; rw [if_neg h8]; first | done | (dsimp only [e_fin]; done) | rfl) | rfl | (simp only [e_fin_, if_neg h8]; first | done | rfl))⟩
  · skip
    refine zR_aload_n C eX5_thawsIn_11 0 rfl rfl ?_
    refine zR_iload_n C eX5_thawsIn_12 1 rfl rfl ?_
    refine zR_iconst (v := 0) C eX5_thawsIn_13 (by decide) ?_
    refine zR_callV1 C kX5_240 eX5_thawsIn_14 (c_X5_hoursUntil q _ _ false (by assumption)) rfl 0 5 eW_g0 rfl rfl _ eW_call eW_nall rfl (by decide) (by decide) (Nat.le_of_ble_eq_true rfl) (Nat.zero_le _) (Nat.zero_le _) eW_f eW_rall ?_
    refine zR_goto C eX5_thawsIn_17 ?_
    exact zR_iret C rfl rfl eX5_thawsIn_21 (Nat.zero_le _) (Nat.zero_le _) ⟨(by first | (unfold e_fin_; rw [if_pos h8]; first | done | (dsimp only [e_fin]; done) | rfl) | rfl | (simp only [e_fin_, if_pos h8]; first | done | rfl)), (by first | (unfold e_fin_; rw [if_pos h8]; first | done | (dsimp only [e_fin]; done) | rfl) | rfl | (simp only [e_fin_, if_pos h8]; first | done | rfl))⟩
set_option maxHeartbeats 1000000 in
set_option maxRecDepth 100000 in
theorem c_X5_doneAt_lp {x : zX} {g : zG} {q : Nat → Nat} {p : Int32} (hn : zn x = 3) (C : zC x g RX5 cX5_doneAt (some .int) 5) : ∀ (k i : Nat) (e : ED), i + k = 1000 → e_ok e → zR x g (zE (some (.int (e_dl k e).1)) (eW g q (e_dl k e).2)) (0, 0) 40 [(0, .ref (q 0)), (1, .int p), (2, .int (nI i))] [] (eW g q e) := by
  intro k
  induction k with
  | zero =>
    intro i e hk he
    have hi : i = 1000 := by omega
    subst hi
    refine zR_iload_n C eX5_doneAt_40 2 rfl rfl ?_
    refine zR_sipush (v := 1000) C eX5_doneAt_41 (by decide) ?_
    refine zR_icmp_ge C eX5_doneAt_44 (fun h44 => ?_) (fun h44 => ?_)
    · skip
      refine zR_bipush (v := -6) C eX5_doneAt_101 (by decide) ?_
      exact zR_iret C rfl rfl eX5_doneAt_103 (Nat.zero_le _) (Nat.zero_le _) ⟨rfl, rfl⟩
    · skip
      exact absurd h44 (by decide)
  | succ k ih =>
    intro i e hk he
    have ht := e_tpass_ok (k := 1) he
    refine zR_iload_n C eX5_doneAt_40 2 rfl rfl ?_
    refine zR_sipush (v := 1000) C eX5_doneAt_41 (by decide) ?_
    refine zR_icmp_ge C eX5_doneAt_44 (fun h44 => ?_) (fun h44 => ?_)
    · skip
      exact absurd (nI_lt (a := i) (b := 1000) (by omega) (by decide)) h44
    · skip
      refine zR_aload_n C eX5_doneAt_47 0 rfl rfl ?_
      refine zR_get C fX5_16 eX5_doneAt_48 0 eW_g0 rfl ?_
      refine zR_iconst (v := 1) C eX5_doneAt_51 (by decide) ?_
      refine zR_callV1 C kX5_116 eX5_doneAt_52 (c_X1_letPass (fun j => q (22 + j)) _ _ (by exact he.2.1)) rfl 22 1 eW_g22 rfl rfl _ eW_c22 eW_n22 rfl (by decide) (by decide) (Nat.le_of_ble_eq_true rfl) (Nat.zero_le _) (Nat.zero_le _) hW_f eW_r22 ?_
      refine zR_ws (eW g q (e_tpass e 1)) rfl ?_
      refine zR_pop C eX5_doneAt_55 rfl ?_
      refine zR_aload_n C eX5_doneAt_56 0 rfl rfl ?_
      refine zR_get C fX5_16 eX5_doneAt_57 0 eW_g0 rfl ?_
      refine zR_get C fX5_148 eX5_doneAt_60 22 eW_g22 rfl ?_
      refine zR_get C fX5_247 eX5_doneAt_63 36 eW_g36 rfl ?_
      refine zR_iconst (v := 1) C eX5_doneAt_66 (by decide) ?_
      refine zR_icmp_ne C eX5_doneAt_67 (fun h67 => ?_) (fun h67 => ?_)
      · skip
        refine zR_aload_n C eX5_doneAt_78 0 rfl rfl ?_
        refine zR_get C fX5_16 eX5_doneAt_79 0 eW_g0 rfl ?_
        refine zR_get C fX5_148 eX5_doneAt_82 22 eW_g22 rfl ?_
        refine zR_get C fX5_247 eX5_doneAt_85 36 eW_g36 rfl ?_
        refine zR_iconst (v := 2) C eX5_doneAt_88 (by decide) ?_
        refine zR_icmp_ne C eX5_doneAt_89 (fun h89 => ?_) (fun h89 => ?_)
        · skip
          refine zR_iinc (lv' := [(2, _), (0, _), (1, _)]) (v' := nI (i + 1)) C eX5_doneAt_95 2 rfl (zinc i) (by rw [hn]; decide) rfl ?_
          refine zR_goto C eX5_doneAt_98 ?_
          rw [e_dl, if_neg h67, if_neg h89]
          refine zR_lv [(0, _), (1, _), (2, _)] [1, 2, 0] rfl ?_
          exact ih (i + 1) _ (by omega) ht
        · skip
          refine zR_bipush (v := -6) C eX5_doneAt_92 (by decide) ?_
          rw [e_dl, if_neg h67, if_pos h89]
          exact zR_iret C rfl rfl eX5_doneAt_94 (Nat.zero_le _) (Nat.zero_le _) ⟨rfl, rfl⟩
      · skip
        refine zR_aload_n C eX5_doneAt_70 0 rfl rfl ?_
        refine zR_get C fX5_16 eX5_doneAt_71 0 eW_g0 rfl ?_
        refine zR_get C fX5_145 eX5_doneAt_74 22 eW_g22 rfl ?_
        rw [e_dl, if_pos h67]
        exact zR_iret C rfl rfl eX5_doneAt_77 (Nat.zero_le _) (Nat.zero_le _) ⟨rfl, rfl⟩
set_option maxHeartbeats 400000 in
set_option maxRecDepth 100000 in
theorem c_X5_doneAt {l : Launch} {g : zG} (q : Nat → Nat) (e : ED) (p : Int32) (he : e_ok e) : zM l g yX5_doneAt cX5_doneAt 3 (some .int) 5 0 0 [.ref (q 0), .int p] (eW g q e) (zE (some (.int (e_doneAt e p).1)) (eW g q (e_doneAt e p).2)) := by
  refine zM_of (by decide +kernel) (Nat.le_of_ble_eq_true rfl) (fun x hl hn _ _ _ C => ?_)
  subst hl
  show zR x g _ (0, 0) 0 [(0, .ref (q 0)), (1, .int p)] [] _
  refine zR_aload_n C eX5_doneAt_0 0 rfl rfl ?_
  refine zR_get C fX5_12 eX5_doneAt_1 0 eW_g0 rfl ?_
  refine zR_get C fX5_148 eX5_doneAt_4 1 eW_g1 rfl ?_
  refine zR_iload_n C eX5_doneAt_7 1 rfl rfl ?_
  refine zR_callV1 C kX5_158 eX5_doneAt_8 (c_X4_has (fun j => (fun j => q (1 + j)) (14 + j)) _ _ ) rfl 15 4 eW_g15 rfl rfl _ eW_c15 eW_n15 rfl (by decide) (by decide) (Nat.le_of_ble_eq_true rfl) (Nat.zero_le _) (Nat.zero_le _) pW_f eW_r15o ?_
  refine zR_bfne C eX5_doneAt_11 (fun h11 => ?_) (fun h11 => ?_)
  · skip
    refine zR_aload_n C eX5_doneAt_16 0 rfl rfl ?_
    refine zR_get C fX5_16 eX5_doneAt_17 0 eW_g0 rfl ?_
    refine zR_aload_n C eX5_doneAt_20 0 rfl rfl ?_
    refine zR_get C fX5_12 eX5_doneAt_21 0 eW_g0 rfl ?_
    refine zR_callVv C kX5_237 eX5_doneAt_24 (c_X1_copyFrom (fun j => q (22 + j)) _ (fun j => q (1 + j)) _ (by exact he.1)) rfl 22 1 eW_g22 rfl rfl _ eW_cRn (zfrom_nd2 (by omega)) rfl (by decide) (by decide) (Nat.le_of_ble_eq_true rfl) (Nat.zero_le _) (Nat.zero_le _) hhW_f eW_rRn ?_
    refine zR_ws (eW g q (e_try e)) rfl ?_
    refine zR_aload_n C eX5_doneAt_27 0 rfl rfl ?_
    refine zR_get C fX5_16 eX5_doneAt_28 0 eW_g0 rfl ?_
    refine zR_get C fX5_148 eX5_doneAt_31 22 eW_g22 rfl ?_
    refine zR_iload_n C eX5_doneAt_34 1 rfl rfl ?_
    refine zR_callVv C kX5_244 eX5_doneAt_35 (c_X4_watch (fun j => (fun j => q (22 + j)) (14 + j)) _ _ ) rfl 36 4 eW_g36 rfl rfl _ eW_c36 eW_n36 rfl (by decide) (by decide) (Nat.le_of_ble_eq_true rfl) (Nat.zero_le _) (Nat.zero_le _) pW_f eW_r36 ?_
    refine zR_ws (eW g q (e_twat (e_try e) p)) rfl ?_
    refine zR_iconst (v := 0) C eX5_doneAt_38 (by decide) ?_
    refine zR_istore_n (lv' := [(2, _), (0, _), (1, _)]) C eX5_doneAt_39 rfl (by rw [hn]; decide) rfl ?_
    have e1 : e_doneAt e p = e_dl 1000 (e_twat (e_try e) p) := if_pos h11
    rw [e1]
    refine zR_lv [(0, _), (1, _), (2, .int (nI 0))] [1, 2, 0] rfl ?_
    exact c_X5_doneAt_lp hn C 1000 0 _ (by decide) (e_twat_ok (e_try_ok he))
  · skip
    refine zR_iconst (v := -1) C eX5_doneAt_14 (by decide) ?_
    exact zR_iret C rfl rfl eX5_doneAt_15 (Nat.zero_le _) (Nat.zero_le _) ⟨(by first | (unfold e_doneAt; rw [if_neg h11]; first | done | (dsimp only [e_fin]; done) | rfl) | rfl | (simp only [e_doneAt, if_neg h11]; first | done | rfl)), (by first | (unfold e_doneAt; rw [if_neg h11]; first | done | (dsimp only [e_fin]; done) | rfl) | rfl | (simp only [e_doneAt, if_neg h11]; first | done | rfl))⟩
set_option maxHeartbeats 400000 in
set_option maxRecDepth 100000 in
theorem c_X5_bestLender_lp {x : zX} {g : zG} {q : Nat → Nat} {e : ED} {b m : Int32} (hn : zn x = 10) (C : zC x g RX5 cX5_bestLender (some .int) 2) (he : e_ok e) : ∀ k i : Nat, i + k = zn32 (h_cnt (e_now e)) → zR x g (zE (some (.int (h_bloop (e_now e) b m (zn32 (h_cnt (e_now e)))).1)) (eW g q e)) (0, 0) 54 [(6, .int (nI i)), (4, .long (h_bloop (e_now e) b m i).2), (3, .int (h_bloop (e_now e) b m i).1), (0, .ref (q 0)), (1, .int b), (2, .int m)] [] (eW g q e) := by
  intro k
  induction k with
  | zero =>
    intro i hk
    have hi : i = zn32 (h_cnt (e_now e)) := by omega
    refine zR_iload C eX5_bestLender_54 0 rfl ?_
    refine zR_aload_n C eX5_bestLender_56 3 rfl rfl ?_
    refine zR_get C fX5_12 eX5_bestLender_57 0 eW_g0 rfl ?_
    refine zR_get C fX5_67 eX5_bestLender_60 1 eW_g1 rfl ?_
    refine zR_icmp_ge C eX5_bestLender_63 (fun h63 => ?_) (fun h63 => ?_)
    · skip
      refine zR_iload_n C eX5_bestLender_138 2 rfl rfl ?_
      subst hi
      exact zR_iret C rfl rfl eX5_bestLender_139 (Nat.zero_le _) (Nat.zero_le _) ⟨rfl, rfl⟩
    · skip
      exact absurd h63 (zlp_out he.1.1 hi)
  | succ k ih =>
    intro i hk
    have hlt : i < zn32 (h_cnt (e_now e)) := by omega
    refine zR_iload C eX5_bestLender_54 0 rfl ?_
    refine zR_aload_n C eX5_bestLender_56 3 rfl rfl ?_
    refine zR_get C fX5_12 eX5_bestLender_57 0 eW_g0 rfl ?_
    refine zR_get C fX5_67 eX5_bestLender_60 1 eW_g1 rfl ?_
    refine zR_icmp_ge C eX5_bestLender_63 (fun h63 => ?_) (fun h63 => ?_)
    · skip
      exact absurd (zlp_in he.1.1 (by decide) hlt) h63
    · skip
      refine zR_aload_n C eX5_bestLender_66 3 rfl rfl ?_
      refine zR_get C fX5_12 eX5_bestLender_67 0 eW_g0 rfl ?_
      refine zR_iload C eX5_bestLender_70 0 rfl ?_
      refine zR_bipush (v := 8) C eX5_bestLender_72 (by decide) ?_
      refine zR_callV1 C kX5_201 eX5_bestLender_74 (c_X1_minutesOf (fun j => q (1 + j)) _ _ _ (vp_in_nI (zok_lt he.1.1 hlt (by decide)).1 (by decide)) (vp_in_iff.mpr (by decide))) rfl 1 1 eW_g1 rfl rfl _ eW_c1 eW_n1 rfl (by decide) (by decide) (Nat.le_of_ble_eq_true rfl) (Nat.zero_le _) (Nat.zero_le _) hW_f eW_r1o ?_
      refine zR_lstore (lv' := [(7, _), (6, _), (4, _), (3, _), (0, _), (1, _), (2, _)]) C eX5_bestLender_77 (by rw [hn]; decide) rfl ?_
      refine zR_iload C eX5_bestLender_79 1 rfl ?_
      refine zR_iload_n C eX5_bestLender_81 5 rfl rfl ?_
      refine zR_icmp_eq C eX5_bestLender_82 (fun h82 => ?_) (fun h82 => ?_)
      · skip
        refine zR_iconst (v := 0) C eX5_bestLender_103 (by decide) ?_
        refine zR_istore (lv' := [(9, _), (7, _), (6, _), (4, _), (3, _), (0, _), (1, _), (2, _)]) C eX5_bestLender_104 (by rw [hn]; decide) rfl ?_
        refine zR_iload C eX5_bestLender_106 0 rfl ?_
        refine zR_ifeq_t C eX5_bestLender_108 (by decide) ?_
        refine zR_iinc (lv' := [(6, _), (9, _), (7, _), (4, _), (3, _), (0, _), (1, _), (2, _)]) (v' := nI (i + 1)) C eX5_bestLender_132 2 rfl (zinc i) (by rw [hn]; decide) rfl ?_
        refine zR_goto C eX5_bestLender_135 ?_
        have e1 : h_bloop (e_now e) b m (i + 1) = (h_bloop (e_now e) b m i) := by
          show h_bstep (e_now e) b m i (h_bloop (e_now e) b m i) = _
          unfold h_bstep
          rw [if_pos h82]
        refine zR_lv [(6, .int (nI (i + 1))), (4, .long (h_bloop (e_now e) b m (i + 1)).2), (3, .int (h_bloop (e_now e) b m (i + 1)).1), (0, _), (1, _), (2, _)] [0, 3, 4, 5, 6, 7] (by rw [e1] <;> rfl) ?_
        exact ih (i + 1) (by omega)
      · skip
        refine zR_aload_n C eX5_bestLender_85 4 rfl rfl ?_
        refine zR_get C fX5_12 eX5_bestLender_86 0 eW_g0 rfl ?_
        refine zR_iload C eX5_bestLender_89 1 rfl ?_
        refine zR_iload_n C eX5_bestLender_91 5 rfl rfl ?_
        refine zR_iload_n C eX5_bestLender_92 6 rfl rfl ?_
        refine zR_callV1 C kX5_139 eX5_bestLender_93 (c_X1_refusalOfLoan (fun j => q (1 + j)) _ _ _ _ (vp_in_nI (zok_lt he.1.1 hlt (by decide)).1 (by decide)) he.1.2.1.1) rfl 1 1 eW_g1 rfl rfl _ eW_c1 eW_n1 rfl (by decide) (by decide) (Nat.le_of_ble_eq_true rfl) (Nat.zero_le _) (Nat.zero_le _) hW_f eW_r1o ?_
        refine zR_ifne C eX5_bestLender_96 (fun h96 => ?_) (fun h96 => ?_)
        · skip
          refine zR_iconst (v := 0) C eX5_bestLender_103 (by decide) ?_
          refine zR_istore (lv' := [(9, _), (7, _), (6, _), (4, _), (3, _), (0, _), (1, _), (2, _)]) C eX5_bestLender_104 (by rw [hn]; decide) rfl ?_
          refine zR_iload C eX5_bestLender_106 0 rfl ?_
          refine zR_ifeq_t C eX5_bestLender_108 (by decide) ?_
          refine zR_iinc (lv' := [(6, _), (9, _), (7, _), (4, _), (3, _), (0, _), (1, _), (2, _)]) (v' := nI (i + 1)) C eX5_bestLender_132 2 rfl (zinc i) (by rw [hn]; decide) rfl ?_
          refine zR_goto C eX5_bestLender_135 ?_
          have e1 : h_bloop (e_now e) b m (i + 1) = (h_bloop (e_now e) b m i) := by
            show h_bstep (e_now e) b m i (h_bloop (e_now e) b m i) = _
            unfold h_bstep
            rw [if_neg h82, if_neg h96]
          refine zR_lv [(6, .int (nI (i + 1))), (4, .long (h_bloop (e_now e) b m (i + 1)).2), (3, .int (h_bloop (e_now e) b m (i + 1)).1), (0, _), (1, _), (2, _)] [0, 3, 4, 5, 6, 7] (by rw [e1] <;> rfl) ?_
          exact ih (i + 1) (by omega)
        · skip
          refine zR_iconst (v := 1) C eX5_bestLender_99 (by decide) ?_
          refine zR_goto C eX5_bestLender_100 ?_
          refine zR_istore (lv' := [(9, _), (7, _), (6, _), (4, _), (3, _), (0, _), (1, _), (2, _)]) C eX5_bestLender_104 (by rw [hn]; decide) rfl ?_
          refine zR_iload C eX5_bestLender_106 0 rfl ?_
          refine zR_ifeq_f C eX5_bestLender_108 (by decide) ?_
          refine zR_iload_n C eX5_bestLender_111 4 rfl rfl ?_
          refine zR_bipush (v := -6) C eX5_bestLender_112 (by decide) ?_
          refine zR_icmp_eq C eX5_bestLender_114 (fun h114 => ?_) (fun h114 => ?_)
          · skip
            refine zR_iload C eX5_bestLender_125 2 rfl ?_
            refine zR_istore_n (lv' := [(3, _), (9, _), (7, _), (6, _), (4, _), (0, _), (1, _), (2, _)]) C eX5_bestLender_127 rfl (by rw [hn]; decide) rfl ?_
            refine zR_lload C eX5_bestLender_128 2 rfl ?_
            refine zR_lstore (lv' := [(4, _), (3, _), (9, _), (7, _), (6, _), (0, _), (1, _), (2, _)]) C eX5_bestLender_130 (by rw [hn]; decide) rfl ?_
            refine zR_iinc (lv' := [(6, _), (4, _), (3, _), (9, _), (7, _), (0, _), (1, _), (2, _)]) (v' := nI (i + 1)) C eX5_bestLender_132 4 rfl (zinc i) (by rw [hn]; decide) rfl ?_
            refine zR_goto C eX5_bestLender_135 ?_
            have e1 : h_bloop (e_now e) b m (i + 1) = (nI i, h_mo (e_now e) (nI i) 8) := by
              show h_bstep (e_now e) b m i (h_bloop (e_now e) b m i) = _
              unfold h_bstep
              rw [if_neg h82, if_pos h96, if_pos h114]
            refine zR_lv [(6, .int (nI (i + 1))), (4, .long (h_bloop (e_now e) b m (i + 1)).2), (3, .int (h_bloop (e_now e) b m (i + 1)).1), (0, _), (1, _), (2, _)] [0, 1, 2, 5, 6, 7] (by rw [e1] <;> rfl) ?_
            exact ih (i + 1) (by omega)
          · skip
            refine zR_lload C eX5_bestLender_117 1 rfl ?_
            refine zR_lload C eX5_bestLender_119 3 rfl ?_
            refine zR_cifle C eX5_bestLender_121 eX5_bestLender_122 (fun h121 => ?_) (fun h121 => ?_)
            · skip
              refine zR_iinc (lv' := [(6, _), (9, _), (7, _), (4, _), (3, _), (0, _), (1, _), (2, _)]) (v' := nI (i + 1)) C eX5_bestLender_132 2 rfl (zinc i) (by rw [hn]; decide) rfl ?_
              refine zR_goto C eX5_bestLender_135 ?_
              have e1 : h_bloop (e_now e) b m (i + 1) = (h_bloop (e_now e) b m i) := by
                show h_bstep (e_now e) b m i (h_bloop (e_now e) b m i) = _
                unfold h_bstep
                rw [if_neg h82, if_pos h96, if_neg h114, if_pos h121]
              refine zR_lv [(6, .int (nI (i + 1))), (4, .long (h_bloop (e_now e) b m (i + 1)).2), (3, .int (h_bloop (e_now e) b m (i + 1)).1), (0, _), (1, _), (2, _)] [0, 3, 4, 5, 6, 7] (by rw [e1] <;> rfl) ?_
              exact ih (i + 1) (by omega)
            · skip
              refine zR_iload C eX5_bestLender_125 2 rfl ?_
              refine zR_istore_n (lv' := [(3, _), (9, _), (7, _), (6, _), (4, _), (0, _), (1, _), (2, _)]) C eX5_bestLender_127 rfl (by rw [hn]; decide) rfl ?_
              refine zR_lload C eX5_bestLender_128 2 rfl ?_
              refine zR_lstore (lv' := [(4, _), (3, _), (9, _), (7, _), (6, _), (0, _), (1, _), (2, _)]) C eX5_bestLender_130 (by rw [hn]; decide) rfl ?_
              refine zR_iinc (lv' := [(6, _), (4, _), (3, _), (9, _), (7, _), (0, _), (1, _), (2, _)]) (v' := nI (i + 1)) C eX5_bestLender_132 4 rfl (zinc i) (by rw [hn]; decide) rfl ?_
              refine zR_goto C eX5_bestLender_135 ?_
              have e1 : h_bloop (e_now e) b m (i + 1) = (nI i, h_mo (e_now e) (nI i) 8) := by
                show h_bstep (e_now e) b m i (h_bloop (e_now e) b m i) = _
                unfold h_bstep
                rw [if_neg h82, if_pos h96, if_neg h114, if_neg h121]
              refine zR_lv [(6, .int (nI (i + 1))), (4, .long (h_bloop (e_now e) b m (i + 1)).2), (3, .int (h_bloop (e_now e) b m (i + 1)).1), (0, _), (1, _), (2, _)] [0, 1, 2, 5, 6, 7] (by rw [e1] <;> rfl) ?_
              exact ih (i + 1) (by omega)
set_option maxHeartbeats 400000 in
set_option maxRecDepth 100000 in
theorem c_X5_bestLender {l : Launch} {g : zG} (q : Nat → Nat) (e : ED) (b : Int32) (m : Int32) (he : e_ok e) : zM l g yX5_bestLender cX5_bestLender 10 (some .int) 2 0 0 [.ref (q 0), .int b, .int m] (eW g q e) (zE (some (.int (e_best e b m))) (eW g q e)) := by
  refine zM_of (by decide +kernel) (Nat.le_of_ble_eq_true rfl) (fun x hl hn _ _ _ C => ?_)
  subst hl
  show zR x g _ (0, 0) 0 [(0, .ref (q 0)), (1, .int b), (2, .int m)] [] _
  refine zR_aload_n C eX5_bestLender_0 0 rfl rfl ?_
  refine zR_get C fX5_12 eX5_bestLender_1 0 eW_g0 rfl ?_
  refine zR_iload_n C eX5_bestLender_4 1 rfl rfl ?_
  refine zR_callV1 C kX5_73 eX5_bestLender_5 (c_X1_hasService (fun j => q (1 + j)) _ _ ) rfl 1 1 eW_g1 rfl rfl _ eW_c1 eW_n1 rfl (by decide) (by decide) (Nat.le_of_ble_eq_true rfl) (Nat.zero_le _) (Nat.zero_le _) hW_f eW_r1o ?_
  refine zR_bfne C eX5_bestLender_8 (fun h8 => ?_) (fun h8 => ?_)
  · skip
    refine zR_iload_n C eX5_bestLender_13 2 rfl rfl ?_
    refine zR_iconst (v := 1) C eX5_bestLender_14 (by decide) ?_
    refine zR_sipush (v := 5000) C eX5_bestLender_15 (by decide) ?_
    refine zR_callS1 C kX5_52 eX5_bestLender_18 (c_X5_isWithin _ _ _ ) rfl rfl (by decide) (by decide) (Nat.le_of_ble_eq_true rfl) (Nat.zero_le _) (Nat.zero_le _) ?_
    refine zR_bfne C eX5_bestLender_21 (fun h21 => ?_) (fun h21 => ?_)
    · skip
      refine zR_aload_n C eX5_bestLender_27 0 rfl rfl ?_
      refine zR_get C fX5_12 eX5_bestLender_28 0 eW_g0 rfl ?_
      refine zR_get C fX5_91 eX5_bestLender_31 1 eW_g1 rfl ?_
      refine zR_get C fX5_136 eX5_bestLender_34 9 eW_g9 rfl ?_
      refine zR_bipush (v := 40) C eX5_bestLender_37 (by decide) ?_
      refine zR_icmp_lt C eX5_bestLender_39 (fun h39 => ?_) (fun h39 => ?_)
      · skip
        refine zR_bipush (v := -6) C eX5_bestLender_45 (by decide) ?_
        refine zR_istore_n (lv' := [(3, _), (0, _), (1, _), (2, _)]) C eX5_bestLender_47 rfl (by rw [hn]; decide) rfl ?_
        refine zR_lconst (v := 0) C eX5_bestLender_48 (by decide) ?_
        refine zR_lstore (lv' := [(4, _), (3, _), (0, _), (1, _), (2, _)]) C eX5_bestLender_49 (by rw [hn]; decide) rfl ?_
        refine zR_iconst (v := 0) C eX5_bestLender_51 (by decide) ?_
        refine zR_istore (lv' := [(6, _), (4, _), (3, _), (0, _), (1, _), (2, _)]) C eX5_bestLender_52 (by rw [hn]; decide) rfl ?_
        have e1 : e_best e b m = (h_bloop (e_now e) b m (zn32 (h_cnt (e_now e)))).1 := by
          unfold e_best
          rw [if_pos h8, if_pos h21, if_pos h39]
        rw [e1]
        refine zR_lv [(6, .int (nI 0)), (4, .long (h_bloop (e_now e) b m 0).2), (3, .int (h_bloop (e_now e) b m 0).1), (0, _), (1, _), (2, _)] [0, 1, 2, 3, 4, 5] rfl ?_
        exact c_X5_bestLender_lp hn C he _ 0 (Nat.zero_add _)
      · skip
        refine zR_bipush (v := -6) C eX5_bestLender_42 (by decide) ?_
        exact zR_iret C rfl rfl eX5_bestLender_44 (Nat.zero_le _) (Nat.zero_le _) ⟨(by first | (unfold e_best; rw [if_pos h8, if_pos h21, if_neg h39]; first | done | (dsimp only [e_fin]; done) | rfl) | rfl | (simp only [e_best, if_pos h8, if_pos h21, if_neg h39]; first | done | rfl)), rfl⟩
    · skip
      refine zR_bipush (v := -2) C eX5_bestLender_24 (by decide) ?_
      exact zR_iret C rfl rfl eX5_bestLender_26 (Nat.zero_le _) (Nat.zero_le _) ⟨(by first | (unfold e_best; rw [if_pos h8, if_neg h21]; first | done | (dsimp only [e_fin]; done) | rfl) | rfl | (simp only [e_best, if_pos h8, if_neg h21]; first | done | rfl)), rfl⟩
  · skip
    refine zR_iconst (v := -1) C eX5_bestLender_11 (by decide) ?_
    exact zR_iret C rfl rfl eX5_bestLender_12 (Nat.zero_le _) (Nat.zero_le _) ⟨(by first | (unfold e_best; rw [if_neg h8]; first | done | (dsimp only [e_fin]; done) | rfl) | rfl | (simp only [e_best, if_neg h8]; first | done | rfl)), rfl⟩
set_option maxHeartbeats 400000 in
set_option maxRecDepth 100000 in
theorem c_X5_codeAt {l : Launch} {g : zG} (c : Int64) (i : Int32)  : zM l g yX5_codeAt cX5_codeAt 3 (some .int) 0 0 0 [.long c, .int i] [] (zE (some (.int (z_code c i))) []) := by
  refine zM_of (by decide +kernel) (Nat.le_of_ble_eq_true rfl) (fun x hl hn _ _ _ C => ?_)
  subst hl
  show zR x g _ (0, 0) 0 [(0, .long c), (2, .int i)] [] _
  refine zR_lload_n C eX5_codeAt_0 0 rfl rfl ?_
  refine zR_bipush (v := 8) C eX5_codeAt_1 (by decide) ?_
  refine zR_iload_n C eX5_codeAt_3 1 rfl rfl ?_
  refine zR_imul C eX5_codeAt_4 ?_
  refine zR_lushr C eX5_codeAt_5 rfl ?_
  refine zR_l2i C eX5_codeAt_6 rfl ?_
  refine zR_sipush (v := 255) C eX5_codeAt_7 (by decide) ?_
  refine zR_iand C eX5_codeAt_10 ?_
  exact zR_iret C rfl rfl eX5_codeAt_11 (Nat.zero_le _) (Nat.zero_le _) ⟨rfl, rfl⟩
set_option maxHeartbeats 1000000 in
set_option maxRecDepth 100000 in
theorem c_X5_charactersIn_lp {x : zX} {g : zG} {c : Int64} (hn : zn x = 3) (C : zC x g RX5 cX5_charactersIn (some .int) 1) : ∀ k i : Nat, i + k = 8 → zR x g (zE (some (.int (z_ci c k i))) []) (0, 0) 2 [(2, .int (nI i)), (0, .long c)] [] [] := by
  intro k
  induction k with
  | zero =>
    intro i hk
    have hi : i = 8 := by omega
    subst hi
    refine zR_iload_n C eX5_charactersIn_2 0 rfl rfl ?_
    refine zR_bipush (v := 8) C eX5_charactersIn_3 (by decide) ?_
    refine zR_icmp_ge C eX5_charactersIn_5 (fun h5 => ?_) (fun h5 => ?_)
    · skip
      refine zR_bipush (v := 8) C eX5_charactersIn_56 (by decide) ?_
      exact zR_iret C rfl rfl eX5_charactersIn_58 (Nat.zero_le _) (Nat.zero_le _) ⟨rfl, rfl⟩
    · skip
      exact absurd h5 (by decide)
  | succ k ih =>
    intro i hk
    refine zR_iload_n C eX5_charactersIn_2 0 rfl rfl ?_
    refine zR_bipush (v := 8) C eX5_charactersIn_3 (by decide) ?_
    refine zR_icmp_ge C eX5_charactersIn_5 (fun h5 => ?_) (fun h5 => ?_)
    · skip
      exact absurd (nI_lt (a := i) (b := 8) (by omega) (by decide)) h5
    · skip
      refine zR_lload_n C eX5_charactersIn_8 1 rfl rfl ?_
      refine zR_iload_n C eX5_charactersIn_9 0 rfl rfl ?_
      refine zR_callS1 C kX5_268 eX5_charactersIn_10 (c_X5_codeAt _ _ ) rfl rfl (by decide) (by decide) (Nat.le_of_ble_eq_true rfl) (Nat.zero_le _) (Nat.zero_le _) ?_
      refine zR_ifne C eX5_charactersIn_13 (fun h13 => ?_) (fun h13 => ?_)
      · skip
        refine zR_lload_n C eX5_charactersIn_33 1 rfl rfl ?_
        refine zR_iload_n C eX5_charactersIn_34 0 rfl rfl ?_
        refine zR_callS1 C kX5_268 eX5_charactersIn_35 (c_X5_codeAt _ _ ) rfl rfl (by decide) (by decide) (Nat.le_of_ble_eq_true rfl) (Nat.zero_le _) (Nat.zero_le _) ?_
        refine zR_bipush (v := 33) C eX5_charactersIn_38 (by decide) ?_
        refine zR_bipush (v := 126) C eX5_charactersIn_40 (by decide) ?_
        refine zR_callS1 C kX5_52 eX5_charactersIn_42 (c_X5_isWithin _ _ _ ) rfl rfl (by decide) (by decide) (Nat.le_of_ble_eq_true rfl) (Nat.zero_le _) (Nat.zero_le _) ?_
        refine zR_bfne C eX5_charactersIn_45 (fun h45 => ?_) (fun h45 => ?_)
        · skip
          refine zR_iinc (lv' := [(2, _), (0, _)]) (v' := nI (i + 1)) C eX5_charactersIn_50 0 rfl (zinc i) (by rw [hn]; decide) rfl ?_
          refine zR_goto C eX5_charactersIn_53 ?_
          rw [z_ci, if_neg h13, if_pos h45]
          refine zR_lv [(2, _), (0, _)] [0, 1] rfl ?_
          exact ih (i + 1) (by omega)
        · skip
          refine zR_iconst (v := -1) C eX5_charactersIn_48 (by decide) ?_
          rw [z_ci, if_neg h13, if_neg h45]
          exact zR_iret C rfl rfl eX5_charactersIn_49 (Nat.zero_le _) (Nat.zero_le _) ⟨rfl, rfl⟩
      · skip
        refine zR_lload_n C eX5_charactersIn_16 1 rfl rfl ?_
        refine zR_bipush (v := 8) C eX5_charactersIn_17 (by decide) ?_
        refine zR_iload_n C eX5_charactersIn_19 0 rfl rfl ?_
        refine zR_imul C eX5_charactersIn_20 ?_
        refine zR_lushr C eX5_charactersIn_21 rfl ?_
        refine zR_topl (b := z_ush c (nI i)) rfl ?_
        refine zR_lconst (v := 0) C eX5_charactersIn_22 (by decide) ?_
        refine zR_cifne C eX5_charactersIn_23 eX5_charactersIn_24 (fun h23 => ?_) (fun h23 => ?_)
        · skip
          refine zR_iconst (v := -1) C eX5_charactersIn_31 (by decide) ?_
          rw [z_ci, if_pos h13, if_neg h23]
          exact zR_iret C rfl rfl eX5_charactersIn_32 (Nat.zero_le _) (Nat.zero_le _) ⟨rfl, rfl⟩
        · skip
          refine zR_iload_n C eX5_charactersIn_27 0 rfl rfl ?_
          refine zR_goto C eX5_charactersIn_28 ?_
          rw [z_ci, if_pos h13, if_pos h23]
          exact zR_iret C rfl rfl eX5_charactersIn_32 (Nat.zero_le _) (Nat.zero_le _) ⟨rfl, rfl⟩
set_option maxHeartbeats 400000 in
set_option maxRecDepth 100000 in
theorem c_X5_charactersIn {l : Launch} {g : zG} (c : Int64)  : zM l g yX5_charactersIn cX5_charactersIn 3 (some .int) 1 0 0 [.long c] [] (zE (some (.int (z_ci c 8 0))) []) := by
  refine zM_of (by decide +kernel) (Nat.le_of_ble_eq_true rfl) (fun x hl hn _ _ _ C => ?_)
  subst hl
  show zR x g _ (0, 0) 0 [(0, .long c)] [] _
  refine zR_iconst (v := 0) C eX5_charactersIn_0 (by decide) ?_
  refine zR_istore_n (lv' := [(2, _), (0, _)]) C eX5_charactersIn_1 rfl (by rw [hn]; decide) rfl ?_
  refine zR_lv [(2, .int (nI 0)), (0, _)] [0, 1] rfl ?_
  exact c_X5_charactersIn_lp hn C 8 0 (by decide)
theorem z_ci_n (c : Int64) : ∀ k i : Nat, i + k = 8 → z_ci c k i = -1 ∨ ∃ j, j ≤ 8 ∧ z_ci c k i = nI j
  | 0, _, _ => Or.inr ⟨8, Nat.le_refl _, rfl⟩
  | k + 1, i, h => by
    rw [z_ci]; split
    · split
      · exact Or.inr ⟨i, by omega, rfl⟩
      · exact Or.inl rfl
    · split
      · exact z_ci_n c k (i + 1) (by omega)
      · exact Or.inl rfl
theorem z_ci_1 {c : Int64} (h : ¬ z_ci c 8 0 < 1) : z_ci c 8 0 = nI (zn32 (z_ci c 8 0)) ∧ zn32 (z_ci c 8 0) ≤ 8 := by
  rcases z_ci_n c 8 0 (by decide) with e | ⟨j, hj, e⟩
  · rw [e] at h; exact absurd (by decide) h
  · have e2 : zn32 (z_ci c 8 0) = j := by rw [e]; exact nI_clamp (by omega)
    exact ⟨by rw [e2]; exact e, by rw [e2]; exact hj⟩
theorem z_255 (x : Int32) : ∃ j, j < 256 ∧ x &&& 255 = nI j := by
  refine ⟨(x &&& 255).toBitVec.toNat, ?_, ?_⟩
  · have : (x &&& 255).toBitVec = x.toBitVec &&& 255#32 := rfl
    rw [this, BitVec.toNat_and]
    exact Nat.lt_of_le_of_lt Nat.and_le_right (by decide)
  · show _ = Int32.ofNat _
    apply Int32.toBitVec_inj.mp
    show _ = BitVec.ofNat 32 _
    rw [BitVec.ofNat_toNat, BitVec.setWidth_eq]
theorem z_char256 : ∀ j, j < 256 → vp_nar .char (nI j) = nI j ∧ narrow .char (.int (nI j)) = .int (nI j) := by decide +kernel
theorem z_code_c (c : Int64) (i : Int32) : vp_nar .char (z_code c i) = z_code c i ∧ narrow .char (.int (z_code c i)) = .int (z_code c i) := by
  obtain ⟨j, hj, e⟩ := z_255 (z_ush c i).toInt32
  rw [show z_code c i = nI j from e]; exact z_char256 j hj
theorem a_app_ok {d : AD} {c : Int32} (hd : a_ok0 d) (hl : zn32 (a_len d) + 1 ≤ 80) (hc : narrow .char (.int c) = .int c) : a_ok0 (a_app d c) ∧ a_len (a_app d c) = nI (zn32 (a_len d) + 1) := by
  have e : a_len d + 1 = nI (zn32 (a_len d) + 1) := by rw [nI_succ, ← hd.1.1]
  have e2 : zn32 (a_len d + 1) = zn32 (a_len d) + 1 := by
    show (a_len d + 1).toNatClampNeg = _
    rw [e, nI_clamp (by omega)]
  refine ⟨⟨?_, ?_, hd.2.2.1, hd.2.2.2⟩, e⟩
  · show zok (a_len d + 1) 80
    rw [e]; exact zok_nI hl (by decide)
  · intro i
    show narrow .char (.int (upd (a_sig d) (zn32 (a_len d)) c i)) = .int (upd (a_sig d) (zn32 (a_len d)) c i)
    by_cases h : i = zn32 (a_len d)
    · subst h; rw [pk_us]; exact hc
    · rw [pk_un h]; exact hd.2.1 i
theorem z_app_ok (c : Int64) : ∀ (k : Nat) (d : AD), a_ok0 d → zn32 (a_len d) + k ≤ 80 → a_ok0 (z_app c k d) ∧ zn32 (a_len (z_app c k d)) = zn32 (a_len d) + k
  | 0, d, h, _ => ⟨h, rfl⟩
  | k + 1, d, h, hk => by
    have h1 := a_app_ok (c := z_code c (nI k)) h (by omega) (z_code_c c (nI k)).2
    have e1 : zn32 (a_len (a_app d (z_code c (nI k)))) = zn32 (a_len d) + 1 := by
      show (a_len (a_app d (z_code c (nI k)))).toNatClampNeg = _
      rw [h1.2, nI_clamp (by omega)]
    have h2 := z_app_ok c k (a_app d (z_code c (nI k))) h1.1 (by rw [e1]; omega)
    exact ⟨h2.1, by rw [z_app, h2.2, e1]; omega⟩
theorem zdec (v : Int32) : v + Int32.ofInt (-1) = v - 1 := by
  rw [show Int32.ofInt (-1) = -1 by decide]; exact (Int32.sub_eq_add_neg _ _).symm
set_option maxHeartbeats 1000000 in
set_option maxRecDepth 100000 in
theorem c_X5_put_lp {x : zX} {g : zG} {q : Nat → Nat} {e : ED} {c : Int64} {n0 : Int32} (hn : zn x = 5) (C : zC x g RX5 cX5_put (some .int) 2) : ∀ (k : Nat) (d : AD), a_ok0 d → zn32 (a_len d) + k ≤ 80 → zR x g (zE (some (.int (a_len (z_app c k d)))) (eW g q (e_spad e (z_app c k d)))) (0, 0) 35 [(4, .int (nI k - 1)), (3, .int n0), (0, .ref (q 0)), (1, .long c)] [] (eW g q (e_spad e d)) := by
  intro k
  induction k with
  | zero =>
    intro d hd hk
    refine zR_iload C eX5_put_35 0 rfl ?_
    refine zR_iflt C eX5_put_37 (fun h37 => ?_) (fun h37 => ?_)
    · skip
      refine zR_aload_n C eX5_put_59 2 rfl rfl ?_
      refine zR_get C fX5_37 eX5_put_60 0 eW_g0 rfl ?_
      refine zR_get C fX5_231 eX5_put_63 194 eW_g194 rfl ?_
      exact zR_iret C rfl rfl eX5_put_66 (Nat.zero_le _) (Nat.zero_le _) ⟨rfl, rfl⟩
    · skip
      exact absurd (by decide) h37
  | succ k ih =>
    intro d hd hk
    have ha := a_app_ok (c := z_code c (nI k)) hd (by omega) (z_code_c c (nI k)).2
    have hl : zn32 (a_len (a_app d (z_code c (nI k)))) = zn32 (a_len d) + 1 := by
      show (a_len (a_app d (z_code c (nI k)))).toNatClampNeg = _
      rw [ha.2, nI_clamp (by omega)]
    refine zR_iload C eX5_put_35 0 rfl ?_
    refine zR_iflt C eX5_put_37 (fun h37 => ?_) (fun h37 => ?_)
    · skip
      exact absurd h37 (by rw [nI_pred]; exact nI_pos (by omega))
    · skip
      refine zR_aload_n C eX5_put_40 2 rfl rfl ?_
      refine zR_get C fX5_37 eX5_put_41 0 eW_g0 rfl ?_
      refine zR_lload_n C eX5_put_44 3 rfl rfl ?_
      refine zR_iload C eX5_put_45 0 rfl ?_
      refine zR_topi (nI_pred k) ?_
      refine zR_callS1 C kX5_268 eX5_put_47 (c_X5_codeAt _ _ ) rfl rfl (by decide) (by decide) (Nat.le_of_ble_eq_true rfl) (Nat.zero_le _) (Nat.zero_le _) ?_
      refine zR_callVv C kX5_272 eX5_put_50 (c_X3_append (fun j => q (194 + j)) _ _ (by exact (z_code_c c (nI k)).1) (by exact (zok_vp (n := 79) (v := a_len d) ⟨hd.1.1, by omega⟩ (by decide)))) rfl 194 3 eW_g194 rfl rfl _ eW_c194 eW_n194 rfl (by decide) (by decide) (Nat.le_of_ble_eq_true rfl) (Nat.zero_le _) (Nat.zero_le _) aW_f eW_r194 ?_
      refine zR_iinc (lv' := [(4, _), (3, _), (0, _), (1, _)]) (v' := nI k - 1) C eX5_put_53 0 rfl (by rw [nI_pred]; exact zdec _) (by rw [hn]; decide) rfl ?_
      refine zR_goto C eX5_put_56 ?_
      refine zR_ws (eW g q (e_spad e (a_app d (z_code c (nI k))))) rfl ?_
      refine zR_lv [(4, _), (3, _), (0, _), (1, _)] [0, 1, 2, 3] rfl ?_
      exact ih _ ha.1 (by rw [hl]; omega)
theorem z_put_len {e : ED} {n : Int32} (he : a_ok0 (e_pad e)) (h : n = nI (zn32 n) ∧ zn32 n ≤ 8) (hl : a_len (e_pad e) + n ≤ 80) : zn32 (a_len (e_pad e)) + zn32 n ≤ 80 := by
  have h80 := he.1.2
  rw [he.1.1, h.1, nI_add] at hl
  rcases Nat.lt_or_ge 80 (zn32 (a_len (e_pad e)) + zn32 n) with z | z
  · exact absurd hl (nI_ge (a := 80) z (by omega))
  · exact z
set_option maxHeartbeats 400000 in
set_option maxRecDepth 100000 in
theorem c_X5_put {l : Launch} {g : zG} (q : Nat → Nat) (e : ED) (c : Int64) (he : e_ok e) : zM l g yX5_put cX5_put 5 (some .int) 2 0 0 [.ref (q 0), .long c] (eW g q e) (zE (some (.int (e_put e c).1)) (eW g q (e_put e c).2)) := by
  refine zM_of (by decide +kernel) (Nat.le_of_ble_eq_true rfl) (fun x hl hn _ _ _ C => ?_)
  subst hl
  show zR x g _ (0, 0) 0 [(0, .ref (q 0)), (1, .long c)] [] _
  refine zR_lload_n C eX5_put_0 1 rfl rfl ?_
  refine zR_callS1 C kX5_264 eX5_put_1 (c_X5_charactersIn _ ) rfl rfl (by decide) (by decide) (Nat.le_of_ble_eq_true rfl) (Nat.zero_le _) (Nat.zero_le _) ?_
  refine zR_istore_n (lv' := [(3, _), (0, _), (1, _)]) C eX5_put_4 rfl (by rw [hn]; decide) rfl ?_
  refine zR_iload_n C eX5_put_5 0 rfl rfl ?_
  refine zR_iconst (v := 1) C eX5_put_6 (by decide) ?_
  refine zR_icmp_ge C eX5_put_7 (fun h7 => ?_) (fun h7 => ?_)
  · skip
    refine zR_aload_n C eX5_put_13 1 rfl rfl ?_
    refine zR_get C fX5_37 eX5_put_14 0 eW_g0 rfl ?_
    refine zR_get C fX5_231 eX5_put_17 194 eW_g194 rfl ?_
    refine zR_iload_n C eX5_put_20 0 rfl rfl ?_
    refine zR_iadd C eX5_put_21 ?_
    refine zR_bipush (v := 80) C eX5_put_22 (by decide) ?_
    refine zR_icmp_le C eX5_put_24 (fun h24 => ?_) (fun h24 => ?_)
    · skip
      refine zR_iload_n C eX5_put_30 0 rfl rfl ?_
      refine zR_iconst (v := 1) C eX5_put_31 (by decide) ?_
      refine zR_isub C eX5_put_32 ?_
      refine zR_istore (lv' := [(4, _), (3, _), (0, _), (1, _)]) C eX5_put_33 (by rw [hn]; decide) rfl ?_
      have e1 : e_put e c = (a_len (z_app c (zn32 (z_ci c 8 0)) (e_pad e)), e_spad e (z_app c (zn32 (z_ci c 8 0)) (e_pad e))) := by
        unfold e_put
        rw [if_neg h7, if_pos h24]
      rw [e1]
      have hc := z_ci_1 h7
      refine zR_lv [(4, .int (nI (zn32 (z_ci c 8 0)) - 1)), (3, _), (0, _), (1, _)] [0, 1, 2, 3] (by rw [← hc.1] <;> rfl) ?_
      exact c_X5_put_lp (e := e) hn C _ (e_pad e) he.2.2.2.2.2 (z_put_len he.2.2.2.2.2 hc h24)
    · skip
      refine zR_bipush (v := -4) C eX5_put_27 (by decide) ?_
      exact zR_iret C rfl rfl eX5_put_29 (Nat.zero_le _) (Nat.zero_le _) ⟨(by first | (unfold e_put; rw [if_neg h7, if_neg h24]; first | done | (dsimp only [e_fin]; done) | rfl) | rfl | (simp only [e_put, if_neg h7, if_neg h24]; first | done | rfl)), (by first | (unfold e_put; rw [if_neg h7, if_neg h24]; first | done | (dsimp only [e_fin]; done) | rfl) | rfl | (simp only [e_put, if_neg h7, if_neg h24]; first | done | rfl))⟩
  · skip
    refine zR_bipush (v := -2) C eX5_put_10 (by decide) ?_
    exact zR_iret C rfl rfl eX5_put_12 (Nat.zero_le _) (Nat.zero_le _) ⟨(by first | (unfold e_put; rw [if_pos h7]; first | done | (dsimp only [e_fin]; done) | rfl) | rfl | (simp only [e_put, if_pos h7]; first | done | rfl)), (by first | (unfold e_put; rw [if_pos h7]; first | done | (dsimp only [e_fin]; done) | rfl) | rfl | (simp only [e_put, if_pos h7]; first | done | rfl))⟩
theorem e_put_ok {e : ED} {c : Int64} (he : e_ok e) : e_ok (e_put e c).2 := by
  unfold e_put; split
  · exact he
  · rename_i h1
    split
    · rename_i h2
      exact e_ok_pad he (z_app_ok c _ _ he.2.2.2.2.2 (z_put_len he.2.2.2.2.2 (z_ci_1 h1) h2)).1
    · exact he
set_option maxHeartbeats 1000000 in
set_option maxRecDepth 100000 in
theorem c_X5_carryOut_lp {x : zX} {g : zG} {q : Nat → Nat} (hn : zn x = 2) (C : zC x g RX5 cX5_carryOut (some .int) 7) : ∀ (k i : Nat) (e : ED), i + k = zn32 (a_ord (e_pad e)) → e_ok e → zR x g (zE (some (.int (e_fin (nI (e_cl k i e).1, e_clear (e_cl k i e).2)).1)) (eW g q (e_fin (nI (e_cl k i e).1, e_clear (e_cl k i e).2)).2)) (0, 0) 28 [(0, .ref (q 0)), (1, .int (nI i))] [] (eW g q e) := by
  intro k
  induction k with
  | zero =>
    intro i e hk he
    have ho := he.2.2.2.2.2.2.2.2
    have hi : i = zn32 (a_ord (e_pad e)) := by omega
    refine zR_iload_n C eX5_carryOut_28 1 rfl rfl ?_
    refine zR_aload_n C eX5_carryOut_29 0 rfl rfl ?_
    refine zR_get C fX5_37 eX5_carryOut_30 0 eW_g0 rfl ?_
    refine zR_get C fX5_279 eX5_carryOut_33 194 eW_g194 rfl ?_
    refine zR_icmp_ge C eX5_carryOut_36 (fun h36 => ?_) (fun h36 => ?_)
    · skip
      refine zR_aload_n C eX5_carryOut_53 0 rfl rfl ?_
      refine zR_get C fX5_37 eX5_carryOut_54 0 eW_g0 rfl ?_
      refine zR_iconst (v := 0) C eX5_carryOut_57 (by decide) ?_
      refine zR_put C pX5_231 eX5_carryOut_58 194 eW_g194 (Nat.le_of_ble_eq_true rfl) eW_s194_1 ?_
      refine zR_aload_n C eX5_carryOut_61 0 rfl rfl ?_
      refine zR_get C fX5_22 eX5_carryOut_62 0 eW_g0 rfl ?_
      refine zR_iload_n C eX5_carryOut_65 1 rfl rfl ?_
      refine zR_callV1 C kX5_63 eX5_carryOut_66 (c_X0_keep (fun j => q (43 + j)) _ _ ) rfl 43 0 eW_g43 rfl rfl _ eW_c43 rfl rfl (by decide) (by decide) (Nat.le_of_ble_eq_true rfl) (Nat.zero_le _) (Nat.zero_le _) kW_f (eW_r43 (y_keep_st _ _)) ?_
      exact zR_iret C rfl rfl eX5_carryOut_69 (Nat.zero_le _) (Nat.zero_le _) ⟨rfl, rfl⟩
    · skip
      exact absurd h36 (zlp_out ho hi)
  | succ k ih =>
    intro i e hk he
    have ho := he.2.2.2.2.2.2.2.2
    have hlt : i < zn32 (a_ord (e_pad e)) := by omega
    refine zR_iload_n C eX5_carryOut_28 1 rfl rfl ?_
    refine zR_aload_n C eX5_carryOut_29 0 rfl rfl ?_
    refine zR_get C fX5_37 eX5_carryOut_30 0 eW_g0 rfl ?_
    refine zR_get C fX5_279 eX5_carryOut_33 194 eW_g194 rfl ?_
    refine zR_icmp_ge C eX5_carryOut_36 (fun h36 => ?_) (fun h36 => ?_)
    · skip
      exact absurd (zlp_in ho (by decide) hlt) h36
    · skip
      refine zR_aload_n C eX5_carryOut_39 0 rfl rfl ?_
      refine zR_iload_n C eX5_carryOut_40 1 rfl rfl ?_
      refine zR_callV1 C kX5_282 eX5_carryOut_41 (c_X5_obey q _ _ he (zok_lt ho hlt (by decide)).1) rfl 0 5 eW_g0 rfl rfl _ eW_call eW_nall rfl (by decide) (by decide) (Nat.le_of_ble_eq_true rfl) (Nat.zero_le _) (Nat.zero_le _) eW_f eW_rall ?_
      refine zR_iflt C eX5_carryOut_44 (fun h44 => ?_) (fun h44 => ?_)
      · skip
        have e1 : e_cl (k + 1) i e = (i, (e_obey e i).2) := if_pos h44
        rw [e1]
        refine zR_aload_n C eX5_carryOut_53 0 rfl rfl ?_
        refine zR_get C fX5_37 eX5_carryOut_54 0 eW_g0 rfl ?_
        refine zR_iconst (v := 0) C eX5_carryOut_57 (by decide) ?_
        refine zR_put C pX5_231 eX5_carryOut_58 194 eW_g194 (Nat.le_of_ble_eq_true rfl) eW_s194_1 ?_
        refine zR_aload_n C eX5_carryOut_61 0 rfl rfl ?_
        refine zR_get C fX5_22 eX5_carryOut_62 0 eW_g0 rfl ?_
        refine zR_iload_n C eX5_carryOut_65 1 rfl rfl ?_
        refine zR_callV1 C kX5_63 eX5_carryOut_66 (c_X0_keep (fun j => q (43 + j)) _ _ ) rfl 43 0 eW_g43 rfl rfl _ eW_c43 rfl rfl (by decide) (by decide) (Nat.le_of_ble_eq_true rfl) (Nat.zero_le _) (Nat.zero_le _) kW_f (eW_r43 (y_keep_st _ _)) ?_
        exact zR_iret C rfl rfl eX5_carryOut_69 (Nat.zero_le _) (Nat.zero_le _) ⟨rfl, rfl⟩
      · skip
        refine zR_iinc (lv' := [(1, _), (0, _)]) (v' := nI (i + 1)) C eX5_carryOut_47 1 rfl (zinc i) (by rw [hn]; decide) rfl ?_
        refine zR_goto C eX5_carryOut_50 ?_
        have e1 : e_cl (k + 1) i e = e_cl k (i + 1) (e_obey e i).2 := if_neg h44
        rw [e1]
        refine zR_lv [(0, _), (1, _)] [1, 0] rfl ?_
        exact ih (i + 1) _ (by rw [e_obey_pad]; omega) (e_obey_ok he)
set_option maxHeartbeats 400000 in
set_option maxRecDepth 100000 in
theorem c_X5_carryOut {l : Launch} {g : zG} (q : Nat → Nat) (e : ED)  (he : e_ok e) : zM l g yX5_carryOut cX5_carryOut 2 (some .int) 7 0 0 [.ref (q 0)] (eW g q e) (zE (some (.int (e_carry e).1)) (eW g q (e_carry e).2)) := by
  refine zM_of (by decide +kernel) (Nat.le_of_ble_eq_true rfl) (fun x hl hn _ _ _ C => ?_)
  subst hl
  show zR x g _ (0, 0) 0 [(0, .ref (q 0))] [] _
  refine zR_aload_n C eX5_carryOut_0 0 rfl rfl ?_
  refine zR_get C fX5_37 eX5_carryOut_1 0 eW_g0 rfl ?_
  refine zR_callV1 C kX5_275 eX5_carryOut_4 (c_X3_readOrders (fun j => q (194 + j)) _ (by exact he.2.2.2.2.2)) rfl 194 3 eW_g194 rfl rfl _ eW_c194 eW_n194 rfl (by decide) (by decide) (Nat.le_of_ble_eq_true rfl) (Nat.zero_le _) (Nat.zero_le _) aW_f eW_r194 ?_
  refine zR_ws (eW g q (e_read e)) rfl ?_
  refine zR_bipush (v := -6) C eX5_carryOut_7 (by decide) ?_
  refine zR_icmp_eq C eX5_carryOut_9 (fun h9 => ?_) (fun h9 => ?_)
  · skip
    refine zR_aload_n C eX5_carryOut_15 0 rfl rfl ?_
    refine zR_get C fX5_22 eX5_carryOut_16 0 eW_g0 rfl ?_
    refine zR_aload_n C eX5_carryOut_19 0 rfl rfl ?_
    refine zR_get C fX5_12 eX5_carryOut_20 0 eW_g0 rfl ?_
    refine zR_callVv C kX5_56 eX5_carryOut_23 (c_X0_prepare (fun j => q (43 + j)) _ (fun j => q (1 + j)) _ he.2.2.1 he.1) rfl 43 0 eW_g43 rfl rfl _ eW_cPn (zfrom_nd2 (by omega)) rfl (by decide) (by decide) (Nat.le_of_ble_eq_true rfl) (Nat.zero_le _) (Nat.zero_le _) yyW_f eW_rPn ?_
    refine zR_ws (eW g q (e_prep _)) rfl ?_
    refine zR_iconst (v := 0) C eX5_carryOut_26 (by decide) ?_
    refine zR_istore_n (lv' := [(1, _), (0, _)]) C eX5_carryOut_27 rfl (by rw [hn]; decide) rfl ?_
    have e1 : e_carry e = e_fin (nI (e_cl (zn32 (a_ord (e_pad (e_prep (e_read e))))) 0 (e_prep (e_read e))).1, e_clear (e_cl (zn32 (a_ord (e_pad (e_prep (e_read e))))) 0 (e_prep (e_read e))).2) := if_pos h9
    rw [e1]
    refine zR_lv [(0, _), (1, .int (nI 0))] [1, 0] rfl ?_
    exact c_X5_carryOut_lp hn C _ 0 (e_prep (e_read e)) (Nat.zero_add _) (e_prep_ok (e_read_ok he))
  · skip
    refine zR_bipush (v := -3) C eX5_carryOut_12 (by decide) ?_
    exact zR_iret C rfl rfl eX5_carryOut_14 (Nat.zero_le _) (Nat.zero_le _) ⟨(by first | (unfold e_carry; rw [if_neg h9]; first | done | (dsimp only [e_fin]; done) | rfl) | rfl | (simp only [e_carry, if_neg h9]; first | done | rfl)), (by first | (unfold e_carry; rw [if_neg h9]; first | done | (dsimp only [e_fin]; done) | rfl) | rfl | (simp only [e_carry, if_neg h9]; first | done | rfl))⟩
