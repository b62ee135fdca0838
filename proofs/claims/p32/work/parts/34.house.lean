/-! The house: the walks. -/
set_option maxHeartbeats 400000 in
set_option maxRecDepth 100000 in
theorem c_X5_isWithin {l : Launch} {g : zG} (v : Int32) (a : Int32) (b : Int32)  : zM l g yX5_isWithin cX5_isWithin 3 (some .boolean) 0 0 0 [.int v, .int a, .int b] [] (zE (some (.int (zB (z_in v a b)))) []) := by
  refine zM_of (by decide +kernel) (Nat.le_of_ble_eq_true rfl) (fun x hl hn _ _ _ C => ?_)
  subst hl
  show zR x g _ (0, 0) 0 [(0, .int v), (1, .int a), (2, .int b)] [] _
  refine zR_iload_n C eX5_isWithin_0 0 rfl rfl ?_
  refine zR_iload_n C eX5_isWithin_1 1 rfl rfl ?_
  refine zR_icmp_lt C eX5_isWithin_2 (fun h2 => ?_) (fun h2 => ?_)
  · skip
    refine zR_iconst (v := 0) C eX5_isWithin_14 (by decide) ?_
    exact zR_iret C rfl rfl eX5_isWithin_15 (Nat.zero_le _) (Nat.zero_le _) ⟨(by first | (unfold z_in; rw [if_pos h2]; first | done | (dsimp only [e_fin]; done) | rfl) | rfl | (simp only [z_in, if_pos h2]; first | done | rfl)), (by first | (unfold z_in; rw [if_pos h2]; first | done | (dsimp only [e_fin]; done) | rfl) | rfl | (simp only [z_in, if_pos h2]; first | done | rfl))⟩
  · skip
    refine zR_iload_n C eX5_isWithin_5 0 rfl rfl ?_
    refine zR_iload_n C eX5_isWithin_6 2 rfl rfl ?_
    refine zR_icmp_gt C eX5_isWithin_7 (fun h7 => ?_) (fun h7 => ?_)
    · skip
      refine zR_iconst (v := 0) C eX5_isWithin_14 (by decide) ?_
      exact zR_iret C rfl rfl eX5_isWithin_15 (Nat.zero_le _) (Nat.zero_le _) ⟨(by first | (unfold z_in; rw [if_neg h2, if_neg h7]; first | done | (dsimp only [e_fin]; done) | rfl) | rfl | (simp only [z_in, if_neg h2, if_neg h7]; first | done | rfl)), (by first | (unfold z_in; rw [if_neg h2, if_neg h7]; first | done | (dsimp only [e_fin]; done) | rfl) | rfl | (simp only [z_in, if_neg h2, if_neg h7]; first | done | rfl))⟩
    · skip
      refine zR_iconst (v := 1) C eX5_isWithin_10 (by decide) ?_
      refine zR_goto C eX5_isWithin_11 ?_
      exact zR_iret C rfl rfl eX5_isWithin_15 (Nat.zero_le _) (Nat.zero_le _) ⟨(by first | (unfold z_in; rw [if_neg h2, if_pos h7]; first | done | (dsimp only [e_fin]; done) | rfl) | rfl | (simp only [z_in, if_neg h2, if_pos h7]; first | done | rfl)), (by first | (unfold z_in; rw [if_neg h2, if_pos h7]; first | done | (dsimp only [e_fin]; done) | rfl) | rfl | (simp only [z_in, if_neg h2, if_pos h7]; first | done | rfl))⟩
set_option maxHeartbeats 400000 in
set_option maxRecDepth 100000 in
theorem c_X1_hasService {l : Launch} {g : zG} (q : Nat → Nat) (d : HD) (s : Int32)  : zM l g yX1_hasService cX1_hasService 2 (some .boolean) 0 0 0 [.ref (q 0), .int s] (hW g q d) (zE (some (.int (zB (h_has d s)))) (hW g q d)) := by
  refine zM_of (by decide +kernel) (Nat.le_of_ble_eq_true rfl) (fun x hl hn _ _ _ C => ?_)
  subst hl
  show zR x g _ (0, 0) 0 [(0, .ref (q 0)), (1, .int s)] [] _
  refine zR_iload_n C eX1_hasService_0 1 rfl rfl ?_
  refine zR_iflt C eX1_hasService_1 (fun h1 => ?_) (fun h1 => ?_)
  · skip
    refine zR_iconst (v := 0) C eX1_hasService_16 (by decide) ?_
    exact zR_iret C rfl rfl eX1_hasService_17 (Nat.zero_le _) (Nat.zero_le _) ⟨(by first | (unfold h_has; rw [if_pos h1]; first | done | rfl) | rfl | (simp only [h_has, if_pos h1]; first | done | rfl)), (by first | (unfold h_has; rw [if_pos h1]; first | done | rfl) | rfl | (simp only [h_has, if_pos h1]; first | done | rfl))⟩
  · skip
    refine zR_iload_n C eX1_hasService_4 1 rfl rfl ?_
    refine zR_aload_n C eX1_hasService_5 0 rfl rfl ?_
    refine zR_get C fX1_33 eX1_hasService_6 0 hW_g0 rfl ?_
    refine zR_icmp_ge C eX1_hasService_9 (fun h9 => ?_) (fun h9 => ?_)
    · skip
      refine zR_iconst (v := 0) C eX1_hasService_16 (by decide) ?_
      exact zR_iret C rfl rfl eX1_hasService_17 (Nat.zero_le _) (Nat.zero_le _) ⟨(by first | (unfold h_has; rw [if_neg h1, if_neg h9]; first | done | rfl) | rfl | (simp only [h_has, if_neg h1, if_neg h9]; first | done | rfl)), (by first | (unfold h_has; rw [if_neg h1, if_neg h9]; first | done | rfl) | rfl | (simp only [h_has, if_neg h1, if_neg h9]; first | done | rfl))⟩
    · skip
      refine zR_iconst (v := 1) C eX1_hasService_12 (by decide) ?_
      refine zR_goto C eX1_hasService_13 ?_
      exact zR_iret C rfl rfl eX1_hasService_17 (Nat.zero_le _) (Nat.zero_le _) ⟨(by first | (unfold h_has; rw [if_neg h1, if_pos h9]; first | done | rfl) | rfl | (simp only [h_has, if_neg h1, if_pos h9]; first | done | rfl)), (by first | (unfold h_has; rw [if_neg h1, if_pos h9]; first | done | rfl) | rfl | (simp only [h_has, if_neg h1, if_pos h9]; first | done | rfl))⟩
set_option maxHeartbeats 400000 in
set_option maxRecDepth 100000 in
theorem c_X1_isFrozen {l : Launch} {g : zG} (q : Nat → Nat) (d : HD) (s : Int32)  : zM l g yX1_isFrozen cX1_isFrozen 2 (some .boolean) 0 0 0 [.ref (q 0), .int s] (hW g q d) (zE (some (.int (zB (h_isf d s)))) (hW g q d)) := by
  refine zM_of (by decide +kernel) (Nat.le_of_ble_eq_true rfl) (fun x hl hn _ _ _ C => ?_)
  subst hl
  show zR x g _ (0, 0) 0 [(0, .ref (q 0)), (1, .int s)] [] _
  refine zR_aload_n C eX1_isFrozen_0 0 rfl rfl ?_
  refine zR_get C fX1_36 eX1_isFrozen_1 0 hW_g0 rfl ?_
  refine zR_iload_n C eX1_isFrozen_4 1 rfl rfl ?_
  refine zR_ishr C eX1_isFrozen_5 ?_
  refine zR_iconst (v := 1) C eX1_isFrozen_6 (by decide) ?_
  refine zR_iand C eX1_isFrozen_7 ?_
  refine zR_iconst (v := 1) C eX1_isFrozen_8 (by decide) ?_
  refine zR_icmp_ne C eX1_isFrozen_9 (fun h9 => ?_) (fun h9 => ?_)
  · skip
    refine zR_iconst (v := 0) C eX1_isFrozen_16 (by decide) ?_
    exact zR_iret C rfl rfl eX1_isFrozen_17 (Nat.zero_le _) (Nat.zero_le _) ⟨(by first | (unfold h_isf; rw [if_neg h9]; first | done | rfl) | rfl | (simp only [h_isf, if_neg h9]; first | done | rfl)), (by first | (unfold h_isf; rw [if_neg h9]; first | done | rfl) | rfl | (simp only [h_isf, if_neg h9]; first | done | rfl))⟩
  · skip
    refine zR_iconst (v := 1) C eX1_isFrozen_12 (by decide) ?_
    refine zR_goto C eX1_isFrozen_13 ?_
    exact zR_iret C rfl rfl eX1_isFrozen_17 (Nat.zero_le _) (Nat.zero_le _) ⟨(by first | (unfold h_isf; rw [if_pos h9]; first | done | rfl) | rfl | (simp only [h_isf, if_pos h9]; first | done | rfl)), (by first | (unfold h_isf; rw [if_pos h9]; first | done | rfl) | rfl | (simp only [h_isf, if_pos h9]; first | done | rfl))⟩
set_option maxHeartbeats 400000 in
set_option maxRecDepth 100000 in
theorem c_X1_minutesOf {l : Launch} {g : zG} (q : Nat → Nat) (d : HD) (s : Int32) (w : Int32) (hs : vp_in s 8) (hw : vp_in w 9) : zM l g yX1_minutesOf cX1_minutesOf 3 (some .long) 0 0 0 [.ref (q 0), .int s, .int w] (hW g q d) (zE (some (.long (h_mo d s w))) (hW g q d)) := by
  refine zM_of (by decide +kernel) (Nat.le_of_ble_eq_true rfl) (fun x hl hn _ _ _ C => ?_)
  subst hl
  show zR x g _ (0, 0) 0 [(0, .ref (q 0)), (1, .int s), (2, .int w)] [] _
  refine zR_aload_n C eX1_minutesOf_0 0 rfl rfl ?_
  refine zR_get C fX1_54 eX1_minutesOf_1 0 hW_g0 rfl ?_
  refine zR_iload_n C eX1_minutesOf_4 1 rfl rfl ?_
  refine zR_bipush (v := 9) C eX1_minutesOf_5 (by decide) ?_
  refine zR_imul C eX1_minutesOf_7 ?_
  refine zR_iload_n C eX1_minutesOf_8 2 rfl rfl ?_
  refine zR_iadd C eX1_minutesOf_9 ?_
  refine zR_lald C eX1_minutesOf_10 7 hW_g7 (z_acc hs hw) ?_
  exact zR_lret C rfl eX1_minutesOf_11 (Nat.zero_le _) (Nat.zero_le _) ⟨rfl, rfl⟩
set_option maxHeartbeats 400000 in
set_option maxRecDepth 100000 in
theorem c_X1_thawLimit {l : Launch} {g : zG} (q : Nat → Nat) (d : HD) (s : Int32) (hs : vp_in s 8) : zM l g yX1_thawLimit cX1_thawLimit 2 (some .int) 0 0 0 [.ref (q 0), .int s] (hW g q d) (zE (some (.int (h_thw d s))) (hW g q d)) := by
  refine zM_of (by decide +kernel) (Nat.le_of_ble_eq_true rfl) (fun x hl hn _ _ _ C => ?_)
  subst hl
  show zR x g _ (0, 0) 0 [(0, .ref (q 0)), (1, .int s)] [] _
  refine zR_aload_n C eX1_thawLimit_0 0 rfl rfl ?_
  refine zR_get C fX1_39 eX1_thawLimit_1 0 hW_g0 rfl ?_
  refine zR_iload_n C eX1_thawLimit_4 1 rfl rfl ?_
  refine zR_iald C eX1_thawLimit_5 2 hW_g2 (by first | assumption | exact vp_in_iff.mpr (by decide)) ?_
  refine zR_aload_n C eX1_thawLimit_6 0 rfl rfl ?_
  refine zR_get C fX1_18 eX1_thawLimit_7 0 hW_g0 rfl ?_
  refine zR_iconst (v := 3) C eX1_thawLimit_10 (by decide) ?_
  refine zR_ialdK C eX1_thawLimit_11 1 hW_g1 3 rfl (vp_in_iff.mpr (by decide)) ?_
  refine zR_imul C eX1_thawLimit_12 ?_
  refine zR_bipush (v := 100) C eX1_thawLimit_13 (by decide) ?_
  refine zR_idiv C eX1_thawLimit_15 (by decide) ?_
  exact zR_iret C rfl rfl eX1_thawLimit_16 (Nat.zero_le _) (Nat.zero_le _) ⟨rfl, rfl⟩
set_option maxHeartbeats 400000 in
set_option maxRecDepth 100000 in
theorem c_X1_enter {l : Launch} {g : zG} (q : Nat → Nat) (d : HD) (s : Int32) (w : Int32) (m : Int64) (hs : vp_in s 8) (hw : vp_in w 9) : zM l g yX1_enter cX1_enter 5 none 0 0 0 [.ref (q 0), .int s, .int w, .long m] (hW g q d) (zE none (hW g q (h_enter d s w m))) := by
  refine zM_of (by decide +kernel) (Nat.le_of_ble_eq_true rfl) (fun x hl hn _ _ _ C => ?_)
  subst hl
  show zR x g _ (0, 0) 0 [(0, .ref (q 0)), (1, .int s), (2, .int w), (3, .long m)] [] _
  refine zR_aload_n C eX1_enter_0 0 rfl rfl ?_
  refine zR_get C fX1_54 eX1_enter_1 0 hW_g0 rfl ?_
  refine zR_iload_n C eX1_enter_4 1 rfl rfl ?_
  refine zR_bipush (v := 9) C eX1_enter_5 (by decide) ?_
  refine zR_imul C eX1_enter_7 ?_
  refine zR_iload_n C eX1_enter_8 2 rfl rfl ?_
  refine zR_iadd C eX1_enter_9 ?_
  refine zR_dup2 C eX1_enter_10 rfl rfl ?_
  refine zR_lald C eX1_enter_11 7 hW_g7 (by first | exact z_acc hs hw | exact z_acc hs (vp_in_iff.mpr (by decide))) ?_
  refine zR_lload_n C eX1_enter_12 3 rfl rfl ?_
  refine zR_ladd C eX1_enter_13 ?_
  refine zR_last C eX1_enter_14 7 hW_g7 (by first | exact z_acc hs hw | exact z_acc hs (vp_in_iff.mpr (by decide))) hW_s7 ?_
  refine zR_aload_n C eX1_enter_15 0 rfl rfl ?_
  refine zR_get C fX1_54 eX1_enter_16 0 hW_g0 rfl ?_
  refine zR_iload_n C eX1_enter_19 1 rfl rfl ?_
  refine zR_bipush (v := 9) C eX1_enter_20 (by decide) ?_
  refine zR_imul C eX1_enter_22 ?_
  refine zR_bipush (v := 8) C eX1_enter_23 (by decide) ?_
  refine zR_iadd C eX1_enter_25 ?_
  refine zR_dup2 C eX1_enter_26 rfl rfl ?_
  refine zR_lald C eX1_enter_27 7 hW_g7 (by first | exact z_acc hs hw | exact z_acc hs (vp_in_iff.mpr (by decide))) ?_
  refine zR_iload_n C eX1_enter_28 2 rfl rfl ?_
  refine zR_iconst (v := 2) C eX1_enter_29 (by decide) ?_
  refine zR_icmp_gt C eX1_enter_30 (fun h30 => ?_) (fun h30 => ?_)
  · skip
    refine zR_lload_n C eX1_enter_37 3 rfl rfl ?_
    refine zR_lneg C eX1_enter_38 ?_
    refine zR_ladd C eX1_enter_39 ?_
    refine zR_last C eX1_enter_40 7 hW_g7 (by first | exact z_acc hs hw | exact z_acc hs (vp_in_iff.mpr (by decide))) hW_s7 ?_
    exact zR_vret C rfl eX1_enter_41 (Nat.zero_le _) (Nat.zero_le _) ⟨rfl, (by first | (unfold h_enter; rw [if_neg h30]; first | done | rfl) | rfl | (simp only [h_enter, if_neg h30]; first | done | rfl))⟩
  · skip
    refine zR_lload_n C eX1_enter_33 3 rfl rfl ?_
    refine zR_goto C eX1_enter_34 ?_
    refine zR_ladd C eX1_enter_39 ?_
    refine zR_last C eX1_enter_40 7 hW_g7 (by first | exact z_acc hs hw | exact z_acc hs (vp_in_iff.mpr (by decide))) hW_s7 ?_
    exact zR_vret C rfl eX1_enter_41 (Nat.zero_le _) (Nat.zero_le _) ⟨rfl, (by first | (unfold h_enter; rw [if_pos h30]; first | done | rfl) | rfl | (simp only [h_enter, if_pos h30]; first | done | rfl))⟩
set_option maxHeartbeats 400000 in
set_option maxRecDepth 100000 in
theorem c_X1_book {l : Launch} {g : zG} (q : Nat → Nat) (d : HD) (s : Int32) (w : Int32) (m : Int64) (hs : vp_in s 8) (hw : vp_in w 9) : zM l g yX1_book cX1_book 7 none 1 0 0 [.ref (q 0), .int s, .int w, .long m] (hW g q d) (zE none (hW g q (h_book d s w m))) := by
  refine zM_of (by decide +kernel) (Nat.le_of_ble_eq_true rfl) (fun x hl hn _ _ _ C => ?_)
  subst hl
  show zR x g _ (0, 0) 0 [(0, .ref (q 0)), (1, .int s), (2, .int w), (3, .long m)] [] _
  refine zR_aload_n C eX1_book_0 0 rfl rfl ?_
  refine zR_iload_n C eX1_book_1 1 rfl rfl ?_
  refine zR_iload_n C eX1_book_2 2 rfl rfl ?_
  refine zR_lload_n C eX1_book_3 3 rfl rfl ?_
  refine zR_callVv C kX1_89 eX1_book_4 (c_X1_enter q _ _ _ _ (by assumption) (by assumption)) rfl 0 1 hW_g0 rfl rfl _ hW_c hW_n rfl (by decide) (by decide) (Nat.le_of_ble_eq_true rfl) (Nat.zero_le _) (Nat.zero_le _) hW_f hW_r ?_
  refine zR_aload_n C eX1_book_7 0 rfl rfl ?_
  refine zR_iload_n C eX1_book_8 1 rfl rfl ?_
  refine zR_bipush (v := 8) C eX1_book_9 (by decide) ?_
  refine zR_callV1 C kX1_92 eX1_book_11 (c_X1_minutesOf q _ _ _ hs (vp_in_iff.mpr (by decide))) rfl 0 1 hW_g0 rfl rfl _ hW_c hW_n rfl (by decide) (by decide) (Nat.le_of_ble_eq_true rfl) (Nat.zero_le _) (Nat.zero_le _) hW_f hW_r ?_
  refine zR_lstore (lv' := [(5, _), (0, _), (1, _), (2, _), (3, _)]) C eX1_book_14 (by rw [hn]; decide) rfl ?_
  refine zR_lload C eX1_book_16 0 rfl ?_
  refine zR_lconst (v := 0) C eX1_book_18 (by decide) ?_
  refine zR_cifgt C eX1_book_19 eX1_book_20 (fun h19 => ?_) (fun h19 => ?_)
  · skip
    refine zR_lload C eX1_book_56 0 rfl ?_
    refine zR_aload_n C eX1_book_58 1 rfl rfl ?_
    refine zR_iload_n C eX1_book_59 2 rfl rfl ?_
    refine zR_callV1 C kX1_100 eX1_book_60 (c_X1_thawLimit q _ _ (by assumption)) rfl 0 1 hW_g0 rfl rfl _ hW_c hW_n rfl (by decide) (by decide) (Nat.le_of_ble_eq_true rfl) (Nat.zero_le _) (Nat.zero_le _) hW_f hW_r ?_
    refine zR_i2l C eX1_book_63 ?_
    refine zR_cifle C eX1_book_64 eX1_book_65 (fun h64 => ?_) (fun h64 => ?_)
    · skip
      exact zR_vret C rfl eX1_book_82 (Nat.zero_le _) (Nat.zero_le _) ⟨rfl, (by first | (unfold h_book h_sett; rw [if_neg h19, if_pos h64]; first | done | rfl) | rfl | (simp only [h_book, h_sett, if_neg h19, if_pos h64]; first | done | rfl))⟩
    · skip
      refine zR_aload_n C eX1_book_68 1 rfl rfl ?_
      refine zR_dup C eX1_book_69 rfl ?_
      refine zR_get C fX1_36 eX1_book_70 0 hW_g0 rfl ?_
      refine zR_iconst (v := 1) C eX1_book_73 (by decide) ?_
      refine zR_iload_n C eX1_book_74 2 rfl rfl ?_
      refine zR_ishl C eX1_book_75 ?_
      refine zR_iconst (v := -1) C eX1_book_76 (by decide) ?_
      refine zR_ixor C eX1_book_77 ?_
      refine zR_iand C eX1_book_78 ?_
      refine zR_put C pX1_36 eX1_book_79 0 hW_g0 (Nat.le_of_ble_eq_true rfl) hW_s0_5 ?_
      exact zR_vret C rfl eX1_book_82 (Nat.zero_le _) (Nat.zero_le _) ⟨rfl, (by first | (unfold h_book h_sett; rw [if_neg h19, if_neg h64]; first | done | rfl) | rfl | (simp only [h_book, h_sett, if_neg h19, if_neg h64]; first | done | rfl))⟩
  · skip
    refine zR_aload_n C eX1_book_23 1 rfl rfl ?_
    refine zR_iload_n C eX1_book_24 2 rfl rfl ?_
    refine zR_callV1 C kX1_96 eX1_book_25 (c_X1_isFrozen q _ _ ) rfl 0 1 hW_g0 rfl rfl _ hW_c hW_n rfl (by decide) (by decide) (Nat.le_of_ble_eq_true rfl) (Nat.zero_le _) (Nat.zero_le _) hW_f hW_r ?_
    refine zR_bfne C eX1_book_28 (fun h28 => ?_) (fun h28 => ?_)
    · skip
      refine zR_aload_n C eX1_book_41 1 rfl rfl ?_
      refine zR_dup C eX1_book_42 rfl ?_
      refine zR_get C fX1_36 eX1_book_43 0 hW_g0 rfl ?_
      refine zR_iconst (v := 1) C eX1_book_46 (by decide) ?_
      refine zR_iload_n C eX1_book_47 2 rfl rfl ?_
      refine zR_ishl C eX1_book_48 ?_
      refine zR_ior C eX1_book_49 ?_
      refine zR_put C pX1_36 eX1_book_50 0 hW_g0 (Nat.le_of_ble_eq_true rfl) hW_s0_5 ?_
      refine zR_goto C eX1_book_53 ?_
      exact zR_vret C rfl eX1_book_82 (Nat.zero_le _) (Nat.zero_le _) ⟨rfl, (by first | (unfold h_book h_sett; rw [if_pos h19, if_pos h28]; first | done | rfl) | rfl | (simp only [h_book, h_sett, if_pos h19, if_pos h28]; first | done | rfl))⟩
    · skip
      refine zR_aload_n C eX1_book_31 1 rfl rfl ?_
      refine zR_get C fX1_51 eX1_book_32 0 hW_g0 rfl ?_
      refine zR_iload_n C eX1_book_35 2 rfl rfl ?_
      refine zR_dup2 C eX1_book_36 rfl rfl ?_
      refine zR_iald C eX1_book_37 6 hW_g6 (by first | assumption | exact vp_in_iff.mpr (by decide)) ?_
      refine zR_iconst (v := 1) C eX1_book_38 (by decide) ?_
      refine zR_iadd C eX1_book_39 ?_
      refine zR_iast C eX1_book_40 6 hW_g6 (by first | assumption | exact vp_in_iff.mpr (by decide)) hW_s6 ?_
      refine zR_aload_n C eX1_book_41 1 rfl rfl ?_
      refine zR_dup C eX1_book_42 rfl ?_
      refine zR_get C fX1_36 eX1_book_43 0 hW_g0 rfl ?_
      refine zR_iconst (v := 1) C eX1_book_46 (by decide) ?_
      refine zR_iload_n C eX1_book_47 2 rfl rfl ?_
      refine zR_ishl C eX1_book_48 ?_
      refine zR_ior C eX1_book_49 ?_
      refine zR_put C pX1_36 eX1_book_50 0 hW_g0 (Nat.le_of_ble_eq_true rfl) hW_s0_5 ?_
      refine zR_goto C eX1_book_53 ?_
      exact zR_vret C rfl eX1_book_82 (Nat.zero_le _) (Nat.zero_le _) ⟨rfl, (by first | (unfold h_book h_sett; rw [if_pos h19, if_neg h28]; first | done | rfl) | rfl | (simp only [h_book, h_sett, if_pos h19, if_neg h28]; first | done | rfl))⟩
set_option maxHeartbeats 400000 in
set_option maxRecDepth 100000 in
theorem c_X1_addService {l : Launch} {g : zG} (q : Nat → Nat) (d : HD) (b : Int32) (hc : zok (h_cnt d) 7) : zM l g yX1_addService cX1_addService 3 (some .int) 2 0 0 [.ref (q 0), .int b] (hW g q d) (zE (some (.int (h_cnt d))) (hW g q (h_add d b))) := by
  refine zM_of (by decide +kernel) (Nat.le_of_ble_eq_true rfl) (fun x hl hn _ _ _ C => ?_)
  subst hl
  show zR x g _ (0, 0) 0 [(0, .ref (q 0)), (1, .int b)] [] _
  refine zR_aload_n C eX1_addService_0 0 rfl rfl ?_
  refine zR_get C fX1_33 eX1_addService_1 0 hW_g0 rfl ?_
  refine zR_istore_n (lv' := [(2, _), (0, _), (1, _)]) C eX1_addService_4 rfl (by rw [hn]; decide) rfl ?_
  refine zR_aload_n C eX1_addService_5 1 rfl rfl ?_
  refine zR_get C fX1_39 eX1_addService_6 0 hW_g0 rfl ?_
  refine zR_iload_n C eX1_addService_9 0 rfl rfl ?_
  refine zR_iload_n C eX1_addService_10 2 rfl rfl ?_
  refine zR_iast C eX1_addService_11 2 hW_g2 (by first | exact zok_vp hc (by decide) | exact vp_in_iff.mpr (by decide)) hW_s2 ?_
  refine zR_aload_n C eX1_addService_12 1 rfl rfl ?_
  refine zR_get C fX1_42 eX1_addService_13 0 hW_g0 rfl ?_
  refine zR_iload_n C eX1_addService_16 0 rfl rfl ?_
  refine zR_aload_n C eX1_addService_17 1 rfl rfl ?_
  refine zR_get C fX1_18 eX1_addService_18 0 hW_g0 rfl ?_
  refine zR_bipush (v := 7) C eX1_addService_21 (by decide) ?_
  refine zR_ialdK C eX1_addService_23 1 hW_g1 7 rfl (vp_in_iff.mpr (by decide)) ?_
  refine zR_iast C eX1_addService_24 3 hW_g3 (by first | exact zok_vp hc (by decide) | exact vp_in_iff.mpr (by decide)) hW_s3 ?_
  refine zR_aload_n C eX1_addService_25 1 rfl rfl ?_
  refine zR_dup C eX1_addService_26 rfl ?_
  refine zR_get C fX1_33 eX1_addService_27 0 hW_g0 rfl ?_
  refine zR_iconst (v := 1) C eX1_addService_30 (by decide) ?_
  refine zR_iadd C eX1_addService_31 ?_
  refine zR_put C pX1_33 eX1_addService_32 0 hW_g0 (Nat.le_of_ble_eq_true rfl) hW_s0_4 ?_
  refine zR_aload_n C eX1_addService_35 1 rfl rfl ?_
  refine zR_iload_n C eX1_addService_36 0 rfl rfl ?_
  refine zR_iconst (v := 0) C eX1_addService_37 (by decide) ?_
  refine zR_iload_n C eX1_addService_38 2 rfl rfl ?_
  refine zR_i2l C eX1_addService_39 ?_
  refine zR_callVv C kX1_85 eX1_addService_40 (c_X1_book q _ _ _ _ (by exact zok_vp hc (by decide)) (vp_in_iff.mpr (by decide))) rfl 0 1 hW_g0 rfl rfl _ hW_c hW_n rfl (by decide) (by decide) (Nat.le_of_ble_eq_true rfl) (Nat.zero_le _) (Nat.zero_le _) hW_f hW_r ?_
  refine zR_iload_n C eX1_addService_43 0 rfl rfl ?_
  exact zR_iret C rfl rfl eX1_addService_44 (Nat.zero_le _) (Nat.zero_le _) ⟨rfl, rfl⟩
set_option maxHeartbeats 400000 in
set_option maxRecDepth 100000 in
theorem c_X1_doRelease {l : Launch} {g : zG} (q : Nat → Nat) (d : HD) (s : Int32) (z : Int32) (hs : vp_in s 8) : zM l g yX1_doRelease cX1_doRelease 3 none 2 0 0 [.ref (q 0), .int s, .int z] (hW g q d) (zE none (hW g q (h_dorel d s z))) := by
  refine zM_of (by decide +kernel) (Nat.le_of_ble_eq_true rfl) (fun x hl hn _ _ _ C => ?_)
  subst hl
  show zR x g _ (0, 0) 0 [(0, .ref (q 0)), (1, .int s), (2, .int z)] [] _
  refine zR_aload_n C eX1_doRelease_0 0 rfl rfl ?_
  refine zR_get C fX1_45 eX1_doRelease_1 0 hW_g0 rfl ?_
  refine zR_iload_n C eX1_doRelease_4 1 rfl rfl ?_
  refine zR_dup2 C eX1_doRelease_5 rfl rfl ?_
  refine zR_iald C eX1_doRelease_6 4 hW_g4 (by first | assumption | exact vp_in_iff.mpr (by decide)) ?_
  refine zR_iconst (v := 1) C eX1_doRelease_7 (by decide) ?_
  refine zR_iadd C eX1_doRelease_8 ?_
  refine zR_iast C eX1_doRelease_9 4 hW_g4 (by first | assumption | exact vp_in_iff.mpr (by decide)) hW_s4 ?_
  refine zR_aload_n C eX1_doRelease_10 0 rfl rfl ?_
  refine zR_iload_n C eX1_doRelease_11 1 rfl rfl ?_
  refine zR_iconst (v := 4) C eX1_doRelease_12 (by decide) ?_
  refine zR_iload_n C eX1_doRelease_13 2 rfl rfl ?_
  refine zR_i2l C eX1_doRelease_14 ?_
  refine zR_callVv C kX1_85 eX1_doRelease_15 (c_X1_book q _ _ _ _ hs (vp_in_iff.mpr (by decide))) rfl 0 1 hW_g0 rfl rfl _ hW_c hW_n rfl (by decide) (by decide) (Nat.le_of_ble_eq_true rfl) (Nat.zero_le _) (Nat.zero_le _) hW_f hW_r ?_
  exact zR_vret C rfl eX1_doRelease_18 (Nat.zero_le _) (Nat.zero_le _) ⟨rfl, rfl⟩
set_option maxHeartbeats 400000 in
set_option maxRecDepth 100000 in
theorem c_X1_refusalOfLoan {l : Launch} {g : zG} (q : Nat → Nat) (d : HD) (a : Int32) (b : Int32) (m : Int32) (ha : vp_in a 8) (hl : l_ok (h_lo d)) : zM l g yX1_refusalOfLoan cX1_refusalOfLoan 4 (some .int) 1 0 0 [.ref (q 0), .int a, .int b, .int m] (hW g q d) (zE (some (.int (h_refu d a b m))) (hW g q d)) := by
  refine zM_of (by decide +kernel) (Nat.le_of_ble_eq_true rfl) (fun x hl hn _ _ _ C => ?_)
  subst hl
  show zR x g _ (0, 0) 0 [(0, .ref (q 0)), (1, .int a), (2, .int b), (3, .int m)] [] _
  refine zR_aload_n C eX1_refusalOfLoan_0 0 rfl rfl ?_
  refine zR_iload_n C eX1_refusalOfLoan_1 1 rfl rfl ?_
  refine zR_callV1 C kX1_96 eX1_refusalOfLoan_2 (c_X1_isFrozen q _ _ ) rfl 0 1 hW_g0 rfl rfl _ hW_c hW_n rfl (by decide) (by decide) (Nat.le_of_ble_eq_true rfl) (Nat.zero_le _) (Nat.zero_le _) hW_f hW_r ?_
  refine zR_bfeq C eX1_refusalOfLoan_5 (fun h5 => ?_) (fun h5 => ?_)
  · skip
    refine zR_aload_n C eX1_refusalOfLoan_10 0 rfl rfl ?_
    refine zR_iload_n C eX1_refusalOfLoan_11 1 rfl rfl ?_
    refine zR_bipush (v := 8) C eX1_refusalOfLoan_12 (by decide) ?_
    refine zR_callV1 C kX1_92 eX1_refusalOfLoan_14 (c_X1_minutesOf q _ _ _ ha (vp_in_iff.mpr (by decide))) rfl 0 1 hW_g0 rfl rfl _ hW_c hW_n rfl (by decide) (by decide) (Nat.le_of_ble_eq_true rfl) (Nat.zero_le _) (Nat.zero_le _) hW_f hW_r ?_
    refine zR_iload_n C eX1_refusalOfLoan_17 3 rfl rfl ?_
    refine zR_i2l C eX1_refusalOfLoan_18 ?_
    refine zR_lsub C eX1_refusalOfLoan_19 ?_
    refine zR_aload_n C eX1_refusalOfLoan_20 0 rfl rfl ?_
    refine zR_iload_n C eX1_refusalOfLoan_21 1 rfl rfl ?_
    refine zR_callV1 C kX1_100 eX1_refusalOfLoan_22 (c_X1_thawLimit q _ _ ha) rfl 0 1 hW_g0 rfl rfl _ hW_c hW_n rfl (by decide) (by decide) (Nat.le_of_ble_eq_true rfl) (Nat.zero_le _) (Nat.zero_le _) hW_f hW_r ?_
    refine zR_i2l C eX1_refusalOfLoan_25 ?_
    refine zR_cifgt C eX1_refusalOfLoan_26 eX1_refusalOfLoan_27 (fun h26 => ?_) (fun h26 => ?_)
    · skip
      refine zR_aload_n C eX1_refusalOfLoan_32 0 rfl rfl ?_
      refine zR_get C fX1_61 eX1_refusalOfLoan_33 0 hW_g0 rfl ?_
      refine zR_aload_n C eX1_refusalOfLoan_36 0 rfl rfl ?_
      refine zR_get C fX1_61 eX1_refusalOfLoan_37 0 hW_g0 rfl ?_
      refine zR_get C fX1_104 eX1_refusalOfLoan_40 8 hW_g8 rfl ?_
      refine zR_iload_n C eX1_refusalOfLoan_43 2 rfl rfl ?_
      refine zR_callV1 C kX1_107 eX1_refusalOfLoan_44 (c_X2_countWithB (fun j => q (8 + j)) _ _ (by assumption)) rfl 8 2 hW_g8 rfl rfl _ hW_c8 hW_n8 rfl (by decide) (by decide) (Nat.le_of_ble_eq_true rfl) (Nat.zero_le _) (Nat.zero_le _) lW_f hW_r8o ?_
      refine zR_aload_n C eX1_refusalOfLoan_47 0 rfl rfl ?_
      refine zR_get C fX1_18 eX1_refusalOfLoan_48 0 hW_g0 rfl ?_
      refine zR_bipush (v := 6) C eX1_refusalOfLoan_51 (by decide) ?_
      refine zR_ialdK C eX1_refusalOfLoan_53 1 hW_g1 6 rfl (vp_in_iff.mpr (by decide)) ?_
      refine zR_icmp_lt C eX1_refusalOfLoan_54 (fun h54 => ?_) (fun h54 => ?_)
      · skip
        refine zR_iconst (v := 0) C eX1_refusalOfLoan_61 (by decide) ?_
        exact zR_iret C rfl rfl eX1_refusalOfLoan_62 (Nat.zero_le _) (Nat.zero_le _) ⟨(by first | (unfold h_refu; rw [if_neg h5, if_neg h26, if_pos h54]; first | done | rfl) | rfl | (simp only [h_refu, if_neg h5, if_neg h26, if_pos h54]; first | done | rfl)), (by first | (unfold h_refu; rw [if_neg h5, if_neg h26, if_pos h54]; first | done | rfl) | rfl | (simp only [h_refu, if_neg h5, if_neg h26, if_pos h54]; first | done | rfl))⟩
      · skip
        refine zR_iconst (v := 4) C eX1_refusalOfLoan_57 (by decide) ?_
        refine zR_goto C eX1_refusalOfLoan_58 ?_
        exact zR_iret C rfl rfl eX1_refusalOfLoan_62 (Nat.zero_le _) (Nat.zero_le _) ⟨(by first | (unfold h_refu; rw [if_neg h5, if_neg h26, if_neg h54]; first | done | rfl) | rfl | (simp only [h_refu, if_neg h5, if_neg h26, if_neg h54]; first | done | rfl)), (by first | (unfold h_refu; rw [if_neg h5, if_neg h26, if_neg h54]; first | done | rfl) | rfl | (simp only [h_refu, if_neg h5, if_neg h26, if_neg h54]; first | done | rfl))⟩
    · skip
      refine zR_iconst (v := 3) C eX1_refusalOfLoan_30 (by decide) ?_
      exact zR_iret C rfl rfl eX1_refusalOfLoan_31 (Nat.zero_le _) (Nat.zero_le _) ⟨(by first | (unfold h_refu; rw [if_neg h5, if_pos h26]; first | done | rfl) | rfl | (simp only [h_refu, if_neg h5, if_pos h26]; first | done | rfl)), (by first | (unfold h_refu; rw [if_neg h5, if_pos h26]; first | done | rfl) | rfl | (simp only [h_refu, if_neg h5, if_pos h26]; first | done | rfl))⟩
  · skip
    refine zR_iconst (v := 2) C eX1_refusalOfLoan_8 (by decide) ?_
    exact zR_iret C rfl rfl eX1_refusalOfLoan_9 (Nat.zero_le _) (Nat.zero_le _) ⟨(by first | (unfold h_refu; rw [if_pos h5]; first | done | rfl) | rfl | (simp only [h_refu, if_pos h5]; first | done | rfl)), (by first | (unfold h_refu; rw [if_pos h5]; first | done | rfl) | rfl | (simp only [h_refu, if_pos h5]; first | done | rfl))⟩
set_option maxHeartbeats 400000 in
set_option maxRecDepth 100000 in
theorem c_X1_addLoan {l : Launch} {g : zG} (q : Nat → Nat) (d : HD) (a : Int32) (b : Int32) (m : Int32) (w : Int32) (ha : vp_in a 8) (hb : vp_in b 8) (hl : vp_in (l_num (h_lo d)) 40) : zM l g yX1_addLoan cX1_addLoan 6 (some .int) 2 0 0 [.ref (q 0), .int a, .int b, .int m, .int w] (hW g q d) (zE (some (.int (l_num (h_lo d)))) (hW g q (h_lend d a b m w))) := by
  refine zM_of (by decide +kernel) (Nat.le_of_ble_eq_true rfl) (fun x hl hn _ _ _ C => ?_)
  subst hl
  show zR x g _ (0, 0) 0 [(0, .ref (q 0)), (1, .int a), (2, .int b), (3, .int m), (4, .int w)] [] _
  refine zR_aload_n C eX1_addLoan_0 0 rfl rfl ?_
  refine zR_iload_n C eX1_addLoan_1 1 rfl rfl ?_
  refine zR_iconst (v := 5) C eX1_addLoan_2 (by decide) ?_
  refine zR_iload_n C eX1_addLoan_3 3 rfl rfl ?_
  refine zR_i2l C eX1_addLoan_4 ?_
  refine zR_callVv C kX1_85 eX1_addLoan_5 (c_X1_book q _ _ _ _ ha (vp_in_iff.mpr (by decide))) rfl 0 1 hW_g0 rfl rfl _ hW_c hW_n rfl (by decide) (by decide) (Nat.le_of_ble_eq_true rfl) (Nat.zero_le _) (Nat.zero_le _) hW_f hW_r ?_
  refine zR_aload_n C eX1_addLoan_8 0 rfl rfl ?_
  refine zR_iload_n C eX1_addLoan_9 2 rfl rfl ?_
  refine zR_iconst (v := 1) C eX1_addLoan_10 (by decide) ?_
  refine zR_iload_n C eX1_addLoan_11 3 rfl rfl ?_
  refine zR_i2l C eX1_addLoan_12 ?_
  refine zR_callVv C kX1_85 eX1_addLoan_13 (c_X1_book q _ _ _ _ hb (vp_in_iff.mpr (by decide))) rfl 0 1 hW_g0 rfl rfl _ hW_c hW_n rfl (by decide) (by decide) (Nat.le_of_ble_eq_true rfl) (Nat.zero_le _) (Nat.zero_le _) hW_f hW_r ?_
  refine zR_iload_n C eX1_addLoan_16 3 rfl rfl ?_
  refine zR_iload_n C eX1_addLoan_17 3 rfl rfl ?_
  refine zR_aload_n C eX1_addLoan_18 0 rfl rfl ?_
  refine zR_get C fX1_18 eX1_addLoan_19 0 hW_g0 rfl ?_
  refine zR_iconst (v := 2) C eX1_addLoan_22 (by decide) ?_
  refine zR_ialdK C eX1_addLoan_23 1 hW_g1 2 rfl (vp_in_iff.mpr (by decide)) ?_
  refine zR_imul C eX1_addLoan_24 ?_
  refine zR_bipush (v := 100) C eX1_addLoan_25 (by decide) ?_
  refine zR_idiv C eX1_addLoan_27 (by decide) ?_
  refine zR_iadd C eX1_addLoan_28 ?_
  refine zR_istore (lv' := [(5, _), (0, _), (1, _), (2, _), (3, _), (4, _)]) C eX1_addLoan_29 (by rw [hn]; decide) rfl ?_
  refine zR_aload_n C eX1_addLoan_31 1 rfl rfl ?_
  refine zR_get C fX1_61 eX1_addLoan_32 0 hW_g0 rfl ?_
  refine zR_iload_n C eX1_addLoan_35 2 rfl rfl ?_
  refine zR_iload_n C eX1_addLoan_36 3 rfl rfl ?_
  refine zR_iload_n C eX1_addLoan_37 4 rfl rfl ?_
  refine zR_iload C eX1_addLoan_38 0 rfl ?_
  refine zR_aload_n C eX1_addLoan_40 1 rfl rfl ?_
  refine zR_get C fX1_27 eX1_addLoan_41 0 hW_g0 rfl ?_
  refine zR_iload C eX1_addLoan_44 5 rfl ?_
  refine zR_iadd C eX1_addLoan_46 ?_
  refine zR_callV1 C kX1_111 eX1_addLoan_47 (c_X2_add (fun j => q (8 + j)) _ _ _ _ _ _ (by rw [(h_book_k _ _ _ _).1, (h_book_k _ _ _ _).1]; exact hl)) rfl 8 2 hW_g8 rfl rfl _ hW_c8 hW_n8 rfl (by decide) (by decide) (Nat.le_of_ble_eq_true rfl) (Nat.zero_le _) (Nat.zero_le _) lW_f hW_r8 ?_
  exact zR_iret C rfl rfl eX1_addLoan_50 (Nat.zero_le _) (Nat.zero_le _) ⟨(by first | (rw [(h_book_k _ _ _ _).1, (h_book_k _ _ _ _).1]; done) | rfl), (by first | (rw [(h_book_k _ _ _ _).1, (h_book_k _ _ _ _).1]; done) | rfl)⟩
theorem h_paid_l (d : HD) (l : Nat) (m : Int64) (b : Int32) : l_len (h_lo (h_book (h_pay2 d l m) b 6 m)) l = l_len (h_lo d) l := by
  rw [(h_book_k _ _ _ _).1]; rfl
set_option maxHeartbeats 400000 in
set_option maxRecDepth 100000 in
theorem c_X1_payBack {l : Launch} {g : zG} (q : Nat → Nat) (d : HD) (l0 : Nat) (hl : l0 < 40) (hb : vp_in (l_bor (h_lo d) l0) 8) (hn2 : vp_in (l_len (h_lo d) l0) 8) : zM l g yX1_payBack cX1_payBack 5 none 2 0 0 [.ref (q 0), .int (nI l0)] (hW g q d) (zE none (hW g q (h_pay d l0))) := by
  refine zM_of (by decide +kernel) (Nat.le_of_ble_eq_true rfl) (fun x hl hn _ _ _ C => ?_)
  subst hl
  show zR x g _ (0, 0) 0 [(0, .ref (q 0)), (1, .int (nI l0))] [] _
  refine zR_aload_n C eX1_payBack_0 0 rfl rfl ?_
  refine zR_get C fX1_61 eX1_payBack_1 0 hW_g0 rfl ?_
  refine zR_get C fX1_104 eX1_payBack_4 8 hW_g8 rfl ?_
  refine zR_iload_n C eX1_payBack_7 1 rfl rfl ?_
  refine zR_ialdN C eX1_payBack_8 10 hW_g10 ⟨hl, by decide⟩ ?_
  refine zR_istore_n (lv' := [(2, _), (0, _), (1, _)]) C eX1_payBack_9 rfl (by rw [hn]; decide) rfl ?_
  refine zR_aload_n C eX1_payBack_10 1 rfl rfl ?_
  refine zR_get C fX1_61 eX1_payBack_11 0 hW_g0 rfl ?_
  refine zR_get C fX1_115 eX1_payBack_14 8 hW_g8 rfl ?_
  refine zR_iload_n C eX1_payBack_17 2 rfl rfl ?_
  refine zR_ialdN C eX1_payBack_18 12 hW_g12 ⟨hl, by decide⟩ ?_
  refine zR_i2l C eX1_payBack_19 ?_
  refine zR_aload_n C eX1_payBack_20 1 rfl rfl ?_
  refine zR_iload_n C eX1_payBack_21 0 rfl rfl ?_
  refine zR_bipush (v := 8) C eX1_payBack_22 (by decide) ?_
  refine zR_callV1 C kX1_92 eX1_payBack_24 (c_X1_minutesOf q _ _ _ (by exact hb) (vp_in_iff.mpr (by decide))) rfl 0 1 hW_g0 rfl rfl _ hW_c hW_n rfl (by decide) (by decide) (Nat.le_of_ble_eq_true rfl) (Nat.zero_le _) (Nat.zero_le _) hW_f hW_r ?_
  refine zR_mminl C kX1_118 eX1_payBack_27 (by decide) (Nat.le_of_ble_eq_true rfl) (Nat.zero_le _) (Nat.zero_le _) ?_
  refine zR_topl (b := h_paid d l0) rfl ?_
  refine zR_lstore_n (lv' := [(3, _), (2, _), (0, _), (1, _)]) C eX1_payBack_30 rfl (by rw [hn]; decide) rfl ?_
  refine zR_lload_n C eX1_payBack_31 0 rfl rfl ?_
  refine zR_lconst (v := 0) C eX1_payBack_32 (by decide) ?_
  refine zR_cifgt C eX1_payBack_33 eX1_payBack_34 (fun h33 => ?_) (fun h33 => ?_)
  · skip
    refine zR_aload_n C eX1_payBack_38 2 rfl rfl ?_
    refine zR_get C fX1_61 eX1_payBack_39 0 hW_g0 rfl ?_
    refine zR_get C fX1_115 eX1_payBack_42 8 hW_g8 rfl ?_
    refine zR_iload_n C eX1_payBack_45 3 rfl rfl ?_
    refine zR_dup2 C eX1_payBack_46 rfl rfl ?_
    refine zR_ialdN C eX1_payBack_47 12 hW_g12 ⟨hl, by decide⟩ ?_
    refine zR_lload_n C eX1_payBack_48 0 rfl rfl ?_
    refine zR_l2i C eX1_payBack_49 rfl ?_
    refine zR_isub C eX1_payBack_50 ?_
    refine zR_iastN C eX1_payBack_51 12 hW_g12 ⟨hl, by decide⟩ hW_s12 ?_
    refine zR_aload_n C eX1_payBack_52 2 rfl rfl ?_
    refine zR_iload_n C eX1_payBack_53 1 rfl rfl ?_
    refine zR_bipush (v := 6) C eX1_payBack_54 (by decide) ?_
    refine zR_lload_n C eX1_payBack_56 0 rfl rfl ?_
    refine zR_callVv C kX1_85 eX1_payBack_57 (c_X1_book q _ _ _ _ (by exact hb) (vp_in_iff.mpr (by decide))) rfl 0 1 hW_g0 rfl rfl _ hW_c hW_n rfl (by decide) (by decide) (Nat.le_of_ble_eq_true rfl) (Nat.zero_le _) (Nat.zero_le _) hW_f hW_r ?_
    refine zR_aload_n C eX1_payBack_60 2 rfl rfl ?_
    refine zR_aload_n C eX1_payBack_61 2 rfl rfl ?_
    refine zR_get C fX1_61 eX1_payBack_62 0 hW_g0 rfl ?_
    refine zR_get C fX1_124 eX1_payBack_65 8 hW_g8 rfl ?_
    refine zR_iload_n C eX1_payBack_68 3 rfl rfl ?_
    refine zR_ialdN C eX1_payBack_69 9 hW_g9 ⟨hl, by decide⟩ ?_
    refine zR_iconst (v := 2) C eX1_payBack_70 (by decide) ?_
    refine zR_lload_n C eX1_payBack_71 0 rfl rfl ?_
    refine zR_callVv C kX1_85 eX1_payBack_72 (c_X1_book q _ _ _ _ (by exact (h_paid_l d l0 _ _).symm ▸ hn2) (vp_in_iff.mpr (by decide))) rfl 0 1 hW_g0 rfl rfl _ hW_c hW_n rfl (by decide) (by decide) (Nat.le_of_ble_eq_true rfl) (Nat.zero_le _) (Nat.zero_le _) hW_f hW_r ?_
    exact zR_vret C rfl eX1_payBack_75 (Nat.zero_le _) (Nat.zero_le _) ⟨rfl, (by first | (unfold h_pay; rw [if_neg h33]; first | done | rfl) | rfl | (simp only [h_pay, if_neg h33]; first | done | rfl))⟩
  · skip
    exact zR_vret C rfl eX1_payBack_37 (Nat.zero_le _) (Nat.zero_le _) ⟨rfl, (by first | (unfold h_pay; rw [if_pos h33]; first | done | rfl) | rfl | (simp only [h_pay, if_pos h33]; first | done | rfl))⟩
