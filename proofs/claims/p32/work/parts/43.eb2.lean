/-! ErrorBudgets: the walks, second part. -/
set_option maxHeartbeats 400000 in
set_option maxRecDepth 100000 in
theorem c_X5_set {l : Launch} {g : zG} (q : Nat → Nat) (e : ED) (s : Int32) (v : Int32) (he : e_ok e) : zM l g yX5_set cX5_set 4 (some .int) 4 0 0 [.ref (q 0), .int s, .int v] (eW g q e) (zE (some (.int (e_set e s v).1)) (eW g q (e_set e s v).2)) := by
  refine zM_of (by decide +kernel) (Nat.le_of_ble_eq_true rfl) (fun x hl hn _ _ _ C => ?_)
  subst hl
  show zR x g _ (0, 0) 0 [(0, .ref (q 0)), (1, .int s), (2, .int v)] [] _
  refine zR_iload_n C eX5_set_0 1 rfl rfl ?_
  refine zR_iflt C eX5_set_1 (fun h1 => ?_) (fun h1 => ?_)
  · skip
    refine zR_bipush (v := -2) C eX5_set_27 (by decide) ?_
    exact zR_iret C rfl rfl eX5_set_29 (Nat.zero_le _) (Nat.zero_le _) ⟨(by first | (unfold e_set; rw [if_pos h1]; first | done | (dsimp only [e_fin]; done) | rfl) | rfl | (simp only [e_set, if_pos h1]; first | done | rfl)), (by first | (unfold e_set; rw [if_pos h1]; first | done | (dsimp only [e_fin]; done) | rfl) | rfl | (simp only [e_set, if_pos h1]; first | done | rfl))⟩
  · skip
    refine zR_iload_n C eX5_set_4 1 rfl rfl ?_
    refine zR_bipush (v := 8) C eX5_set_5 (by decide) ?_
    refine zR_icmp_ge C eX5_set_7 (fun h7 => ?_) (fun h7 => ?_)
    · skip
      refine zR_bipush (v := -2) C eX5_set_27 (by decide) ?_
      exact zR_iret C rfl rfl eX5_set_29 (Nat.zero_le _) (Nat.zero_le _) ⟨(by first | (unfold e_set; rw [if_neg h1, if_neg h7]; first | done | (dsimp only [e_fin]; done) | rfl) | rfl | (simp only [e_set, if_neg h1, if_neg h7]; first | done | rfl)), (by first | (unfold e_set; rw [if_neg h1, if_neg h7]; first | done | (dsimp only [e_fin]; done) | rfl) | rfl | (simp only [e_set, if_neg h1, if_neg h7]; first | done | rfl))⟩
    · skip
      refine zR_iload_n C eX5_set_10 2 rfl rfl ?_
      refine zR_glo C fsX5_45 eX5_set_11 ?_
      refine zR_iload_n C eX5_set_14 1 rfl rfl ?_
      refine zR_tld1 C eX5_set_15 (by exact vp_in8 (by assumption) (by assumption)) ?_
      refine zR_ghi C fsX5_49 eX5_set_16 ?_
      refine zR_iload_n C eX5_set_19 1 rfl rfl ?_
      refine zR_tld2 C eX5_set_20 (by exact vp_in8 (by assumption) (by assumption)) ?_
      refine zR_callS1 C kX5_52 eX5_set_21 (c_X5_isWithin _ _ _ ) rfl rfl (by decide) (by decide) (Nat.le_of_ble_eq_true rfl) (Nat.zero_le _) (Nat.zero_le _) ?_
      refine zR_bfne C eX5_set_24 (fun h24 => ?_) (fun h24 => ?_)
      · skip
        refine zR_aload_n C eX5_set_30 0 rfl rfl ?_
        refine zR_get C fX5_22 eX5_set_31 0 eW_g0 rfl ?_
        refine zR_aload_n C eX5_set_34 0 rfl rfl ?_
        refine zR_get C fX5_12 eX5_set_35 0 eW_g0 rfl ?_
        refine zR_callVv C kX5_56 eX5_set_38 (c_X0_prepare (fun j => q (43 + j)) _ (fun j => q (1 + j)) _ he.2.2.1 he.1) rfl 43 0 eW_g43 rfl rfl _ eW_cPn (zfrom_nd2 (by omega)) rfl (by decide) (by decide) (Nat.le_of_ble_eq_true rfl) (Nat.zero_le _) (Nat.zero_le _) yyW_f eW_rPn ?_
        refine zR_ws (eW g q (e_prep _)) rfl ?_
        refine zR_aload_n C eX5_set_41 0 rfl rfl ?_
        refine zR_get C fX5_12 eX5_set_42 0 eW_g0 rfl ?_
        refine zR_get C fX5_60 eX5_set_45 1 eW_g1 rfl ?_
        refine zR_iload_n C eX5_set_48 1 rfl rfl ?_
        refine zR_iald C eX5_set_49 2 eW_g2 (by exact vp_in8 (by assumption) (by assumption)) ?_
        refine zR_istore_n (lv' := [(3, _), (0, _), (1, _), (2, _)]) C eX5_set_50 rfl (by rw [hn]; decide) rfl ?_
        refine zR_aload_n C eX5_set_51 1 rfl rfl ?_
        refine zR_get C fX5_12 eX5_set_52 0 eW_g0 rfl ?_
        refine zR_get C fX5_60 eX5_set_55 1 eW_g1 rfl ?_
        refine zR_iload_n C eX5_set_58 2 rfl rfl ?_
        refine zR_iload_n C eX5_set_59 3 rfl rfl ?_
        refine zR_iast C eX5_set_60 2 eW_g2 (by exact vp_in8 (by assumption) (by assumption)) eW_s2 ?_
        refine zR_ws (eW g q (e_set1 (e_prep e) s v)) rfl ?_
        refine zR_aload_n C eX5_set_61 1 rfl rfl ?_
        refine zR_get C fX5_22 eX5_set_62 0 eW_g0 rfl ?_
        refine zR_iload_n C eX5_set_65 0 rfl rfl ?_
        refine zR_callV1 C kX5_63 eX5_set_66 (c_X0_keep (fun j => q (43 + j)) _ _ ) rfl 43 0 eW_g43 rfl rfl _ eW_c43 rfl rfl (by decide) (by decide) (Nat.le_of_ble_eq_true rfl) (Nat.zero_le _) (Nat.zero_le _) kW_f (eW_r43 (y_keep_st _ _)) ?_
        exact zR_iret C rfl rfl eX5_set_69 (Nat.zero_le _) (Nat.zero_le _) ⟨(by first | (unfold e_set; rw [if_neg h1, if_pos h7, if_pos h24]; first | done | (dsimp only [e_fin]; done) | rfl) | rfl | (simp only [e_set, if_neg h1, if_pos h7, if_pos h24]; first | done | rfl)), (by first | (unfold e_set; rw [if_neg h1, if_pos h7, if_pos h24]; first | done | (dsimp only [e_fin]; done) | rfl) | rfl | (simp only [e_set, if_neg h1, if_pos h7, if_pos h24]; first | done | rfl))⟩
      · skip
        refine zR_bipush (v := -2) C eX5_set_27 (by decide) ?_
        exact zR_iret C rfl rfl eX5_set_29 (Nat.zero_le _) (Nat.zero_le _) ⟨(by first | (unfold e_set; rw [if_neg h1, if_pos h7, if_neg h24]; first | done | (dsimp only [e_fin]; done) | rfl) | rfl | (simp only [e_set, if_neg h1, if_pos h7, if_neg h24]; first | done | rfl)), (by first | (unfold e_set; rw [if_neg h1, if_pos h7, if_neg h24]; first | done | (dsimp only [e_fin]; done) | rfl) | rfl | (simp only [e_set, if_neg h1, if_pos h7, if_neg h24]; first | done | rfl))⟩
set_option maxHeartbeats 400000 in
set_option maxRecDepth 100000 in
theorem c_X5_service {l : Launch} {g : zG} (q : Nat → Nat) (e : ED) (b : Int32) (he : e_ok e) : zM l g yX5_service cX5_service 2 (some .int) 4 0 0 [.ref (q 0), .int b] (eW g q e) (zE (some (.int (e_service e b).1)) (eW g q (e_service e b).2)) := by
  refine zM_of (by decide +kernel) (Nat.le_of_ble_eq_true rfl) (fun x hl hn _ _ _ C => ?_)
  subst hl
  show zR x g _ (0, 0) 0 [(0, .ref (q 0)), (1, .int b)] [] _
  refine zR_iload_n C eX5_service_0 1 rfl rfl ?_
  refine zR_bipush (v := 10) C eX5_service_1 (by decide) ?_
  refine zR_sipush (v := 10000) C eX5_service_3 (by decide) ?_
  refine zR_callS1 C kX5_52 eX5_service_6 (c_X5_isWithin _ _ _ ) rfl rfl (by decide) (by decide) (Nat.le_of_ble_eq_true rfl) (Nat.zero_le _) (Nat.zero_le _) ?_
  refine zR_bfne C eX5_service_9 (fun h9 => ?_) (fun h9 => ?_)
  · skip
    refine zR_aload_n C eX5_service_15 0 rfl rfl ?_
    refine zR_get C fX5_12 eX5_service_16 0 eW_g0 rfl ?_
    refine zR_get C fX5_67 eX5_service_19 1 eW_g1 rfl ?_
    refine zR_bipush (v := 8) C eX5_service_22 (by decide) ?_
    refine zR_icmp_lt C eX5_service_24 (fun h24 => ?_) (fun h24 => ?_)
    · skip
      refine zR_aload_n C eX5_service_30 0 rfl rfl ?_
      refine zR_get C fX5_22 eX5_service_31 0 eW_g0 rfl ?_
      refine zR_aload_n C eX5_service_34 0 rfl rfl ?_
      refine zR_get C fX5_12 eX5_service_35 0 eW_g0 rfl ?_
      refine zR_callVv C kX5_56 eX5_service_38 (c_X0_prepare (fun j => q (43 + j)) _ (fun j => q (1 + j)) _ he.2.2.1 he.1) rfl 43 0 eW_g43 rfl rfl _ eW_cPn (zfrom_nd2 (by omega)) rfl (by decide) (by decide) (Nat.le_of_ble_eq_true rfl) (Nat.zero_le _) (Nat.zero_le _) yyW_f eW_rPn ?_
      refine zR_ws (eW g q (e_prep _)) rfl ?_
      refine zR_aload_n C eX5_service_41 0 rfl rfl ?_
      refine zR_get C fX5_22 eX5_service_42 0 eW_g0 rfl ?_
      refine zR_aload_n C eX5_service_45 0 rfl rfl ?_
      refine zR_get C fX5_12 eX5_service_46 0 eW_g0 rfl ?_
      refine zR_iload_n C eX5_service_49 1 rfl rfl ?_
      refine zR_callV1 C kX5_70 eX5_service_50 (c_X1_addService (fun j => q (1 + j)) _ _ (by exact zok_less (m := 7) he.1.1 (show h_cnt (e_now e) < 8 by assumption) (by decide) (by decide))) rfl 1 1 eW_g1 rfl rfl _ eW_c1 eW_n1 rfl (by decide) (by decide) (Nat.le_of_ble_eq_true rfl) (Nat.zero_le _) (Nat.zero_le _) hW_f eW_r1 ?_
      refine zR_callV1 C kX5_63 eX5_service_53 (c_X0_keep (fun j => q (43 + j)) _ _ ) rfl 43 0 eW_g43 rfl rfl _ eW_c43 rfl rfl (by decide) (by decide) (Nat.le_of_ble_eq_true rfl) (Nat.zero_le _) (Nat.zero_le _) kW_f (eW_r43 (y_keep_st _ _)) ?_
      exact zR_iret C rfl rfl eX5_service_56 (Nat.zero_le _) (Nat.zero_le _) ⟨(by first | (unfold e_service; rw [if_pos h9, if_pos h24]; first | done | (dsimp only [e_fin]; done) | rfl) | rfl | (simp only [e_service, if_pos h9, if_pos h24]; first | done | rfl)), (by first | (unfold e_service; rw [if_pos h9, if_pos h24]; first | done | (dsimp only [e_fin]; done) | rfl) | rfl | (simp only [e_service, if_pos h9, if_pos h24]; first | done | rfl))⟩
    · skip
      refine zR_bipush (v := -4) C eX5_service_27 (by decide) ?_
      exact zR_iret C rfl rfl eX5_service_29 (Nat.zero_le _) (Nat.zero_le _) ⟨(by first | (unfold e_service; rw [if_pos h9, if_neg h24]; first | done | (dsimp only [e_fin]; done) | rfl) | rfl | (simp only [e_service, if_pos h9, if_neg h24]; first | done | rfl)), (by first | (unfold e_service; rw [if_pos h9, if_neg h24]; first | done | (dsimp only [e_fin]; done) | rfl) | rfl | (simp only [e_service, if_pos h9, if_neg h24]; first | done | rfl))⟩
  · skip
    refine zR_bipush (v := -2) C eX5_service_12 (by decide) ?_
    exact zR_iret C rfl rfl eX5_service_14 (Nat.zero_le _) (Nat.zero_le _) ⟨(by first | (unfold e_service; rw [if_neg h9]; first | done | (dsimp only [e_fin]; done) | rfl) | rfl | (simp only [e_service, if_neg h9]; first | done | rfl)), (by first | (unfold e_service; rw [if_neg h9]; first | done | (dsimp only [e_fin]; done) | rfl) | rfl | (simp only [e_service, if_neg h9]; first | done | rfl))⟩
set_option maxHeartbeats 400000 in
set_option maxRecDepth 100000 in
theorem c_X5_budget {l : Launch} {g : zG} (q : Nat → Nat) (e : ED) (s : Int32) (b : Int32) (he : e_ok e) : zM l g yX5_budget cX5_budget 4 (some .int) 4 0 0 [.ref (q 0), .int s, .int b] (eW g q e) (zE (some (.int (e_budget e s b).1)) (eW g q (e_budget e s b).2)) := by
  refine zM_of (by decide +kernel) (Nat.le_of_ble_eq_true rfl) (fun x hl hn _ _ _ C => ?_)
  subst hl
  show zR x g _ (0, 0) 0 [(0, .ref (q 0)), (1, .int s), (2, .int b)] [] _
  refine zR_aload_n C eX5_budget_0 0 rfl rfl ?_
  refine zR_get C fX5_12 eX5_budget_1 0 eW_g0 rfl ?_
  refine zR_iload_n C eX5_budget_4 1 rfl rfl ?_
  refine zR_callV1 C kX5_73 eX5_budget_5 (c_X1_hasService (fun j => q (1 + j)) _ _ ) rfl 1 1 eW_g1 rfl rfl _ eW_c1 eW_n1 rfl (by decide) (by decide) (Nat.le_of_ble_eq_true rfl) (Nat.zero_le _) (Nat.zero_le _) hW_f eW_r1o ?_
  refine zR_bfne C eX5_budget_8 (fun h8 => ?_) (fun h8 => ?_)
  · skip
    refine zR_iload_n C eX5_budget_13 2 rfl rfl ?_
    refine zR_bipush (v := 10) C eX5_budget_14 (by decide) ?_
    refine zR_sipush (v := 10000) C eX5_budget_16 (by decide) ?_
    refine zR_callS1 C kX5_52 eX5_budget_19 (c_X5_isWithin _ _ _ ) rfl rfl (by decide) (by decide) (Nat.le_of_ble_eq_true rfl) (Nat.zero_le _) (Nat.zero_le _) ?_
    refine zR_bfne C eX5_budget_22 (fun h22 => ?_) (fun h22 => ?_)
    · skip
      refine zR_aload_n C eX5_budget_28 0 rfl rfl ?_
      refine zR_get C fX5_22 eX5_budget_29 0 eW_g0 rfl ?_
      refine zR_aload_n C eX5_budget_32 0 rfl rfl ?_
      refine zR_get C fX5_12 eX5_budget_33 0 eW_g0 rfl ?_
      refine zR_callVv C kX5_56 eX5_budget_36 (c_X0_prepare (fun j => q (43 + j)) _ (fun j => q (1 + j)) _ he.2.2.1 he.1) rfl 43 0 eW_g43 rfl rfl _ eW_cPn (zfrom_nd2 (by omega)) rfl (by decide) (by decide) (Nat.le_of_ble_eq_true rfl) (Nat.zero_le _) (Nat.zero_le _) yyW_f eW_rPn ?_
      refine zR_ws (eW g q (e_prep _)) rfl ?_
      refine zR_aload_n C eX5_budget_39 0 rfl rfl ?_
      refine zR_get C fX5_12 eX5_budget_40 0 eW_g0 rfl ?_
      refine zR_get C fX5_77 eX5_budget_43 1 eW_g1 rfl ?_
      refine zR_iload_n C eX5_budget_46 1 rfl rfl ?_
      refine zR_iald C eX5_budget_47 3 eW_g3 (by first | assumption | exact (h_has_in (by assumption) he.1.1).2.2 | exact vp_in_iff.mpr (by decide)) ?_
      refine zR_istore_n (lv' := [(3, _), (0, _), (1, _), (2, _)]) C eX5_budget_48 rfl (by rw [hn]; decide) rfl ?_
      refine zR_aload_n C eX5_budget_49 1 rfl rfl ?_
      refine zR_get C fX5_12 eX5_budget_50 0 eW_g0 rfl ?_
      refine zR_get C fX5_77 eX5_budget_53 1 eW_g1 rfl ?_
      refine zR_iload_n C eX5_budget_56 2 rfl rfl ?_
      refine zR_iload_n C eX5_budget_57 3 rfl rfl ?_
      refine zR_iast C eX5_budget_58 3 eW_g3 (by first | assumption | exact (h_has_in (by assumption) he.1.1).2.2 | exact vp_in_iff.mpr (by decide)) eW_s3 ?_
      refine zR_ws (eW g q (e_bud1 (e_prep e) s b)) rfl ?_
      refine zR_aload_n C eX5_budget_59 1 rfl rfl ?_
      refine zR_get C fX5_22 eX5_budget_60 0 eW_g0 rfl ?_
      refine zR_iload_n C eX5_budget_63 0 rfl rfl ?_
      refine zR_callV1 C kX5_63 eX5_budget_64 (c_X0_keep (fun j => q (43 + j)) _ _ ) rfl 43 0 eW_g43 rfl rfl _ eW_c43 rfl rfl (by decide) (by decide) (Nat.le_of_ble_eq_true rfl) (Nat.zero_le _) (Nat.zero_le _) kW_f (eW_r43 (y_keep_st _ _)) ?_
      exact zR_iret C rfl rfl eX5_budget_67 (Nat.zero_le _) (Nat.zero_le _) ⟨(by first | (unfold e_budget; rw [if_pos h8, if_pos h22]; first | done | (dsimp only [e_fin]; done) | rfl) | rfl | (simp only [e_budget, if_pos h8, if_pos h22]; first | done | rfl)), (by first | (unfold e_budget; rw [if_pos h8, if_pos h22]; first | done | (dsimp only [e_fin]; done) | rfl) | rfl | (simp only [e_budget, if_pos h8, if_pos h22]; first | done | rfl))⟩
    · skip
      refine zR_bipush (v := -2) C eX5_budget_25 (by decide) ?_
      exact zR_iret C rfl rfl eX5_budget_27 (Nat.zero_le _) (Nat.zero_le _) ⟨(by first | (unfold e_budget; rw [if_pos h8, if_neg h22]; first | done | (dsimp only [e_fin]; done) | rfl) | rfl | (simp only [e_budget, if_pos h8, if_neg h22]; first | done | rfl)), (by first | (unfold e_budget; rw [if_pos h8, if_neg h22]; first | done | (dsimp only [e_fin]; done) | rfl) | rfl | (simp only [e_budget, if_pos h8, if_neg h22]; first | done | rfl))⟩
  · skip
    refine zR_iconst (v := -1) C eX5_budget_11 (by decide) ?_
    exact zR_iret C rfl rfl eX5_budget_12 (Nat.zero_le _) (Nat.zero_le _) ⟨(by first | (unfold e_budget; rw [if_neg h8]; first | done | (dsimp only [e_fin]; done) | rfl) | rfl | (simp only [e_budget, if_neg h8]; first | done | rfl)), (by first | (unfold e_budget; rw [if_neg h8]; first | done | (dsimp only [e_fin]; done) | rfl) | rfl | (simp only [e_budget, if_neg h8]; first | done | rfl))⟩
set_option maxHeartbeats 400000 in
set_option maxRecDepth 100000 in
theorem c_X5_outage {l : Launch} {g : zG} (q : Nat → Nat) (e : ED) (s : Int32) (m : Int32) (h : Int32) (he : e_ok e) : zM l g yX5_outage cX5_outage 4 (some .int) 4 0 0 [.ref (q 0), .int s, .int m, .int h] (eW g q e) (zE (some (.int (e_outage e s m h).1)) (eW g q (e_outage e s m h).2)) := by
  refine zM_of (by decide +kernel) (Nat.le_of_ble_eq_true rfl) (fun x hl hn _ _ _ C => ?_)
  subst hl
  show zR x g _ (0, 0) 0 [(0, .ref (q 0)), (1, .int s), (2, .int m), (3, .int h)] [] _
  refine zR_aload_n C eX5_outage_0 0 rfl rfl ?_
  refine zR_get C fX5_22 eX5_outage_1 0 eW_g0 rfl ?_
  refine zR_aload_n C eX5_outage_4 0 rfl rfl ?_
  refine zR_get C fX5_12 eX5_outage_5 0 eW_g0 rfl ?_
  refine zR_callVv C kX5_56 eX5_outage_8 (c_X0_prepare (fun j => q (43 + j)) _ (fun j => q (1 + j)) _ he.2.2.1 he.1) rfl 43 0 eW_g43 rfl rfl _ eW_cPn (zfrom_nd2 (by omega)) rfl (by decide) (by decide) (Nat.le_of_ble_eq_true rfl) (Nat.zero_le _) (Nat.zero_le _) yyW_f eW_rPn ?_
  refine zR_ws (eW g q (e_prep _)) rfl ?_
  refine zR_aload_n C eX5_outage_11 0 rfl rfl ?_
  refine zR_get C fX5_22 eX5_outage_12 0 eW_g0 rfl ?_
  refine zR_aload_n C eX5_outage_15 0 rfl rfl ?_
  refine zR_iload_n C eX5_outage_16 1 rfl rfl ?_
  refine zR_iload_n C eX5_outage_17 2 rfl rfl ?_
  refine zR_iload_n C eX5_outage_18 3 rfl rfl ?_
  refine zR_callV1 C kX5_80 eX5_outage_19 (c_X5_sufferOutage q _ _ _ _ (by exact (e_prep_ok he))) rfl 0 5 eW_g0 rfl rfl _ eW_call eW_nall rfl (by decide) (by decide) (Nat.le_of_ble_eq_true rfl) (Nat.zero_le _) (Nat.zero_le _) eW_f eW_rall ?_
  refine zR_callV1 C kX5_63 eX5_outage_22 (c_X0_keep (fun j => q (43 + j)) _ _ ) rfl 43 0 eW_g43 rfl rfl _ eW_c43 rfl rfl (by decide) (by decide) (Nat.le_of_ble_eq_true rfl) (Nat.zero_le _) (Nat.zero_le _) kW_f (eW_r43 (y_keep_st _ _)) ?_
  exact zR_iret C rfl rfl eX5_outage_25 (Nat.zero_le _) (Nat.zero_le _) ⟨rfl, rfl⟩
set_option maxHeartbeats 400000 in
set_option maxRecDepth 100000 in
theorem c_X5_release {l : Launch} {g : zG} (q : Nat → Nat) (e : ED) (s : Int32) (z : Int32) (x0 : Int32) (he : e_ok e) : zM l g yX5_release cX5_release 4 (some .int) 4 0 0 [.ref (q 0), .int s, .int z, .int x0] (eW g q e) (zE (some (.int (e_release e s z x0).1)) (eW g q (e_release e s z x0).2)) := by
  refine zM_of (by decide +kernel) (Nat.le_of_ble_eq_true rfl) (fun x hl hn _ _ _ C => ?_)
  subst hl
  show zR x g _ (0, 0) 0 [(0, .ref (q 0)), (1, .int s), (2, .int z), (3, .int x0)] [] _
  refine zR_aload_n C eX5_release_0 0 rfl rfl ?_
  refine zR_get C fX5_22 eX5_release_1 0 eW_g0 rfl ?_
  refine zR_aload_n C eX5_release_4 0 rfl rfl ?_
  refine zR_get C fX5_12 eX5_release_5 0 eW_g0 rfl ?_
  refine zR_callVv C kX5_56 eX5_release_8 (c_X0_prepare (fun j => q (43 + j)) _ (fun j => q (1 + j)) _ he.2.2.1 he.1) rfl 43 0 eW_g43 rfl rfl _ eW_cPn (zfrom_nd2 (by omega)) rfl (by decide) (by decide) (Nat.le_of_ble_eq_true rfl) (Nat.zero_le _) (Nat.zero_le _) yyW_f eW_rPn ?_
  refine zR_ws (eW g q (e_prep _)) rfl ?_
  refine zR_aload_n C eX5_release_11 0 rfl rfl ?_
  refine zR_get C fX5_22 eX5_release_12 0 eW_g0 rfl ?_
  refine zR_aload_n C eX5_release_15 0 rfl rfl ?_
  refine zR_iload_n C eX5_release_16 1 rfl rfl ?_
  refine zR_iload_n C eX5_release_17 2 rfl rfl ?_
  refine zR_iload_n C eX5_release_18 3 rfl rfl ?_
  refine zR_callV1 C kX5_84 eX5_release_19 (c_X5_tryRelease q _ _ _ _ (by exact (e_prep_ok he))) rfl 0 5 eW_g0 rfl rfl _ eW_call eW_nall rfl (by decide) (by decide) (Nat.le_of_ble_eq_true rfl) (Nat.zero_le _) (Nat.zero_le _) eW_f eW_rall ?_
  refine zR_callV1 C kX5_63 eX5_release_22 (c_X0_keep (fun j => q (43 + j)) _ _ ) rfl 43 0 eW_g43 rfl rfl _ eW_c43 rfl rfl (by decide) (by decide) (Nat.le_of_ble_eq_true rfl) (Nat.zero_le _) (Nat.zero_le _) kW_f (eW_r43 (y_keep_st _ _)) ?_
  exact zR_iret C rfl rfl eX5_release_25 (Nat.zero_le _) (Nat.zero_le _) ⟨rfl, rfl⟩
set_option maxHeartbeats 400000 in
set_option maxRecDepth 100000 in
theorem c_X5_lend {l : Launch} {g : zG} (q : Nat → Nat) (e : ED) (a : Int32) (b : Int32) (m : Int32) (w : Int32) (he : e_ok e) : zM l g yX5_lend cX5_lend 5 (some .int) 4 0 0 [.ref (q 0), .int a, .int b, .int m, .int w] (eW g q e) (zE (some (.int (e_lend e a b m w).1)) (eW g q (e_lend e a b m w).2)) := by
  refine zM_of (by decide +kernel) (Nat.le_of_ble_eq_true rfl) (fun x hl hn _ _ _ C => ?_)
  subst hl
  show zR x g _ (0, 0) 0 [(0, .ref (q 0)), (1, .int a), (2, .int b), (3, .int m), (4, .int w)] [] _
  refine zR_aload_n C eX5_lend_0 0 rfl rfl ?_
  refine zR_get C fX5_22 eX5_lend_1 0 eW_g0 rfl ?_
  refine zR_aload_n C eX5_lend_4 0 rfl rfl ?_
  refine zR_get C fX5_12 eX5_lend_5 0 eW_g0 rfl ?_
  refine zR_callVv C kX5_56 eX5_lend_8 (c_X0_prepare (fun j => q (43 + j)) _ (fun j => q (1 + j)) _ he.2.2.1 he.1) rfl 43 0 eW_g43 rfl rfl _ eW_cPn (zfrom_nd2 (by omega)) rfl (by decide) (by decide) (Nat.le_of_ble_eq_true rfl) (Nat.zero_le _) (Nat.zero_le _) yyW_f eW_rPn ?_
  refine zR_ws (eW g q (e_prep _)) rfl ?_
  refine zR_aload_n C eX5_lend_11 0 rfl rfl ?_
  refine zR_get C fX5_22 eX5_lend_12 0 eW_g0 rfl ?_
  refine zR_aload_n C eX5_lend_15 0 rfl rfl ?_
  refine zR_iload_n C eX5_lend_16 1 rfl rfl ?_
  refine zR_iload_n C eX5_lend_17 2 rfl rfl ?_
  refine zR_iload_n C eX5_lend_18 3 rfl rfl ?_
  refine zR_iload C eX5_lend_19 4 rfl ?_
  refine zR_callV1 C kX5_87 eX5_lend_21 (c_X5_tryLoan q _ _ _ _ _ (by exact (e_prep_ok he))) rfl 0 5 eW_g0 rfl rfl _ eW_call eW_nall rfl (by decide) (by decide) (Nat.le_of_ble_eq_true rfl) (Nat.zero_le _) (Nat.zero_le _) eW_f eW_rall ?_
  refine zR_callV1 C kX5_63 eX5_lend_24 (c_X0_keep (fun j => q (43 + j)) _ _ ) rfl 43 0 eW_g43 rfl rfl _ eW_c43 rfl rfl (by decide) (by decide) (Nat.le_of_ble_eq_true rfl) (Nat.zero_le _) (Nat.zero_le _) kW_f (eW_r43 (y_keep_st _ _)) ?_
  exact zR_iret C rfl rfl eX5_lend_27 (Nat.zero_le _) (Nat.zero_le _) ⟨rfl, rfl⟩
set_option maxHeartbeats 400000 in
set_option maxRecDepth 100000 in
theorem c_X5_plan {l : Launch} {g : zG} (q : Nat → Nat) (e : ED) (s : Int32) (t : Int32) (z : Int32) (p : Int32) (he : e_ok e) : zM l g yX5_plan cX5_plan 5 (some .int) 4 0 0 [.ref (q 0), .int s, .int t, .int z, .int p] (eW g q e) (zE (some (.int (e_plan e s t z p).1)) (eW g q (e_plan e s t z p).2)) := by
  refine zM_of (by decide +kernel) (Nat.le_of_ble_eq_true rfl) (fun x hl hn _ _ _ C => ?_)
  subst hl
  show zR x g _ (0, 0) 0 [(0, .ref (q 0)), (1, .int s), (2, .int t), (3, .int z), (4, .int p)] [] _
  refine zR_aload_n C eX5_plan_0 0 rfl rfl ?_
  refine zR_get C fX5_22 eX5_plan_1 0 eW_g0 rfl ?_
  refine zR_aload_n C eX5_plan_4 0 rfl rfl ?_
  refine zR_get C fX5_12 eX5_plan_5 0 eW_g0 rfl ?_
  refine zR_callVv C kX5_56 eX5_plan_8 (c_X0_prepare (fun j => q (43 + j)) _ (fun j => q (1 + j)) _ he.2.2.1 he.1) rfl 43 0 eW_g43 rfl rfl _ eW_cPn (zfrom_nd2 (by omega)) rfl (by decide) (by decide) (Nat.le_of_ble_eq_true rfl) (Nat.zero_le _) (Nat.zero_le _) yyW_f eW_rPn ?_
  refine zR_ws (eW g q (e_prep _)) rfl ?_
  refine zR_aload_n C eX5_plan_11 0 rfl rfl ?_
  refine zR_get C fX5_22 eX5_plan_12 0 eW_g0 rfl ?_
  refine zR_aload_n C eX5_plan_15 0 rfl rfl ?_
  refine zR_iload_n C eX5_plan_16 1 rfl rfl ?_
  refine zR_iload_n C eX5_plan_17 2 rfl rfl ?_
  refine zR_iload_n C eX5_plan_18 3 rfl rfl ?_
  refine zR_iload C eX5_plan_19 4 rfl ?_
  refine zR_callV1 C kX5_110 eX5_plan_21 (c_X5_addPlan q _ _ _ _ _ (by exact (e_prep_ok he))) rfl 0 5 eW_g0 rfl rfl _ eW_call eW_nall rfl (by decide) (by decide) (Nat.le_of_ble_eq_true rfl) (Nat.zero_le _) (Nat.zero_le _) eW_f eW_rall ?_
  refine zR_callV1 C kX5_63 eX5_plan_24 (c_X0_keep (fun j => q (43 + j)) _ _ ) rfl 43 0 eW_g43 rfl rfl _ eW_c43 rfl rfl (by decide) (by decide) (Nat.le_of_ble_eq_true rfl) (Nat.zero_le _) (Nat.zero_le _) kW_f (eW_r43 (y_keep_st _ _)) ?_
  exact zR_iret C rfl rfl eX5_plan_27 (Nat.zero_le _) (Nat.zero_le _) ⟨rfl, rfl⟩
set_option maxHeartbeats 400000 in
set_option maxRecDepth 100000 in
theorem c_X5_drop {l : Launch} {g : zG} (q : Nat → Nat) (e : ED) (p : Int32) (he : e_ok e) : zM l g yX5_drop cX5_drop 2 (some .int) 4 0 0 [.ref (q 0), .int p] (eW g q e) (zE (some (.int (e_drop e p).1)) (eW g q (e_drop e p).2)) := by
  refine zM_of (by decide +kernel) (Nat.le_of_ble_eq_true rfl) (fun x hl hn _ _ _ C => ?_)
  subst hl
  show zR x g _ (0, 0) 0 [(0, .ref (q 0)), (1, .int p)] [] _
  refine zR_aload_n C eX5_drop_0 0 rfl rfl ?_
  refine zR_get C fX5_22 eX5_drop_1 0 eW_g0 rfl ?_
  refine zR_aload_n C eX5_drop_4 0 rfl rfl ?_
  refine zR_get C fX5_12 eX5_drop_5 0 eW_g0 rfl ?_
  refine zR_callVv C kX5_56 eX5_drop_8 (c_X0_prepare (fun j => q (43 + j)) _ (fun j => q (1 + j)) _ he.2.2.1 he.1) rfl 43 0 eW_g43 rfl rfl _ eW_cPn (zfrom_nd2 (by omega)) rfl (by decide) (by decide) (Nat.le_of_ble_eq_true rfl) (Nat.zero_le _) (Nat.zero_le _) yyW_f eW_rPn ?_
  refine zR_ws (eW g q (e_prep _)) rfl ?_
  refine zR_aload_n C eX5_drop_11 0 rfl rfl ?_
  refine zR_get C fX5_22 eX5_drop_12 0 eW_g0 rfl ?_
  refine zR_aload_n C eX5_drop_15 0 rfl rfl ?_
  refine zR_iload_n C eX5_drop_16 1 rfl rfl ?_
  refine zR_callV1 C kX5_113 eX5_drop_17 (c_X5_removePlan q _ _ (by exact (e_prep_ok he))) rfl 0 5 eW_g0 rfl rfl _ eW_call eW_nall rfl (by decide) (by decide) (Nat.le_of_ble_eq_true rfl) (Nat.zero_le _) (Nat.zero_le _) eW_f eW_rall ?_
  refine zR_callV1 C kX5_63 eX5_drop_20 (c_X0_keep (fun j => q (43 + j)) _ _ ) rfl 43 0 eW_g43 rfl rfl _ eW_c43 rfl rfl (by decide) (by decide) (Nat.le_of_ble_eq_true rfl) (Nat.zero_le _) (Nat.zero_le _) kW_f (eW_r43 (y_keep_st _ _)) ?_
  exact zR_iret C rfl rfl eX5_drop_23 (Nat.zero_le _) (Nat.zero_le _) ⟨rfl, rfl⟩
set_option maxHeartbeats 400000 in
set_option maxRecDepth 100000 in
theorem c_X5_hours {l : Launch} {g : zG} (q : Nat → Nat) (e : ED) (k : Int32) (he : e_ok e) : zM l g yX5_hours cX5_hours 2 (some .int) 5 0 0 [.ref (q 0), .int k] (eW g q e) (zE (some (.int (e_hours e k).1)) (eW g q (e_hours e k).2)) := by
  refine zM_of (by decide +kernel) (Nat.le_of_ble_eq_true rfl) (fun x hl hn _ _ _ C => ?_)
  subst hl
  show zR x g _ (0, 0) 0 [(0, .ref (q 0)), (1, .int k)] [] _
  refine zR_aload_n C eX5_hours_0 0 rfl rfl ?_
  refine zR_get C fX5_22 eX5_hours_1 0 eW_g0 rfl ?_
  refine zR_aload_n C eX5_hours_4 0 rfl rfl ?_
  refine zR_get C fX5_12 eX5_hours_5 0 eW_g0 rfl ?_
  refine zR_callVv C kX5_56 eX5_hours_8 (c_X0_prepare (fun j => q (43 + j)) _ (fun j => q (1 + j)) _ he.2.2.1 he.1) rfl 43 0 eW_g43 rfl rfl _ eW_cPn (zfrom_nd2 (by omega)) rfl (by decide) (by decide) (Nat.le_of_ble_eq_true rfl) (Nat.zero_le _) (Nat.zero_le _) yyW_f eW_rPn ?_
  refine zR_ws (eW g q (e_prep _)) rfl ?_
  refine zR_aload_n C eX5_hours_11 0 rfl rfl ?_
  refine zR_get C fX5_22 eX5_hours_12 0 eW_g0 rfl ?_
  refine zR_aload_n C eX5_hours_15 0 rfl rfl ?_
  refine zR_get C fX5_12 eX5_hours_16 0 eW_g0 rfl ?_
  refine zR_iload_n C eX5_hours_19 1 rfl rfl ?_
  refine zR_callV1 C kX5_116 eX5_hours_20 (c_X1_letPass (fun j => q (1 + j)) _ _ (by exact (e_prep_ok he).1)) rfl 1 1 eW_g1 rfl rfl _ eW_c1 eW_n1 rfl (by decide) (by decide) (Nat.le_of_ble_eq_true rfl) (Nat.zero_le _) (Nat.zero_le _) hW_f eW_r1 ?_
  refine zR_callV1 C kX5_63 eX5_hours_23 (c_X0_keep (fun j => q (43 + j)) _ _ ) rfl 43 0 eW_g43 rfl rfl _ eW_c43 rfl rfl (by decide) (by decide) (Nat.le_of_ble_eq_true rfl) (Nat.zero_le _) (Nat.zero_le _) kW_f (eW_r43 (y_keep_st _ _)) ?_
  exact zR_iret C rfl rfl eX5_hours_26 (Nat.zero_le _) (Nat.zero_le _) ⟨rfl, rfl⟩
set_option maxHeartbeats 400000 in
set_option maxRecDepth 100000 in
theorem c_X5_repay {l : Launch} {g : zG} (q : Nat → Nat) (e : ED) (l0 : Int32) (he : e_ok e) : zM l g yX5_repay cX5_repay 3 (some .int) 4 0 0 [.ref (q 0), .int l0] (eW g q e) (zE (some (.int (e_repay e l0).1)) (eW g q (e_repay e l0).2)) := by
  refine zM_of (by decide +kernel) (Nat.le_of_ble_eq_true rfl) (fun x hl hn _ _ _ C => ?_)
  subst hl
  show zR x g _ (0, 0) 0 [(0, .ref (q 0)), (1, .int l0)] [] _
  refine zR_aload_n C eX5_repay_0 0 rfl rfl ?_
  refine zR_get C fX5_12 eX5_repay_1 0 eW_g0 rfl ?_
  refine zR_get C fX5_91 eX5_repay_4 1 eW_g1 rfl ?_
  refine zR_iload_n C eX5_repay_7 1 rfl rfl ?_
  refine zR_callV1 C kX5_95 eX5_repay_8 (c_X2_has (fun j => (fun j => q (1 + j)) (8 + j)) _ _ ) rfl 9 2 eW_g9 rfl rfl _ eW_c9 eW_n9 rfl (by decide) (by decide) (Nat.le_of_ble_eq_true rfl) (Nat.zero_le _) (Nat.zero_le _) lW_f eW_r9o ?_
  refine zR_bfne C eX5_repay_11 (fun h11 => ?_) (fun h11 => ?_)
  · skip
    refine zR_aload_n C eX5_repay_16 0 rfl rfl ?_
    refine zR_get C fX5_22 eX5_repay_17 0 eW_g0 rfl ?_
    refine zR_aload_n C eX5_repay_20 0 rfl rfl ?_
    refine zR_get C fX5_12 eX5_repay_21 0 eW_g0 rfl ?_
    refine zR_callVv C kX5_56 eX5_repay_24 (c_X0_prepare (fun j => q (43 + j)) _ (fun j => q (1 + j)) _ he.2.2.1 he.1) rfl 43 0 eW_g43 rfl rfl _ eW_cPn (zfrom_nd2 (by omega)) rfl (by decide) (by decide) (Nat.le_of_ble_eq_true rfl) (Nat.zero_le _) (Nat.zero_le _) yyW_f eW_rPn ?_
    refine zR_ws (eW g q (e_prep _)) rfl ?_
    refine zR_aload_n C eX5_repay_27 0 rfl rfl ?_
    refine zR_get C fX5_12 eX5_repay_28 0 eW_g0 rfl ?_
    refine zR_iload_n C eX5_repay_31 1 rfl rfl ?_
    refine zR_topi (l_has_in (by assumption) he.1.2.1.1).1 ?_
    refine zR_callVv C kX5_100 eX5_repay_32 (c_X1_payBack (fun j => q (1 + j)) _ _ (by exact (l_has_in (by assumption) he.1.2.1.1).2.2.1) (by exact (he.1.2.1.2 _ (l_has_in (by assumption) he.1.2.1.1).2.1).2) (by exact (he.1.2.1.2 _ (l_has_in (by assumption) he.1.2.1.1).2.1).1)) rfl 1 1 eW_g1 rfl rfl _ eW_c1 eW_n1 rfl (by decide) (by decide) (Nat.le_of_ble_eq_true rfl) (Nat.zero_le _) (Nat.zero_le _) hW_f eW_r1 ?_
    refine zR_ws (eW g q (e_pay1 (e_prep e) l0)) rfl ?_
    refine zR_aload_n C eX5_repay_35 0 rfl rfl ?_
    refine zR_get C fX5_12 eX5_repay_36 0 eW_g0 rfl ?_
    refine zR_get C fX5_91 eX5_repay_39 1 eW_g1 rfl ?_
    refine zR_get C fX5_104 eX5_repay_42 9 eW_g9 rfl ?_
    refine zR_iload_n C eX5_repay_45 1 rfl rfl ?_
    refine zR_iald C eX5_repay_46 13 eW_g13 (by exact (l_has_in (by assumption) he.1.2.1.1).2.2.2) ?_
    refine zR_istore_n (lv' := [(2, _), (0, _), (1, _)]) C eX5_repay_47 rfl (by rw [hn]; decide) rfl ?_
    refine zR_aload_n C eX5_repay_48 1 rfl rfl ?_
    refine zR_get C fX5_12 eX5_repay_49 0 eW_g0 rfl ?_
    refine zR_get C fX5_91 eX5_repay_52 1 eW_g1 rfl ?_
    refine zR_callVv C kX5_107 eX5_repay_55 (c_X2_removePaid (fun j => (fun j => q (1 + j)) (8 + j)) _ (by exact (h_pay_ok he.1 : h_ok (h_pay (e_now e) (zn32 l0))).2.1.1)) rfl 9 2 eW_g9 rfl rfl _ eW_c9 eW_n9 rfl (by decide) (by decide) (Nat.le_of_ble_eq_true rfl) (Nat.zero_le _) (Nat.zero_le _) lW_f eW_r9 ?_
    refine zR_ws (eW g q (e_rem1 (e_pay1 (e_prep e) l0))) rfl ?_
    refine zR_aload_n C eX5_repay_58 1 rfl rfl ?_
    refine zR_get C fX5_22 eX5_repay_59 0 eW_g0 rfl ?_
    refine zR_iload_n C eX5_repay_62 0 rfl rfl ?_
    refine zR_callV1 C kX5_63 eX5_repay_63 (c_X0_keep (fun j => q (43 + j)) _ _ ) rfl 43 0 eW_g43 rfl rfl _ eW_c43 rfl rfl (by decide) (by decide) (Nat.le_of_ble_eq_true rfl) (Nat.zero_le _) (Nat.zero_le _) kW_f (eW_r43 (y_keep_st _ _)) ?_
    exact zR_iret C rfl rfl eX5_repay_66 (Nat.zero_le _) (Nat.zero_le _) ⟨(by first | (unfold e_repay; rw [if_pos h11]; first | done | (dsimp only [e_fin]; done) | rfl) | rfl | (simp only [e_repay, if_pos h11]; first | done | rfl)), (by first | (unfold e_repay; rw [if_pos h11]; first | done | (dsimp only [e_fin]; done) | rfl) | rfl | (simp only [e_repay, if_pos h11]; first | done | rfl))⟩
  · skip
    refine zR_iconst (v := -1) C eX5_repay_14 (by decide) ?_
    exact zR_iret C rfl rfl eX5_repay_15 (Nat.zero_le _) (Nat.zero_le _) ⟨(by first | (unfold e_repay; rw [if_neg h11]; first | done | (dsimp only [e_fin]; done) | rfl) | rfl | (simp only [e_repay, if_neg h11]; first | done | rfl)), (by first | (unfold e_repay; rw [if_neg h11]; first | done | (dsimp only [e_fin]; done) | rfl) | rfl | (simp only [e_repay, if_neg h11]; first | done | rfl))⟩
set_option maxHeartbeats 400000 in
set_option maxRecDepth 100000 in
theorem c_X5_ofService {l : Launch} {g : zG} (q : Nat → Nat) (e : ED) (s : Int32) (w : Int32) (he : e_ok e) : zM l g yX5_ofService cX5_ofService 4 (some .int) 1 0 0 [.ref (q 0), .int s, .int w] (eW g q e) (zE (some (.int (e_ofService e s w))) (eW g q e)) := by
  refine zM_of (by decide +kernel) (Nat.le_of_ble_eq_true rfl) (fun x hl hn _ _ _ C => ?_)
  subst hl
  show zR x g _ (0, 0) 0 [(0, .ref (q 0)), (1, .int s), (2, .int w)] [] _
  refine zR_aload_n C eX5_ofService_0 0 rfl rfl ?_
  refine zR_get C fX5_12 eX5_ofService_1 0 eW_g0 rfl ?_
  refine zR_iload_n C eX5_ofService_4 1 rfl rfl ?_
  refine zR_callV1 C kX5_73 eX5_ofService_5 (c_X1_hasService (fun j => q (1 + j)) _ _ ) rfl 1 1 eW_g1 rfl rfl _ eW_c1 eW_n1 rfl (by decide) (by decide) (Nat.le_of_ble_eq_true rfl) (Nat.zero_le _) (Nat.zero_le _) hW_f eW_r1o ?_
  refine zR_bfne C eX5_ofService_8 (fun h8 => ?_) (fun h8 => ?_)
  · skip
    refine zR_aload_n C eX5_ofService_13 0 rfl rfl ?_
    refine zR_get C fX5_12 eX5_ofService_14 0 eW_g0 rfl ?_
    refine zR_get C fX5_91 eX5_ofService_17 1 eW_g1 rfl ?_
    refine zR_astore_n (lv' := [(3, _), (0, _), (1, _), (2, _)]) C eX5_ofService_20 rfl (by rw [hn]; decide) rfl ?_
    refine zR_iload_n C eX5_ofService_21 3 rfl rfl ?_
    refine zR_caseK (0) (fun h22_0 => ?_) (fun h22_0 => ?_)
    · skip
      refine zR_tswIn (off := 58) (tgt := 80) C eX5_ofService_22 (by decide) (by decide) (by decide) (by decide) ?_
      refine zR_aload_n C eX5_ofService_80 1 rfl rfl ?_
      refine zR_get C fX5_12 eX5_ofService_81 0 eW_g0 rfl ?_
      refine zR_get C fX5_77 eX5_ofService_84 1 eW_g1 rfl ?_
      refine zR_iload_n C eX5_ofService_87 2 rfl rfl ?_
      refine zR_iald C eX5_ofService_88 3 eW_g3 (by first | assumption | exact (h_has_in (by assumption) he.1.1).2.2 | exact vp_in_iff.mpr (by decide)) ?_
      exact zR_iret C rfl rfl eX5_ofService_89 (Nat.zero_le _) (Nat.zero_le _) ⟨(by first | (unfold e_ofService; rw [if_pos h8, if_pos h22_0]; first | done | (dsimp only [e_fin]; done) | rfl) | rfl | (simp only [e_ofService, if_pos h8, if_pos h22_0]; first | done | rfl)), rfl⟩
    · skip
      refine zR_caseK (1) (fun h22_1 => ?_) (fun h22_1 => ?_)
      · skip
        refine zR_tswIn (off := 68) (tgt := 90) C eX5_ofService_22 (by decide) (by decide) (by decide) (by decide) ?_
        refine zR_aload_n C eX5_ofService_90 1 rfl rfl ?_
        refine zR_get C fX5_12 eX5_ofService_91 0 eW_g0 rfl ?_
        refine zR_iload_n C eX5_ofService_94 2 rfl rfl ?_
        refine zR_callV1 C kX5_123 eX5_ofService_95 (c_X1_isFrozen (fun j => q (1 + j)) _ _ ) rfl 1 1 eW_g1 rfl rfl _ eW_c1 eW_n1 rfl (by decide) (by decide) (Nat.le_of_ble_eq_true rfl) (Nat.zero_le _) (Nat.zero_le _) hW_f eW_r1o ?_
        refine zR_bfeq C eX5_ofService_98 (fun h98 => ?_) (fun h98 => ?_)
        · skip
          refine zR_iconst (v := 0) C eX5_ofService_105 (by decide) ?_
          exact zR_iret C rfl rfl eX5_ofService_106 (Nat.zero_le _) (Nat.zero_le _) ⟨(by first | (unfold e_ofService; rw [if_pos h8, if_neg h22_0, if_pos h22_1, if_neg h98]; first | done | (dsimp only [e_fin]; done) | rfl) | rfl | (simp only [e_ofService, if_pos h8, if_neg h22_0, if_pos h22_1, if_neg h98]; first | done | rfl)), rfl⟩
        · skip
          refine zR_iconst (v := 1) C eX5_ofService_101 (by decide) ?_
          refine zR_goto C eX5_ofService_102 ?_
          exact zR_iret C rfl rfl eX5_ofService_106 (Nat.zero_le _) (Nat.zero_le _) ⟨(by first | (unfold e_ofService; rw [if_pos h8, if_neg h22_0, if_pos h22_1, if_pos h98]; first | done | (dsimp only [e_fin]; done) | rfl) | rfl | (simp only [e_ofService, if_pos h8, if_neg h22_0, if_pos h22_1, if_pos h98]; first | done | rfl)), rfl⟩
      · skip
        refine zR_caseK (2) (fun h22_2 => ?_) (fun h22_2 => ?_)
        · skip
          refine zR_tswIn (off := 85) (tgt := 107) C eX5_ofService_22 (by decide) (by decide) (by decide) (by decide) ?_
          refine zR_aload_n C eX5_ofService_107 1 rfl rfl ?_
          refine zR_get C fX5_12 eX5_ofService_108 0 eW_g0 rfl ?_
          refine zR_get C fX5_126 eX5_ofService_111 1 eW_g1 rfl ?_
          refine zR_iload_n C eX5_ofService_114 2 rfl rfl ?_
          refine zR_iald C eX5_ofService_115 4 eW_g4 (by first | assumption | exact (h_has_in (by assumption) he.1.1).2.2 | exact vp_in_iff.mpr (by decide)) ?_
          exact zR_iret C rfl rfl eX5_ofService_116 (Nat.zero_le _) (Nat.zero_le _) ⟨(by first | (unfold e_ofService; rw [if_pos h8, if_neg h22_0, if_neg h22_1, if_pos h22_2]; first | done | (dsimp only [e_fin]; done) | rfl) | rfl | (simp only [e_ofService, if_pos h8, if_neg h22_0, if_neg h22_1, if_pos h22_2]; first | done | rfl)), rfl⟩
        · skip
          refine zR_caseK (3) (fun h22_3 => ?_) (fun h22_3 => ?_)
          · skip
            refine zR_tswIn (off := 95) (tgt := 117) C eX5_ofService_22 (by decide) (by decide) (by decide) (by decide) ?_
            refine zR_aload_n C eX5_ofService_117 0 rfl rfl ?_
            refine zR_aload_n C eX5_ofService_118 0 rfl rfl ?_
            refine zR_get C fX5_173 eX5_ofService_119 9 eW_g9 rfl ?_
            refine zR_iload_n C eX5_ofService_122 2 rfl rfl ?_
            refine zR_callV1 C kX5_176 eX5_ofService_123 (c_X2_countWithB (fun j => (fun j => q (1 + j)) (8 + j)) _ _ he.1.2.1.1) rfl 9 2 eW_g9 rfl rfl _ eW_c9 eW_n9 rfl (by decide) (by decide) (Nat.le_of_ble_eq_true rfl) (Nat.zero_le _) (Nat.zero_le _) lW_f eW_r9o ?_
            exact zR_iret C rfl rfl eX5_ofService_126 (Nat.zero_le _) (Nat.zero_le _) ⟨(by first | (unfold e_ofService; rw [if_pos h8, if_neg h22_0, if_neg h22_1, if_neg h22_2, if_pos h22_3]; first | done | (dsimp only [e_fin]; done) | rfl) | rfl | (simp only [e_ofService, if_pos h8, if_neg h22_0, if_neg h22_1, if_neg h22_2, if_pos h22_3]; first | done | rfl)), rfl⟩
          · skip
            refine zR_caseK (4) (fun h22_4 => ?_) (fun h22_4 => ?_)
            · skip
              refine zR_tswIn (off := 105) (tgt := 127) C eX5_ofService_22 (by decide) (by decide) (by decide) (by decide) ?_
              refine zR_aload_n C eX5_ofService_127 0 rfl rfl ?_
              refine zR_aload_n C eX5_ofService_128 0 rfl rfl ?_
              refine zR_get C fX5_180 eX5_ofService_129 9 eW_g9 rfl ?_
              refine zR_iload_n C eX5_ofService_132 2 rfl rfl ?_
              refine zR_callV1 C kX5_176 eX5_ofService_133 (c_X2_countWithL (fun j => (fun j => q (1 + j)) (8 + j)) _ _ he.1.2.1.1) rfl 9 2 eW_g9 rfl rfl _ eW_c9 eW_n9 rfl (by decide) (by decide) (Nat.le_of_ble_eq_true rfl) (Nat.zero_le _) (Nat.zero_le _) lW_f eW_r9o ?_
              exact zR_iret C rfl rfl eX5_ofService_136 (Nat.zero_le _) (Nat.zero_le _) ⟨(by first | (unfold e_ofService; rw [if_pos h8, if_neg h22_0, if_neg h22_1, if_neg h22_2, if_neg h22_3, if_pos h22_4]; first | done | (dsimp only [e_fin]; done) | rfl) | rfl | (simp only [e_ofService, if_pos h8, if_neg h22_0, if_neg h22_1, if_neg h22_2, if_neg h22_3, if_pos h22_4]; first | done | rfl)), rfl⟩
            · skip
              refine zR_caseK (5) (fun h22_5 => ?_) (fun h22_5 => ?_)
              · skip
                refine zR_tswIn (off := 115) (tgt := 137) C eX5_ofService_22 (by decide) (by decide) (by decide) (by decide) ?_
                refine zR_aload_n C eX5_ofService_137 0 rfl rfl ?_
                refine zR_aload_n C eX5_ofService_138 0 rfl rfl ?_
                refine zR_get C fX5_173 eX5_ofService_139 9 eW_g9 rfl ?_
                refine zR_iload_n C eX5_ofService_142 2 rfl rfl ?_
                refine zR_callV1 C kX5_183 eX5_ofService_143 (c_X2_owedWithB (fun j => (fun j => q (1 + j)) (8 + j)) _ _ he.1.2.1.1) rfl 9 2 eW_g9 rfl rfl _ eW_c9 eW_n9 rfl (by decide) (by decide) (Nat.le_of_ble_eq_true rfl) (Nat.zero_le _) (Nat.zero_le _) lW_f eW_r9o ?_
                exact zR_iret C rfl rfl eX5_ofService_146 (Nat.zero_le _) (Nat.zero_le _) ⟨(by first | (unfold e_ofService; rw [if_pos h8, if_neg h22_0, if_neg h22_1, if_neg h22_2, if_neg h22_3, if_neg h22_4, if_pos h22_5]; first | done | (dsimp only [e_fin]; done) | rfl) | rfl | (simp only [e_ofService, if_pos h8, if_neg h22_0, if_neg h22_1, if_neg h22_2, if_neg h22_3, if_neg h22_4, if_pos h22_5]; first | done | rfl)), rfl⟩
              · skip
                refine zR_caseK (6) (fun h22_6 => ?_) (fun h22_6 => ?_)
                · skip
                  refine zR_tswIn (off := 125) (tgt := 147) C eX5_ofService_22 (by decide) (by decide) (by decide) (by decide) ?_
                  refine zR_aload_n C eX5_ofService_147 0 rfl rfl ?_
                  refine zR_aload_n C eX5_ofService_148 0 rfl rfl ?_
                  refine zR_get C fX5_180 eX5_ofService_149 9 eW_g9 rfl ?_
                  refine zR_iload_n C eX5_ofService_152 2 rfl rfl ?_
                  refine zR_callV1 C kX5_183 eX5_ofService_153 (c_X2_owedWithL (fun j => (fun j => q (1 + j)) (8 + j)) _ _ he.1.2.1.1) rfl 9 2 eW_g9 rfl rfl _ eW_c9 eW_n9 rfl (by decide) (by decide) (Nat.le_of_ble_eq_true rfl) (Nat.zero_le _) (Nat.zero_le _) lW_f eW_r9o ?_
                  exact zR_iret C rfl rfl eX5_ofService_156 (Nat.zero_le _) (Nat.zero_le _) ⟨(by first | (unfold e_ofService; rw [if_pos h8, if_neg h22_0, if_neg h22_1, if_neg h22_2, if_neg h22_3, if_neg h22_4, if_neg h22_5, if_pos h22_6]; first | done | (dsimp only [e_fin]; done) | rfl) | rfl | (simp only [e_ofService, if_pos h8, if_neg h22_0, if_neg h22_1, if_neg h22_2, if_neg h22_3, if_neg h22_4, if_neg h22_5, if_pos h22_6]; first | done | rfl)), rfl⟩
                · skip
                  refine zR_caseK (7) (fun h22_7 => ?_) (fun h22_7 => ?_)
                  · skip
                    refine zR_tswIn (off := 135) (tgt := 157) C eX5_ofService_22 (by decide) (by decide) (by decide) (by decide) ?_
                    refine zR_aload_n C eX5_ofService_157 1 rfl rfl ?_
                    refine zR_get C fX5_12 eX5_ofService_158 0 eW_g0 rfl ?_
                    refine zR_get C fX5_148 eX5_ofService_161 1 eW_g1 rfl ?_
                    refine zR_iload_n C eX5_ofService_164 2 rfl rfl ?_
                    refine zR_callV1 C kX5_186 eX5_ofService_165 (c_X4_countWith (fun j => (fun j => q (1 + j)) (14 + j)) _ _ (by exact he.1.2.2.1)) rfl 15 4 eW_g15 rfl rfl _ eW_c15 eW_n15 rfl (by decide) (by decide) (Nat.le_of_ble_eq_true rfl) (Nat.zero_le _) (Nat.zero_le _) pW_f eW_r15o ?_
                    exact zR_iret C rfl rfl eX5_ofService_168 (Nat.zero_le _) (Nat.zero_le _) ⟨(by first | (unfold e_ofService; rw [if_pos h8, if_neg h22_0, if_neg h22_1, if_neg h22_2, if_neg h22_3, if_neg h22_4, if_neg h22_5, if_neg h22_6, if_pos h22_7]; first | done | (dsimp only [e_fin]; done) | rfl) | rfl | (simp only [e_ofService, if_pos h8, if_neg h22_0, if_neg h22_1, if_neg h22_2, if_neg h22_3, if_neg h22_4, if_neg h22_5, if_neg h22_6, if_pos h22_7]; first | done | rfl)), rfl⟩
                  · skip
                    refine zR_caseK (8) (fun h22_8 => ?_) (fun h22_8 => ?_)
                    · skip
                      refine zR_tswIn (off := 147) (tgt := 169) C eX5_ofService_22 (by decide) (by decide) (by decide) (by decide) ?_
                      refine zR_aload_n C eX5_ofService_169 1 rfl rfl ?_
                      refine zR_get C fX5_12 eX5_ofService_170 0 eW_g0 rfl ?_
                      refine zR_get C fX5_188 eX5_ofService_173 1 eW_g1 rfl ?_
                      refine zR_iload_n C eX5_ofService_176 2 rfl rfl ?_
                      refine zR_iald C eX5_ofService_177 5 eW_g5 (by first | assumption | exact (h_has_in (by assumption) he.1.1).2.2 | exact vp_in_iff.mpr (by decide)) ?_
                      exact zR_iret C rfl rfl eX5_ofService_178 (Nat.zero_le _) (Nat.zero_le _) ⟨(by first | (unfold e_ofService; rw [if_pos h8, if_neg h22_0, if_neg h22_1, if_neg h22_2, if_neg h22_3, if_neg h22_4, if_neg h22_5, if_neg h22_6, if_neg h22_7, if_pos h22_8]; first | done | (dsimp only [e_fin]; done) | rfl) | rfl | (simp only [e_ofService, if_pos h8, if_neg h22_0, if_neg h22_1, if_neg h22_2, if_neg h22_3, if_neg h22_4, if_neg h22_5, if_neg h22_6, if_neg h22_7, if_pos h22_8]; first | done | rfl)), rfl⟩
                    · skip
                      refine zR_caseK (9) (fun h22_9 => ?_) (fun h22_9 => ?_)
                      · skip
                        refine zR_tswIn (off := 157) (tgt := 179) C eX5_ofService_22 (by decide) (by decide) (by decide) (by decide) ?_
                        refine zR_aload_n C eX5_ofService_179 1 rfl rfl ?_
                        refine zR_get C fX5_12 eX5_ofService_180 0 eW_g0 rfl ?_
                        refine zR_get C fX5_191 eX5_ofService_183 1 eW_g1 rfl ?_
                        refine zR_iload_n C eX5_ofService_186 2 rfl rfl ?_
                        refine zR_iald C eX5_ofService_187 6 eW_g6 (by first | assumption | exact (h_has_in (by assumption) he.1.1).2.2 | exact vp_in_iff.mpr (by decide)) ?_
                        exact zR_iret C rfl rfl eX5_ofService_188 (Nat.zero_le _) (Nat.zero_le _) ⟨(by first | (unfold e_ofService; rw [if_pos h8, if_neg h22_0, if_neg h22_1, if_neg h22_2, if_neg h22_3, if_neg h22_4, if_neg h22_5, if_neg h22_6, if_neg h22_7, if_neg h22_8, if_pos h22_9]; first | done | (dsimp only [e_fin]; done) | rfl) | rfl | (simp only [e_ofService, if_pos h8, if_neg h22_0, if_neg h22_1, if_neg h22_2, if_neg h22_3, if_neg h22_4, if_neg h22_5, if_neg h22_6, if_neg h22_7, if_neg h22_8, if_pos h22_9]; first | done | rfl)), rfl⟩
                      · skip
                        refine zR_caseK (10) (fun h22_10 => ?_) (fun h22_10 => ?_)
                        · skip
                          refine zR_tswIn (off := 167) (tgt := 189) C eX5_ofService_22 (by decide) (by decide) (by decide) (by decide) ?_
                          refine zR_aload_n C eX5_ofService_189 1 rfl rfl ?_
                          refine zR_get C fX5_12 eX5_ofService_190 0 eW_g0 rfl ?_
                          refine zR_get C fX5_194 eX5_ofService_193 1 eW_g1 rfl ?_
                          refine zR_iload_n C eX5_ofService_196 2 rfl rfl ?_
                          refine zR_iald C eX5_ofService_197 7 eW_g7 (by first | assumption | exact (h_has_in (by assumption) he.1.1).2.2 | exact vp_in_iff.mpr (by decide)) ?_
                          exact zR_iret C rfl rfl eX5_ofService_198 (Nat.zero_le _) (Nat.zero_le _) ⟨(by first | (unfold e_ofService; rw [if_pos h8, if_neg h22_0, if_neg h22_1, if_neg h22_2, if_neg h22_3, if_neg h22_4, if_neg h22_5, if_neg h22_6, if_neg h22_7, if_neg h22_8, if_neg h22_9, if_pos h22_10]; first | done | (dsimp only [e_fin]; done) | rfl) | rfl | (simp only [e_ofService, if_pos h8, if_neg h22_0, if_neg h22_1, if_neg h22_2, if_neg h22_3, if_neg h22_4, if_neg h22_5, if_neg h22_6, if_neg h22_7, if_neg h22_8, if_neg h22_9, if_pos h22_10]; first | done | rfl)), rfl⟩
                        · skip
                          refine zR_tswD (tgt := 199) C eX5_ofService_22 (fun j hj => match j, hj with | 0, _ => Or.inr (zsw_ne h22_0 (by decide) (by decide)) | 1, _ => Or.inr (zsw_ne h22_1 (by decide) (by decide)) | 2, _ => Or.inr (zsw_ne h22_2 (by decide) (by decide)) | 3, _ => Or.inr (zsw_ne h22_3 (by decide) (by decide)) | 4, _ => Or.inr (zsw_ne h22_4 (by decide) (by decide)) | 5, _ => Or.inr (zsw_ne h22_5 (by decide) (by decide)) | 6, _ => Or.inr (zsw_ne h22_6 (by decide) (by decide)) | 7, _ => Or.inr (zsw_ne h22_7 (by decide) (by decide)) | 8, _ => Or.inr (zsw_ne h22_8 (by decide) (by decide)) | 9, _ => Or.inr (zsw_ne h22_9 (by decide) (by decide)) | 10, _ => Or.inr (zsw_ne h22_10 (by decide) (by decide)) | _ + 11, hj => absurd hj (by simp)) (by decide) (by decide) ?_
                          refine zR_bipush (v := -2) C eX5_ofService_199 (by decide) ?_
                          exact zR_iret C rfl rfl eX5_ofService_201 (Nat.zero_le _) (Nat.zero_le _) ⟨(by first | (unfold e_ofService; rw [if_pos h8, if_neg h22_0, if_neg h22_1, if_neg h22_2, if_neg h22_3, if_neg h22_4, if_neg h22_5, if_neg h22_6, if_neg h22_7, if_neg h22_8, if_neg h22_9, if_neg h22_10]; first | done | (dsimp only [e_fin]; done) | rfl) | rfl | (simp only [e_ofService, if_pos h8, if_neg h22_0, if_neg h22_1, if_neg h22_2, if_neg h22_3, if_neg h22_4, if_neg h22_5, if_neg h22_6, if_neg h22_7, if_neg h22_8, if_neg h22_9, if_neg h22_10]; first | done | rfl)), rfl⟩
  · skip
    refine zR_iconst (v := -1) C eX5_ofService_11 (by decide) ?_
    exact zR_iret C rfl rfl eX5_ofService_12 (Nat.zero_le _) (Nat.zero_le _) ⟨(by first | (unfold e_ofService; rw [if_neg h8]; first | done | (dsimp only [e_fin]; done) | rfl) | rfl | (simp only [e_ofService, if_neg h8]; first | done | rfl)), rfl⟩
theorem vp_in9 {s : Int32} (h0 : ¬ s < 0) (h8 : s < 9) : vp_in s 9 := by
  obtain ⟨j, hj, rfl⟩ := nI_of h0
  rcases Nat.lt_or_ge j 9 with z | z
  · exact vp_in_nI z (by decide)
  · exact absurd h8 (nI_nlt (b := 9) z hj)
set_option maxHeartbeats 400000 in
set_option maxRecDepth 100000 in
theorem c_X5_account {l : Launch} {g : zG} (q : Nat → Nat) (e : ED) (s : Int32) (w : Int32) (he : e_ok e) : zM l g yX5_account cX5_account 3 (some .long) 1 0 0 [.ref (q 0), .int s, .int w] (eW g q e) (zE (some (.long (e_account e s w))) (eW g q e)) := by
  refine zM_of (by decide +kernel) (Nat.le_of_ble_eq_true rfl) (fun x hl hn _ _ _ C => ?_)
  subst hl
  show zR x g _ (0, 0) 0 [(0, .ref (q 0)), (1, .int s), (2, .int w)] [] _
  refine zR_aload_n C eX5_account_0 0 rfl rfl ?_
  refine zR_get C fX5_12 eX5_account_1 0 eW_g0 rfl ?_
  refine zR_iload_n C eX5_account_4 1 rfl rfl ?_
  refine zR_callV1 C kX5_73 eX5_account_5 (c_X1_hasService (fun j => q (1 + j)) _ _ ) rfl 1 1 eW_g1 rfl rfl _ eW_c1 eW_n1 rfl (by decide) (by decide) (Nat.le_of_ble_eq_true rfl) (Nat.zero_le _) (Nat.zero_le _) hW_f eW_r1o ?_
  refine zR_bfne C eX5_account_8 (fun h8 => ?_) (fun h8 => ?_)
  · skip
    refine zR_iload_n C eX5_account_15 2 rfl rfl ?_
    refine zR_iflt C eX5_account_16 (fun h16 => ?_) (fun h16 => ?_)
    · skip
      refine zR_ldc2 C qX5_199 eX5_account_25 ?_
      exact zR_lret C rfl eX5_account_28 (Nat.zero_le _) (Nat.zero_le _) ⟨(by first | (unfold e_account; rw [if_pos h8, if_pos h16]; first | done | (dsimp only [e_fin]; done) | rfl) | rfl | (simp only [e_account, if_pos h8, if_pos h16]; first | done | rfl)), rfl⟩
    · skip
      refine zR_iload_n C eX5_account_19 2 rfl rfl ?_
      refine zR_bipush (v := 9) C eX5_account_20 (by decide) ?_
      refine zR_icmp_lt C eX5_account_22 (fun h22 => ?_) (fun h22 => ?_)
      · skip
        refine zR_aload_n C eX5_account_29 0 rfl rfl ?_
        refine zR_get C fX5_12 eX5_account_30 0 eW_g0 rfl ?_
        refine zR_iload_n C eX5_account_33 1 rfl rfl ?_
        refine zR_iload_n C eX5_account_34 2 rfl rfl ?_
        refine zR_callV1 C kX5_201 eX5_account_35 (c_X1_minutesOf (fun j => q (1 + j)) _ _ _ (by first | assumption | exact (h_has_in (by assumption) he.1.1).2.2 | exact vp_in_iff.mpr (by decide)) (by exact vp_in9 (by assumption) (by assumption))) rfl 1 1 eW_g1 rfl rfl _ eW_c1 eW_n1 rfl (by decide) (by decide) (Nat.le_of_ble_eq_true rfl) (Nat.zero_le _) (Nat.zero_le _) hW_f eW_r1o ?_
        exact zR_lret C rfl eX5_account_38 (Nat.zero_le _) (Nat.zero_le _) ⟨(by first | (unfold e_account; rw [if_pos h8, if_neg h16, if_pos h22]; first | done | (dsimp only [e_fin]; done) | rfl) | rfl | (simp only [e_account, if_pos h8, if_neg h16, if_pos h22]; first | done | rfl)), rfl⟩
      · skip
        refine zR_ldc2 C qX5_199 eX5_account_25 ?_
        exact zR_lret C rfl eX5_account_28 (Nat.zero_le _) (Nat.zero_le _) ⟨(by first | (unfold e_account; rw [if_pos h8, if_neg h16, if_neg h22]; first | done | (dsimp only [e_fin]; done) | rfl) | rfl | (simp only [e_account, if_pos h8, if_neg h16, if_neg h22]; first | done | rfl)), rfl⟩
  · skip
    refine zR_ldc2 C qX5_197 eX5_account_11 ?_
    exact zR_lret C rfl eX5_account_14 (Nat.zero_le _) (Nat.zero_le _) ⟨(by first | (unfold e_account; rw [if_neg h8]; first | done | (dsimp only [e_fin]; done) | rfl) | rfl | (simp only [e_account, if_neg h8]; first | done | rfl)), rfl⟩
set_option maxHeartbeats 400000 in
set_option maxRecDepth 100000 in
theorem c_X5_ofLoan {l : Launch} {g : zG} (q : Nat → Nat) (e : ED) (i : Int32) (w : Int32) (he : e_ok e) : zM l g yX5_ofLoan cX5_ofLoan 4 (some .int) 1 0 0 [.ref (q 0), .int i, .int w] (eW g q e) (zE (some (.int (e_ofLoan e i w))) (eW g q e)) := by
  refine zM_of (by decide +kernel) (Nat.le_of_ble_eq_true rfl) (fun x hl hn _ _ _ C => ?_)
  subst hl
  show zR x g _ (0, 0) 0 [(0, .ref (q 0)), (1, .int i), (2, .int w)] [] _
  refine zR_aload_n C eX5_ofLoan_0 0 rfl rfl ?_
  refine zR_get C fX5_12 eX5_ofLoan_1 0 eW_g0 rfl ?_
  refine zR_get C fX5_91 eX5_ofLoan_4 1 eW_g1 rfl ?_
  refine zR_astore_n (lv' := [(3, _), (0, _), (1, _), (2, _)]) C eX5_ofLoan_7 rfl (by rw [hn]; decide) rfl ?_
  refine zR_aload_n C eX5_ofLoan_8 0 rfl rfl ?_
  refine zR_iload_n C eX5_ofLoan_9 2 rfl rfl ?_
  refine zR_callV1 C kX5_95 eX5_ofLoan_10 (c_X2_has (fun j => (fun j => q (1 + j)) (8 + j)) _ _ ) rfl 9 2 eW_g9 rfl rfl _ eW_c9 eW_n9 rfl (by decide) (by decide) (Nat.le_of_ble_eq_true rfl) (Nat.zero_le _) (Nat.zero_le _) lW_f eW_r9o ?_
  refine zR_bfne C eX5_ofLoan_13 (fun h13 => ?_) (fun h13 => ?_)
  · skip
    refine zR_iload_n C eX5_ofLoan_18 3 rfl rfl ?_
    refine zR_caseK (0) (fun h19_0 => ?_) (fun h19_0 => ?_)
    · skip
      refine zR_tswIn (off := 33) (tgt := 52) C eX5_ofLoan_19 (by decide) (by decide) (by decide) (by decide) ?_
      refine zR_aload_n C eX5_ofLoan_52 0 rfl rfl ?_
      refine zR_get C fX5_180 eX5_ofLoan_53 9 eW_g9 rfl ?_
      refine zR_iload_n C eX5_ofLoan_56 2 rfl rfl ?_
      refine zR_iald C eX5_ofLoan_57 10 eW_g10 (by exact (l_has_in (by assumption) he.1.2.1.1).2.2.2) ?_
      exact zR_iret C rfl rfl eX5_ofLoan_58 (Nat.zero_le _) (Nat.zero_le _) ⟨(by first | (unfold e_ofLoan; rw [if_pos h13, if_pos h19_0]; first | done | (dsimp only [e_fin]; done) | rfl) | rfl | (simp only [e_ofLoan, if_pos h13, if_pos h19_0]; first | done | rfl)), rfl⟩
    · skip
      refine zR_caseK (1) (fun h19_1 => ?_) (fun h19_1 => ?_)
      · skip
        refine zR_tswIn (off := 40) (tgt := 59) C eX5_ofLoan_19 (by decide) (by decide) (by decide) (by decide) ?_
        refine zR_aload_n C eX5_ofLoan_59 0 rfl rfl ?_
        refine zR_get C fX5_173 eX5_ofLoan_60 9 eW_g9 rfl ?_
        refine zR_iload_n C eX5_ofLoan_63 2 rfl rfl ?_
        refine zR_iald C eX5_ofLoan_64 11 eW_g11 (by exact (l_has_in (by assumption) he.1.2.1.1).2.2.2) ?_
        exact zR_iret C rfl rfl eX5_ofLoan_65 (Nat.zero_le _) (Nat.zero_le _) ⟨(by first | (unfold e_ofLoan; rw [if_pos h13, if_neg h19_0, if_pos h19_1]; first | done | (dsimp only [e_fin]; done) | rfl) | rfl | (simp only [e_ofLoan, if_pos h13, if_neg h19_0, if_pos h19_1]; first | done | rfl)), rfl⟩
      · skip
        refine zR_caseK (2) (fun h19_2 => ?_) (fun h19_2 => ?_)
        · skip
          refine zR_tswIn (off := 47) (tgt := 66) C eX5_ofLoan_19 (by decide) (by decide) (by decide) (by decide) ?_
          refine zR_aload_n C eX5_ofLoan_66 0 rfl rfl ?_
          refine zR_get C fX5_205 eX5_ofLoan_67 9 eW_g9 rfl ?_
          refine zR_iload_n C eX5_ofLoan_70 2 rfl rfl ?_
          refine zR_iald C eX5_ofLoan_71 12 eW_g12 (by exact (l_has_in (by assumption) he.1.2.1.1).2.2.2) ?_
          exact zR_iret C rfl rfl eX5_ofLoan_72 (Nat.zero_le _) (Nat.zero_le _) ⟨(by first | (unfold e_ofLoan; rw [if_pos h13, if_neg h19_0, if_neg h19_1, if_pos h19_2]; first | done | (dsimp only [e_fin]; done) | rfl) | rfl | (simp only [e_ofLoan, if_pos h13, if_neg h19_0, if_neg h19_1, if_pos h19_2]; first | done | rfl)), rfl⟩
        · skip
          refine zR_caseK (3) (fun h19_3 => ?_) (fun h19_3 => ?_)
          · skip
            refine zR_tswIn (off := 54) (tgt := 73) C eX5_ofLoan_19 (by decide) (by decide) (by decide) (by decide) ?_
            refine zR_aload_n C eX5_ofLoan_73 0 rfl rfl ?_
            refine zR_get C fX5_104 eX5_ofLoan_74 9 eW_g9 rfl ?_
            refine zR_iload_n C eX5_ofLoan_77 2 rfl rfl ?_
            refine zR_iald C eX5_ofLoan_78 13 eW_g13 (by exact (l_has_in (by assumption) he.1.2.1.1).2.2.2) ?_
            exact zR_iret C rfl rfl eX5_ofLoan_79 (Nat.zero_le _) (Nat.zero_le _) ⟨(by first | (unfold e_ofLoan; rw [if_pos h13, if_neg h19_0, if_neg h19_1, if_neg h19_2, if_pos h19_3]; first | done | (dsimp only [e_fin]; done) | rfl) | rfl | (simp only [e_ofLoan, if_pos h13, if_neg h19_0, if_neg h19_1, if_neg h19_2, if_pos h19_3]; first | done | rfl)), rfl⟩
          · skip
            refine zR_caseK (4) (fun h19_4 => ?_) (fun h19_4 => ?_)
            · skip
              refine zR_tswIn (off := 61) (tgt := 80) C eX5_ofLoan_19 (by decide) (by decide) (by decide) (by decide) ?_
              refine zR_aload_n C eX5_ofLoan_80 0 rfl rfl ?_
              refine zR_get C fX5_208 eX5_ofLoan_81 9 eW_g9 rfl ?_
              refine zR_iload_n C eX5_ofLoan_84 2 rfl rfl ?_
              refine zR_iald C eX5_ofLoan_85 14 eW_g14 (by exact (l_has_in (by assumption) he.1.2.1.1).2.2.2) ?_
              exact zR_iret C rfl rfl eX5_ofLoan_86 (Nat.zero_le _) (Nat.zero_le _) ⟨(by first | (unfold e_ofLoan; rw [if_pos h13, if_neg h19_0, if_neg h19_1, if_neg h19_2, if_neg h19_3, if_pos h19_4]; first | done | (dsimp only [e_fin]; done) | rfl) | rfl | (simp only [e_ofLoan, if_pos h13, if_neg h19_0, if_neg h19_1, if_neg h19_2, if_neg h19_3, if_pos h19_4]; first | done | rfl)), rfl⟩
            · skip
              refine zR_tswD (tgt := 87) C eX5_ofLoan_19 (fun j hj => match j, hj with | 0, _ => Or.inr (zsw_ne h19_0 (by decide) (by decide)) | 1, _ => Or.inr (zsw_ne h19_1 (by decide) (by decide)) | 2, _ => Or.inr (zsw_ne h19_2 (by decide) (by decide)) | 3, _ => Or.inr (zsw_ne h19_3 (by decide) (by decide)) | 4, _ => Or.inr (zsw_ne h19_4 (by decide) (by decide)) | _ + 5, hj => absurd hj (by simp)) (by decide) (by decide) ?_
              refine zR_bipush (v := -2) C eX5_ofLoan_87 (by decide) ?_
              exact zR_iret C rfl rfl eX5_ofLoan_89 (Nat.zero_le _) (Nat.zero_le _) ⟨(by first | (unfold e_ofLoan; rw [if_pos h13, if_neg h19_0, if_neg h19_1, if_neg h19_2, if_neg h19_3, if_neg h19_4]; first | done | (dsimp only [e_fin]; done) | rfl) | rfl | (simp only [e_ofLoan, if_pos h13, if_neg h19_0, if_neg h19_1, if_neg h19_2, if_neg h19_3, if_neg h19_4]; first | done | rfl)), rfl⟩
  · skip
    refine zR_iconst (v := -1) C eX5_ofLoan_16 (by decide) ?_
    exact zR_iret C rfl rfl eX5_ofLoan_17 (Nat.zero_le _) (Nat.zero_le _) ⟨(by first | (unfold e_ofLoan; rw [if_neg h13]; first | done | (dsimp only [e_fin]; done) | rfl) | rfl | (simp only [e_ofLoan, if_neg h13]; first | done | rfl)), rfl⟩
set_option maxHeartbeats 400000 in
set_option maxRecDepth 100000 in
theorem c_X5_ofPlan {l : Launch} {g : zG} (q : Nat → Nat) (e : ED) (i : Int32) (w : Int32) (he : e_ok e) : zM l g yX5_ofPlan cX5_ofPlan 4 (some .int) 1 0 0 [.ref (q 0), .int i, .int w] (eW g q e) (zE (some (.int (e_ofPlan e i w))) (eW g q e)) := by
  refine zM_of (by decide +kernel) (Nat.le_of_ble_eq_true rfl) (fun x hl hn _ _ _ C => ?_)
  subst hl
  show zR x g _ (0, 0) 0 [(0, .ref (q 0)), (1, .int i), (2, .int w)] [] _
  refine zR_aload_n C eX5_ofPlan_0 0 rfl rfl ?_
  refine zR_get C fX5_12 eX5_ofPlan_1 0 eW_g0 rfl ?_
  refine zR_get C fX5_148 eX5_ofPlan_4 1 eW_g1 rfl ?_
  refine zR_astore_n (lv' := [(3, _), (0, _), (1, _), (2, _)]) C eX5_ofPlan_7 rfl (by rw [hn]; decide) rfl ?_
  refine zR_aload_n C eX5_ofPlan_8 0 rfl rfl ?_
  refine zR_iload_n C eX5_ofPlan_9 2 rfl rfl ?_
  refine zR_callV1 C kX5_158 eX5_ofPlan_10 (c_X4_has (fun j => (fun j => q (1 + j)) (14 + j)) _ _ ) rfl 15 4 eW_g15 rfl rfl _ eW_c15 eW_n15 rfl (by decide) (by decide) (Nat.le_of_ble_eq_true rfl) (Nat.zero_le _) (Nat.zero_le _) pW_f eW_r15o ?_
  refine zR_bfne C eX5_ofPlan_13 (fun h13 => ?_) (fun h13 => ?_)
  · skip
    refine zR_iload_n C eX5_ofPlan_18 3 rfl rfl ?_
    refine zR_caseK (0) (fun h19_0 => ?_) (fun h19_0 => ?_)
    · skip
      refine zR_tswIn (off := 29) (tgt := 48) C eX5_ofPlan_19 (by decide) (by decide) (by decide) (by decide) ?_
      refine zR_aload_n C eX5_ofPlan_48 0 rfl rfl ?_
      refine zR_get C fX5_211 eX5_ofPlan_49 15 eW_g15 rfl ?_
      refine zR_iload_n C eX5_ofPlan_52 2 rfl rfl ?_
      refine zR_iald C eX5_ofPlan_53 16 eW_g16 (by exact (p_has_in (by assumption) he.1.2.2.1).2.2.2) ?_
      exact zR_iret C rfl rfl eX5_ofPlan_54 (Nat.zero_le _) (Nat.zero_le _) ⟨(by first | (unfold e_ofPlan; rw [if_pos h13, if_pos h19_0]; first | done | (dsimp only [e_fin]; done) | rfl) | rfl | (simp only [e_ofPlan, if_pos h13, if_pos h19_0]; first | done | rfl)), rfl⟩
    · skip
      refine zR_caseK (1) (fun h19_1 => ?_) (fun h19_1 => ?_)
      · skip
        refine zR_tswIn (off := 36) (tgt := 55) C eX5_ofPlan_19 (by decide) (by decide) (by decide) (by decide) ?_
        refine zR_aload_n C eX5_ofPlan_55 0 rfl rfl ?_
        refine zR_get C fX5_214 eX5_ofPlan_56 15 eW_g15 rfl ?_
        refine zR_iload_n C eX5_ofPlan_59 2 rfl rfl ?_
        refine zR_iald C eX5_ofPlan_60 17 eW_g17 (by exact (p_has_in (by assumption) he.1.2.2.1).2.2.2) ?_
        exact zR_iret C rfl rfl eX5_ofPlan_61 (Nat.zero_le _) (Nat.zero_le _) ⟨(by first | (unfold e_ofPlan; rw [if_pos h13, if_neg h19_0, if_pos h19_1]; first | done | (dsimp only [e_fin]; done) | rfl) | rfl | (simp only [e_ofPlan, if_pos h13, if_neg h19_0, if_pos h19_1]; first | done | rfl)), rfl⟩
      · skip
        refine zR_caseK (2) (fun h19_2 => ?_) (fun h19_2 => ?_)
        · skip
          refine zR_tswIn (off := 43) (tgt := 62) C eX5_ofPlan_19 (by decide) (by decide) (by decide) (by decide) ?_
          refine zR_aload_n C eX5_ofPlan_62 0 rfl rfl ?_
          refine zR_get C fX5_216 eX5_ofPlan_63 15 eW_g15 rfl ?_
          refine zR_iload_n C eX5_ofPlan_66 2 rfl rfl ?_
          refine zR_iald C eX5_ofPlan_67 18 eW_g18 (by exact (p_has_in (by assumption) he.1.2.2.1).2.2.2) ?_
          exact zR_iret C rfl rfl eX5_ofPlan_68 (Nat.zero_le _) (Nat.zero_le _) ⟨(by first | (unfold e_ofPlan; rw [if_pos h13, if_neg h19_0, if_neg h19_1, if_pos h19_2]; first | done | (dsimp only [e_fin]; done) | rfl) | rfl | (simp only [e_ofPlan, if_pos h13, if_neg h19_0, if_neg h19_1, if_pos h19_2]; first | done | rfl)), rfl⟩
        · skip
          refine zR_caseK (3) (fun h19_3 => ?_) (fun h19_3 => ?_)
          · skip
            refine zR_tswIn (off := 50) (tgt := 69) C eX5_ofPlan_19 (by decide) (by decide) (by decide) (by decide) ?_
            refine zR_aload_n C eX5_ofPlan_69 0 rfl rfl ?_
            refine zR_get C fX5_219 eX5_ofPlan_70 15 eW_g15 rfl ?_
            refine zR_iload_n C eX5_ofPlan_73 2 rfl rfl ?_
            refine zR_iald C eX5_ofPlan_74 19 eW_g19 (by exact (p_has_in (by assumption) he.1.2.2.1).2.2.2) ?_
            exact zR_iret C rfl rfl eX5_ofPlan_75 (Nat.zero_le _) (Nat.zero_le _) ⟨(by first | (unfold e_ofPlan; rw [if_pos h13, if_neg h19_0, if_neg h19_1, if_neg h19_2, if_pos h19_3]; first | done | (dsimp only [e_fin]; done) | rfl) | rfl | (simp only [e_ofPlan, if_pos h13, if_neg h19_0, if_neg h19_1, if_neg h19_2, if_pos h19_3]; first | done | rfl)), rfl⟩
          · skip
            refine zR_tswD (tgt := 76) C eX5_ofPlan_19 (fun j hj => match j, hj with | 0, _ => Or.inr (zsw_ne h19_0 (by decide) (by decide)) | 1, _ => Or.inr (zsw_ne h19_1 (by decide) (by decide)) | 2, _ => Or.inr (zsw_ne h19_2 (by decide) (by decide)) | 3, _ => Or.inr (zsw_ne h19_3 (by decide) (by decide)) | _ + 4, hj => absurd hj (by simp)) (by decide) (by decide) ?_
            refine zR_bipush (v := -2) C eX5_ofPlan_76 (by decide) ?_
            exact zR_iret C rfl rfl eX5_ofPlan_78 (Nat.zero_le _) (Nat.zero_le _) ⟨(by first | (unfold e_ofPlan; rw [if_pos h13, if_neg h19_0, if_neg h19_1, if_neg h19_2, if_neg h19_3]; first | done | (dsimp only [e_fin]; done) | rfl) | rfl | (simp only [e_ofPlan, if_pos h13, if_neg h19_0, if_neg h19_1, if_neg h19_2, if_neg h19_3]; first | done | rfl)), rfl⟩
  · skip
    refine zR_iconst (v := -1) C eX5_ofPlan_16 (by decide) ?_
    exact zR_iret C rfl rfl eX5_ofPlan_17 (Nat.zero_le _) (Nat.zero_le _) ⟨(by first | (unfold e_ofPlan; rw [if_neg h13]; first | done | (dsimp only [e_fin]; done) | rfl) | rfl | (simp only [e_ofPlan, if_neg h13]; first | done | rfl)), rfl⟩
set_option maxHeartbeats 400000 in
set_option maxRecDepth 100000 in
theorem c_X5_count {l : Launch} {g : zG} (q : Nat → Nat) (e : ED) (w : Int32) (he : e_ok e) : zM l g yX5_count cX5_count 3 (some .int) 1 0 0 [.ref (q 0), .int w] (eW g q e) (zE (some (.int (e_count e w))) (eW g q e)) := by
  refine zM_of (by decide +kernel) (Nat.le_of_ble_eq_true rfl) (fun x hl hn _ _ _ C => ?_)
  subst hl
  show zR x g _ (0, 0) 0 [(0, .ref (q 0)), (1, .int w)] [] _
  refine zR_iload_n C eX5_count_0 1 rfl rfl ?_
  refine zR_caseK (0) (fun h1_0 => ?_) (fun h1_0 => ?_)
  · skip
    refine zR_tswIn (off := 55) (tgt := 56) C eX5_count_1 (by decide) (by decide) (by decide) (by decide) ?_
    refine zR_aload_n C eX5_count_56 0 rfl rfl ?_
    refine zR_get C fX5_12 eX5_count_57 0 eW_g0 rfl ?_
    refine zR_get C fX5_145 eX5_count_60 1 eW_g1 rfl ?_
    exact zR_iret C rfl rfl eX5_count_63 (Nat.zero_le _) (Nat.zero_le _) ⟨(by first | (unfold e_count; rw [if_pos h1_0]; first | done | (dsimp only [e_fin]; done) | rfl) | rfl | (simp only [e_count, if_pos h1_0]; first | done | rfl)), rfl⟩
  · skip
    refine zR_caseK (1) (fun h1_1 => ?_) (fun h1_1 => ?_)
    · skip
      refine zR_tswIn (off := 63) (tgt := 64) C eX5_count_1 (by decide) (by decide) (by decide) (by decide) ?_
      refine zR_aload_n C eX5_count_64 0 rfl rfl ?_
      refine zR_get C fX5_12 eX5_count_65 0 eW_g0 rfl ?_
      refine zR_get C fX5_222 eX5_count_68 1 eW_g1 rfl ?_
      exact zR_iret C rfl rfl eX5_count_71 (Nat.zero_le _) (Nat.zero_le _) ⟨(by first | (unfold e_count; rw [if_neg h1_0, if_pos h1_1]; first | done | (dsimp only [e_fin]; done) | rfl) | rfl | (simp only [e_count, if_neg h1_0, if_pos h1_1]; first | done | rfl)), rfl⟩
    · skip
      refine zR_caseK (2) (fun h1_2 => ?_) (fun h1_2 => ?_)
      · skip
        refine zR_tswIn (off := 71) (tgt := 72) C eX5_count_1 (by decide) (by decide) (by decide) (by decide) ?_
        refine zR_aload_n C eX5_count_72 0 rfl rfl ?_
        refine zR_get C fX5_12 eX5_count_73 0 eW_g0 rfl ?_
        refine zR_get C fX5_225 eX5_count_76 1 eW_g1 rfl ?_
        exact zR_iret C rfl rfl eX5_count_79 (Nat.zero_le _) (Nat.zero_le _) ⟨(by first | (unfold e_count; rw [if_neg h1_0, if_neg h1_1, if_pos h1_2]; first | done | (dsimp only [e_fin]; done) | rfl) | rfl | (simp only [e_count, if_neg h1_0, if_neg h1_1, if_pos h1_2]; first | done | rfl)), rfl⟩
      · skip
        refine zR_caseK (3) (fun h1_3 => ?_) (fun h1_3 => ?_)
        · skip
          refine zR_tswIn (off := 79) (tgt := 80) C eX5_count_1 (by decide) (by decide) (by decide) (by decide) ?_
          refine zR_aload_n C eX5_count_80 0 rfl rfl ?_
          refine zR_get C fX5_12 eX5_count_81 0 eW_g0 rfl ?_
          refine zR_get C fX5_67 eX5_count_84 1 eW_g1 rfl ?_
          exact zR_iret C rfl rfl eX5_count_87 (Nat.zero_le _) (Nat.zero_le _) ⟨(by first | (unfold e_count; rw [if_neg h1_0, if_neg h1_1, if_neg h1_2, if_pos h1_3]; first | done | (dsimp only [e_fin]; done) | rfl) | rfl | (simp only [e_count, if_neg h1_0, if_neg h1_1, if_neg h1_2, if_pos h1_3]; first | done | rfl)), rfl⟩
        · skip
          refine zR_caseK (4) (fun h1_4 => ?_) (fun h1_4 => ?_)
          · skip
            refine zR_tswIn (off := 87) (tgt := 88) C eX5_count_1 (by decide) (by decide) (by decide) (by decide) ?_
            refine zR_aload_n C eX5_count_88 0 rfl rfl ?_
            refine zR_get C fX5_12 eX5_count_89 0 eW_g0 rfl ?_
            refine zR_get C fX5_228 eX5_count_92 1 eW_g1 rfl ?_
            exact zR_iret C rfl rfl eX5_count_95 (Nat.zero_le _) (Nat.zero_le _) ⟨(by first | (unfold e_count; rw [if_neg h1_0, if_neg h1_1, if_neg h1_2, if_neg h1_3, if_pos h1_4]; first | done | (dsimp only [e_fin]; done) | rfl) | rfl | (simp only [e_count, if_neg h1_0, if_neg h1_1, if_neg h1_2, if_neg h1_3, if_pos h1_4]; first | done | rfl)), rfl⟩
          · skip
            refine zR_caseK (5) (fun h1_5 => ?_) (fun h1_5 => ?_)
            · skip
              refine zR_tswIn (off := 95) (tgt := 96) C eX5_count_1 (by decide) (by decide) (by decide) (by decide) ?_
              refine zR_aload_n C eX5_count_96 0 rfl rfl ?_
              refine zR_get C fX5_12 eX5_count_97 0 eW_g0 rfl ?_
              refine zR_get C fX5_91 eX5_count_100 1 eW_g1 rfl ?_
              refine zR_get C fX5_136 eX5_count_103 9 eW_g9 rfl ?_
              exact zR_iret C rfl rfl eX5_count_106 (Nat.zero_le _) (Nat.zero_le _) ⟨(by first | (unfold e_count; rw [if_neg h1_0, if_neg h1_1, if_neg h1_2, if_neg h1_3, if_neg h1_4, if_pos h1_5]; first | done | (dsimp only [e_fin]; done) | rfl) | rfl | (simp only [e_count, if_neg h1_0, if_neg h1_1, if_neg h1_2, if_neg h1_3, if_neg h1_4, if_pos h1_5]; first | done | rfl)), rfl⟩
            · skip
              refine zR_caseK (6) (fun h1_6 => ?_) (fun h1_6 => ?_)
              · skip
                refine zR_tswIn (off := 106) (tgt := 107) C eX5_count_1 (by decide) (by decide) (by decide) (by decide) ?_
                refine zR_aload_n C eX5_count_107 0 rfl rfl ?_
                refine zR_get C fX5_12 eX5_count_108 0 eW_g0 rfl ?_
                refine zR_get C fX5_148 eX5_count_111 1 eW_g1 rfl ?_
                refine zR_get C fX5_152 eX5_count_114 15 eW_g15 rfl ?_
                exact zR_iret C rfl rfl eX5_count_117 (Nat.zero_le _) (Nat.zero_le _) ⟨(by first | (unfold e_count; rw [if_neg h1_0, if_neg h1_1, if_neg h1_2, if_neg h1_3, if_neg h1_4, if_neg h1_5, if_pos h1_6]; first | done | (dsimp only [e_fin]; done) | rfl) | rfl | (simp only [e_count, if_neg h1_0, if_neg h1_1, if_neg h1_2, if_neg h1_3, if_neg h1_4, if_neg h1_5, if_pos h1_6]; first | done | rfl)), rfl⟩
              · skip
                refine zR_caseK (7) (fun h1_7 => ?_) (fun h1_7 => ?_)
                · skip
                  refine zR_tswIn (off := 117) (tgt := 118) C eX5_count_1 (by decide) (by decide) (by decide) (by decide) ?_
                  refine zR_aload_n C eX5_count_118 0 rfl rfl ?_
                  refine zR_get C fX5_41 eX5_count_119 0 eW_g0 rfl ?_
                  exact zR_iret C rfl rfl eX5_count_122 (Nat.zero_le _) (Nat.zero_le _) ⟨(by first | (unfold e_count; rw [if_neg h1_0, if_neg h1_1, if_neg h1_2, if_neg h1_3, if_neg h1_4, if_neg h1_5, if_neg h1_6, if_pos h1_7]; first | done | (dsimp only [e_fin]; done) | rfl) | rfl | (simp only [e_count, if_neg h1_0, if_neg h1_1, if_neg h1_2, if_neg h1_3, if_neg h1_4, if_neg h1_5, if_neg h1_6, if_pos h1_7]; first | done | rfl)), rfl⟩
                · skip
                  refine zR_caseK (8) (fun h1_8 => ?_) (fun h1_8 => ?_)
                  · skip
                    refine zR_tswIn (off := 122) (tgt := 123) C eX5_count_1 (by decide) (by decide) (by decide) (by decide) ?_
                    refine zR_aload_n C eX5_count_123 0 rfl rfl ?_
                    refine zR_get C fX5_37 eX5_count_124 0 eW_g0 rfl ?_
                    refine zR_get C fX5_231 eX5_count_127 194 eW_g194 rfl ?_
                    exact zR_iret C rfl rfl eX5_count_130 (Nat.zero_le _) (Nat.zero_le _) ⟨(by first | (unfold e_count; rw [if_neg h1_0, if_neg h1_1, if_neg h1_2, if_neg h1_3, if_neg h1_4, if_neg h1_5, if_neg h1_6, if_neg h1_7, if_pos h1_8]; first | done | (dsimp only [e_fin]; done) | rfl) | rfl | (simp only [e_count, if_neg h1_0, if_neg h1_1, if_neg h1_2, if_neg h1_3, if_neg h1_4, if_neg h1_5, if_neg h1_6, if_neg h1_7, if_pos h1_8]; first | done | rfl)), rfl⟩
                  · skip
                    refine zR_caseK (9) (fun h1_9 => ?_) (fun h1_9 => ?_)
                    · skip
                      refine zR_tswIn (off := 130) (tgt := 131) C eX5_count_1 (by decide) (by decide) (by decide) (by decide) ?_
                      refine zR_aload_n C eX5_count_131 0 rfl rfl ?_
                      refine zR_get C fX5_22 eX5_count_132 0 eW_g0 rfl ?_
                      refine zR_get C fX5_234 eX5_count_135 43 eW_g43 rfl ?_
                      exact zR_iret C rfl rfl eX5_count_138 (Nat.zero_le _) (Nat.zero_le _) ⟨(by first | (unfold e_count; rw [if_neg h1_0, if_neg h1_1, if_neg h1_2, if_neg h1_3, if_neg h1_4, if_neg h1_5, if_neg h1_6, if_neg h1_7, if_neg h1_8, if_pos h1_9]; first | done | (dsimp only [e_fin]; done) | rfl) | rfl | (simp only [e_count, if_neg h1_0, if_neg h1_1, if_neg h1_2, if_neg h1_3, if_neg h1_4, if_neg h1_5, if_neg h1_6, if_neg h1_7, if_neg h1_8, if_pos h1_9]; first | done | rfl)), rfl⟩
                    · skip
                      refine zR_tswD (tgt := 139) C eX5_count_1 (fun j hj => match j, hj with | 0, _ => Or.inr (zsw_ne h1_0 (by decide) (by decide)) | 1, _ => Or.inr (zsw_ne h1_1 (by decide) (by decide)) | 2, _ => Or.inr (zsw_ne h1_2 (by decide) (by decide)) | 3, _ => Or.inr (zsw_ne h1_3 (by decide) (by decide)) | 4, _ => Or.inr (zsw_ne h1_4 (by decide) (by decide)) | 5, _ => Or.inr (zsw_ne h1_5 (by decide) (by decide)) | 6, _ => Or.inr (zsw_ne h1_6 (by decide) (by decide)) | 7, _ => Or.inr (zsw_ne h1_7 (by decide) (by decide)) | 8, _ => Or.inr (zsw_ne h1_8 (by decide) (by decide)) | 9, _ => Or.inr (zsw_ne h1_9 (by decide) (by decide)) | _ + 10, hj => absurd hj (by simp)) (by decide) (by decide) ?_
                      refine zR_iload_n C eX5_count_139 1 rfl rfl ?_
                      refine zR_bipush (v := 10) C eX5_count_140 (by decide) ?_
                      refine zR_isub C eX5_count_142 ?_
                      refine zR_istore_n (lv' := [(2, _), (0, _), (1, _)]) C eX5_count_143 rfl (by rw [hn]; decide) rfl ?_
                      refine zR_iload_n C eX5_count_144 2 rfl rfl ?_
                      refine zR_bipush (v := 10) C eX5_count_145 (by decide) ?_
                      refine zR_icmp_lt C eX5_count_147 (fun h147 => ?_) (fun h147 => ?_)
                      · skip
                        refine zR_bipush (v := -2) C eX5_count_156 (by decide) ?_
                        exact zR_iret C rfl rfl eX5_count_158 (Nat.zero_le _) (Nat.zero_le _) ⟨(by first | (unfold e_count; rw [if_neg h1_0, if_neg h1_1, if_neg h1_2, if_neg h1_3, if_neg h1_4, if_neg h1_5, if_neg h1_6, if_neg h1_7, if_neg h1_8, if_neg h1_9, if_pos h147]; first | done | (dsimp only [e_fin]; done) | rfl) | rfl | (simp only [e_count, if_neg h1_0, if_neg h1_1, if_neg h1_2, if_neg h1_3, if_neg h1_4, if_neg h1_5, if_neg h1_6, if_neg h1_7, if_neg h1_8, if_neg h1_9, if_pos h147]; first | done | rfl)), rfl⟩
                      · skip
                        refine zR_iload_n C eX5_count_150 0 rfl rfl ?_
                        refine zR_bipush (v := 8) C eX5_count_151 (by decide) ?_
                        refine zR_icmp_lt C eX5_count_153 (fun h153 => ?_) (fun h153 => ?_)
                        · skip
                          refine zR_aload_n C eX5_count_159 1 rfl rfl ?_
                          refine zR_get C fX5_12 eX5_count_160 0 eW_g0 rfl ?_
                          refine zR_get C fX5_60 eX5_count_163 1 eW_g1 rfl ?_
                          refine zR_iload_n C eX5_count_166 0 rfl rfl ?_
                          refine zR_iald C eX5_count_167 2 eW_g2 (by exact (vp_in_w10 (by assumption) (by assumption)).1) ?_
                          exact zR_iret C rfl rfl eX5_count_168 (Nat.zero_le _) (Nat.zero_le _) ⟨(by first | (unfold e_count; rw [if_neg h1_0, if_neg h1_1, if_neg h1_2, if_neg h1_3, if_neg h1_4, if_neg h1_5, if_neg h1_6, if_neg h1_7, if_neg h1_8, if_neg h1_9, if_neg h147, if_pos h153]; first | done | (dsimp only [e_fin]; done) | rfl) | rfl | (simp only [e_count, if_neg h1_0, if_neg h1_1, if_neg h1_2, if_neg h1_3, if_neg h1_4, if_neg h1_5, if_neg h1_6, if_neg h1_7, if_neg h1_8, if_neg h1_9, if_neg h147, if_pos h153]; first | done | rfl)), rfl⟩
                        · skip
                          refine zR_bipush (v := -2) C eX5_count_156 (by decide) ?_
                          exact zR_iret C rfl rfl eX5_count_158 (Nat.zero_le _) (Nat.zero_le _) ⟨(by first | (unfold e_count; rw [if_neg h1_0, if_neg h1_1, if_neg h1_2, if_neg h1_3, if_neg h1_4, if_neg h1_5, if_neg h1_6, if_neg h1_7, if_neg h1_8, if_neg h1_9, if_neg h147, if_neg h153]; first | done | (dsimp only [e_fin]; done) | rfl) | rfl | (simp only [e_count, if_neg h1_0, if_neg h1_1, if_neg h1_2, if_neg h1_3, if_neg h1_4, if_neg h1_5, if_neg h1_6, if_neg h1_7, if_neg h1_8, if_neg h1_9, if_neg h147, if_neg h153]; first | done | rfl)), rfl⟩
set_option maxHeartbeats 400000 in
set_option maxRecDepth 100000 in
theorem c_X5_leftIn {l : Launch} {g : zG} (q : Nat → Nat) (e : ED) (s : Int32) (k : Int32) (he : e_ok e) : zM l g yX5_leftIn cX5_leftIn 3 (some .long) 5 0 0 [.ref (q 0), .int s, .int k] (eW g q e) (zE (some (.long (e_leftIn e s k).1)) (eW g q (e_leftIn e s k).2)) := by
  refine zM_of (by decide +kernel) (Nat.le_of_ble_eq_true rfl) (fun x hl hn _ _ _ C => ?_)
  subst hl
  show zR x g _ (0, 0) 0 [(0, .ref (q 0)), (1, .int s), (2, .int k)] [] _
  refine zR_aload_n C eX5_leftIn_0 0 rfl rfl ?_
  refine zR_get C fX5_12 eX5_leftIn_1 0 eW_g0 rfl ?_
  refine zR_iload_n C eX5_leftIn_4 1 rfl rfl ?_
  refine zR_callV1 C kX5_73 eX5_leftIn_5 (c_X1_hasService (fun j => q (1 + j)) _ _ ) rfl 1 1 eW_g1 rfl rfl _ eW_c1 eW_n1 rfl (by decide) (by decide) (Nat.le_of_ble_eq_true rfl) (Nat.zero_le _) (Nat.zero_le _) hW_f eW_r1o ?_
  refine zR_bfne C eX5_leftIn_8 (fun h8 => ?_) (fun h8 => ?_)
  · skip
    refine zR_aload_n C eX5_leftIn_15 0 rfl rfl ?_
    refine zR_get C fX5_16 eX5_leftIn_16 0 eW_g0 rfl ?_
    refine zR_aload_n C eX5_leftIn_19 0 rfl rfl ?_
    refine zR_get C fX5_12 eX5_leftIn_20 0 eW_g0 rfl ?_
    refine zR_callVv C kX5_237 eX5_leftIn_23 (c_X1_copyFrom (fun j => q (22 + j)) _ (fun j => q (1 + j)) _ (by exact he.1)) rfl 22 1 eW_g22 rfl rfl _ eW_cRn (zfrom_nd2 (by omega)) rfl (by decide) (by decide) (Nat.le_of_ble_eq_true rfl) (Nat.zero_le _) (Nat.zero_le _) hhW_f eW_rRn ?_
    refine zR_ws (eW g q (e_try e)) rfl ?_
    refine zR_aload_n C eX5_leftIn_26 0 rfl rfl ?_
    refine zR_get C fX5_16 eX5_leftIn_27 0 eW_g0 rfl ?_
    refine zR_iload_n C eX5_leftIn_30 2 rfl rfl ?_
    refine zR_callV1 C kX5_116 eX5_leftIn_31 (c_X1_letPass (fun j => q (22 + j)) _ _ (by exact (e_try_ok he).2.1)) rfl 22 1 eW_g22 rfl rfl _ eW_c22 eW_n22 rfl (by decide) (by decide) (Nat.le_of_ble_eq_true rfl) (Nat.zero_le _) (Nat.zero_le _) hW_f eW_r22 ?_
    refine zR_ws (eW g q (e_tpass (e_try e) k)) rfl ?_
    refine zR_bipush (v := -2) C eX5_leftIn_34 (by decide) ?_
    refine zR_icmp_ne C eX5_leftIn_36 (fun h36 => ?_) (fun h36 => ?_)
    · skip
      refine zR_aload_n C eX5_leftIn_45 0 rfl rfl ?_
      refine zR_get C fX5_16 eX5_leftIn_46 0 eW_g0 rfl ?_
      refine zR_iload_n C eX5_leftIn_49 1 rfl rfl ?_
      refine zR_bipush (v := 8) C eX5_leftIn_50 (by decide) ?_
      refine zR_callV1 C kX5_201 eX5_leftIn_52 (c_X1_minutesOf (fun j => q (22 + j)) _ _ _ (by first | assumption | exact (h_has_in (by assumption) he.1.1).2.2 | exact vp_in_iff.mpr (by decide)) (vp_in_iff.mpr (by decide))) rfl 22 1 eW_g22 rfl rfl _ eW_c22 eW_n22 rfl (by decide) (by decide) (Nat.le_of_ble_eq_true rfl) (Nat.zero_le _) (Nat.zero_le _) hW_f eW_r22o ?_
      exact zR_lret C rfl eX5_leftIn_55 (Nat.zero_le _) (Nat.zero_le _) ⟨(by first | (unfold e_leftIn; rw [if_pos h8, if_neg h36]; first | done | (dsimp only [e_fin]; done) | rfl) | rfl | (simp only [e_leftIn, if_pos h8, if_neg h36]; first | done | rfl)), (by first | (unfold e_leftIn; rw [if_pos h8, if_neg h36]; first | done | (dsimp only [e_fin]; done) | rfl) | rfl | (simp only [e_leftIn, if_pos h8, if_neg h36]; first | done | rfl))⟩
    · skip
      refine zR_ldc2 C qX5_199 eX5_leftIn_39 ?_
      refine zR_goto C eX5_leftIn_42 ?_
      exact zR_lret C rfl eX5_leftIn_55 (Nat.zero_le _) (Nat.zero_le _) ⟨(by first | (unfold e_leftIn; rw [if_pos h8, if_pos h36]; first | done | (dsimp only [e_fin]; done) | rfl) | rfl | (simp only [e_leftIn, if_pos h8, if_pos h36]; first | done | rfl)), (by first | (unfold e_leftIn; rw [if_pos h8, if_pos h36]; first | done | (dsimp only [e_fin]; done) | rfl) | rfl | (simp only [e_leftIn, if_pos h8, if_pos h36]; first | done | rfl))⟩
  · skip
    refine zR_ldc2 C qX5_197 eX5_leftIn_11 ?_
    exact zR_lret C rfl eX5_leftIn_14 (Nat.zero_le _) (Nat.zero_le _) ⟨(by first | (unfold e_leftIn; rw [if_neg h8]; first | done | (dsimp only [e_fin]; done) | rfl) | rfl | (simp only [e_leftIn, if_neg h8]; first | done | rfl)), (by first | (unfold e_leftIn; rw [if_neg h8]; first | done | (dsimp only [e_fin]; done) | rfl) | rfl | (simp only [e_leftIn, if_neg h8]; first | done | rfl))⟩
set_option maxHeartbeats 400000 in
set_option maxRecDepth 100000 in
theorem c_X5_leastLoan {l : Launch} {g : zG} (q : Nat → Nat) (e : ED) (s : Int32) (he : e_ok e) : zM l g yX5_leastLoan cX5_leastLoan 2 (some .long) 1 0 0 [.ref (q 0), .int s] (eW g q e) (zE (some (.long (e_least e s))) (eW g q e)) := by
  refine zM_of (by decide +kernel) (Nat.le_of_ble_eq_true rfl) (fun x hl hn _ _ _ C => ?_)
  subst hl
  show zR x g _ (0, 0) 0 [(0, .ref (q 0)), (1, .int s)] [] _
  refine zR_aload_n C eX5_leastLoan_0 0 rfl rfl ?_
  refine zR_get C fX5_12 eX5_leastLoan_1 0 eW_g0 rfl ?_
  refine zR_iload_n C eX5_leastLoan_4 1 rfl rfl ?_
  refine zR_callV1 C kX5_73 eX5_leastLoan_5 (c_X1_hasService (fun j => q (1 + j)) _ _ ) rfl 1 1 eW_g1 rfl rfl _ eW_c1 eW_n1 rfl (by decide) (by decide) (Nat.le_of_ble_eq_true rfl) (Nat.zero_le _) (Nat.zero_le _) hW_f eW_r1o ?_
  refine zR_bfne C eX5_leastLoan_8 (fun h8 => ?_) (fun h8 => ?_)
  · skip
    refine zR_aload_n C eX5_leastLoan_15 0 rfl rfl ?_
    refine zR_get C fX5_12 eX5_leastLoan_16 0 eW_g0 rfl ?_
    refine zR_iload_n C eX5_leastLoan_19 1 rfl rfl ?_
    refine zR_callV1 C kX5_123 eX5_leastLoan_20 (c_X1_isFrozen (fun j => q (1 + j)) _ _ ) rfl 1 1 eW_g1 rfl rfl _ eW_c1 eW_n1 rfl (by decide) (by decide) (Nat.le_of_ble_eq_true rfl) (Nat.zero_le _) (Nat.zero_le _) hW_f eW_r1o ?_
    refine zR_bfne C eX5_leastLoan_23 (fun h23 => ?_) (fun h23 => ?_)
    · skip
      refine zR_lconst (v := 1) C eX5_leastLoan_28 (by decide) ?_
      refine zR_aload_n C eX5_leastLoan_29 0 rfl rfl ?_
      refine zR_get C fX5_12 eX5_leastLoan_30 0 eW_g0 rfl ?_
      refine zR_iload_n C eX5_leastLoan_33 1 rfl rfl ?_
      refine zR_callV1 C kX5_250 eX5_leastLoan_34 (c_X1_thawLimit (fun j => q (1 + j)) _ _ (by first | assumption | exact (h_has_in (by assumption) he.1.1).2.2 | exact vp_in_iff.mpr (by decide))) rfl 1 1 eW_g1 rfl rfl _ eW_c1 eW_n1 rfl (by decide) (by decide) (Nat.le_of_ble_eq_true rfl) (Nat.zero_le _) (Nat.zero_le _) hW_f eW_r1o ?_
      refine zR_iconst (v := 1) C eX5_leastLoan_37 (by decide) ?_
      refine zR_iadd C eX5_leastLoan_38 ?_
      refine zR_i2l C eX5_leastLoan_39 ?_
      refine zR_aload_n C eX5_leastLoan_40 0 rfl rfl ?_
      refine zR_get C fX5_12 eX5_leastLoan_41 0 eW_g0 rfl ?_
      refine zR_iload_n C eX5_leastLoan_44 1 rfl rfl ?_
      refine zR_bipush (v := 8) C eX5_leastLoan_45 (by decide) ?_
      refine zR_callV1 C kX5_201 eX5_leastLoan_47 (c_X1_minutesOf (fun j => q (1 + j)) _ _ _ (by first | assumption | exact (h_has_in (by assumption) he.1.1).2.2 | exact vp_in_iff.mpr (by decide)) (vp_in_iff.mpr (by decide))) rfl 1 1 eW_g1 rfl rfl _ eW_c1 eW_n1 rfl (by decide) (by decide) (Nat.le_of_ble_eq_true rfl) (Nat.zero_le _) (Nat.zero_le _) hW_f eW_r1o ?_
      refine zR_lsub C eX5_leastLoan_50 ?_
      refine zR_mmaxl C kX5_253 eX5_leastLoan_51 (by decide) (Nat.le_of_ble_eq_true rfl) (Nat.zero_le _) (Nat.zero_le _) ?_
      exact zR_lret C rfl eX5_leastLoan_54 (Nat.zero_le _) (Nat.zero_le _) ⟨(by first | (unfold e_least; rw [if_pos h8, if_pos h23]; first | done | (dsimp only [e_fin]; done) | rfl) | rfl | (simp only [e_least, if_pos h8, if_pos h23]; first | done | rfl)), rfl⟩
    · skip
      refine zR_lconst (v := 0) C eX5_leastLoan_26 (by decide) ?_
      exact zR_lret C rfl eX5_leastLoan_27 (Nat.zero_le _) (Nat.zero_le _) ⟨(by first | (unfold e_least; rw [if_pos h8, if_neg h23]; first | done | (dsimp only [e_fin]; done) | rfl) | rfl | (simp only [e_least, if_pos h8, if_neg h23]; first | done | rfl)), rfl⟩
  · skip
    refine zR_ldc2 C qX5_197 eX5_leastLoan_11 ?_
    exact zR_lret C rfl eX5_leastLoan_14 (Nat.zero_le _) (Nat.zero_le _) ⟨(by first | (unfold e_least; rw [if_neg h8]; first | done | (dsimp only [e_fin]; done) | rfl) | rfl | (simp only [e_least, if_neg h8]; first | done | rfl)), rfl⟩
set_option maxHeartbeats 400000 in
set_option maxRecDepth 100000 in
theorem c_X5_safeSize {l : Launch} {g : zG} (q : Nat → Nat) (e : ED) (s : Int32) (he : e_ok e) : zM l g yX5_safeSize cX5_safeSize 4 (some .int) 1 0 0 [.ref (q 0), .int s] (eW g q e) (zE (some (.int (e_safe e s))) (eW g q e)) := by
  refine zM_of (by decide +kernel) (Nat.le_of_ble_eq_true rfl) (fun x hl hn _ _ _ C => ?_)
  subst hl
  show zR x g _ (0, 0) 0 [(0, .ref (q 0)), (1, .int s)] [] _
  refine zR_aload_n C eX5_safeSize_0 0 rfl rfl ?_
  refine zR_get C fX5_12 eX5_safeSize_1 0 eW_g0 rfl ?_
  refine zR_iload_n C eX5_safeSize_4 1 rfl rfl ?_
  refine zR_callV1 C kX5_73 eX5_safeSize_5 (c_X1_hasService (fun j => q (1 + j)) _ _ ) rfl 1 1 eW_g1 rfl rfl _ eW_c1 eW_n1 rfl (by decide) (by decide) (Nat.le_of_ble_eq_true rfl) (Nat.zero_le _) (Nat.zero_le _) hW_f eW_r1o ?_
  refine zR_bfne C eX5_safeSize_8 (fun h8 => ?_) (fun h8 => ?_)
  · skip
    refine zR_aload_n C eX5_safeSize_13 0 rfl rfl ?_
    refine zR_get C fX5_12 eX5_safeSize_14 0 eW_g0 rfl ?_
    refine zR_iload_n C eX5_safeSize_17 1 rfl rfl ?_
    refine zR_bipush (v := 8) C eX5_safeSize_18 (by decide) ?_
    refine zR_callV1 C kX5_201 eX5_safeSize_20 (c_X1_minutesOf (fun j => q (1 + j)) _ _ _ (by first | assumption | exact (h_has_in (by assumption) he.1.1).2.2 | exact vp_in_iff.mpr (by decide)) (vp_in_iff.mpr (by decide))) rfl 1 1 eW_g1 rfl rfl _ eW_c1 eW_n1 rfl (by decide) (by decide) (Nat.le_of_ble_eq_true rfl) (Nat.zero_le _) (Nat.zero_le _) hW_f eW_r1o ?_
    refine zR_lconst (v := 1) C eX5_safeSize_23 (by decide) ?_
    refine zR_lsub C eX5_safeSize_24 ?_
    refine zR_lstore_n (lv' := [(2, _), (0, _), (1, _)]) C eX5_safeSize_25 rfl (by rw [hn]; decide) rfl ?_
    refine zR_aload_n C eX5_safeSize_26 1 rfl rfl ?_
    refine zR_get C fX5_12 eX5_safeSize_27 0 eW_g0 rfl ?_
    refine zR_iload_n C eX5_safeSize_30 2 rfl rfl ?_
    refine zR_callV1 C kX5_123 eX5_safeSize_31 (c_X1_isFrozen (fun j => q (1 + j)) _ _ ) rfl 1 1 eW_g1 rfl rfl _ eW_c1 eW_n1 rfl (by decide) (by decide) (Nat.le_of_ble_eq_true rfl) (Nat.zero_le _) (Nat.zero_le _) hW_f eW_r1o ?_
    refine zR_bfne C eX5_safeSize_34 (fun h34 => ?_) (fun h34 => ?_)
    · skip
      refine zR_bipush (v := -6) C eX5_safeSize_43 (by decide) ?_
      exact zR_iret C rfl rfl eX5_safeSize_45 (Nat.zero_le _) (Nat.zero_le _) ⟨(by first | (unfold e_safe; rw [if_pos h8, if_pos h34]; first | done | (dsimp only [e_fin]; done) | rfl) | rfl | (simp only [e_safe, if_pos h8, if_pos h34]; first | done | rfl)), rfl⟩
    · skip
      refine zR_lload_n C eX5_safeSize_37 0 rfl rfl ?_
      refine zR_lconst (v := 1) C eX5_safeSize_38 (by decide) ?_
      refine zR_cifge C eX5_safeSize_39 eX5_safeSize_40 (fun h39 => ?_) (fun h39 => ?_)
      · skip
        refine zR_lload_n C eX5_safeSize_46 0 rfl rfl ?_
        refine zR_ldc2 C qX5_259 eX5_safeSize_47 ?_
        refine zR_mminl C kX5_261 eX5_safeSize_50 (by decide) (Nat.le_of_ble_eq_true rfl) (Nat.zero_le _) (Nat.zero_le _) ?_
        refine zR_l2i C eX5_safeSize_53 rfl ?_
        exact zR_iret C rfl rfl eX5_safeSize_54 (Nat.zero_le _) (Nat.zero_le _) ⟨(by first | (unfold e_safe; rw [if_pos h8, if_neg h34, if_neg h39]; first | done | (dsimp only [e_fin]; done) | rfl) | rfl | (simp only [e_safe, if_pos h8, if_neg h34, if_neg h39]; first | done | rfl)), rfl⟩
      · skip
        refine zR_bipush (v := -6) C eX5_safeSize_43 (by decide) ?_
        exact zR_iret C rfl rfl eX5_safeSize_45 (Nat.zero_le _) (Nat.zero_le _) ⟨(by first | (unfold e_safe; rw [if_pos h8, if_neg h34, if_pos h39]; first | done | (dsimp only [e_fin]; done) | rfl) | rfl | (simp only [e_safe, if_pos h8, if_neg h34, if_pos h39]; first | done | rfl)), rfl⟩
  · skip
    refine zR_iconst (v := -1) C eX5_safeSize_11 (by decide) ?_
    exact zR_iret C rfl rfl eX5_safeSize_12 (Nat.zero_le _) (Nat.zero_le _) ⟨(by first | (unfold e_safe; rw [if_neg h8]; first | done | (dsimp only [e_fin]; done) | rfl) | rfl | (simp only [e_safe, if_neg h8]; first | done | rfl)), rfl⟩
theorem y_kept1 {y : YD} (h : y_ok y) (h0 : ¬ y_kept y = 0) : 1 ≤ zn32 (y_kept y) := by
  rcases Nat.lt_or_ge 0 (zn32 (y_kept y)) with z | z
  · exact z
  · exact absurd (by rw [h.2.1, show zn32 (y_kept y) = 0 by omega]; rfl) h0
set_option maxHeartbeats 400000 in
set_option maxRecDepth 100000 in
theorem c_X5_undo {l : Launch} {g : zG} (q : Nat → Nat) (e : ED)  (he : e_ok e) : zM l g yX5_undo cX5_undo 1 (some .int) 4 0 0 [.ref (q 0)] (eW g q e) (zE (some (.int (e_undo e).1)) (eW g q (e_undo e).2)) := by
  refine zM_of (by decide +kernel) (Nat.le_of_ble_eq_true rfl) (fun x hl hn _ _ _ C => ?_)
  subst hl
  show zR x g _ (0, 0) 0 [(0, .ref (q 0))] [] _
  refine zR_aload_n C eX5_undo_0 0 rfl rfl ?_
  refine zR_get C fX5_22 eX5_undo_1 0 eW_g0 rfl ?_
  refine zR_get C fX5_234 eX5_undo_4 43 eW_g43 rfl ?_
  refine zR_ifne C eX5_undo_7 (fun h7 => ?_) (fun h7 => ?_)
  · skip
    refine zR_aload_n C eX5_undo_13 0 rfl rfl ?_
    refine zR_get C fX5_12 eX5_undo_14 0 eW_g0 rfl ?_
    refine zR_aload_n C eX5_undo_17 0 rfl rfl ?_
    refine zR_get C fX5_22 eX5_undo_18 0 eW_g0 rfl ?_
    refine zR_callV1 C kX5_285 eX5_undo_21 (c_X0_takeLatest (fun j => q (43 + j)) _ he.2.2.1 (by exact y_kept1 he.2.2.1 (by assumption))) rfl 43 0 eW_g43 rfl rfl _ eW_cY rfl rfl (by decide) (by decide) (Nat.le_of_ble_eq_true rfl) (Nat.zero_le _) (Nat.zero_le _) yW0_f (eW_rY rfl) ?_
    refine zR_ws (eW g q (e_pop _)) rfl ?_
    refine zR_callVv C kX5_237 eX5_undo_24 (c_X1_copyFrom (fun j => q (1 + j)) _ (fun j => q (43 + (2 + (21 * y_ix (e_his (e_pop e)) + j)))) _ (by exact he.2.2.2.1 _ (y_ix_lt _))) rfl 1 1 eW_g1 rfl rfl _ (eW_cHn (y_ix_lt _)) (zfrom_nd2 (by omega)) rfl (by decide) (by decide) (Nat.le_of_ble_eq_true rfl) (Nat.zero_le _) (Nat.zero_le _) hhW_f (eW_rHn (y_ix_lt _)) ?_
    refine zR_ws (eW g q (e_und1 (e_pop e))) rfl ?_
    refine zR_aload_n C eX5_undo_27 0 rfl rfl ?_
    refine zR_get C fX5_22 eX5_undo_28 0 eW_g0 rfl ?_
    refine zR_get C fX5_234 eX5_undo_31 43 eW_g43 rfl ?_
    exact zR_iret C rfl rfl eX5_undo_34 (Nat.zero_le _) (Nat.zero_le _) ⟨(by first | (unfold e_undo; rw [if_neg h7]; first | done | (dsimp only [e_fin]; done) | rfl) | rfl | (simp only [e_undo, if_neg h7]; first | done | rfl)), (by first | (unfold e_undo; rw [if_neg h7]; first | done | (dsimp only [e_fin]; done) | rfl) | rfl | (simp only [e_undo, if_neg h7]; first | done | rfl))⟩
  · skip
    refine zR_bipush (v := -6) C eX5_undo_10 (by decide) ?_
    exact zR_iret C rfl rfl eX5_undo_12 (Nat.zero_le _) (Nat.zero_le _) ⟨(by first | (unfold e_undo; rw [if_pos h7]; first | done | (dsimp only [e_fin]; done) | rfl) | rfl | (simp only [e_undo, if_pos h7]; first | done | rfl)), (by first | (unfold e_undo; rw [if_pos h7]; first | done | (dsimp only [e_fin]; done) | rfl) | rfl | (simp only [e_undo, if_pos h7]; first | done | rfl))⟩
set_option maxHeartbeats 400000 in
set_option maxRecDepth 100000 in
theorem c_X5_save {l : Launch} {g : zG} (q : Nat → Nat) (e : ED) (i : Int32) (he : e_ok e) : zM l g yX5_save cX5_save 2 (some .int) 3 0 0 [.ref (q 0), .int i] (eW g q e) (zE (some (.int (e_save e i).1)) (eW g q (e_save e i).2)) := by
  refine zM_of (by decide +kernel) (Nat.le_of_ble_eq_true rfl) (fun x hl hn _ _ _ C => ?_)
  subst hl
  show zR x g _ (0, 0) 0 [(0, .ref (q 0)), (1, .int i)] [] _
  refine zR_iload_n C eX5_save_0 1 rfl rfl ?_
  refine zR_iflt C eX5_save_1 (fun h1 => ?_) (fun h1 => ?_)
  · skip
    refine zR_iconst (v := -1) C eX5_save_9 (by decide) ?_
    exact zR_iret C rfl rfl eX5_save_10 (Nat.zero_le _) (Nat.zero_le _) ⟨(by first | (unfold e_save; rw [if_pos h1]; first | done | (dsimp only [e_fin]; done) | rfl) | rfl | (simp only [e_save, if_pos h1]; first | done | rfl)), (by first | (unfold e_save; rw [if_pos h1]; first | done | (dsimp only [e_fin]; done) | rfl) | rfl | (simp only [e_save, if_pos h1]; first | done | rfl))⟩
  · skip
    refine zR_iload_n C eX5_save_4 1 rfl rfl ?_
    refine zR_iconst (v := 2) C eX5_save_5 (by decide) ?_
    refine zR_icmp_lt C eX5_save_6 (fun h6 => ?_) (fun h6 => ?_)
    · skip
      refine zR_aload_n C eX5_save_11 0 rfl rfl ?_
      refine zR_get C fX5_26 eX5_save_12 0 eW_g0 rfl ?_
      refine zR_iload_n C eX5_save_15 1 rfl rfl ?_
      have hi2 := (vp_in2 (s := i) (by assumption) (by assumption)).2
      refine zR_aald (v := .ref (q (198 + 21 * zn32 i))) C eX5_save_16 192 eW_g192 (by rw [(vp_in2 (s := i) (by assumption) (by assumption)).1]; exact vp_in_nI hi2 (by decide)) rfl ?_
      refine zR_aload_n C eX5_save_17 0 rfl rfl ?_
      refine zR_get C fX5_12 eX5_save_18 0 eW_g0 rfl ?_
      refine zR_callVv C kX5_237 eX5_save_21 (c_X1_copyFrom (fun j => q (198 + (21 * zn32 i + j))) _ (fun j => q (1 + j)) _ (by exact he.1)) rfl (198 + 21 * zn32 i) 1 (eW_gS hi2).choose_spec rfl rfl _ (eW_cTn hi2) (zfrom_nd2 (by omega)) rfl (by decide) (by decide) (Nat.le_of_ble_eq_true rfl) (Nat.zero_le _) (Nat.zero_le _) hhW_f (eW_rTn hi2) ?_
      refine zR_ws (eW g q (e_sav1 e (zn32 i))) rfl ?_
      refine zR_aload_n C eX5_save_24 0 rfl rfl ?_
      refine zR_get C fX5_30 eX5_save_25 0 eW_g0 rfl ?_
      refine zR_iload_n C eX5_save_28 1 rfl rfl ?_
      refine zR_iconst (v := 1) C eX5_save_29 (by decide) ?_
      refine zR_zast C eX5_save_30 193 eW_g193 (by rw [(vp_in2 (s := i) (by assumption) (by assumption)).1]; exact vp_in_nI hi2 (by decide)) rfl eW_s193 ?_
      refine zR_ws (eW g q (e_sav2 (e_sav1 e (zn32 i)) (zn32 i))) rfl ?_
      refine zR_aload_n C eX5_save_31 0 rfl rfl ?_
      refine zR_get C fX5_12 eX5_save_32 0 eW_g0 rfl ?_
      refine zR_get C fX5_145 eX5_save_35 1 eW_g1 rfl ?_
      exact zR_iret C rfl rfl eX5_save_38 (Nat.zero_le _) (Nat.zero_le _) ⟨(by first | (unfold e_save; rw [if_neg h1, if_pos h6]; first | done | (dsimp only [e_fin]; done) | rfl) | rfl | (simp only [e_save, if_neg h1, if_pos h6]; first | done | rfl)), (by first | (unfold e_save; rw [if_neg h1, if_pos h6]; first | done | (dsimp only [e_fin]; done) | rfl) | rfl | (simp only [e_save, if_neg h1, if_pos h6]; first | done | rfl))⟩
    · skip
      refine zR_iconst (v := -1) C eX5_save_9 (by decide) ?_
      exact zR_iret C rfl rfl eX5_save_10 (Nat.zero_le _) (Nat.zero_le _) ⟨(by first | (unfold e_save; rw [if_neg h1, if_neg h6]; first | done | (dsimp only [e_fin]; done) | rfl) | rfl | (simp only [e_save, if_neg h1, if_neg h6]; first | done | rfl)), (by first | (unfold e_save; rw [if_neg h1, if_neg h6]; first | done | (dsimp only [e_fin]; done) | rfl) | rfl | (simp only [e_save, if_neg h1, if_neg h6]; first | done | rfl))⟩
set_option maxHeartbeats 400000 in
set_option maxRecDepth 100000 in
theorem c_X5_restore {l : Launch} {g : zG} (q : Nat → Nat) (e : ED) (i : Int32) (he : e_ok e) : zM l g yX5_restore cX5_restore 2 (some .int) 4 0 0 [.ref (q 0), .int i] (eW g q e) (zE (some (.int (e_restore e i).1)) (eW g q (e_restore e i).2)) := by
  refine zM_of (by decide +kernel) (Nat.le_of_ble_eq_true rfl) (fun x hl hn _ _ _ C => ?_)
  subst hl
  show zR x g _ (0, 0) 0 [(0, .ref (q 0)), (1, .int i)] [] _
  refine zR_iload_n C eX5_restore_0 1 rfl rfl ?_
  refine zR_iflt C eX5_restore_1 (fun h1 => ?_) (fun h1 => ?_)
  · skip
    refine zR_iconst (v := -1) C eX5_restore_18 (by decide) ?_
    exact zR_iret C rfl rfl eX5_restore_19 (Nat.zero_le _) (Nat.zero_le _) ⟨(by first | (unfold e_restore; rw [if_pos h1]; first | done | (dsimp only [e_fin]; done) | rfl) | rfl | (simp only [e_restore, if_pos h1]; first | done | rfl)), (by first | (unfold e_restore; rw [if_pos h1]; first | done | (dsimp only [e_fin]; done) | rfl) | rfl | (simp only [e_restore, if_pos h1]; first | done | rfl))⟩
  · skip
    refine zR_iload_n C eX5_restore_4 1 rfl rfl ?_
    refine zR_iconst (v := 2) C eX5_restore_5 (by decide) ?_
    refine zR_icmp_ge C eX5_restore_6 (fun h6 => ?_) (fun h6 => ?_)
    · skip
      refine zR_iconst (v := -1) C eX5_restore_18 (by decide) ?_
      exact zR_iret C rfl rfl eX5_restore_19 (Nat.zero_le _) (Nat.zero_le _) ⟨(by first | (unfold e_restore; rw [if_neg h1, if_neg h6]; first | done | (dsimp only [e_fin]; done) | rfl) | rfl | (simp only [e_restore, if_neg h1, if_neg h6]; first | done | rfl)), (by first | (unfold e_restore; rw [if_neg h1, if_neg h6]; first | done | (dsimp only [e_fin]; done) | rfl) | rfl | (simp only [e_restore, if_neg h1, if_neg h6]; first | done | rfl))⟩
    · skip
      refine zR_aload_n C eX5_restore_9 0 rfl rfl ?_
      refine zR_get C fX5_30 eX5_restore_10 0 eW_g0 rfl ?_
      refine zR_iload_n C eX5_restore_13 1 rfl rfl ?_
      have hi2 := (vp_in2 (s := i) (by assumption) (by assumption)).2
      refine zR_zald C eX5_restore_14 193 eW_g193 (by rw [(vp_in2 (s := i) (by assumption) (by assumption)).1]; exact vp_in_nI hi2 (by decide)) ?_
      refine zR_ifne C eX5_restore_15 (fun h15 => ?_) (fun h15 => ?_)
      · skip
        refine zR_aload_n C eX5_restore_20 0 rfl rfl ?_
        refine zR_get C fX5_22 eX5_restore_21 0 eW_g0 rfl ?_
        refine zR_aload_n C eX5_restore_24 0 rfl rfl ?_
        refine zR_get C fX5_12 eX5_restore_25 0 eW_g0 rfl ?_
        refine zR_callVv C kX5_56 eX5_restore_28 (c_X0_prepare (fun j => q (43 + j)) _ (fun j => q (1 + j)) _ he.2.2.1 he.1) rfl 43 0 eW_g43 rfl rfl _ eW_cPn (zfrom_nd2 (by omega)) rfl (by decide) (by decide) (Nat.le_of_ble_eq_true rfl) (Nat.zero_le _) (Nat.zero_le _) yyW_f eW_rPn ?_
        refine zR_ws (eW g q (e_prep _)) rfl ?_
        refine zR_aload_n C eX5_restore_31 0 rfl rfl ?_
        refine zR_get C fX5_12 eX5_restore_32 0 eW_g0 rfl ?_
        refine zR_aload_n C eX5_restore_35 0 rfl rfl ?_
        refine zR_get C fX5_26 eX5_restore_36 0 eW_g0 rfl ?_
        refine zR_iload_n C eX5_restore_39 1 rfl rfl ?_
        refine zR_aald (v := .ref (q (198 + 21 * zn32 i))) C eX5_restore_40 192 eW_g192 (by rw [(vp_in2 (s := i) (by assumption) (by assumption)).1]; exact vp_in_nI hi2 (by decide)) rfl ?_
        refine zR_callVv C kX5_237 eX5_restore_41 (c_X1_copyFrom (fun j => q (1 + j)) _ (fun j => q (198 + (21 * zn32 i + j))) _ (by exact (e_prep_ok he).2.2.2.2.1 _ hi2)) rfl 1 1 eW_g1 rfl rfl _ (eW_cSn hi2) (zfrom_nd2 (by omega)) rfl (by decide) (by decide) (Nat.le_of_ble_eq_true rfl) (Nat.zero_le _) (Nat.zero_le _) hhW_f (eW_rSn hi2) ?_
        refine zR_ws (eW g q (e_res1 (e_prep e) (zn32 i))) rfl ?_
        refine zR_aload_n C eX5_restore_44 0 rfl rfl ?_
        refine zR_get C fX5_22 eX5_restore_45 0 eW_g0 rfl ?_
        refine zR_aload_n C eX5_restore_48 0 rfl rfl ?_
        refine zR_get C fX5_12 eX5_restore_49 0 eW_g0 rfl ?_
        refine zR_get C fX5_145 eX5_restore_52 1 eW_g1 rfl ?_
        refine zR_callV1 C kX5_63 eX5_restore_55 (c_X0_keep (fun j => q (43 + j)) _ _ ) rfl 43 0 eW_g43 rfl rfl _ eW_c43 rfl rfl (by decide) (by decide) (Nat.le_of_ble_eq_true rfl) (Nat.zero_le _) (Nat.zero_le _) kW_f (eW_r43 (y_keep_st _ _)) ?_
        exact zR_iret C rfl rfl eX5_restore_58 (Nat.zero_le _) (Nat.zero_le _) ⟨(by first | (unfold e_restore; rw [if_neg h1, if_pos h6, if_neg h15]; first | done | (dsimp only [e_fin]; done) | rfl) | rfl | (simp only [e_restore, if_neg h1, if_pos h6, if_neg h15]; first | done | rfl)), (by first | (unfold e_restore; rw [if_neg h1, if_pos h6, if_neg h15]; first | done | (dsimp only [e_fin]; done) | rfl) | rfl | (simp only [e_restore, if_neg h1, if_pos h6, if_neg h15]; first | done | rfl))⟩
      · skip
        refine zR_iconst (v := -1) C eX5_restore_18 (by decide) ?_
        exact zR_iret C rfl rfl eX5_restore_19 (Nat.zero_le _) (Nat.zero_le _) ⟨(by first | (unfold e_restore; rw [if_neg h1, if_pos h6, if_pos h15]; first | done | (dsimp only [e_fin]; done) | rfl) | rfl | (simp only [e_restore, if_neg h1, if_pos h6, if_pos h15]; first | done | rfl)), (by first | (unfold e_restore; rw [if_neg h1, if_pos h6, if_pos h15]; first | done | (dsimp only [e_fin]; done) | rfl) | rfl | (simp only [e_restore, if_neg h1, if_pos h6, if_pos h15]; first | done | rfl))⟩
