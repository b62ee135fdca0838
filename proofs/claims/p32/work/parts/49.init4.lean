def e_new : ED := (h_new, h_new, y_new, fun _ => h_new, fun _ => 0, a_new, 0)
set_option maxRecDepth 100000 in
set_option maxHeartbeats 4000000 in
theorem c_X5_init {l : Launch} {g : zG} (b : Nat) : zM l g yX5_init cX5_init 2 none 4 239 6054 [.ref b] [(b, .inr (5, [.null, .null, .null, .null, .null, .null, .int 0]))] (fun r w => r = none ∧ ∃ q : Nat → Nat, q 0 = b ∧ w = eW g q e_new) := by
  refine zM_of (by decide +kernel) (Nat.le_of_ble_eq_true rfl) (fun x hl hn hmc hms hin C => ?_)
  subst hl
  show zR x g _ (0, 0) 0 [(0, .ref b)] [] _
  refine zR_aload_n C eX5_init_0 0 rfl rfl ?_
  refine zR_objInit C (zT_in 56 (by decide +kernel) rfl) eX5_init_1 (by decide) (by decide) ?_
  refine zR_aload_n C eX5_init_4 0 rfl rfl ?_
  refine zR_new C nX5_9 eX5_init_5 (by rw [hmc]; decide) (by rw [hms]; decide) (fun zs0 => ?_)
  refine zR_dup C eX5_init_8 rfl ?_
  refine zR_callI0 C kX5_11 eX5_init_9 (c_X1_init zs0) [1] (zlast_get (W := ([(b, .inr (5, [.null, .null, .null, .null, .null, .null, .int 0]))])) rfl) rfl rfl rfl (by decide) (by decide) (Nat.le_of_ble_eq_true rfl) (by rw [hmc]; decide) (by rw [hms]; decide) (fun r w h => ?_)
  obtain ⟨rfl, s0, rfl, rfl⟩ := h
  refine ⟨(hW g s0 h_new).take 1, (hW g s0 h_new).drop 1, (List.take_append_drop 1 _).symm, rfl, ?_⟩
  refine zR_ws (([(b, .inr (5, [.null, .null, .null, .null, .null, .null, .int 0]))]) ++ hW g s0 h_new) (zrep_last (W := ([(b, .inr (5, [.null, .null, .null, .null, .null, .null, .int 0]))])) rfl) ?_
  refine zR_putf C hin qX5_12 eX5_init_12 rfl rfl 0 rfl (Nat.le_of_ble_eq_true rfl) (ws1 := ([(b, .inr (5, [.ref (s0 0), .null, .null, .null, .null, .null, .int 0]))] ++ hW g s0 h_new)) rfl ?_
  refine zR_aload_n C eX5_init_15 0 rfl rfl ?_
  refine zR_new C nX5_9 eX5_init_16 (by rw [hmc]; decide) (by rw [hms]; decide) (fun zs1 => ?_)
  refine zR_dup C eX5_init_19 rfl ?_
  refine zR_callI0 C kX5_11 eX5_init_20 (c_X1_init zs1) [22] (zlast_get (W := ([(b, .inr (5, [.ref (s0 0), .null, .null, .null, .null, .null, .int 0]))] ++ hW g s0 h_new)) rfl) rfl rfl rfl (by decide) (by decide) (Nat.le_of_ble_eq_true rfl) (by rw [hmc]; decide) (by rw [hms]; decide) (fun r w h => ?_)
  obtain ⟨rfl, s1, rfl, rfl⟩ := h
  refine ⟨(hW g s1 h_new).take 1, (hW g s1 h_new).drop 1, (List.take_append_drop 1 _).symm, rfl, ?_⟩
  refine zR_ws (([(b, .inr (5, [.ref (s0 0), .null, .null, .null, .null, .null, .int 0]))] ++ hW g s0 h_new) ++ hW g s1 h_new) (zrep_last (W := ([(b, .inr (5, [.ref (s0 0), .null, .null, .null, .null, .null, .int 0]))] ++ hW g s0 h_new)) rfl) ?_
  refine zR_putf C hin qX5_16 eX5_init_23 rfl rfl 0 rfl (Nat.le_of_ble_eq_true rfl) (ws1 := ([(b, .inr (5, [.ref (s0 0), .ref (s1 0), .null, .null, .null, .null, .int 0]))] ++ hW g s0 h_new ++ hW g s1 h_new)) rfl ?_
  refine zR_aload_n C eX5_init_26 0 rfl rfl ?_
  refine zR_new C nX5_19 eX5_init_27 (by rw [hmc]; decide) (by rw [hms]; decide) (fun zs2 => ?_)
  refine zR_dup C eX5_init_30 rfl ?_
  refine zR_callI0 C kX5_21 eX5_init_31 (c_X0_init zs2) [43] (zlast_get (W := ([(b, .inr (5, [.ref (s0 0), .ref (s1 0), .null, .null, .null, .null, .int 0]))] ++ hW g s0 h_new ++ hW g s1 h_new)) rfl) rfl rfl rfl (by decide) (by decide) (Nat.le_of_ble_eq_true rfl) (by rw [hmc]; decide) (by rw [hms]; decide) (fun r w h => ?_)
  obtain ⟨rfl, s2, rfl, rfl⟩ := h
  refine ⟨((yW0 g s2 y_new ++ hsW g (fun j => s2 (2 + j)) (y_st y_new) 0 7)).take 1, ((yW0 g s2 y_new ++ hsW g (fun j => s2 (2 + j)) (y_st y_new) 0 7)).drop 1, (List.take_append_drop 1 _).symm, rfl, ?_⟩
  refine zR_ws (([(b, .inr (5, [.ref (s0 0), .ref (s1 0), .null, .null, .null, .null, .int 0]))] ++ hW g s0 h_new ++ hW g s1 h_new) ++ (yW0 g s2 y_new ++ hsW g (fun j => s2 (2 + j)) (y_st y_new) 0 7)) (zrep_last (W := ([(b, .inr (5, [.ref (s0 0), .ref (s1 0), .null, .null, .null, .null, .int 0]))] ++ hW g s0 h_new ++ hW g s1 h_new)) rfl) ?_
  refine zR_putf C hin qX5_22 eX5_init_34 rfl rfl 0 rfl (Nat.le_of_ble_eq_true rfl) (ws1 := ([(b, .inr (5, [.ref (s0 0), .ref (s1 0), .ref (s2 0), .null, .null, .null, .int 0]))] ++ hW g s0 h_new ++ hW g s1 h_new ++ (yW0 g s2 y_new ++ hsW g (fun j => s2 (2 + j)) (y_st y_new) 0 7))) rfl ?_
  refine zR_aload_n C eX5_init_37 0 rfl rfl ?_
  refine zR_iconst (v := 2) C eX5_init_38 (by decide) ?_
  refine zR_newq (N := 2) C (zT_in 59 (by decide +kernel) rfl) eX5_init_39 (by decide) (by decide) (by decide) (by rw [hmc]; decide) (by rw [hms]; decide) (fun c => ?_)
  refine zR_putf C hin qX5_26 eX5_init_42 rfl rfl 0 rfl (Nat.le_of_ble_eq_true rfl) (ws1 := ([(b, .inr (5, [.ref (s0 0), .ref (s1 0), .ref (s2 0), .ref c, .null, .null, .int 0]))] ++ hW g s0 h_new ++ hW g s1 h_new ++ (yW0 g s2 y_new ++ hsW g (fun j => s2 (2 + j)) (y_st y_new) 0 7) ++ [(c, .inl (g.2.1 4, 2, .inr (.inr (.inr (.inr (fun _ => none))))))])) rfl ?_
  refine zR_aload_n C eX5_init_45 0 rfl rfl ?_
  refine zR_iconst (v := 2) C eX5_init_46 (by decide) ?_
  refine zR_newB (N := 2) C eX5_init_47 (by decide) (by decide) (by decide) (by rw [hmc]; decide) (by rw [hms]; decide) (fun d => ?_)
  refine zR_putf C hin qX5_30 eX5_init_49 rfl rfl 0 rfl (Nat.le_of_ble_eq_true rfl) (ws1 := ([(b, .inr (5, [.ref (s0 0), .ref (s1 0), .ref (s2 0), .ref c, .ref d, .null, .int 0]))] ++ hW g s0 h_new ++ hW g s1 h_new ++ (yW0 g s2 y_new ++ hsW g (fun j => s2 (2 + j)) (y_st y_new) 0 7) ++ [(c, .inl (g.2.1 4, 2, .inr (.inr (.inr (.inr (fun _ => none))))))] ++ [(d, .inl (g.2.1 2, 2, .inl (fun _ => 0)))])) rfl ?_
  refine zR_aload_n C eX5_init_52 0 rfl rfl ?_
  refine zR_new C nX5_34 eX5_init_53 (by rw [hmc]; decide) (by rw [hms]; decide) (fun zs3 => ?_)
  refine zR_dup C eX5_init_56 rfl ?_
  refine zR_callI0 C kX5_36 eX5_init_57 (c_X3_init zs3) [194] (zlast_get (W := ([(b, .inr (5, [.ref (s0 0), .ref (s1 0), .ref (s2 0), .ref c, .ref d, .null, .int 0]))] ++ hW g s0 h_new ++ hW g s1 h_new ++ (yW0 g s2 y_new ++ hsW g (fun j => s2 (2 + j)) (y_st y_new) 0 7) ++ [(c, .inl (g.2.1 4, 2, .inr (.inr (.inr (.inr (fun _ => none))))))] ++ [(d, .inl (g.2.1 2, 2, .inl (fun _ => 0)))])) rfl) rfl rfl rfl (by decide) (by decide) (Nat.le_of_ble_eq_true rfl) (by rw [hmc]; decide) (by rw [hms]; decide) (fun r w h => ?_)
  obtain ⟨rfl, s3, rfl, rfl⟩ := h
  refine ⟨(aW g s3 a_new).take 1, (aW g s3 a_new).drop 1, (List.take_append_drop 1 _).symm, rfl, ?_⟩
  refine zR_ws (([(b, .inr (5, [.ref (s0 0), .ref (s1 0), .ref (s2 0), .ref c, .ref d, .null, .int 0]))] ++ hW g s0 h_new ++ hW g s1 h_new ++ (yW0 g s2 y_new ++ hsW g (fun j => s2 (2 + j)) (y_st y_new) 0 7) ++ [(c, .inl (g.2.1 4, 2, .inr (.inr (.inr (.inr (fun _ => none))))))] ++ [(d, .inl (g.2.1 2, 2, .inl (fun _ => 0)))]) ++ aW g s3 a_new) (zrep_last (W := ([(b, .inr (5, [.ref (s0 0), .ref (s1 0), .ref (s2 0), .ref c, .ref d, .null, .int 0]))] ++ hW g s0 h_new ++ hW g s1 h_new ++ (yW0 g s2 y_new ++ hsW g (fun j => s2 (2 + j)) (y_st y_new) 0 7) ++ [(c, .inl (g.2.1 4, 2, .inr (.inr (.inr (.inr (fun _ => none))))))] ++ [(d, .inl (g.2.1 2, 2, .inl (fun _ => 0)))])) rfl) ?_
  refine zR_putf C hin qX5_37 eX5_init_60 rfl rfl 0 rfl (Nat.le_of_ble_eq_true rfl) (ws1 := ([(b, .inr (5, [.ref (s0 0), .ref (s1 0), .ref (s2 0), .ref c, .ref d, .ref (s3 0), .int 0]))] ++ hW g s0 h_new ++ hW g s1 h_new ++ (yW0 g s2 y_new ++ hsW g (fun j => s2 (2 + j)) (y_st y_new) 0 7) ++ [(c, .inl (g.2.1 4, 2, .inr (.inr (.inr (.inr (fun _ => none))))))] ++ [(d, .inl (g.2.1 2, 2, .inl (fun _ => 0)))] ++ aW g s3 a_new)) rfl ?_
  refine zR_aload_n C eX5_init_63 0 rfl rfl ?_
  refine zR_iconst (v := 0) C eX5_init_64 (by decide) ?_
  refine zR_put C pX5_41 eX5_init_65 0 rfl (Nat.le_of_ble_eq_true rfl) (ws1 := ([(b, .inr (5, [.ref (s0 0), .ref (s1 0), .ref (s2 0), .ref c, .ref d, .ref (s3 0), .int 0]))] ++ hW g s0 h_new ++ hW g s1 h_new ++ (yW0 g s2 y_new ++ hsW g (fun j => s2 (2 + j)) (y_st y_new) 0 7) ++ [(c, .inl (g.2.1 4, 2, .inr (.inr (.inr (.inr (fun _ => none))))))] ++ [(d, .inl (g.2.1 2, 2, .inl (fun _ => 0)))] ++ aW g s3 a_new)) rfl ?_
  refine zR_iconst (v := 0) C eX5_init_68 (by decide) ?_
  refine zR_istore_n (lv' := [(1, _), (0, _)]) C eX5_init_69 rfl (by rw [hn]; decide) rfl ?_
  refine zR_iload_n C eX5_init_70 0 rfl rfl ?_
  refine zR_iconst (v := 2) C eX5_init_71 (by decide) ?_
  refine zR_icmp_ge C eX5_init_72 (fun h => absurd (by decide) h) (fun _ => ?_)
  refine zR_aload_n C eX5_init_75 1 rfl rfl ?_
  refine zR_get C fX5_26 eX5_init_76 0 rfl rfl ?_
  refine zR_iload_n C eX5_init_79 0 rfl rfl ?_
  refine zR_new C nX5_9 eX5_init_80 (by rw [hmc]; decide) (by rw [hms]; decide) (fun zt0 => ?_)
  refine zR_dup C eX5_init_83 rfl ?_
  refine zR_callI0 C kX5_11 eX5_init_84 (c_X1_init zt0) [198] (zlast_get (W := ([(b, .inr (5, [.ref (s0 0), .ref (s1 0), .ref (s2 0), .ref c, .ref d, .ref (s3 0), .int 0]))] ++ hW g s0 h_new ++ hW g s1 h_new ++ (yW0 g s2 y_new ++ hsW g (fun j => s2 (2 + j)) (y_st y_new) 0 7) ++ [(c, .inl (g.2.1 4, 2, .inr (.inr (.inr (.inr (fun _ => none))))))] ++ [(d, .inl (g.2.1 2, 2, .inl (fun _ => 0)))] ++ aW g s3 a_new)) rfl) rfl rfl rfl (by decide) (by decide) (Nat.le_of_ble_eq_true rfl) (by rw [hmc]; decide) (by rw [hms]; decide) (fun r w h => ?_)
  obtain ⟨rfl, t0, rfl, rfl⟩ := h
  refine ⟨(hW g t0 h_new).take 1, (hW g t0 h_new).drop 1, (List.take_append_drop 1 _).symm, rfl, ?_⟩
  refine zR_ws (([(b, .inr (5, [.ref (s0 0), .ref (s1 0), .ref (s2 0), .ref c, .ref d, .ref (s3 0), .int 0]))] ++ hW g s0 h_new ++ hW g s1 h_new ++ (yW0 g s2 y_new ++ hsW g (fun j => s2 (2 + j)) (y_st y_new) 0 7) ++ [(c, .inl (g.2.1 4, 2, .inr (.inr (.inr (.inr (fun _ => none))))))] ++ [(d, .inl (g.2.1 2, 2, .inl (fun _ => 0)))] ++ aW g s3 a_new) ++ hW g t0 h_new) (zrep_last (W := ([(b, .inr (5, [.ref (s0 0), .ref (s1 0), .ref (s2 0), .ref c, .ref d, .ref (s3 0), .int 0]))] ++ hW g s0 h_new ++ hW g s1 h_new ++ (yW0 g s2 y_new ++ hsW g (fun j => s2 (2 + j)) (y_st y_new) 0 7) ++ [(c, .inl (g.2.1 4, 2, .inr (.inr (.inr (.inr (fun _ => none))))))] ++ [(d, .inl (g.2.1 2, 2, .inl (fun _ => 0)))] ++ aW g s3 a_new)) rfl) ?_
  refine zR_aast C eX5_init_87 192 198 rfl rfl (by unfold vp_in; decide) (ws1 := ([(b, .inr (5, [.ref (s0 0), .ref (s1 0), .ref (s2 0), .ref c, .ref d, .ref (s3 0), .int 0]))] ++ hW g s0 h_new ++ hW g s1 h_new ++ (yW0 g s2 y_new ++ hsW g (fun j => s2 (2 + j)) (y_st y_new) 0 7) ++ [(c, .inl (g.2.1 4, 2, .inr (.inr (.inr (.inr (va_up (fun _ => none) 0 (some (t0 0))))))))] ++ [(d, .inl (g.2.1 2, 2, .inl (fun _ => 0)))] ++ aW g s3 a_new ++ hW g t0 h_new)) rfl ?_
  refine zR_iinc (lv' := [(1, _), (0, _)]) (v' := 1) C eX5_init_88 0 rfl (by decide) (by rw [hn]; decide) rfl ?_
  refine zR_goto C eX5_init_91 ?_
  refine zR_iload_n C eX5_init_70 0 rfl rfl ?_
  refine zR_iconst (v := 2) C eX5_init_71 (by decide) ?_
  refine zR_icmp_ge C eX5_init_72 (fun h => absurd (by decide) h) (fun _ => ?_)
  refine zR_aload_n C eX5_init_75 1 rfl rfl ?_
  refine zR_get C fX5_26 eX5_init_76 0 rfl rfl ?_
  refine zR_iload_n C eX5_init_79 0 rfl rfl ?_
  refine zR_new C nX5_9 eX5_init_80 (by rw [hmc]; decide) (by rw [hms]; decide) (fun zt1 => ?_)
  refine zR_dup C eX5_init_83 rfl ?_
  refine zR_callI0 C kX5_11 eX5_init_84 (c_X1_init zt1) [219] (zlast_get (W := ([(b, .inr (5, [.ref (s0 0), .ref (s1 0), .ref (s2 0), .ref c, .ref d, .ref (s3 0), .int 0]))] ++ hW g s0 h_new ++ hW g s1 h_new ++ (yW0 g s2 y_new ++ hsW g (fun j => s2 (2 + j)) (y_st y_new) 0 7) ++ [(c, .inl (g.2.1 4, 2, .inr (.inr (.inr (.inr (va_up (fun _ => none) 0 (some (t0 0))))))))] ++ [(d, .inl (g.2.1 2, 2, .inl (fun _ => 0)))] ++ aW g s3 a_new ++ hW g t0 h_new)) rfl) rfl rfl rfl (by decide) (by decide) (Nat.le_of_ble_eq_true rfl) (by rw [hmc]; decide) (by rw [hms]; decide) (fun r w h => ?_)
  obtain ⟨rfl, t1, rfl, rfl⟩ := h
  refine ⟨(hW g t1 h_new).take 1, (hW g t1 h_new).drop 1, (List.take_append_drop 1 _).symm, rfl, ?_⟩
  refine zR_ws (([(b, .inr (5, [.ref (s0 0), .ref (s1 0), .ref (s2 0), .ref c, .ref d, .ref (s3 0), .int 0]))] ++ hW g s0 h_new ++ hW g s1 h_new ++ (yW0 g s2 y_new ++ hsW g (fun j => s2 (2 + j)) (y_st y_new) 0 7) ++ [(c, .inl (g.2.1 4, 2, .inr (.inr (.inr (.inr (va_up (fun _ => none) 0 (some (t0 0))))))))] ++ [(d, .inl (g.2.1 2, 2, .inl (fun _ => 0)))] ++ aW g s3 a_new ++ hW g t0 h_new) ++ hW g t1 h_new) (zrep_last (W := ([(b, .inr (5, [.ref (s0 0), .ref (s1 0), .ref (s2 0), .ref c, .ref d, .ref (s3 0), .int 0]))] ++ hW g s0 h_new ++ hW g s1 h_new ++ (yW0 g s2 y_new ++ hsW g (fun j => s2 (2 + j)) (y_st y_new) 0 7) ++ [(c, .inl (g.2.1 4, 2, .inr (.inr (.inr (.inr (va_up (fun _ => none) 0 (some (t0 0))))))))] ++ [(d, .inl (g.2.1 2, 2, .inl (fun _ => 0)))] ++ aW g s3 a_new ++ hW g t0 h_new)) rfl) ?_
  refine zR_aast C eX5_init_87 192 219 rfl rfl (by unfold vp_in; decide) (ws1 := ([(b, .inr (5, [.ref (s0 0), .ref (s1 0), .ref (s2 0), .ref c, .ref d, .ref (s3 0), .int 0]))] ++ hW g s0 h_new ++ hW g s1 h_new ++ (yW0 g s2 y_new ++ hsW g (fun j => s2 (2 + j)) (y_st y_new) 0 7) ++ [(c, .inl (g.2.1 4, 2, .inr (.inr (.inr (.inr (va_up (va_up (fun _ => none) 0 (some (t0 0))) 1 (some (t1 0))))))))] ++ [(d, .inl (g.2.1 2, 2, .inl (fun _ => 0)))] ++ aW g s3 a_new ++ hW g t0 h_new ++ hW g t1 h_new)) rfl ?_
  refine zR_iinc (lv' := [(1, _), (0, _)]) (v' := 2) C eX5_init_88 0 rfl (by decide) (by rw [hn]; decide) rfl ?_
  refine zR_goto C eX5_init_91 ?_
  refine zR_iload_n C eX5_init_70 0 rfl rfl ?_
  refine zR_iconst (v := 2) C eX5_init_71 (by decide) ?_
  refine zR_icmp_ge C eX5_init_72 (fun _ => ?_) (fun h => absurd h (by decide))
  refine zR_same 192 rfl (vp_refs (k := fun i => some ((fun j => if j < 1 then b else if j < 22 then s0 (j - 1) else if j < 43 then s1 (j - 22) else if j < 192 then s2 (j - 43) else if j < 193 then c else if j < 194 then d else if j < 198 then s3 (j - 194) else if j < 219 then t0 (j - 198) else t1 (j - 219)) (198 + 21 * i))) (fun i hi => by match i, hi with | 0, _ => rfl | 1, _ => rfl)) rfl ?_
  refine zR_same 44 rfl (vp_refs (k := fun i => some ((fun j => if j < 1 then b else if j < 22 then s0 (j - 1) else if j < 43 then s1 (j - 22) else if j < 192 then s2 (j - 43) else if j < 193 then c else if j < 194 then d else if j < 198 then s3 (j - 194) else if j < 219 then t0 (j - 198) else t1 (j - 219)) (43 + (2 + 21 * i)))) (fun i hi => by match i, hi with | 0, _ => rfl | 1, _ => rfl | 2, _ => rfl | 3, _ => rfl | 4, _ => rfl | 5, _ => rfl | 6, _ => rfl)) rfl ?_
  exact zR_vret C rfl eX5_init_94 (by rw [hmc]; decide) (by rw [hms]; decide) ⟨rfl, (fun j => if j < 1 then b else if j < 22 then s0 (j - 1) else if j < 43 then s1 (j - 22) else if j < 192 then s2 (j - 43) else if j < 193 then c else if j < 194 then d else if j < 198 then s3 (j - 194) else if j < 219 then t0 (j - 198) else t1 (j - 219)), rfl, rfl⟩
