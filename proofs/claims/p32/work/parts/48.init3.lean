set_option maxRecDepth 100000 in
theorem c_X0_init {l : Launch} {g : zG} (b : Nat) : zM l g yX0_init cX0_init 2 none 3 148 3710 [.ref b] [(b, .inr (0, [.null, .int 0, .int 0]))] (fun r w => r = none ∧ ∃ q : Nat → Nat, q 0 = b ∧ w = yW0 g q y_new ++ hsW g (fun j => q (2 + j)) (y_st y_new) 0 7) := by
  refine zM_of (by decide +kernel) (Nat.le_of_ble_eq_true rfl) (fun x hl hn hmc hms hin C => ?_)
  subst hl
  show zR x g _ (0, 0) 0 [(0, .ref b)] [] _
  refine zR_aload_n C eX0_init_0 0 rfl rfl ?_
  refine zR_objInit C (zT_in 220 (by decide +kernel) rfl) eX0_init_1 (by decide) (by decide) ?_
  refine zR_aload_n C eX0_init_4 0 rfl rfl ?_
  refine zR_bipush (v := 7) C eX0_init_5 (by decide) ?_
  refine zR_newq (N := 7) C (zT_in 221 (by decide +kernel) rfl) eX0_init_7 (by decide) (by decide) (by decide) (by rw [hmc]; decide) (by rw [hms]; decide) (fun a => ?_)
  refine zR_ws [(b, .inr (0, [.null, .int 0, .int 0])), (a, .inl (g.2.1 4, 7, .inr (.inr (.inr (.inr (fun _ => none))))))] rfl ?_
  refine zR_putf C hin qX0_11 eX0_init_10 rfl rfl 0 rfl (Nat.le_of_ble_eq_true rfl) (ws1 := [(b, .inr (0, [.ref a, .int 0, .int 0])), (a, .inl (g.2.1 4, 7, .inr (.inr (.inr (.inr (fun _ => none))))))]) rfl ?_
  refine zR_aload_n C eX0_init_13 0 rfl rfl ?_
  refine zR_iconst (v := 0) C eX0_init_14 (by decide) ?_
  refine zR_put C pX0_17 eX0_init_15 0 rfl (Nat.le_of_ble_eq_true rfl) (ws1 := [(b, .inr (0, [.ref a, .int 0, .int 0])), (a, .inl (g.2.1 4, 7, .inr (.inr (.inr (.inr (fun _ => none))))))]) rfl ?_
  refine zR_aload_n C eX0_init_18 0 rfl rfl ?_
  refine zR_iconst (v := 0) C eX0_init_19 (by decide) ?_
  refine zR_put C pX0_21 eX0_init_20 0 rfl (Nat.le_of_ble_eq_true rfl) (ws1 := [(b, .inr (0, [.ref a, .int 0, .int 0])), (a, .inl (g.2.1 4, 7, .inr (.inr (.inr (.inr (fun _ => none))))))]) rfl ?_
  refine zR_iconst (v := 0) C eX0_init_23 (by decide) ?_
  refine zR_istore_n (lv' := [(1, _), (0, _)]) C eX0_init_24 rfl (by rw [hn]; decide) rfl ?_
  refine zR_iload_n C eX0_init_25 0 rfl rfl ?_
  refine zR_bipush (v := 7) C eX0_init_26 (by decide) ?_
  refine zR_icmp_ge C eX0_init_28 (fun h => absurd (by decide) h) (fun _ => ?_)
  refine zR_aload_n C eX0_init_31 1 rfl rfl ?_
  refine zR_get C fX0_11 eX0_init_32 0 rfl rfl ?_
  refine zR_iload_n C eX0_init_35 0 rfl rfl ?_
  refine zR_new C nX0_9 eX0_init_36 (by rw [hmc]; decide) (by rw [hms]; decide) (fun q0 => ?_)
  refine zR_dup C eX0_init_39 rfl ?_
  refine zR_callI0 C kX0_24 eX0_init_40 (c_X1_init q0) [2] (zlast_get rfl) rfl rfl rfl (by decide) (by decide) (Nat.le_of_ble_eq_true rfl) (by rw [hmc]; decide) (by rw [hms]; decide) (fun r w h => ?_)
  obtain ⟨rfl, s0, rfl, rfl⟩ := h
  refine ⟨(hW g s0 h_new).take 1, (hW g s0 h_new).drop 1, (List.take_append_drop 1 _).symm, rfl, ?_⟩
  refine zR_ws (([(b, .inr (0, [.ref a, .int 0, .int 0])), (a, .inl (g.2.1 4, 7, .inr (.inr (.inr (.inr (fun _ => none))))))]) ++ hW g s0 h_new) (zrep_last (W := ([(b, .inr (0, [.ref a, .int 0, .int 0])), (a, .inl (g.2.1 4, 7, .inr (.inr (.inr (.inr (fun _ => none))))))])) rfl) ?_
  refine zR_aast C eX0_init_43 1 2 rfl rfl (by unfold vp_in; decide) (ws1 := ([(b, .inr (0, [.ref a, .int 0, .int 0])), (a, .inl (g.2.1 4, 7, .inr (.inr (.inr (.inr (va_up (fun _ => none) 0 (some (s0 0))))))))] ++ hW g s0 h_new)) rfl ?_
  refine zR_iinc (lv' := [(1, _), (0, _)]) (v' := 1) C eX0_init_44 0 rfl (by decide) (by rw [hn]; decide) rfl ?_
  refine zR_goto C eX0_init_47 ?_
  refine zR_iload_n C eX0_init_25 0 rfl rfl ?_
  refine zR_bipush (v := 7) C eX0_init_26 (by decide) ?_
  refine zR_icmp_ge C eX0_init_28 (fun h => absurd (by decide) h) (fun _ => ?_)
  refine zR_aload_n C eX0_init_31 1 rfl rfl ?_
  refine zR_get C fX0_11 eX0_init_32 0 rfl rfl ?_
  refine zR_iload_n C eX0_init_35 0 rfl rfl ?_
  refine zR_new C nX0_9 eX0_init_36 (by rw [hmc]; decide) (by rw [hms]; decide) (fun q1 => ?_)
  refine zR_dup C eX0_init_39 rfl ?_
  refine zR_callI0 C kX0_24 eX0_init_40 (c_X1_init q1) [23] (zlast_get rfl) rfl rfl rfl (by decide) (by decide) (Nat.le_of_ble_eq_true rfl) (by rw [hmc]; decide) (by rw [hms]; decide) (fun r w h => ?_)
  obtain ⟨rfl, s1, rfl, rfl⟩ := h
  refine ⟨(hW g s1 h_new).take 1, (hW g s1 h_new).drop 1, (List.take_append_drop 1 _).symm, rfl, ?_⟩
  refine zR_ws (([(b, .inr (0, [.ref a, .int 0, .int 0])), (a, .inl (g.2.1 4, 7, .inr (.inr (.inr (.inr (va_up (fun _ => none) 0 (some (s0 0))))))))] ++ hW g s0 h_new) ++ hW g s1 h_new) (zrep_last (W := ([(b, .inr (0, [.ref a, .int 0, .int 0])), (a, .inl (g.2.1 4, 7, .inr (.inr (.inr (.inr (va_up (fun _ => none) 0 (some (s0 0))))))))] ++ hW g s0 h_new)) rfl) ?_
  refine zR_aast C eX0_init_43 1 23 rfl rfl (by unfold vp_in; decide) (ws1 := ([(b, .inr (0, [.ref a, .int 0, .int 0])), (a, .inl (g.2.1 4, 7, .inr (.inr (.inr (.inr (va_up (va_up (fun _ => none) 0 (some (s0 0))) 1 (some (s1 0))))))))] ++ hW g s0 h_new ++ hW g s1 h_new)) rfl ?_
  refine zR_iinc (lv' := [(1, _), (0, _)]) (v' := 2) C eX0_init_44 0 rfl (by decide) (by rw [hn]; decide) rfl ?_
  refine zR_goto C eX0_init_47 ?_
  refine zR_iload_n C eX0_init_25 0 rfl rfl ?_
  refine zR_bipush (v := 7) C eX0_init_26 (by decide) ?_
  refine zR_icmp_ge C eX0_init_28 (fun h => absurd (by decide) h) (fun _ => ?_)
  refine zR_aload_n C eX0_init_31 1 rfl rfl ?_
  refine zR_get C fX0_11 eX0_init_32 0 rfl rfl ?_
  refine zR_iload_n C eX0_init_35 0 rfl rfl ?_
  refine zR_new C nX0_9 eX0_init_36 (by rw [hmc]; decide) (by rw [hms]; decide) (fun q2 => ?_)
  refine zR_dup C eX0_init_39 rfl ?_
  refine zR_callI0 C kX0_24 eX0_init_40 (c_X1_init q2) [44] (zlast_get rfl) rfl rfl rfl (by decide) (by decide) (Nat.le_of_ble_eq_true rfl) (by rw [hmc]; decide) (by rw [hms]; decide) (fun r w h => ?_)
  obtain ⟨rfl, s2, rfl, rfl⟩ := h
  refine ⟨(hW g s2 h_new).take 1, (hW g s2 h_new).drop 1, (List.take_append_drop 1 _).symm, rfl, ?_⟩
  refine zR_ws (([(b, .inr (0, [.ref a, .int 0, .int 0])), (a, .inl (g.2.1 4, 7, .inr (.inr (.inr (.inr (va_up (va_up (fun _ => none) 0 (some (s0 0))) 1 (some (s1 0))))))))] ++ hW g s0 h_new ++ hW g s1 h_new) ++ hW g s2 h_new) (zrep_last (W := ([(b, .inr (0, [.ref a, .int 0, .int 0])), (a, .inl (g.2.1 4, 7, .inr (.inr (.inr (.inr (va_up (va_up (fun _ => none) 0 (some (s0 0))) 1 (some (s1 0))))))))] ++ hW g s0 h_new ++ hW g s1 h_new)) rfl) ?_
  refine zR_aast C eX0_init_43 1 44 rfl rfl (by unfold vp_in; decide) (ws1 := ([(b, .inr (0, [.ref a, .int 0, .int 0])), (a, .inl (g.2.1 4, 7, .inr (.inr (.inr (.inr (va_up (va_up (va_up (fun _ => none) 0 (some (s0 0))) 1 (some (s1 0))) 2 (some (s2 0))))))))] ++ hW g s0 h_new ++ hW g s1 h_new ++ hW g s2 h_new)) rfl ?_
  refine zR_iinc (lv' := [(1, _), (0, _)]) (v' := 3) C eX0_init_44 0 rfl (by decide) (by rw [hn]; decide) rfl ?_
  refine zR_goto C eX0_init_47 ?_
  refine zR_iload_n C eX0_init_25 0 rfl rfl ?_
  refine zR_bipush (v := 7) C eX0_init_26 (by decide) ?_
  refine zR_icmp_ge C eX0_init_28 (fun h => absurd (by decide) h) (fun _ => ?_)
  refine zR_aload_n C eX0_init_31 1 rfl rfl ?_
  refine zR_get C fX0_11 eX0_init_32 0 rfl rfl ?_
  refine zR_iload_n C eX0_init_35 0 rfl rfl ?_
  refine zR_new C nX0_9 eX0_init_36 (by rw [hmc]; decide) (by rw [hms]; decide) (fun q3 => ?_)
  refine zR_dup C eX0_init_39 rfl ?_
  refine zR_callI0 C kX0_24 eX0_init_40 (c_X1_init q3) [65] (zlast_get rfl) rfl rfl rfl (by decide) (by decide) (Nat.le_of_ble_eq_true rfl) (by rw [hmc]; decide) (by rw [hms]; decide) (fun r w h => ?_)
  obtain ⟨rfl, s3, rfl, rfl⟩ := h
  refine ⟨(hW g s3 h_new).take 1, (hW g s3 h_new).drop 1, (List.take_append_drop 1 _).symm, rfl, ?_⟩
  refine zR_ws (([(b, .inr (0, [.ref a, .int 0, .int 0])), (a, .inl (g.2.1 4, 7, .inr (.inr (.inr (.inr (va_up (va_up (va_up (fun _ => none) 0 (some (s0 0))) 1 (some (s1 0))) 2 (some (s2 0))))))))] ++ hW g s0 h_new ++ hW g s1 h_new ++ hW g s2 h_new) ++ hW g s3 h_new) (zrep_last (W := ([(b, .inr (0, [.ref a, .int 0, .int 0])), (a, .inl (g.2.1 4, 7, .inr (.inr (.inr (.inr (va_up (va_up (va_up (fun _ => none) 0 (some (s0 0))) 1 (some (s1 0))) 2 (some (s2 0))))))))] ++ hW g s0 h_new ++ hW g s1 h_new ++ hW g s2 h_new)) rfl) ?_
  refine zR_aast C eX0_init_43 1 65 rfl rfl (by unfold vp_in; decide) (ws1 := ([(b, .inr (0, [.ref a, .int 0, .int 0])), (a, .inl (g.2.1 4, 7, .inr (.inr (.inr (.inr (va_up (va_up (va_up (va_up (fun _ => none) 0 (some (s0 0))) 1 (some (s1 0))) 2 (some (s2 0))) 3 (some (s3 0))))))))] ++ hW g s0 h_new ++ hW g s1 h_new ++ hW g s2 h_new ++ hW g s3 h_new)) rfl ?_
  refine zR_iinc (lv' := [(1, _), (0, _)]) (v' := 4) C eX0_init_44 0 rfl (by decide) (by rw [hn]; decide) rfl ?_
  refine zR_goto C eX0_init_47 ?_
  refine zR_iload_n C eX0_init_25 0 rfl rfl ?_
  refine zR_bipush (v := 7) C eX0_init_26 (by decide) ?_
  refine zR_icmp_ge C eX0_init_28 (fun h => absurd (by decide) h) (fun _ => ?_)
  refine zR_aload_n C eX0_init_31 1 rfl rfl ?_
  refine zR_get C fX0_11 eX0_init_32 0 rfl rfl ?_
  refine zR_iload_n C eX0_init_35 0 rfl rfl ?_
  refine zR_new C nX0_9 eX0_init_36 (by rw [hmc]; decide) (by rw [hms]; decide) (fun q4 => ?_)
  refine zR_dup C eX0_init_39 rfl ?_
  refine zR_callI0 C kX0_24 eX0_init_40 (c_X1_init q4) [86] (zlast_get rfl) rfl rfl rfl (by decide) (by decide) (Nat.le_of_ble_eq_true rfl) (by rw [hmc]; decide) (by rw [hms]; decide) (fun r w h => ?_)
  obtain ⟨rfl, s4, rfl, rfl⟩ := h
  refine ⟨(hW g s4 h_new).take 1, (hW g s4 h_new).drop 1, (List.take_append_drop 1 _).symm, rfl, ?_⟩
  refine zR_ws (([(b, .inr (0, [.ref a, .int 0, .int 0])), (a, .inl (g.2.1 4, 7, .inr (.inr (.inr (.inr (va_up (va_up (va_up (va_up (fun _ => none) 0 (some (s0 0))) 1 (some (s1 0))) 2 (some (s2 0))) 3 (some (s3 0))))))))] ++ hW g s0 h_new ++ hW g s1 h_new ++ hW g s2 h_new ++ hW g s3 h_new) ++ hW g s4 h_new) (zrep_last (W := ([(b, .inr (0, [.ref a, .int 0, .int 0])), (a, .inl (g.2.1 4, 7, .inr (.inr (.inr (.inr (va_up (va_up (va_up (va_up (fun _ => none) 0 (some (s0 0))) 1 (some (s1 0))) 2 (some (s2 0))) 3 (some (s3 0))))))))] ++ hW g s0 h_new ++ hW g s1 h_new ++ hW g s2 h_new ++ hW g s3 h_new)) rfl) ?_
  refine zR_aast C eX0_init_43 1 86 rfl rfl (by unfold vp_in; decide) (ws1 := ([(b, .inr (0, [.ref a, .int 0, .int 0])), (a, .inl (g.2.1 4, 7, .inr (.inr (.inr (.inr (va_up (va_up (va_up (va_up (va_up (fun _ => none) 0 (some (s0 0))) 1 (some (s1 0))) 2 (some (s2 0))) 3 (some (s3 0))) 4 (some (s4 0))))))))] ++ hW g s0 h_new ++ hW g s1 h_new ++ hW g s2 h_new ++ hW g s3 h_new ++ hW g s4 h_new)) rfl ?_
  refine zR_iinc (lv' := [(1, _), (0, _)]) (v' := 5) C eX0_init_44 0 rfl (by decide) (by rw [hn]; decide) rfl ?_
  refine zR_goto C eX0_init_47 ?_
  refine zR_iload_n C eX0_init_25 0 rfl rfl ?_
  refine zR_bipush (v := 7) C eX0_init_26 (by decide) ?_
  refine zR_icmp_ge C eX0_init_28 (fun h => absurd (by decide) h) (fun _ => ?_)
  refine zR_aload_n C eX0_init_31 1 rfl rfl ?_
  refine zR_get C fX0_11 eX0_init_32 0 rfl rfl ?_
  refine zR_iload_n C eX0_init_35 0 rfl rfl ?_
  refine zR_new C nX0_9 eX0_init_36 (by rw [hmc]; decide) (by rw [hms]; decide) (fun q5 => ?_)
  refine zR_dup C eX0_init_39 rfl ?_
  refine zR_callI0 C kX0_24 eX0_init_40 (c_X1_init q5) [107] (zlast_get rfl) rfl rfl rfl (by decide) (by decide) (Nat.le_of_ble_eq_true rfl) (by rw [hmc]; decide) (by rw [hms]; decide) (fun r w h => ?_)
  obtain ⟨rfl, s5, rfl, rfl⟩ := h
  refine ⟨(hW g s5 h_new).take 1, (hW g s5 h_new).drop 1, (List.take_append_drop 1 _).symm, rfl, ?_⟩
  refine zR_ws (([(b, .inr (0, [.ref a, .int 0, .int 0])), (a, .inl (g.2.1 4, 7, .inr (.inr (.inr (.inr (va_up (va_up (va_up (va_up (va_up (fun _ => none) 0 (some (s0 0))) 1 (some (s1 0))) 2 (some (s2 0))) 3 (some (s3 0))) 4 (some (s4 0))))))))] ++ hW g s0 h_new ++ hW g s1 h_new ++ hW g s2 h_new ++ hW g s3 h_new ++ hW g s4 h_new) ++ hW g s5 h_new) (zrep_last (W := ([(b, .inr (0, [.ref a, .int 0, .int 0])), (a, .inl (g.2.1 4, 7, .inr (.inr (.inr (.inr (va_up (va_up (va_up (va_up (va_up (fun _ => none) 0 (some (s0 0))) 1 (some (s1 0))) 2 (some (s2 0))) 3 (some (s3 0))) 4 (some (s4 0))))))))] ++ hW g s0 h_new ++ hW g s1 h_new ++ hW g s2 h_new ++ hW g s3 h_new ++ hW g s4 h_new)) rfl) ?_
  refine zR_aast C eX0_init_43 1 107 rfl rfl (by unfold vp_in; decide) (ws1 := ([(b, .inr (0, [.ref a, .int 0, .int 0])), (a, .inl (g.2.1 4, 7, .inr (.inr (.inr (.inr (va_up (va_up (va_up (va_up (va_up (va_up (fun _ => none) 0 (some (s0 0))) 1 (some (s1 0))) 2 (some (s2 0))) 3 (some (s3 0))) 4 (some (s4 0))) 5 (some (s5 0))))))))] ++ hW g s0 h_new ++ hW g s1 h_new ++ hW g s2 h_new ++ hW g s3 h_new ++ hW g s4 h_new ++ hW g s5 h_new)) rfl ?_
  refine zR_iinc (lv' := [(1, _), (0, _)]) (v' := 6) C eX0_init_44 0 rfl (by decide) (by rw [hn]; decide) rfl ?_
  refine zR_goto C eX0_init_47 ?_
  refine zR_iload_n C eX0_init_25 0 rfl rfl ?_
  refine zR_bipush (v := 7) C eX0_init_26 (by decide) ?_
  refine zR_icmp_ge C eX0_init_28 (fun h => absurd (by decide) h) (fun _ => ?_)
  refine zR_aload_n C eX0_init_31 1 rfl rfl ?_
  refine zR_get C fX0_11 eX0_init_32 0 rfl rfl ?_
  refine zR_iload_n C eX0_init_35 0 rfl rfl ?_
  refine zR_new C nX0_9 eX0_init_36 (by rw [hmc]; decide) (by rw [hms]; decide) (fun q6 => ?_)
  refine zR_dup C eX0_init_39 rfl ?_
  refine zR_callI0 C kX0_24 eX0_init_40 (c_X1_init q6) [128] (zlast_get rfl) rfl rfl rfl (by decide) (by decide) (Nat.le_of_ble_eq_true rfl) (by rw [hmc]; decide) (by rw [hms]; decide) (fun r w h => ?_)
  obtain ⟨rfl, s6, rfl, rfl⟩ := h
  refine ⟨(hW g s6 h_new).take 1, (hW g s6 h_new).drop 1, (List.take_append_drop 1 _).symm, rfl, ?_⟩
  refine zR_ws (([(b, .inr (0, [.ref a, .int 0, .int 0])), (a, .inl (g.2.1 4, 7, .inr (.inr (.inr (.inr (va_up (va_up (va_up (va_up (va_up (va_up (fun _ => none) 0 (some (s0 0))) 1 (some (s1 0))) 2 (some (s2 0))) 3 (some (s3 0))) 4 (some (s4 0))) 5 (some (s5 0))))))))] ++ hW g s0 h_new ++ hW g s1 h_new ++ hW g s2 h_new ++ hW g s3 h_new ++ hW g s4 h_new ++ hW g s5 h_new) ++ hW g s6 h_new) (zrep_last (W := ([(b, .inr (0, [.ref a, .int 0, .int 0])), (a, .inl (g.2.1 4, 7, .inr (.inr (.inr (.inr (va_up (va_up (va_up (va_up (va_up (va_up (fun _ => none) 0 (some (s0 0))) 1 (some (s1 0))) 2 (some (s2 0))) 3 (some (s3 0))) 4 (some (s4 0))) 5 (some (s5 0))))))))] ++ hW g s0 h_new ++ hW g s1 h_new ++ hW g s2 h_new ++ hW g s3 h_new ++ hW g s4 h_new ++ hW g s5 h_new)) rfl) ?_
  refine zR_aast C eX0_init_43 1 128 rfl rfl (by unfold vp_in; decide) (ws1 := ([(b, .inr (0, [.ref a, .int 0, .int 0])), (a, .inl (g.2.1 4, 7, .inr (.inr (.inr (.inr (va_up (va_up (va_up (va_up (va_up (va_up (va_up (fun _ => none) 0 (some (s0 0))) 1 (some (s1 0))) 2 (some (s2 0))) 3 (some (s3 0))) 4 (some (s4 0))) 5 (some (s5 0))) 6 (some (s6 0))))))))] ++ hW g s0 h_new ++ hW g s1 h_new ++ hW g s2 h_new ++ hW g s3 h_new ++ hW g s4 h_new ++ hW g s5 h_new ++ hW g s6 h_new)) rfl ?_
  refine zR_iinc (lv' := [(1, _), (0, _)]) (v' := 7) C eX0_init_44 0 rfl (by decide) (by rw [hn]; decide) rfl ?_
  refine zR_goto C eX0_init_47 ?_
  refine zR_iload_n C eX0_init_25 0 rfl rfl ?_
  refine zR_bipush (v := 7) C eX0_init_26 (by decide) ?_
  refine zR_icmp_ge C eX0_init_28 (fun _ => ?_) (fun h => absurd h (by decide))
  refine zR_same 1 rfl (vp_refs (k := fun i => some ((fun j => if j < 2 then ([b, a] : List Nat).getD j 0 else ([s0, s1, s2, s3, s4, s5, s6] : List (Nat → Nat)).getD ((j - 2) / 21) s0 ((j - 2) % 21)) (2 + 21 * i))) (fun i hi => by match i, hi with | 0, _ => rfl | 1, _ => rfl | 2, _ => rfl | 3, _ => rfl | 4, _ => rfl | 5, _ => rfl | 6, _ => rfl)) rfl ?_
  exact zR_vret C rfl eX0_init_50 (by rw [hmc]; decide) (by rw [hms]; decide) ⟨rfl, (fun j => if j < 2 then ([b, a] : List Nat).getD j 0 else ([s0, s1, s2, s3, s4, s5, s6] : List (Nat → Nat)).getD ((j - 2) / 21) s0 ((j - 2) % 21)), rfl, rfl⟩
