/-! The history. -/
def y_ok (y : YD) : Prop := zok (y_old y) 6 ∧ zok (y_kept y) 6
def y_ix (y : YD) : Nat := (zn32 (y_old y) + zn32 (y_kept y)) % 7
theorem y_ix_lt (y : YD) : y_ix y < 7 := Nat.mod_lt _ (by decide)
def y_keep (y : YD) (r : Int32) : YD := if r < 0 then y else if y_kept y < 6 then y_skept y (y_kept y + 1) else y_sold y (y_old y + 1 - (y_old y + 1) / 7 * 7)
def y_prep (y : YD) (d : HD) : YD := y_sst y (vf_upd (y_st y) (y_ix y) (h_copy (y_st y (y_ix y)) d))
theorem y_rem {y : YD} (h : y_ok y) : y_old y + y_kept y - (y_old y + y_kept y) / 7 * 7 = nI (y_ix y) := by
  have h1 := h.1.2; have h2 := h.2.2
  rw [show y_old y + y_kept y = nI (zn32 (y_old y) + zn32 (y_kept y)) by rw [← nI_add, ← h.1.1, ← h.2.1], show (7 : Int32) = nI 7 from rfl, pk_rem (by omega) (by decide) (by decide)]
  rfl
theorem y_keep_ok {y : YD} (h : y_ok y) (r : Int32) : y_ok (y_keep y r) := by
  have h1 := h.1.2; have h2 := h.2.2
  unfold y_keep; split
  · exact h
  · split
    · rename_i q
      refine ⟨h.1, ?_⟩
      have h5 : zn32 (y_kept y) ≤ 5 := by
        rcases Nat.lt_or_ge (zn32 (y_kept y)) 6 with z | z
        · omega
        · rw [h.2.1] at q; exact absurd q (nI_nlt (b := 6) z (by omega))
      exact zok_succ (n := 5) ⟨h.2.1, h5⟩ (by decide)
    · refine ⟨?_, h.2⟩
      show zok (y_old y + 1 - (y_old y + 1) / 7 * 7) 6
      rw [show y_old y + 1 = nI (zn32 (y_old y) + 1) by rw [nI_succ, ← h.1.1], show (7 : Int32) = nI 7 from rfl, pk_rem (by omega) (by decide) (by decide)]
      exact zok_nI (by have := Nat.mod_lt (zn32 (y_old y) + 1) (show 0 < 7 by decide); omega) (by decide)
def kW (q : Nat → Nat) (y : YD) : va_W := [(q 0, .inr (0, [.ref (q 1), .int (y_old y), .int (y_kept y)]))]
theorem kW_g0 {q : Nat → Nat} {y : YD} : (kW q y)[0]? = some (q 0, .inr (0, [.ref (q 1), .int (y_old y), .int (y_kept y)])) := rfl
theorem kW_s0_1 {q : Nat → Nat} {y : YD} {v : Int32} : (kW q y).set 0 (q 0, .inr (0, ([.ref (q 1), .int (y_old y), .int (y_kept y)] : List Value).set 1 (.int v))) = kW q (y_sold y v) := rfl
theorem kW_s0_2 {q : Nat → Nat} {y : YD} {v : Int32} : (kW q y).set 0 (q 0, .inr (0, ([.ref (q 1), .int (y_old y), .int (y_kept y)] : List Value).set 2 (.int v))) = kW q (y_skept y v) := rfl
theorem kW_f {q : Nat → Nat} {y y2 : YD} : (kW q y2).map Prod.fst = (kW q y).map Prod.fst := rfl
theorem yW0_g0 {g : zG} {q : Nat → Nat} {y : YD} : (yW0 g q y)[0]? = some (q 0, .inr (0, [.ref (q 1), .int (y_old y), .int (y_kept y)])) := rfl
theorem yW0_g1 {g : zG} {q : Nat → Nat} {y : YD} : (yW0 g q y)[1]? = some (q 1, .inl (g.2.1 4, 7, .inr (.inr (.inr (.inr (fun i => some (q (2 + 21 * i)))))))) := rfl
theorem yW0_s0_2 {g : zG} {q : Nat → Nat} {y : YD} {v : Int32} : (yW0 g q y).set 0 (q 0, .inr (0, ([.ref (q 1), .int (y_old y), .int (y_kept y)] : List Value).set 2 (.int v))) = yW0 g q (y_skept y v) := rfl
theorem yW0_f {g : zG} {q : Nat → Nat} {y y2 : YD} : (yW0 g q y2).map Prod.fst = (yW0 g q y).map Prod.fst := rfl
theorem yyW_g0 {g : zG} {q r : Nat → Nat} {y : YD} {d : HD} : (yyW g q y r d)[0]? = some (q 0, .inr (0, [.ref (q 1), .int (y_old y), .int (y_kept y)])) := rfl
theorem yyW_g1 {g : zG} {q r : Nat → Nat} {y : YD} {d : HD} : (yyW g q y r d)[1]? = some (q 1, .inl (g.2.1 4, 7, .inr (.inr (.inr (.inr (fun i => some (q (2 + 21 * i)))))))) := rfl
theorem hW_fst (g : zG) (q : Nat → Nat) (d e : HD) : (hW g q d).map Prod.fst = (hW g q e).map Prod.fst := rfl
theorem hsW_fst (g : zG) (q : Nat → Nat) (s t : Nat → HD) : ∀ n a, (hsW g q s a n).map Prod.fst = (hsW g q t a n).map Prod.fst
  | 0, _ => rfl
  | n + 1, a => by
    show (hW g (fun j => q (21 * a + j)) (s a) ++ hsW g q s (a + 1) n).map Prod.fst = (hW g (fun j => q (21 * a + j)) (t a) ++ hsW g q t (a + 1) n).map Prod.fst
    rw [List.map_append, List.map_append, hsW_fst g q s t n (a + 1), hW_fst g _ (s a) (t a)]
theorem yyW_f {g : zG} {q r : Nat → Nat} {y y2 : YD} {d d2 : HD} : (yyW g q y2 r d2).map Prod.fst = (yyW g q y r d).map Prod.fst := by
  unfold yyW
  simp only [List.map_append]
  rw [hsW_fst g _ (y_st y2) (y_st y), hW_fst g r d2 d]; rfl
theorem yyW_b (g : zG) (q r : Nat → Nat) (y : YD) (d : HD) {i : Nat} (hi : i < 7) : yyW g q y r d = (yW0 g q y ++ hsW g (fun j => q (2 + j)) (y_st y) 0 i) ++ (hW g (fun j => q (2 + (21 * i + j))) (y_st y i) ++ (hsW g (fun j => q (2 + j)) (y_st y) (i + 1) (7 - 1 - i) ++ hW g r d)) := by
  unfold yyW; rw [hsW_at g _ _ hi]; simp only [List.append_assoc]
theorem yyW_l (g : zG) (q : Nat → Nat) (y : YD) (i : Nat) : (yW0 g q y ++ hsW g (fun j => q (2 + j)) (y_st y) 0 i).length = 2 + 21 * i := by
  rw [List.length_append, hsW_len]; rfl
theorem yyW_gi {g : zG} {q r : Nat → Nat} {y : YD} {d : HD} {i : Nat} (hi : i < 7) : ∃ fs, (yyW g q y r d)[2 + 21 * i]? = some (q (2 + 21 * i), .inr (1, fs)) :=
  ⟨_, zat_m _ _ _ (yyW_b g q r y d hi) (j := 0) (by rw [yyW_l]; rfl) rfl⟩
theorem yyW_ci {g : zG} {q r : Nat → Nat} {y : YD} {d : HD} {i : Nat} (hi : i < 7) : (zfrom (2 + 21 * i) 21 ++ zfrom 149 21).map (fun k => (yyW g q y r d)[k]?) = (hhW g (fun j => q (2 + (21 * i + j))) (y_st y i) r d).map some :=
  zget_2 (zget_m _ _ _ (yyW_b g q r y d hi) (by rw [yyW_l, hW_len])) (zget_m (yW0 g q y ++ hsW g (fun j => q (2 + j)) (y_st y) 0 7) (hW g r d) [] (by unfold yyW; simp only [List.append_assoc, List.append_nil]) (by rw [yyW_l, hW_len]))
theorem yyW_ri {g : zG} {q r : Nat → Nat} {y : YD} {d v : HD} {i : Nat} (hi : i < 7) : zrep (yyW g q y r d) (zfrom (2 + 21 * i) 21 ++ zfrom 149 21) (hhW g (fun j => q (2 + (21 * i + j))) v r d) = yyW g q (y_sst y (vf_upd (y_st y) i v)) r d := by
  unfold hhW
  have hl : ∀ n a, (zfrom a n).length = n := by
    intro n; induction n with
    | zero => intro a; rfl
    | succ n ih => intro a; show (zfrom (a + 1) n).length + 1 = _; rw [ih]
  rw [zrep_app _ _ _ _ _ (by rw [hl, hW_len])]
  have e1 : zrep (yyW g q y r d) (zfrom (2 + 21 * i) 21) (hW g (fun j => q (2 + (21 * i + j))) v) = yyW g q (y_sst y (vf_upd (y_st y) i v)) r d := by
    refine zrep_m _ _ _ (yyW_b g q r y d hi) (by rw [yyW_l, hW_len]) (by rw [hW_len, hW_len]) ?_
    unfold yyW
    rw [show y_st (y_sst y (vf_upd (y_st y) i v)) = vf_upd (y_st y) i v from rfl, hsW_up g _ _ v hi]
    simp only [List.append_assoc]; rfl
  rw [e1]
  exact zrep_m (yW0 g q (y_sst y (vf_upd (y_st y) i v)) ++ hsW g (fun j => q (2 + j)) (vf_upd (y_st y) i v) 0 7) (hW g r d) [] (by unfold yyW; simp only [List.append_assoc, List.append_nil]; rfl) (by rw [List.length_append, hsW_len, hW_len]; rfl) rfl (by unfold yyW; simp only [List.append_assoc, List.append_nil]; rfl)
theorem zfrom_len : ∀ n a, (zfrom a n).length = n
  | 0, _ => rfl
  | n + 1, a => by show (zfrom (a + 1) n).length + 1 = _; rw [zfrom_len n]

def zget_tn (ws : va_W) (a n : Nat) (B : va_W) : Prop := (zfrom a n).map (fun i => ws[i]?) = B.map some
abbrev zget_t (ws : va_W) (a : Nat) (B : va_W) : Prop := zget_tn ws a 21 B
set_option maxHeartbeats 4000000 in
theorem c_X0_prepare {l : Launch} {g : zG} (q : Nat → Nat) (y : YD) (r : Nat → Nat) (d : HD) (hy : y_ok y) (hd : h_ok d) : zM l g yX0_prepare cX0_prepare 2 none 3 0 0 [.ref (q 0), .ref (r 0)] (yyW g q y r d) (zE none (yyW g q (y_prep y d) r d)) := by
  refine zM_of (by decide +kernel) (Nat.le_of_ble_eq_true rfl) (fun x hl hn _ _ _ C => ?_)
  subst hl
  show zR x g _ (0, 0) 0 [(0, .ref (q 0)), (1, .ref (r 0))] [] _
  refine zR_aload_n C eX0_prepare_0 0 rfl rfl ?_
  refine zR_get C fX0_11 eX0_prepare_1 0 yyW_g0 rfl ?_
  refine zR_aload_n C eX0_prepare_4 0 rfl rfl ?_
  refine zR_get C fX0_17 eX0_prepare_5 0 yyW_g0 rfl ?_
  refine zR_aload_n C eX0_prepare_8 0 rfl rfl ?_
  refine zR_get C fX0_21 eX0_prepare_9 0 yyW_g0 rfl ?_
  refine zR_iadd C eX0_prepare_12 ?_
  refine zR_bipush (v := 7) C eX0_prepare_13 (by decide) ?_
  refine zR_irem C eX0_prepare_15 (by decide) ?_
  refine zR_topi (y_rem hy) ?_
  have hi := y_ix_lt y
  refine zR_aald (v := .ref (q (2 + 21 * y_ix y))) C eX0_prepare_16 1 yyW_g1 (vp_in_nI hi (by decide)) (by rw [nI_clamp (by omega)]; rfl) ?_
  refine zR_aload_n C eX0_prepare_17 1 rfl rfl ?_
  obtain ⟨fs, hfs⟩ := yyW_gi (g := g) (q := q) (r := r) (y := y) (d := d) hi
  refine zR_callVv C kX0_25 eX0_prepare_18 (c_X1_copyFrom (fun j => q (2 + (21 * y_ix y + j))) (y_st y (y_ix y)) r d hd) rfl (2 + 21 * y_ix y) 1 hfs rfl rfl _ (yyW_ci hi) (zfrom_nd2 (by omega)) rfl (by decide) (by decide) (Nat.le_of_ble_eq_true rfl) (Nat.zero_le _) (Nat.zero_le _) hhW_f (yyW_ri hi) ?_
  exact zR_vret C rfl eX0_prepare_21 (Nat.zero_le _) (Nat.zero_le _) ⟨rfl, rfl⟩
theorem c_X0_keep {l : Launch} {g : zG} (q : Nat → Nat) (y : YD) (r : Int32) : zM l g yX0_keep cX0_keep 2 (some .int) 0 0 0 [.ref (q 0), .int r] (kW q y) (zE (some (.int r)) (kW q (y_keep y r))) := by
  refine zM_of (by decide +kernel) (Nat.le_of_ble_eq_true rfl) (fun x hl hn _ _ _ C => ?_)
  subst hl
  show zR x g _ (0, 0) 0 [(0, .ref (q 0)), (1, .int r)] [] _
  refine zR_iload_n C eX0_keep_0 1 rfl rfl ?_
  refine zR_iflt C eX0_keep_1 (fun h1 => ?_) (fun h1 => ?_)
  · skip
    refine zR_iload_n C eX0_keep_26 1 rfl rfl ?_
    refine zR_iflt C eX0_keep_27 (fun h27 => ?_) (fun h27 => ?_)
    · skip
      refine zR_iload_n C eX0_keep_43 1 rfl rfl ?_
      exact zR_iret C rfl rfl eX0_keep_44 (Nat.zero_le _) (Nat.zero_le _) ⟨rfl, by unfold y_keep; rw [if_pos h1]⟩
    · skip
      refine zR_aload_n C eX0_keep_30 0 rfl rfl ?_
      refine zR_aload_n C eX0_keep_31 0 rfl rfl ?_
      refine zR_get C fX0_17 eX0_keep_32 0 kW_g0 rfl ?_
      refine zR_iconst (v := 1) C eX0_keep_35 (by decide) ?_
      refine zR_iadd C eX0_keep_36 ?_
      refine zR_bipush (v := 7) C eX0_keep_37 (by decide) ?_
      refine zR_irem C eX0_keep_39 (by decide) ?_
      refine zR_put C pX0_17 eX0_keep_40 0 kW_g0 (Nat.le_of_ble_eq_true rfl) kW_s0_1 ?_
      refine zR_iload_n C eX0_keep_43 1 rfl rfl ?_
      exact absurd h1 h27
  · skip
    refine zR_aload_n C eX0_keep_4 0 rfl rfl ?_
    refine zR_get C fX0_21 eX0_keep_5 0 kW_g0 rfl ?_
    refine zR_bipush (v := 6) C eX0_keep_8 (by decide) ?_
    refine zR_icmp_ge C eX0_keep_10 (fun h10 => ?_) (fun h10 => ?_)
    · skip
      refine zR_iload_n C eX0_keep_26 1 rfl rfl ?_
      refine zR_iflt C eX0_keep_27 (fun h27 => ?_) (fun h27 => ?_)
      · skip
        refine zR_iload_n C eX0_keep_43 1 rfl rfl ?_
        exact absurd h27 h1
      · skip
        refine zR_aload_n C eX0_keep_30 0 rfl rfl ?_
        refine zR_aload_n C eX0_keep_31 0 rfl rfl ?_
        refine zR_get C fX0_17 eX0_keep_32 0 kW_g0 rfl ?_
        refine zR_iconst (v := 1) C eX0_keep_35 (by decide) ?_
        refine zR_iadd C eX0_keep_36 ?_
        refine zR_bipush (v := 7) C eX0_keep_37 (by decide) ?_
        refine zR_irem C eX0_keep_39 (by decide) ?_
        refine zR_put C pX0_17 eX0_keep_40 0 kW_g0 (Nat.le_of_ble_eq_true rfl) kW_s0_1 ?_
        refine zR_iload_n C eX0_keep_43 1 rfl rfl ?_
        exact zR_iret C rfl rfl eX0_keep_44 (Nat.zero_le _) (Nat.zero_le _) ⟨rfl, by unfold y_keep; rw [if_neg h1, if_neg h10] <;> rfl⟩
    · skip
      refine zR_aload_n C eX0_keep_13 0 rfl rfl ?_
      refine zR_dup C eX0_keep_14 rfl ?_
      refine zR_get C fX0_21 eX0_keep_15 0 kW_g0 rfl ?_
      refine zR_iconst (v := 1) C eX0_keep_18 (by decide) ?_
      refine zR_iadd C eX0_keep_19 ?_
      refine zR_put C pX0_21 eX0_keep_20 0 kW_g0 (Nat.le_of_ble_eq_true rfl) kW_s0_2 ?_
      refine zR_goto C eX0_keep_23 ?_
      refine zR_iload_n C eX0_keep_43 1 rfl rfl ?_
      exact zR_iret C rfl rfl eX0_keep_44 (Nat.zero_le _) (Nat.zero_le _) ⟨rfl, by unfold y_keep; rw [if_neg h1, if_pos h10] <;> rfl⟩
def y_pop (y : YD) : YD := y_skept y (nI (zn32 (y_kept y) - 1))
theorem y_dec {y : YD} (h : y_ok y) (hk : 1 ≤ zn32 (y_kept y)) : (if (0 : Int32) < y_kept y - 1 then y_kept y - 1 else 0) = nI (zn32 (y_kept y) - 1) := by
  have h2 := h.2.2
  have e : y_kept y - 1 = nI (zn32 (y_kept y) - 1) := by
    conv => lhs; rw [h.2.1, show zn32 (y_kept y) = (zn32 (y_kept y) - 1) + 1 by omega]
    exact nI_pred _
  rw [e]
  split
  · rfl
  · rename_i q
    rcases Nat.lt_or_ge 1 (zn32 (y_kept y)) with z | z
    · exact absurd (nI_lt (a := 0) (b := zn32 (y_kept y) - 1) (by omega) (by omega)) q
    · rw [show zn32 (y_kept y) - 1 = 0 by omega]; rfl
theorem y_pop_ok {y : YD} (h : y_ok y) : y_ok (y_pop y) := ⟨h.1, zok_nI (by have := h.2.2; omega) (by decide)⟩
theorem c_X0_takeLatest {l : Launch} {g : zG} (q : Nat → Nat) (y : YD) (hy : y_ok y) (hk : 1 ≤ zn32 (y_kept y)) : zM l g yX0_takeLatest cX0_takeLatest 1 (some (.object "ErrorBudgets$House")) 1 0 0 [.ref (q 0)] (yW0 g q y) (zE (some (.ref (q (2 + 21 * y_ix (y_pop y))))) (yW0 g q (y_pop y))) := by
  refine zM_of (by decide +kernel) (Nat.le_of_ble_eq_true rfl) (fun x hl hn _ _ _ C => ?_)
  subst hl
  show zR x g _ (0, 0) 0 [(0, .ref (q 0))] [] _
  refine zR_aload_n C eX0_takeLatest_0 0 rfl rfl ?_
  refine zR_iconst (v := 0) C eX0_takeLatest_1 (by decide) ?_
  refine zR_aload_n C eX0_takeLatest_2 0 rfl rfl ?_
  refine zR_get C fX0_21 eX0_takeLatest_3 0 yW0_g0 rfl ?_
  refine zR_iconst (v := 1) C eX0_takeLatest_6 (by decide) ?_
  refine zR_isub C eX0_takeLatest_7 ?_
  refine zR_mmaxi C kX0_29 eX0_takeLatest_8 (by decide) (Nat.le_of_ble_eq_true rfl) (Nat.zero_le _) (Nat.zero_le _) ?_
  refine zR_topi (y_dec hy hk) ?_
  refine zR_put C pX0_21 eX0_takeLatest_11 0 yW0_g0 (Nat.le_of_ble_eq_true rfl) yW0_s0_2 ?_
  refine zR_ws (yW0 g q (y_pop y)) rfl ?_
  refine zR_aload_n C eX0_takeLatest_14 0 rfl rfl ?_
  refine zR_get C fX0_11 eX0_takeLatest_15 0 yW0_g0 rfl ?_
  refine zR_aload_n C eX0_takeLatest_18 0 rfl rfl ?_
  refine zR_get C fX0_17 eX0_takeLatest_19 0 yW0_g0 rfl ?_
  refine zR_aload_n C eX0_takeLatest_22 0 rfl rfl ?_
  refine zR_get C fX0_21 eX0_takeLatest_23 0 yW0_g0 rfl ?_
  refine zR_iadd C eX0_takeLatest_26 ?_
  refine zR_bipush (v := 7) C eX0_takeLatest_27 (by decide) ?_
  refine zR_irem C eX0_takeLatest_29 (by decide) ?_
  refine zR_topi (y_rem (y_pop_ok hy)) ?_
  have hi := y_ix_lt (y_pop y)
  refine zR_aald (v := .ref (q (2 + 21 * y_ix (y_pop y)))) C eX0_takeLatest_30 1 yW0_g1 (vp_in_nI hi (by decide)) (by rw [nI_clamp (by omega)]; rfl) ?_
  exact zR_aret C rfl eX0_takeLatest_31 (Nat.zero_le _) (Nat.zero_le _) ⟨rfl, rfl⟩
theorem eW_bP {g : zG} {q : Nat → Nat} {e : ED} : eW g q e = (eW0 q e ++ (hW g (fun j => q (1 + j)) (e_now e) ++ (hW g (fun j => q (22 + j)) (e_tri e)))) ++ ((yW0 g (fun j => q (43 + j)) (e_his e) ++ hsW g (fun j => q (43 + (2 + j))) (y_st (e_his e)) 0 7) ++ (eWm g q e ++ (aW g (fun j => q (194 + j)) (e_pad e) ++ (hsW g (fun j => q (198 + j)) (e_sl e) 0 2)))) ∧ ((eW0 q e ++ (hW g (fun j => q (1 + j)) (e_now e) ++ (hW g (fun j => q (22 + j)) (e_tri e)))) : va_W).length = 43 := ⟨by simp only [eW, yyW, hhW, List.append_assoc, List.append_nil, List.nil_append], (eW_b3 (g := g)).2⟩
theorem eW_bH {g : zG} {q : Nat → Nat} {e : ED} {i : Nat} (hi : i < 7) : eW g q e = ((eW0 q e ++ (hW g (fun j => q (1 + j)) (e_now e) ++ (hW g (fun j => q (22 + j)) (e_tri e) ++ (yW0 g (fun j => q (43 + j)) (e_his e))))) ++ hsW g (fun j => q (43 + (2 + j))) (y_st (e_his e)) 0 i) ++ (hW g (fun j => q (43 + (2 + (21 * i + j)))) (y_st (e_his e) i) ++ (hsW g (fun j => q (43 + (2 + j))) (y_st (e_his e)) (i + 1) (7 - 1 - i) ++ (eWm g q e ++ (aW g (fun j => q (194 + j)) (e_pad e) ++ (hsW g (fun j => q (198 + j)) (e_sl e) 0 2))))) ∧ ((eW0 q e ++ (hW g (fun j => q (1 + j)) (e_now e) ++ (hW g (fun j => q (22 + j)) (e_tri e) ++ (yW0 g (fun j => q (43 + j)) (e_his e))))) ++ hsW g (fun j => q (43 + (2 + j))) (y_st (e_his e)) 0 i : va_W).length = 45 + 21 * i := ⟨by unfold eW; rw [hsW_at g _ _ hi]; simp only [List.append_assoc, List.append_nil, List.nil_append], by rw [List.length_append, (eW_b4 (g := g)).2, hsW_len]⟩
theorem eW_bS {g : zG} {q : Nat → Nat} {e : ED} {i : Nat} (hi : i < 2) : eW g q e = ((eW0 q e ++ (hW g (fun j => q (1 + j)) (e_now e) ++ (hW g (fun j => q (22 + j)) (e_tri e) ++ (yW0 g (fun j => q (43 + j)) (e_his e) ++ (hsW g (fun j => q (43 + (2 + j))) (y_st (e_his e)) 0 7 ++ (eWm g q e ++ (aW g (fun j => q (194 + j)) (e_pad e)))))))) ++ hsW g (fun j => q (198 + j)) (e_sl e) 0 i) ++ (hW g (fun j => q (198 + (21 * i + j))) (e_sl e i) ++ (hsW g (fun j => q (198 + j)) (e_sl e) (i + 1) (2 - 1 - i))) ∧ ((eW0 q e ++ (hW g (fun j => q (1 + j)) (e_now e) ++ (hW g (fun j => q (22 + j)) (e_tri e) ++ (yW0 g (fun j => q (43 + j)) (e_his e) ++ (hsW g (fun j => q (43 + (2 + j))) (y_st (e_his e)) 0 7 ++ (eWm g q e ++ (aW g (fun j => q (194 + j)) (e_pad e)))))))) ++ hsW g (fun j => q (198 + j)) (e_sl e) 0 i : va_W).length = 198 + 21 * i := ⟨by unfold eW; rw [hsW_at g _ _ hi]; simp only [List.append_assoc, List.append_nil, List.nil_append], by rw [List.length_append, (eW_b7 (g := g)).2, hsW_len]⟩
theorem yy_len (g : zG) (q : Nat → Nat) (y : YD) (s : Nat → HD) (q2 : Nat → Nat) : (yW0 g q y ++ hsW g q2 s 0 7).length = 149 := by rw [List.length_append, hsW_len]; rfl
theorem eW_c43 {g : zG} {q : Nat → Nat} {e : ED} : ([43] : List Nat).map (fun i => (eW g q e)[i]?) = (kW (fun j => q (43 + j)) (e_his e)).map some := zget_m (eW0 q e ++ (hW g (fun j => q (1 + j)) (e_now e) ++ (hW g (fun j => q (22 + j)) (e_tri e)))) (kW (fun j => q (43 + j)) (e_his e)) ([(q 44, .inl (g.2.1 4, 7, .inr (.inr (.inr (.inr (fun i => some (q (43 + (2 + 21 * i)))))))))] ++ (hsW g (fun j => q (43 + (2 + j))) (y_st (e_his e)) 0 7 ++ (eWm g q e ++ (aW g (fun j => q (194 + j)) (e_pad e) ++ (hsW g (fun j => q (198 + j)) (e_sl e) 0 2))))) ((eW_b3 (g := g)).1) (by rw [(eW_b3 (g := g)).2] <;> rfl)
theorem eW_r43 {g : zG} {q : Nat → Nat} {e : ED} {v : YD} (hv : y_st v = y_st (e_his e)) : zrep (eW g q e) [43] (kW (fun j => q (43 + j)) v) = eW g q (e_shis e v) := by
  refine zrep_m (eW0 q e ++ (hW g (fun j => q (1 + j)) (e_now e) ++ (hW g (fun j => q (22 + j)) (e_tri e)))) (kW (fun j => q (43 + j)) (e_his e)) ([(q 44, .inl (g.2.1 4, 7, .inr (.inr (.inr (.inr (fun i => some (q (43 + (2 + 21 * i)))))))))] ++ (hsW g (fun j => q (43 + (2 + j))) (y_st (e_his e)) 0 7 ++ (eWm g q e ++ (aW g (fun j => q (194 + j)) (e_pad e) ++ (hsW g (fun j => q (198 + j)) (e_sl e) 0 2))))) ((eW_b3 (g := g)).1) (by rw [(eW_b3 (g := g)).2] <;> rfl) rfl ?_
  rw [(eW_b3 (g := g) (e := e_shis e v)).1, show y_st (e_his (e_shis e v)) = y_st v from rfl, hv]; rfl
theorem eW_cY {g : zG} {q : Nat → Nat} {e : ED} : ([43, 44] : List Nat).map (fun i => (eW g q e)[i]?) = (yW0 g (fun j => q (43 + j)) (e_his e)).map some := zget_m (eW0 q e ++ (hW g (fun j => q (1 + j)) (e_now e) ++ (hW g (fun j => q (22 + j)) (e_tri e)))) (yW0 g (fun j => q (43 + j)) (e_his e)) (hsW g (fun j => q (43 + (2 + j))) (y_st (e_his e)) 0 7 ++ (eWm g q e ++ (aW g (fun j => q (194 + j)) (e_pad e) ++ (hsW g (fun j => q (198 + j)) (e_sl e) 0 2)))) ((eW_b3 (g := g)).1) (by rw [(eW_b3 (g := g)).2] <;> rfl)
theorem eW_rY {g : zG} {q : Nat → Nat} {e : ED} {v : YD} (hv : y_st v = y_st (e_his e)) : zrep (eW g q e) [43, 44] (yW0 g (fun j => q (43 + j)) v) = eW g q (e_shis e v) := by
  refine zrep_m (eW0 q e ++ (hW g (fun j => q (1 + j)) (e_now e) ++ (hW g (fun j => q (22 + j)) (e_tri e)))) (yW0 g (fun j => q (43 + j)) (e_his e)) (hsW g (fun j => q (43 + (2 + j))) (y_st (e_his e)) 0 7 ++ (eWm g q e ++ (aW g (fun j => q (194 + j)) (e_pad e) ++ (hsW g (fun j => q (198 + j)) (e_sl e) 0 2)))) ((eW_b3 (g := g)).1) (by rw [(eW_b3 (g := g)).2] <;> rfl) rfl ?_
  rw [(eW_b3 (g := g) (e := e_shis e v)).1, show y_st (e_his (e_shis e v)) = y_st v from rfl, hv]; rfl
theorem eW_now {g : zG} {q : Nat → Nat} {e : ED} : zget_t (eW g q e) 1 (hW g (fun j => q (1 + j)) (e_now e)) := zget_m (eW0 q e) (hW g (fun j => q (1 + j)) (e_now e)) (hW g (fun j => q (22 + j)) (e_tri e) ++ (yW0 g (fun j => q (43 + j)) (e_his e) ++ (hsW g (fun j => q (43 + (2 + j))) (y_st (e_his e)) 0 7 ++ (eWm g q e ++ (aW g (fun j => q (194 + j)) (e_pad e) ++ (hsW g (fun j => q (198 + j)) (e_sl e) 0 2)))))) ((eW_b1 (g := g)).1) (by rw [(eW_b1 (g := g)).2] <;> rfl)
theorem eW_nowr {g : zG} {q : Nat → Nat} {e : ED} {v : HD} : zrep (eW g q e) (zfrom 1 21) (hW g (fun j => q (1 + j)) v) = eW g q (e_snow e v) := zrep_m (eW0 q e) (hW g (fun j => q (1 + j)) (e_now e)) (hW g (fun j => q (22 + j)) (e_tri e) ++ (yW0 g (fun j => q (43 + j)) (e_his e) ++ (hsW g (fun j => q (43 + (2 + j))) (y_st (e_his e)) 0 7 ++ (eWm g q e ++ (aW g (fun j => q (194 + j)) (e_pad e) ++ (hsW g (fun j => q (198 + j)) (e_sl e) 0 2)))))) ((eW_b1 (g := g)).1) (by rw [(eW_b1 (g := g)).2] <;> rfl) rfl (by rw [(eW_b1 (g := g)).1] <;> rfl)
theorem eW_tri {g : zG} {q : Nat → Nat} {e : ED} : zget_t (eW g q e) 22 (hW g (fun j => q (22 + j)) (e_tri e)) := zget_m (eW0 q e ++ (hW g (fun j => q (1 + j)) (e_now e))) (hW g (fun j => q (22 + j)) (e_tri e)) (yW0 g (fun j => q (43 + j)) (e_his e) ++ (hsW g (fun j => q (43 + (2 + j))) (y_st (e_his e)) 0 7 ++ (eWm g q e ++ (aW g (fun j => q (194 + j)) (e_pad e) ++ (hsW g (fun j => q (198 + j)) (e_sl e) 0 2))))) ((eW_b2 (g := g)).1) (by rw [(eW_b2 (g := g)).2] <;> rfl)
theorem eW_trir {g : zG} {q : Nat → Nat} {e : ED} {v : HD} : zrep (eW g q e) (zfrom 22 21) (hW g (fun j => q (22 + j)) v) = eW g q (e_stri e v) := zrep_m (eW0 q e ++ (hW g (fun j => q (1 + j)) (e_now e))) (hW g (fun j => q (22 + j)) (e_tri e)) (yW0 g (fun j => q (43 + j)) (e_his e) ++ (hsW g (fun j => q (43 + (2 + j))) (y_st (e_his e)) 0 7 ++ (eWm g q e ++ (aW g (fun j => q (194 + j)) (e_pad e) ++ (hsW g (fun j => q (198 + j)) (e_sl e) 0 2))))) ((eW_b2 (g := g)).1) (by rw [(eW_b2 (g := g)).2] <;> rfl) rfl (by rw [(eW_b2 (g := g)).1] <;> rfl)
theorem eW_hst {g : zG} {q : Nat → Nat} {e : ED} {i : Nat} (hi : i < 7) : zget_t (eW g q e) (45 + 21 * i) (hW g (fun j => q (43 + (2 + (21 * i + j)))) (y_st (e_his e) i)) := zget_m _ _ _ (eW_bH hi).1 (by rw [(eW_bH hi).2, hW_len])
theorem eW_hstr {g : zG} {q : Nat → Nat} {e : ED} {i : Nat} (hi : i < 7) : zrep (eW g q e) (zfrom (45 + 21 * i) 21) (hW g (fun j => q (43 + (2 + (21 * i + j)))) (y_st (e_his e) i)) = eW g q e := zrep_m _ _ _ (eW_bH hi).1 (by rw [(eW_bH hi).2, hW_len]) rfl (eW_bH hi).1.symm
theorem eW_slo {g : zG} {q : Nat → Nat} {e : ED} {i : Nat} (hi : i < 2) : zget_t (eW g q e) (198 + 21 * i) (hW g (fun j => q (198 + (21 * i + j))) (e_sl e i)) := zget_m _ _ _ (eW_bS hi).1 (by rw [(eW_bS hi).2, hW_len])
theorem eW_slor {g : zG} {q : Nat → Nat} {e : ED} {i : Nat} (hi : i < 2) {v : HD} : zrep (eW g q e) (zfrom (198 + 21 * i) 21) (hW g (fun j => q (198 + (21 * i + j))) v) = eW g q (e_ssl e (vf_upd (e_sl e) i v)) := by
  refine zrep_m _ _ _ (eW_bS hi).1 (by rw [(eW_bS hi).2, hW_len]) rfl ?_
  unfold eW
  rw [show e_sl (e_ssl e (vf_upd (e_sl e) i v)) = vf_upd (e_sl e) i v from rfl, hsW_up g _ _ v hi]
  simp only [List.append_assoc, List.append_nil, List.nil_append]; rfl
theorem eW_hisc {g : zG} {q : Nat → Nat} {e : ED} : zget_tn (eW g q e) 43 149 (yW0 g (fun j => q (43 + j)) (e_his e) ++ hsW g (fun j => q (43 + (2 + j))) (y_st (e_his e)) 0 7) := zget_m _ _ _ eW_bP.1 (by rw [(eW_bP (g := g)).2, yy_len])
theorem eW_hisr {g : zG} {q : Nat → Nat} {e : ED} {v : YD} : zrep (eW g q e) (zfrom 43 149) (yW0 g (fun j => q (43 + j)) v ++ hsW g (fun j => q (43 + (2 + j))) (y_st v) 0 7) = eW g q (e_shis e v) := by
  refine zrep_m _ _ _ eW_bP.1 (by rw [(eW_bP (g := g)).2, yy_len]) (by rw [yy_len, yy_len]) ?_
  rw [(eW_bP (g := g) (e := e_shis e v)).1] <;> rfl
theorem eW_snow_id {e : ED} : e_snow e (e_now e) = e := rfl
-- the pairs
theorem eW_cRn {g : zG} {q : Nat → Nat} {e : ED} : (zfrom 22 21 ++ zfrom 1 21).map (fun i => (eW g q e)[i]?) = (hhW g (fun j => q (22 + j)) (e_tri e) (fun j => q (1 + j)) (e_now e)).map some := zget_2 eW_tri eW_now
theorem eW_rRn {g : zG} {q : Nat → Nat} {e : ED} {v : HD} : zrep (eW g q e) (zfrom 22 21 ++ zfrom 1 21) (hhW g (fun j => q (22 + j)) v (fun j => q (1 + j)) (e_now e)) = eW g q (e_stri e v) := by
  unfold hhW; rw [zrep_app _ _ _ _ _ (by rw [zfrom_len, hW_len]), eW_trir]
  exact eW_nowr (e := e_stri e v)
theorem eW_cHn {g : zG} {q : Nat → Nat} {e : ED} {i : Nat} (hi : i < 7) : (zfrom 1 21 ++ zfrom (45 + 21 * i) 21).map (fun i => (eW g q e)[i]?) = (hhW g (fun j => q (1 + j)) (e_now e) (fun j => q (43 + (2 + (21 * i + j)))) (y_st (e_his e) i)).map some := zget_2 eW_now (eW_hst hi)
theorem eW_rHn {g : zG} {q : Nat → Nat} {e : ED} {i : Nat} (hi : i < 7) {v : HD} : zrep (eW g q e) (zfrom 1 21 ++ zfrom (45 + 21 * i) 21) (hhW g (fun j => q (1 + j)) v (fun j => q (43 + (2 + (21 * i + j)))) (y_st (e_his e) i)) = eW g q (e_snow e v) := by
  unfold hhW; rw [zrep_app _ _ _ _ _ (by rw [zfrom_len, hW_len]), eW_nowr]
  exact eW_hstr (e := e_snow e v) hi
theorem eW_cSn {g : zG} {q : Nat → Nat} {e : ED} {i : Nat} (hi : i < 2) : (zfrom 1 21 ++ zfrom (198 + 21 * i) 21).map (fun i => (eW g q e)[i]?) = (hhW g (fun j => q (1 + j)) (e_now e) (fun j => q (198 + (21 * i + j))) (e_sl e i)).map some := zget_2 eW_now (eW_slo hi)
theorem vf_upd_id {α : Type} (s : Nat → α) (i : Nat) : vf_upd s i (s i) = s := by
  funext j; unfold vf_upd; split
  · rename_i h; rw [h]
  · rfl
theorem eW_rSn {g : zG} {q : Nat → Nat} {e : ED} {i : Nat} (hi : i < 2) {v : HD} : zrep (eW g q e) (zfrom 1 21 ++ zfrom (198 + 21 * i) 21) (hhW g (fun j => q (1 + j)) v (fun j => q (198 + (21 * i + j))) (e_sl e i)) = eW g q (e_snow e v) := by
  unfold hhW; rw [zrep_app _ _ _ _ _ (by rw [zfrom_len, hW_len]), eW_nowr]
  have h := eW_slor (g := g) (q := q) (e := e_snow e v) hi (v := e_sl e i)
  rw [show e_sl (e_snow e v) = e_sl e from rfl, vf_upd_id] at h
  exact h
theorem eW_cTn {g : zG} {q : Nat → Nat} {e : ED} {i : Nat} (hi : i < 2) : (zfrom (198 + 21 * i) 21 ++ zfrom 1 21).map (fun i => (eW g q e)[i]?) = (hhW g (fun j => q (198 + (21 * i + j))) (e_sl e i) (fun j => q (1 + j)) (e_now e)).map some := zget_2 (eW_slo hi) eW_now
theorem eW_rTn {g : zG} {q : Nat → Nat} {e : ED} {i : Nat} (hi : i < 2) {v : HD} : zrep (eW g q e) (zfrom (198 + 21 * i) 21 ++ zfrom 1 21) (hhW g (fun j => q (198 + (21 * i + j))) v (fun j => q (1 + j)) (e_now e)) = eW g q (e_ssl e (vf_upd (e_sl e) i v)) := by
  unfold hhW; rw [zrep_app _ _ _ _ _ (by rw [zfrom_len, hW_len]), eW_slor hi]
  exact eW_nowr (e := e_ssl e (vf_upd (e_sl e) i v))
theorem eW_cPn {g : zG} {q : Nat → Nat} {e : ED} : (zfrom 43 149 ++ zfrom 1 21).map (fun i => (eW g q e)[i]?) = (yyW g (fun j => q (43 + j)) (e_his e) (fun j => q (1 + j)) (e_now e)).map some := by
  have h := zget_2 (eW_hisc (g := g) (q := q) (e := e)) eW_now
  unfold yyW; rw [h, List.append_assoc]
theorem eW_rPn {g : zG} {q : Nat → Nat} {e : ED} {v : YD} : zrep (eW g q e) (zfrom 43 149 ++ zfrom 1 21) (yyW g (fun j => q (43 + j)) v (fun j => q (1 + j)) (e_now e)) = eW g q (e_shis e v) := by
  unfold yyW; rw [← List.append_assoc, zrep_app _ _ _ _ _ (by rw [zfrom_len, yy_len]), eW_hisr]
  exact eW_nowr (e := e_shis e v)

