
/-! EACH CHANGE, second part: settings, services, budgets, payments. -/
theorem t_i32 {v : Int64} (h : 0 ≤ v.toInt ∧ v.toInt ≤ 1000000000) : ∃ n : Nat, v.toInt = n ∧ v = lN n ∧ v.toInt32 = nI n := by
  obtain ⟨n, hn⟩ : ∃ n : Nat, v.toInt = n := ⟨v.toInt.toNat, by omega⟩
  have e : v = lN n := t_eq (by rw [hn, lN_toInt (by omega)])
  exact ⟨n, hn, e, by rw [e, lN_i]⟩
theorem HH_cnt {B c : Nat} {d : HD} {r : RW} (h : HH B d r) (h11 : r 11 = lN c) (hc : c ≤ 8) : zn32 (h_cnt d) = c ∧ h_cnt d = nI c := by
  have h1 := h.1.2.2.2.2
  have e1 := lN_t h11 (by omega)
  have e2 := zok_t h1.2 (by decide)
  rw [h1.1] at e1
  have e3 : zn32 (h_cnt d) = c := by omega
  exact ⟨e3, by rw [← e3]; exact h1.2.1⟩
theorem OP_fin {e : ED} {v : Int32} {d2 : HD} (h : ¬ v < 0) : OP e (e_fin (v, e_snow (e_prep e) d2)) := Or.inl ⟨h, (v, e_snow (e_prep e) d2), d2, rfl, rfl⟩
theorem q_cap_le : ∀ k, k < 8 → q_cap k ≤ 720 := by decide +kernel
theorem h_set_pos {B : Nat} {e : ED} {m : MD} (h : RR B e m) {s : Int32} (h0 : ¬ s < 0) (h8 : s < 8) : ¬ h_set (e_now e) (zn32 s) < 0 := by
  obtain ⟨k, hk, es⟩ := nI_of h0
  rw [es] at h8
  have hk8 : k < 8 := (nI_ltI (b := 8) hk (by decide)).mp h8
  have ez : zn32 s = k := by rw [es]; exact zn_nI hk
  rw [ez]
  have hs := (h.2.1.1.1.1 k hk8).2
  have h2 := hs.2
  have h3 := q_cap_le k hk8
  rw [hs.1]; exact nI_pos (by omega)
theorem SP_set {B c F : Nat} {e : ED} {m : MD} (h : RR B e m) (iv : IV c F (m_row m)) (s v : Int32) : SP B c F e (e_set e s v) := by
  have S := S_set h s v
  have ho : OP e (e_set e s v) := by
    unfold e_set
    by_cases h0 : s < 0
    · rw [if_pos h0]; exact OP_no (by decide)
    · rw [if_neg h0]
      by_cases h8 : s < 8
      · rw [if_pos h8]
        split
        · have eE : e_set1 (e_prep e) s v = e_snow (e_prep e) (h_sset (e_now (e_prep e)) (upd (h_set (e_now (e_prep e))) (zn32 s) v)) := by unfold e_set1; rfl
          rw [eE, (e_prep_f e).1]
          exact OP_fin (h_set_pos h h0 h8)
        · exact OP_no (by decide)
      · rw [if_neg h8]; exact OP_no (by decide)
  refine SP_of (c := c) (Nat.le_refl c) (G := F) ho S.2 (by omega) ?_ (by omega)
  unfold m_set
  by_cases g : z_isSet s v = true
  · rw [if_pos g]
    obtain ⟨-, es, hk8⟩ := z_isSet_in g
    obtain ⟨k, hk⟩ : ∃ k, k = zn32 s := ⟨_, rfl⟩
    rw [← hk] at es hk8 ⊢
    rw [es, q_isSet hk8 v] at g
    obtain ⟨l1, l2, l3, l4⟩ := q_lohi k hk8
    have hv : zok v (q_cap k) := by rw [l1, l2] at g; exact (z_in_b l4 l3 g).1
    have et := zok_t hv l4
    have hv2 := hv.2
    have iv2 := IV_rec iv
    show IV c F (vp_updL (m_row (m_rec m)) k v.toInt64)
    generalize m_row (m_rec m) = r at iv2 ⊢
    have ro : ∀ j, j ≠ k → vp_updL r k v.toInt64 j = r j := fun j hj => vp_uLo (by omega)
    have i6 := iv2.2.2.2.2.2
    refine ⟨iv2.1, by rw [ro 11 (by omega)]; exact iv2.2.1, IVa_r iv2.1 iv2.2.2.1 (fun t j ht hj _ _ => gA_r (ro _ (by omega))), IVl_r iv2.2.2.2.1 (fun j hj => ro j (by omega)), IVp_r iv2.2.2.2.2.1 (fun j hj => ro j (by omega)), ?_⟩
    unfold IVm at i6 ⊢
    rw [ro 10 (by omega), ro 8 (by omega)]
    refine ⟨i6.1, i6.2.1, i6.2.2.1, ?_⟩
    by_cases k1 : k = 1
    · subst k1
      have : q_cap 1 = 100 := rfl
      rw [vp_uLe rfl, ro 4 (by omega), et]
      exact ⟨by omega, by omega, i6.2.2.2.2.2⟩
    · rw [ro 1 (by omega)]
      by_cases k4 : k = 4
      · subst k4
        have : q_cap 4 = 100 := rfl
        rw [vp_uLe rfl, et]
        exact ⟨i6.2.2.2.1, i6.2.2.2.2.1, by omega, by omega⟩
      · rw [ro 4 (by omega)]; exact i6.2.2.2
  · rw [if_neg g]; exact iv
theorem SP_service {B c F : Nat} {e : ED} {m : MD} (h : RR B e m) (iv : IV c F (m_row m)) (b : Int32) : SP B c F e (e_service e b) := by
  have S := S_service h b
  have ho : OP e (e_service e b) := by
    unfold e_service
    split
    · split
      · refine Or.inl ⟨?_, _, _, rfl, rfl⟩
        have hc := h.2.1.1.1.2.2.2.2.2
        show ¬ h_cnt (e_now e) < 0
        have := hc.2; rw [hc.1]; exact nI_pos (by omega)
      · exact OP_no (by decide)
    · exact OP_no (by decide)
  unfold m_service at S
  by_cases g : z_inl b.toInt64 10 10000 = true
  · rw [if_pos g] at S
    by_cases g2 : m_row m 11 = 8
    · rw [if_pos g2] at S
      exact SP_of (c := c) (Nat.le_refl c) (G := F) ho S.2 (by omega) iv (by omega)
    · rw [if_neg g2] at S
      have h8 := iv.1
      have iv2 := IV_rec iv
      have hc : c < 8 := by
        rcases Nat.lt_or_ge c 8 with y | y
        · exact y
        · have : c = 8 := by omega
          subst this; exact absurd iv.2.1 g2
      have ez : zn32 (m_row (m_rec m) 11).toInt32 = c := by rw [iv2.2.1, lN_i]; exact zn_nI (by omega)
      have hb := z_inl_nn (a := 10) (b := 10000) g (by decide) (by decide)
      have et := zok_t (a := b) (n := 10000) ⟨hb.1, hb.2.2⟩ (by decide)
      have hz : ∀ k, k < 15 → m_row (m_rec m) (14 + 15 * c + k) = 0 := fun k hk => by
        rw [m_rec_lo (by omega)]
        exact h.2.1.1.2.2.1 c k (by rw [(HH_cnt h.2.1.1 iv.2.1 h8).1]; exact Nat.le_refl _) hc hk
      refine SP_of (c := c) (Nat.le_succ c) (G := F + 1) ho S.2 (by omega) ?_ (by omega)
      show IV (c + 1) (F + 1) (r_serv (m_row (m_rec m)) (zn32 (m_row (m_rec m) 11).toInt32) b.toInt64)
      rw [ez]
      generalize m_row (m_rec m) = r at iv2 hz ⊢
      have A := IVa_serv (b := b.toInt64) hc iv2.2.2.1 ⟨by omega, by omega⟩ hz
      have ro : ∀ j, (j < 14 ∨ 134 ≤ j) → j ≠ 11 → r_serv r c b.toInt64 j = r j := fun j hj h => by
        unfold r_serv r_ex r_sv2; rw [r_add_o (by omega), vp_uLo (by omega), vp_uLo (by omega), vp_uLo (by omega), vp_uLo (by omega)]
      have r11 : r_serv r c b.toInt64 11 = lN (c + 1) := by
        unfold r_serv r_ex r_sv2; rw [r_add_e rfl, vp_uLo (by omega), vp_uLo (by omega), vp_uLo (by omega), vp_uLo (by omega), iv2.2.1]; exact lN_add c 1
      generalize r_serv r c b.toInt64 = r2 at A ro r11 ⊢
      obtain ⟨-, -, -, ⟨n, n1, n2, n3⟩, ⟨p, p1, p2, p3⟩, i6⟩ := iv2
      refine ⟨by omega, r11, A, ⟨n, n1, by rw [ro 12 (by omega) (by decide)]; exact n2, fun l hl => ?_⟩, ⟨p, p1, by rw [ro 13 (by omega) (by decide)]; exact p2, fun q hq => ?_⟩, IVm_r i6 (by omega) (fun j hj => ro j (by omega) (by omega))⟩
      · obtain ⟨a, d, ha, hd, x⟩ := n3 l hl
        exact LNk_r ⟨a, d, by omega, by omega, x⟩ (fun k hk => ro _ (by omega) (by omega))
      · obtain ⟨⟨s, hs, x⟩, y⟩ := p3 q hq
        exact PLk_r ⟨⟨s, by omega, x⟩, y⟩ (fun k hk => ro _ (by omega) (by omega))
  · rw [if_neg g] at S
    exact SP_of (c := c) (Nat.le_refl c) (G := F) ho S.2 (by omega) iv (by omega)
theorem SP_budget {B c F : Nat} {e : ED} {m : MD} (h : RR B e m) (iv : IV c F (m_row m)) (s b : Int32) : SP B c F e (e_budget e s b) := by
  have S := S_budget h s b
  have ho : OP e (e_budget e s b) := by
    unfold e_budget
    split
    · rename_i g1
      split
      · refine Or.inl ⟨?_, _, _, rfl, rfl⟩
        have hs := HH_has h.2.1.1 g1
        have a1 := (h.2.1.1.2.1.2.2 (zn32 s) hs.2.2).1.2
        show ¬ h_bud (e_now e) (zn32 s) < 0
        have := a1.2; rw [a1.1]; exact nI_pos (by omega)
      · exact OP_no (by decide)
    · exact OP_no (by decide)
  refine SP_of (c := c) (Nat.le_refl c) (G := F) ho S.2 (by omega) ?_ (by omega)
  unfold m_budget
  by_cases g1 : r_isS (m_row m) s = true
  · rw [if_pos g1]
    by_cases g : z_inl b.toInt64 10 10000 = true
    · rw [if_pos g]
      have iv2 := IV_rec iv
      have h8 := iv.1
      obtain ⟨A, hA, ea, za⟩ := z_inl_c iv.2.1 (by omega) g1
      have hb := z_inl_nn (a := 10) (b := 10000) g (by decide) (by decide)
      have et := zok_t (a := b) (n := 10000) ⟨hb.1, hb.2.2⟩ (by decide)
      rw [za]
      show IV c F (vp_updL (m_row (m_rec m)) (14 + 15 * A + 0) b.toInt64)
      generalize m_row (m_rec m) = r at iv2 ⊢
      have H := iv2.2.2.1.1 A (by omega)
      have u : ∀ k, k ≠ 0 → gA (vp_updL r (14 + 15 * A + 0) b.toInt64) A k = gA r A k := fun k hk => gA_u (by omega)
      have u0 : gA (vp_updL r (14 + 15 * A + 0) b.toInt64) A 0 = b.toInt64.toInt := by unfold gA; rw [vp_uLe rfl]
      refine IV_srv iv2 (Nat.le_refl _) (IVa_one iv2.1 iv2.2.2.1 (show A < 8 by omega) (Nat.le_refl _) (fun t k ht hk hne => vp_uLo (by omega)) ?_ ?_ ?_ ?_) (fun j hj => vp_uLo (by omega))
      · unfold IVs at H ⊢
        rw [u 1 (by decide), u 3 (by decide), u 4 (by decide), u 6 (by decide), u 7 (by decide), u 8 (by decide), u 9 (by decide), u 10 (by decide), u 11 (by decide), u 12 (by decide), u 13 (by decide), u 14 (by decide), u0]
        exact ⟨H.1, H.2.1, H.2.2.1, H.2.2.2.1, H.2.2.2.2.1, H.2.2.2.2.2.1, by omega, by omega⟩
      · intro hc; rw [u 1 (by decide), u 3 (by decide)]; exact iv2.2.2.1.2.1 A hc
      · rw [u 12 (by decide), u 8 (by decide)]
      · rw [u 13 (by decide), u 9 (by decide)]
    · rw [if_neg g]; exact iv
  · rw [if_neg g1]; exact iv
theorem e_snow_2 (y : ED) (d d2 : HD) : e_snow (e_snow y d) d2 = e_snow y d2 := rfl
theorem SP_repay {B c F : Nat} {e : ED} {m : MD} (hF : F + 80000 < 1000000000) (h : RR B e m) (iv : IV c F (m_row m)) (l : Int32) : SP B c F e (e_repay e l) := by
  have S := S_repay h l
  unfold m_repay at S
  by_cases g : r_isL (m_row m) l = true
  · rw [if_pos g] at S
    have iv2 := IV_rec iv
    obtain ⟨n, n40, n12, nl⟩ := id iv2.2.2.2.1
    have n12m : m_row m 12 = lN n := by rw [← m_rec_lo (m := m) (k := 12) (by decide)]; exact n12
    obtain ⟨A, hA, ea, za⟩ := z_inl_c n12m (by omega) g
    rw [za] at S
    have P := IV_pay (l := A) (by omega) iv2 n12 n40 hA
    have Q := IV_clear P.1
    obtain ⟨k, k1, k2, k3⟩ := t_i32 (v := r_pay (m_row (m_rec m)) A (134 + 5 * A + 3)) ⟨P.2.2.2.2.2.1, by have := P.2.2.2.2.2.2; omega⟩
    have hk : k ≤ 10000000 := by have := P.2.2.2.2.2.2; omega
    have hs : ¬ (e_repay e l).1 < 0 := by rw [S.1, k3]; exact nI_pos (by omega)
    refine SP_of (c := c) (Nat.le_refl c) (G := F + 1) (Or.inl ⟨hs, ?_⟩) S.2 (by omega) Q.1 (by omega)
    unfold e_repay
    have hl : l_has (h_lo (e_now e)) l = true := by rw [← HH_isL h.2.1.1 l]; exact g
    rw [if_pos hl]
    exact ⟨_, _, rfl, e_snow_2 _ _ _⟩
  · rw [if_neg g] at S
    have hl : ¬ l_has (h_lo (e_now e)) l = true := by rw [← HH_isL h.2.1.1 l]; exact g
    have eE : e_repay e l = (-1, e) := by unfold e_repay; rw [if_neg hl]
    exact SP_of (c := c) (Nat.le_refl c) (G := F) (by rw [eE]; exact OP_no (by decide)) S.2 (by omega) iv (by omega)
