
/-! EACH CHANGE: it can be undone, and what always holds holds on. -/
def SP (B c F : Nat) (e : ED) (E : Int32 × ED) : Prop := OP e E ∧ ∃ m2 c2, c ≤ c2 ∧ RR (B + 1000) E.2 m2 ∧ IV c2 (F + 80000) (m_row m2)
theorem IV_rec {c F : Nat} {m : MD} (h : IV c F (m_row m)) : IV c F (m_row (m_rec m)) := IV_r h (fun j hj => m_rec_lo hj)
theorem zok_t {a : Int32} {n : Nat} (h : zok a n) (hn : n < 2 ^ 31) : a.toInt64.toInt = (zn32 a : Int) := by
  have := h.2
  rw [q_ok h hn, lN_toInt (by omega)]
theorem z_inl_c {c : Nat} {v : Int64} (hv : v = lN c) (hc : c < 2 ^ 31) {s : Int32} (h : z_inl s.toInt64 0 (v - 1) = true) : ∃ a, a < c ∧ s = nI a ∧ zn32 s = a := by
  obtain ⟨h1, h2⟩ := z_inl_t h
  rw [i64_lt, i32_64, show (0 : Int64).toInt = 0 by decide] at h1
  rw [i64_le, i32_64, hv, lN_pred hc] at h2
  have h0 : ¬ s < 0 := by rw [Int32.lt_iff_toInt_lt, show (0 : Int32).toInt = 0 by decide]; omega
  obtain ⟨j, hj, rfl⟩ := nI_of h0
  rw [nI_toInt hj] at h2
  exact ⟨j, by omega, rfl, zn_nI hj⟩
theorem SP_of {B B2 c c2 F G : Nat} {e : ED} {m2 : MD} {E : Int32 × ED} (hc : c ≤ c2) (ho : OP e E) (h : RR B2 E.2 m2) (hB : B2 ≤ B + 1000) (i : IV c2 G (m_row m2)) (hG : G ≤ F + 80000) : SP B c F e E := ⟨ho, m2, c2, hc, RR_mono h hB, IV_mono i hG⟩
theorem SP_outage {B c F : Nat} {e : ED} {m : MD} (hF : F + 80000 < 1000000000) (h : RR B e m) (iv : IV c F (m_row m)) (s i w : Int32) : SP B c F e (e_outage e s i w) := by
  have S := S_outage h s i w
  have ho : OP e (e_outage e s i w) := OP_in (in_out (e := e_prep e) h.2.1 s i w)
  refine SP_of (c := c) (Nat.le_refl c) (G := F + 1) ho S.2 (by omega) ?_ (by omega)
  unfold m_outage
  by_cases g : m_noOut m s i w = 0
  · rw [if_pos g]
    have G : r_isS (m_row m) s = true ∧ z_inl i.toInt64 1 600 = true ∧ z_inl w.toInt64 1 100 = true := by
      unfold m_noOut at g
      split at g
      · rename_i a; split at g
        · rename_i b; split at g
          · rename_i d; exact ⟨a, b, d⟩
          · exact absurd g (by decide)
        · exact absurd g (by decide)
      · exact absurd g (by decide)
    obtain ⟨g1, g2, g3⟩ := G
    have iv2 := IV_rec iv
    obtain ⟨a, ha, es, ez⟩ := z_inl_c iv.2.1 (by have := iv.1; omega) g1
    rw [show z_inl i.toInt64 1 600 = z_in i 1 600 from z_in_l i 1 600] at g2
    rw [show z_inl w.toInt64 1 100 = z_in w 1 100 from z_in_l w 1 100] at g3
    have bi := (z_in_b (a := 1) (b := 600) (by decide) (by decide) g2).1
    have bw := (z_in_b (a := 1) (b := 100) (by decide) (by decide) g3).1
    have q1 := q_mul bi bw (by decide) (by decide) (by decide)
    have q2 := q_add q1.2.1 (show zok 99 99 from ⟨by decide, by decide⟩) (by decide)
    have q3 := (q_d100 q2.2.1 (by decide)).2.1
    have eD : (m_doOut (m_rec m) s i w).2 = m_out1 (m_rec m) (zn32 s) ((i * w + 99) / 100) := by unfold m_doOut; split <;> rfl
    rw [eD, ez]
    generalize (i * w + 99) / 100 = v at q3 ⊢
    have et := zok_t q3 (by decide)
    have h2 := q3.2
    have er : m_row (m_out1 (m_rec m) a v) = r_change (r_add (m_row (m_rec m)) (14 + 15 * a + 10) v.toInt64) a (-v.toInt64) := by
      show r_change (r_add (m_row (m_rec m)) (14 + 15 * a + 7 + 3) v.toInt64) a (-v).toInt64 = _
      rw [q_neg q3 (by decide)]
    rw [er]
    have A := IVa_out (s := a) (v := v.toInt64) iv2.1 (by omega) iv2.2.2.1 (by have := iv.1; omega) ⟨by omega, by omega⟩
    have := iv.1
    exact IV_srv iv2 (by omega) A (fun j hj => by rw [r_change_x (by omega), r_add_o (by omega)])
  · rw [if_neg g]; exact IV_mono iv (by omega)
theorem noRel_row (m : MD) (s z x : Int32) : m_row (m_noRel m s z x).2 = m_row m := by
  unfold m_noRel; repeat' split
  all_goals rfl
theorem noLend_row (m : MD) (a b i w : Int32) : m_row (m_noLend m a b i w).2 = m_row m := by
  unfold m_noLend; repeat' split
  all_goals rfl
theorem SP_release {B c F : Nat} {e : ED} {m : MD} (hF : F + 80000 < 1000000000) (h : RR B e m) (iv : IV c F (m_row m)) (s z x : Int32) : SP B c F e (e_release e s z x) := by
  have S := S_release h s z x
  have ho : OP e (e_release e s z x) := OP_in (in_rel (e := e_prep e) h.2.1 s z x)
  refine SP_of (c := c) (Nat.le_refl c) (G := F + 1) ho S.2 (by omega) ?_ (by omega)
  have eN := noRel_row m s z x
  unfold m_release
  by_cases g : (m_noRel m s z x).1 = 0
  · rw [if_pos g]
    have G : r_isS (m_row m) s = true ∧ z_inl z.toInt64 1 200 = true := by
      unfold m_noRel at g
      split at g
      · rename_i a; split at g
        · rename_i b; exact ⟨a, b⟩
        · (first | exact absurd (show (-1 : Int32) = 0 from g) (by decide) | exact absurd (show (-2 : Int32) = 0 from g) (by decide) | exact absurd (show (-4 : Int32) = 0 from g) (by decide) | exact absurd (show (-5 : Int32) = 0 from g) (by decide))
      · (first | exact absurd (show (-1 : Int32) = 0 from g) (by decide) | exact absurd (show (-2 : Int32) = 0 from g) (by decide) | exact absurd (show (-4 : Int32) = 0 from g) (by decide) | exact absurd (show (-5 : Int32) = 0 from g) (by decide))
    obtain ⟨g1, g2⟩ := G
    generalize (m_noRel m s z x).2 = N at eN ⊢
    have iv2 : IV c F (m_row (m_rec N)) := IV_rec (by rw [eN]; exact iv)
    obtain ⟨a, ha, es, ez⟩ := z_inl_c iv.2.1 (by have := iv.1; omega) g1
    rw [show z_inl z.toInt64 1 200 = z_in z 1 200 from z_in_l z 1 200] at g2
    have bz := (z_in_b (a := 1) (b := 200) (by decide) (by decide) g2).1
    have et := zok_t bz (by decide)
    have h2 := bz.2
    have h8 := iv.1
    unfold m_doRel
    rw [ez]
    generalize m_rec N = M at iv2 ⊢
    have er : m_row (m_rl1 M a (m_used M a)) = vp_updL (m_row M) (14 + 15 * a + 2) (m_row M (14 + 15 * a + 2) - (m_used M a).toInt64) := rfl
    show IV c (F + 1) (r_spend (m_row (m_rl1 M a (m_used M a))) a z.toInt64)
    rw [er]
    generalize m_row M (14 + 15 * a + 2) - (m_used M a).toInt64 = y
    have A := IVa_spend (s := a) (v := z.toInt64) iv2.1 (by omega) (IVa_r (r2 := vp_updL (m_row M) (14 + 15 * a + 2) y) iv2.1 iv2.2.2.1 (fun t k ht hk h2 h5 => gA_u (by omega))) (by omega) ⟨by omega, by omega⟩
    exact IV_srv iv2 (by omega) A.1 (fun j hj => by unfold r_spend; rw [r_change_x (by omega), r_add_o (by omega), r_add_o (by omega), vp_uLo (by omega)])
  · rw [if_neg g, eN]; exact IV_mono iv (by omega)
theorem SP_lend {B c F : Nat} {e : ED} {m : MD} (hB : B + 3000 < 2 ^ 30) (hF : F + 80000 < 1000000000) (h : RR B e m) (iv : IV c F (m_row m)) (a b i w : Int32) : SP B c F e (e_lend e a b i w) := by
  have S := S_lend hB h a b i w
  have ho : OP e (e_lend e a b i w) := OP_in (in_len (e := e_prep e) hB h.2.1 a b i w)
  refine SP_of (c := c) (Nat.le_refl c) (G := F + 1) ho S.2 (by omega) ?_ (by omega)
  have eN := noLend_row m a b i w
  unfold m_lend
  by_cases g : (m_noLend m a b i w).1 = 0
  · rw [if_pos g]
    have G : r_isS (m_row m) a = true ∧ r_isS (m_row m) b = true ∧ ¬ a = b ∧ z_inl i.toInt64 1 5000 = true ∧ ¬ m_row m 12 = 40 ∧ r_why (m_row m) a b i = 0 := by
      unfold m_noLend at g
      split at g
      · rename_i g1; split at g
        · rename_i g2; split at g
          · (first | exact absurd (show (-1 : Int32) = 0 from g) (by decide) | exact absurd (show (-2 : Int32) = 0 from g) (by decide) | exact absurd (show (-4 : Int32) = 0 from g) (by decide) | exact absurd (show (-5 : Int32) = 0 from g) (by decide))
          · rename_i g3; split at g
            · rename_i g4; split at g
              · split at g
                · (first | exact absurd (show (-1 : Int32) = 0 from g) (by decide) | exact absurd (show (-2 : Int32) = 0 from g) (by decide) | exact absurd (show (-4 : Int32) = 0 from g) (by decide) | exact absurd (show (-5 : Int32) = 0 from g) (by decide))
                · rename_i g6; split at g
                  · rename_i g7; exact ⟨g1, g2, g3, g4, g6, g7⟩
                  · (first | exact absurd (show (-1 : Int32) = 0 from g) (by decide) | exact absurd (show (-2 : Int32) = 0 from g) (by decide) | exact absurd (show (-4 : Int32) = 0 from g) (by decide) | exact absurd (show (-5 : Int32) = 0 from g) (by decide))
              · (first | exact absurd (show (-1 : Int32) = 0 from g) (by decide) | exact absurd (show (-2 : Int32) = 0 from g) (by decide) | exact absurd (show (-4 : Int32) = 0 from g) (by decide) | exact absurd (show (-5 : Int32) = 0 from g) (by decide))
            · (first | exact absurd (show (-1 : Int32) = 0 from g) (by decide) | exact absurd (show (-2 : Int32) = 0 from g) (by decide) | exact absurd (show (-4 : Int32) = 0 from g) (by decide) | exact absurd (show (-5 : Int32) = 0 from g) (by decide))
        · (first | exact absurd (show (-1 : Int32) = 0 from g) (by decide) | exact absurd (show (-2 : Int32) = 0 from g) (by decide) | exact absurd (show (-4 : Int32) = 0 from g) (by decide) | exact absurd (show (-5 : Int32) = 0 from g) (by decide))
      · (first | exact absurd (show (-1 : Int32) = 0 from g) (by decide) | exact absurd (show (-2 : Int32) = 0 from g) (by decide) | exact absurd (show (-4 : Int32) = 0 from g) (by decide) | exact absurd (show (-5 : Int32) = 0 from g) (by decide))
    obtain ⟨g1, g2, g3, g4, g6, g7⟩ := G
    generalize (m_noLend m a b i w).2 = N at eN ⊢
    have hrow : ∀ j, j < 454 → m_row (m_rec N) j = m_row m j := fun j hj => by rw [m_rec_lo hj, eN]
    have iv2 : IV c F (m_row (m_rec N)) := IV_r iv hrow
    have h8 := iv.1
    obtain ⟨A, hA, ea, za⟩ := z_inl_c iv.2.1 (by omega) g1
    obtain ⟨D, hD, eb, zb⟩ := z_inl_c iv.2.1 (by omega) g2
    have hne : A ≠ D := fun y => g3 (by rw [ea, eb, y])
    rw [show z_inl i.toInt64 1 5000 = z_in i 1 5000 from z_in_l i 1 5000] at g4
    have bi := z_in_b (a := 1) (b := 5000) (by decide) (by decide) g4
    have et := zok_t bi.1 (by decide)
    have hi1 := bi.2
    have hi2 := bi.1.2
    -- what the lender has left
    have hAs := iv.2.2.1.1 A (by omega)
    have LA := IVs_left hAs (by omega)
    have hle : (zn32 i : Int) ≤ gA (m_row m) A 1 := by
      unfold r_why at g7
      rw [za] at g7
      split at g7
      · exact absurd g7 (by decide)
      · split at g7
        · exact absurd g7 (by decide)
        · rename_i y
          have h3 := h.2.1.1.1.1 3 (by decide)
          have t3 : (m_row m 3).toInt = (zn32 (h_set (e_now e) 3) : Int) := by rw [h3.1]; exact zok_t h3.2 (by decide)
          have t3b : zn32 (h_set (e_now e) 3) ≤ 100 := h3.2.2
          have h0 := hAs.2.2.2.2.2.2
          have p := t_pct (x := m_row m (14 + 15 * A + 0)) (p := m_row m 3) ⟨h0.1, by have := h0.2; unfold gA at this; omega⟩ ⟨by omega, by omega⟩
          have e1 : (r_left (m_row m) A).toInt = gA (m_row m) A 1 := rfl
          have e2 : (r_thw (m_row m) A).toInt = (m_row m (14 + 15 * A + 0)).toInt * (m_row m 3).toInt / 100 := p.1
          have y2 : ¬ (r_left (m_row m) A - i.toInt64).toInt ≤ (r_thw (m_row m) A).toInt := fun z => y (Int64.le_iff_toInt_le.mpr z)
          rw [t_sub (by rw [e1, et]; omega) (by rw [e1, et]; omega), e1, et, e2] at y2
          omega
    obtain ⟨n, n40, n12, nl⟩ := id iv2.2.2.2.1
    have hn : n < 40 := by
      rcases Nat.lt_or_ge n 40 with y | y
      · exact y
      · have : n = 40 := by omega
        rw [hrow 12 (by decide), this] at n12; exact absurd n12 g6
    have ezn : zn32 (m_row (m_rec N) 12).toInt32 = n := by rw [n12, lN_i]; exact zn_nI (by omega)
    unfold m_doLend
    rw [ezn]
    have hg1 : gA (m_row (m_rec N)) A 1 = gA (m_row m) A 1 := gA_r (hrow _ (by omega))
    show IV c (F + 1) (r_lend (m_row (m_rec N)) n a b i w)
    have hR2 : 0 ≤ (m_row (m_rec N) 2).toInt ∧ (m_row (m_rec N) 2).toInt ≤ 100 := by
      have h3 := h.2.1.1.1.1 2 (by decide)
      rw [hrow 2 (by decide), h3.1, zok_t h3.2 (by decide)]
      have : zn32 (h_set (e_now e) 2) ≤ 100 := h3.2.2
      omega
    generalize m_row (m_rec N) = r at iv2 n12 nl hg1 hR2 ⊢
    obtain ⟨v, ev⟩ : ∃ v, v = i.toInt64 := ⟨_, rfl⟩
    have hnv : (-i).toInt64.toInt = -v.toInt := by rw [q_neg bi.1 (by decide), ← ev, t_neg (by rw [ev, et]; omega)]
    obtain ⟨nv, env⟩ : ∃ nv, nv = (-i).toInt64 := ⟨_, rfl⟩
    obtain ⟨R5, hR5⟩ : ∃ R5, R5 = r_ln5 (r_ln4 (r_ln3 r n a b i) n i) n w := ⟨_, rfl⟩
    have o5 : ∀ j, j < 134 + 5 * n ∨ 134 + 5 * n + 5 ≤ j → R5 j = r j := by
      intro j hj
      rw [hR5]; unfold r_ln5 r_ln4 r_ln3
      rw [vp_uLo (by omega), vp_uLo (by omega), vp_uLo (by omega), vp_uLo (by omega), vp_uLo (by omega)]
    have eL : r_lend r n a b i w = r_change (r_change (r_add (r_add (r_add R5 12 1) (14 + 15 * A + 7 + 5) v) (14 + 15 * D + 7 + 1) v) A nv) D v := by
      unfold r_lend r_ln6; rw [← hR5, za, zb, ← ev, ← env]
    rw [← env] at hnv
    have etv : v.toInt = (zn32 i : Int) := by rw [ev]; exact et
    -- the new loan
    have n0 : R5 (134 + 5 * n + 0) = lN A := by
      rw [hR5]; unfold r_ln5 r_ln4 r_ln3
      rw [vp_uLo (by omega), vp_uLo (by omega), vp_uLo (by omega), vp_uLo (by omega), vp_uLe rfl, ea, nI_l (by omega)]
    have n1 : R5 (134 + 5 * n + 1) = lN D := by
      rw [hR5]; unfold r_ln5 r_ln4 r_ln3
      rw [vp_uLo (by omega), vp_uLo (by omega), vp_uLo (by omega), vp_uLe rfl, eb, nI_l (by omega)]
    have n3 : 0 ≤ (R5 (134 + 5 * n + 3)).toInt ∧ (R5 (134 + 5 * n + 3)).toInt ≤ 10000000 := by
      have e3 : R5 (134 + 5 * n + 3) = v + v * r 2 / 100 := by
        rw [hR5]; unfold r_ln5 r_ln4
        rw [vp_uLo (by omega), vp_uLe rfl, ← ev]
        have : r_ln3 r n a b i 2 = r 2 := by unfold r_ln3; rw [vp_uLo (by omega), vp_uLo (by omega), vp_uLo (by omega)]
        rw [this]
      have p := t_pct (x := v) (p := r 2) ⟨by omega, by omega⟩ hR2
      rw [e3, t_add (by rw [p.1]; omega) (by rw [p.1]; omega), p.1]
      omega
    clear hR5
    have h12 : R5 12 = lN n := by rw [o5 12 (by omega)]; exact n12
    have iv5 : IVa c F R5 := IVa_r iv2.1 iv2.2.2.1 (fun s k hs hk _ _ => gA_r (o5 _ (by omega)))
    obtain ⟨x, hx⟩ : ∃ x, x = r_add (r_add (r_add R5 12 1) (14 + 15 * A + 7 + 5) v) (14 + 15 * D + 7 + 1) v := ⟨_, rfl⟩
    rw [eL, ← hx]
    have xo : ∀ j, j ≠ 12 → j ≠ 14 + 15 * A + 12 → j ≠ 14 + 15 * D + 8 → x j = R5 j := fun j h1 h2 h3 => by rw [hx, r_add_o (by omega), r_add_o (by omega), r_add_o (by omega)]
    have x12 : x 12 = lN (n + 1) := by
      rw [hx, r_add_o (by omega), r_add_o (by omega), r_add_e rfl, h12]
      exact lN_add n 1
    have xa : gA x A 12 = gA R5 A 12 + v.toInt := by
      rw [hx, gA_o (by omega)]
      have y : IVs F (gA (r_add R5 12 1) A) := IVs_c (iv5.1 A (by omega)) (fun k hk => gA_o (by omega))
      have q := gA_add (k := 12) y (by omega) (Or.inl ⟨by decide, by decide⟩) (v := v) ⟨by omega, by omega⟩
      rw [gA_o (show 12 ≠ 14 + 15 * A + 12 by omega)] at q; exact q
    have xb : gA x D 8 = gA R5 D 8 + v.toInt := by
      rw [hx]
      have y : IVs F (gA (r_add (r_add R5 12 1) (14 + 15 * A + 7 + 5) v) D) := IVs_c (iv5.1 D (by omega)) (fun k hk => by rw [gA_o (by omega), gA_o (by omega)])
      have q := gA_add (k := 8) y (by omega) (Or.inl ⟨by decide, by decide⟩) (v := v) ⟨by omega, by omega⟩
      rw [gA_o (show 14 + 15 * A + 7 + 5 ≠ 14 + 15 * D + 8 by omega), gA_o (show 12 ≠ 14 + 15 * D + 8 by omega)] at q; exact q
    clear hx
    have Q := IVa_lend (nv := nv) (v := v) (x := x) iv2.1 (by omega) iv5 (show A < 8 by omega) (show D < 8 by omega) hne ⟨by omega, by omega⟩ hnv (by rw [show gA R5 A 1 = gA r A 1 from gA_r (o5 _ (by omega)), hg1]; omega)
      (fun k hk h12 => gA_r (xo _ (by omega) (by omega) (by omega))) (fun k hk h8 => gA_r (xo _ (by omega) (by omega) (by omega))) (fun t k ht hk h1 h2 => xo _ (by omega) (by omega) (by omega)) xa xb
    have ro : ∀ j, j < 14 ∨ 134 ≤ j → r_change (r_change x A nv) D v j = x j := fun j hj => by rw [r_change_x (by omega), r_change_x (by omega)]
    generalize r_change (r_change x A nv) D v = r2 at Q ro ⊢
    have r2o : ∀ j, j < 14 ∨ 134 ≤ j → j ≠ 12 → r2 j = R5 j := fun j hj h => by rw [ro j hj]; exact xo j h (by omega) (by omega)
    refine ⟨iv2.1, by rw [r2o 11 (by decide) (by decide), o5 11 (by omega)]; exact iv2.2.1, Q, ⟨n + 1, by omega, by rw [ro 12 (by decide)]; exact x12, fun l hl => ?_⟩, IVp_r iv2.2.2.2.2.1 (fun j hj => by rw [r2o j (by omega) (by omega), o5 j (by omega)]), IVm_r iv2.2.2.2.2.2 (by omega) (fun j hj => by rw [r2o j (by omega) (by omega), o5 j (by omega)])⟩
    by_cases y : l = n
    · subst y
      exact ⟨A, D, hA, hD, hne, by rw [r2o _ (by omega) (by omega)]; exact n0, by rw [r2o _ (by omega) (by omega)]; exact n1, by rw [r2o _ (by omega) (by omega)]; exact n3.1, by rw [r2o _ (by omega) (by omega)]; exact n3.2⟩
    · exact LNk_r (nl l (by omega)) (fun k hk => by rw [r2o _ (by omega) (by omega), o5 _ (by omega)])
  · rw [if_neg g, eN]; exact IV_mono iv (by omega)
theorem SP_plan {B c F : Nat} {e : ED} {m : MD} (hB : B + 3000 < 2 ^ 30) (hF : F + 80000 < 1000000000) (h : RR B e m) (iv : IV c F (m_row m)) (s t z y : Int32) : SP B c F e (e_plan e s t z y) := by
  have S := S_plan hB h s t z y
  have ho : OP e (e_plan e s t z y) := OP_in (in_plan (e := e_prep e) hB h.2.1 s t z y)
  refine SP_of (c := c) (Nat.le_refl c) (G := F + 1) ho S.2 (by omega) ?_ (by omega)
  unfold m_plan
  by_cases g : m_noPlan m s t z y = 0
  · rw [if_pos g]
    have G : r_isS (m_row m) s = true ∧ z_inl z.toInt64 1 200 = true ∧ ¬ m_row m 13 = 30 := by
      unfold m_noPlan at g
      split at g
      · rename_i g1; split at g
        · split at g
          · rename_i g2; split at g
            · split at g
              · exact absurd g (by decide)
              · rename_i g3; exact ⟨g1, g2, g3⟩
            · exact absurd g (by decide)
          · exact absurd g (by decide)
        · exact absurd g (by decide)
      · exact absurd g (by decide)
    obtain ⟨g1, g2, g3⟩ := G
    have iv2 := IV_rec iv
    have h8 := iv.1
    obtain ⟨A, hA, ea, za⟩ := z_inl_c iv.2.1 (by omega) g1
    rw [show z_inl z.toInt64 1 200 = z_in z 1 200 from z_in_l z 1 200] at g2
    have bz := (z_in_b (a := 1) (b := 200) (by decide) (by decide) g2).1
    have et := zok_t bz (by decide)
    have hz2 := bz.2
    obtain ⟨n, n30, n13, np⟩ := id iv2.2.2.2.2.1
    have hn : n < 30 := by
      rcases Nat.lt_or_ge n 30 with y | y
      · exact y
      · have : n = 30 := by omega
        rw [m_rec_lo (by decide), this] at n13; exact absurd n13 g3
    have ezn : zn32 (m_row (m_rec m) 13).toInt32 = n := by rw [n13, lN_i]; exact zn_nI (by omega)
    unfold m_doPlan
    rw [ezn]
    show IV c (F + 1) (r_doPlan (m_row (m_rec m)) n s t z y)
    generalize m_row (m_rec m) = r at iv2 n13 np ⊢
    have ro : ∀ j, (j < 334 + 4 * n ∨ 334 + 4 * n + 4 ≤ j) → j ≠ 13 → r_doPlan r n s t z y j = r j := fun j hj h => by
      unfold r_doPlan; rw [r_add_o (by omega), vp_uLo (by omega), vp_uLo (by omega), vp_uLo (by omega), vp_uLo (by omega)]
    have r13 : r_doPlan r n s t z y 13 = lN (n + 1) := by
      unfold r_doPlan; rw [r_add_e rfl, vp_uLo (by omega), vp_uLo (by omega), vp_uLo (by omega), vp_uLo (by omega), n13]; exact lN_add n 1
    have p0 : r_doPlan r n s t z y (334 + 4 * n + 0) = lN A := by
      unfold r_doPlan; rw [r_add_o (by omega), vp_uLo (by omega), vp_uLo (by omega), vp_uLo (by omega), vp_uLe rfl, ea, nI_l (by omega)]
    have p2 : r_doPlan r n s t z y (334 + 4 * n + 2) = z.toInt64 := by
      unfold r_doPlan; rw [r_add_o (by omega), vp_uLo (by omega), vp_uLe rfl]
    generalize r_doPlan r n s t z y = r2 at ro r13 p0 p2 ⊢
    refine ⟨iv2.1, by rw [ro 11 (by omega) (by decide)]; exact iv2.2.1, IVa_mono (IVa_r iv2.1 iv2.2.2.1 (fun t k ht hk _ _ => gA_r (ro _ (by omega) (by omega)))) (by omega), IVl_r iv2.2.2.2.1 (fun j hj => ro j (by omega) (by omega)), ⟨n + 1, by omega, r13, fun p hp => ?_⟩, IVm_r iv2.2.2.2.2.2 (by omega) (fun j hj => ro j (by omega) (by omega))⟩
    by_cases q : p = n
    · subst q
      exact ⟨⟨A, hA, p0⟩, by rw [p2, et]; omega, by rw [p2, et]; omega⟩
    · exact PLk_r (np p (by omega)) (fun k hk => ro _ (by omega) (by omega))
  · rw [if_neg g]; exact IV_mono iv (by omega)
theorem m_rec_wat {B : Nat} {e : ED} {m : MD} (h : RR B e m) : m_wat (m_rec m) = -6 := (m_rec_f m).1.2.2.2.2.1.trans h.2.1.2.2.2
theorem SP_drop {B c F : Nat} {e : ED} {m : MD} (h : RR B e m) (iv : IV c F (m_row m)) (p : Int32) : SP B c F e (e_drop e p) := by
  have S := S_drop h p
  have ho : OP e (e_drop e p) := OP_in (in_drop (e := e_prep e) h.2.1 p)
  refine SP_of (c := c) (Nat.le_refl c) (G := F) ho S.2 (by omega) ?_ (by omega)
  unfold m_drop
  split
  · have iv2 := IV_rec iv
    have hw := m_rec_wat h
    unfold m_doDrop
    show IV c F (m_row (m_clear (m_go (m_rec m) (zn32 p) 1)))
    have e1 : m_row (m_go (m_rec m) (zn32 p) 1) = m_row (m_rec m) := rfl
    have e2 : m_wat (m_go (m_rec m) (zn32 p) 1) = m_wat (m_rec m) := rfl
    generalize m_go (m_rec m) (zn32 p) 1 = M at e1 e2 ⊢
    exact (IV_mclear (w := 0) (t := 0) (R := gA (m_row M) 0 4) (w0 := m_wh M) (by rw [e1]; exact iv2) (Or.inl (e2.trans hw)) ⟨Int.le_refl _, Or.inl rfl⟩ (by decide)).1
  · exact iv
theorem SP_hours {B c F : Nat} {e : ED} {m : MD} (hB : B + 4100 < 2 ^ 30) (hF : F + 80000 < 1000000000) (h : RR B e m) (iv : IV c F (m_row m)) (k : Int32) : SP B c F e (e_hours e k) := by
  have S := (S_hours hB h k).1
  have ho : OP e (e_hours e k) := OP_in (in_hrs (e := e_prep e) hB h.2.1 k).1
  refine SP_of (c := c) (Nat.le_refl c) (G := F + 80000) ho S.2 (by omega) ?_ (by omega)
  unfold m_hours
  by_cases g : z_inl k.toInt64 1 1000 = true
  · rw [if_pos g]
    have iv2 := IV_rec iv
    have hk := z_inl_nn (a := 1) (b := 1000) g (by decide) (by decide)
    have K := (IV_hrs iv2 (Or.inl (m_rec_wat h)) (zn32 k) (by omega)).1
    exact IV_mono K (by omega)
  · rw [if_neg g]; exact IV_mono iv (by omega)
