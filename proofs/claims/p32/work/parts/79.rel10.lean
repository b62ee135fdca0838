
/-! THE RELATION: what an order can ask for. -/
theorem z_in_l (v a b : Int32) : z_inl v.toInt64 a.toInt64 b.toInt64 = z_in v a b := by
  unfold z_inl z_in
  by_cases h1 : v < a
  · rw [if_pos h1, if_pos ((q_lt v a).mpr h1)]
  · rw [if_neg h1, if_neg (fun z => h1 ((q_lt v a).mp z))]
    by_cases h2 : v ≤ b
    · rw [if_pos h2, if_pos ((q_le v b).mpr h2)]
    · rw [if_neg h2, if_neg (fun z => h2 ((q_le v b).mp z))]
theorem z_in_b {v : Int32} {a b : Nat} (hb : b < 2 ^ 31) (ha : a < 2 ^ 31) (h : z_in v (nI a) (nI b) = true) : zok v b ∧ a ≤ zn32 v := by
  rw [← z_in_l, nI_l ha, nI_l hb] at h
  have k := z_inl_nn h hb ha
  exact ⟨⟨k.1, k.2.2⟩, k.2.1⟩
theorem q_has {s v : Int32} {n : Nat} (hv : zok v n) (hn : n < 2 ^ 31) : z_inl s.toInt64 0 (v.toInt64 - 1) = (if s < 0 then false else if s < v then true else false) := by
  have h2 := hv.2
  unfold z_inl
  have e0 : s.toInt64 < 0 ↔ s < 0 := q_lt s 0
  have e1 : s.toInt64 ≤ v.toInt64 - 1 ↔ s < v := by
    rw [Int64.le_iff_toInt_le, Int32.toInt_toInt64, Int32.lt_iff_toInt_lt]
    rw [q_ok hv hn, lN_pred (by omega)]
    conv => rhs; rw [hv.1, nI_toInt (by omega)]
    omega
  by_cases h1 : s < 0
  · rw [if_pos h1, if_pos (e0.mpr h1)]
  · rw [if_neg h1, if_neg (fun z => h1 (e0.mp z))]
    by_cases h3 : s < v
    · rw [if_pos h3, if_pos (e1.mpr h3)]
    · rw [if_neg h3, if_neg (fun z => h3 (e1.mp z))]
theorem HH_isS {B : Nat} {d : HD} {r : RW} (h : HH B d r) (s : Int32) : r_isS r s = h_has d s := by
  unfold r_isS h_has; rw [h.1.2.2.2.2.1]; exact q_has h.1.2.2.2.2.2 (by decide)
theorem HH_isL {B : Nat} {d : HD} {r : RW} (h : HH B d r) (s : Int32) : r_isL r s = l_has (h_lo d) s := by
  unfold r_isL l_has; rw [h.2.2.2.1.1.1]; exact q_has h.2.2.2.1.1.2 (by decide)
theorem HH_isP {B : Nat} {d : HD} {r : RW} (h : HH B d r) (s : Int32) : r_isP r s = p_has (h_pl d) s := by
  unfold r_isP p_has; rw [h.2.2.2.2.2.1.1.1]; exact q_has h.2.2.2.2.2.1.1.2 (by decide)
theorem HH_has {B : Nat} {d : HD} {r : RW} (h : HH B d r) {s : Int32} (hs : h_has d s = true) : s = nI (zn32 s) ∧ zn32 s < zn32 (h_cnt d) ∧ zn32 s < 8 := by
  have k := h_has_in hs h.1.2.2.2.2.2
  have := h.1.2.2.2.2.2.2
  exact ⟨k.1, k.2.1, by omega⟩
theorem RN_rec {B : Nat} {d : HD} {m : MD} (h : RN B d m) : RN B d (m_rec m) := by
  obtain ⟨k, -, -⟩ := m_rec_f m
  have hl : ∀ j, j < 454 → m_row (m_rec m) j = m_row m j := fun j hj => m_rec_lo hj
  generalize m_rec m = x at k hl ⊢
  obtain ⟨k1, k2, k3, k4, k5, k6, k7⟩ := k
  exact ⟨HH_r h.1 hl, h.2.1, fun p hp => by rw [k6, k7]; exact h.2.2.1 p hp, k5.trans h.2.2.2⟩
theorem RN_row {B B2 : Nat} {d d2 : HD} {m : MD} {r : RW} (h : RN B d m) (hH : HH B2 d2 r) (hw : p_wat (h_pl d2) = -1) : RN B2 d2 (m_srow m r) := ⟨hH, hw, h.2.2.1, h.2.2.2⟩
theorem RN_row2 {B B2 : Nat} {d d2 : HD} {m m2 : MD} (h : RN B d m) (hg : m_gone m2 = m_gone m ∧ m_seen m2 = m_seen m ∧ m_wat m2 = m_wat m) (hH : HH B2 d2 (m_row m2)) (hw : p_wat (h_pl d2) = -1) : RN B2 d2 m2 := ⟨hH, hw, fun p hp => by rw [hg.1, hg.2.1]; exact h.2.2.1 p hp, hg.2.2.trans h.2.2.2⟩
/-- the services of a house have changed, and of nothing else -/
theorem HH_serv {B : Nat} {d d2 : HD} {r r2 : RW} (h : HH B d r) (hS : HS d2 r2) (hk : h_kk d d2) (hp : h_pl d2 = h_pl d) {s : Nat} (hs : s < zn32 (h_cnt d)) (hr : ∀ j, (j < 14 + 15 * s ∨ 14 + 15 * s + 15 ≤ j) → r2 j = r j) : HH B d2 r2 := by
  obtain ⟨hA, -, hZ, hL, hW, hP⟩ := h
  obtain ⟨k1, k2, k3, k4, k5, k6⟩ := hk
  have hc := hA.2.2.2.2.2.2
  refine ⟨HA_d (HA_r hA (fun j hj => hr j (by omega))) k1 k2 k3 k4 k5, hS, ?_, ?_, ?_, ?_⟩
  · rw [k5]; intro s2 k hs2 hs8 hk2
    rw [hr _ (by omega)]; exact hZ s2 k hs2 hs8 hk2
  · rw [k5, k6]; exact HL_r hL (fun j hj => hr j (by omega))
  · unfold HW; rw [k6, k3]; exact hW
  · rw [k5, hp]; exact HP_r hP (fun j hj => hr j (by omega))
theorem h_book_kk (d : HD) (s w : Int32) (m : Int64) : h_kk d (h_book d s w m) ∧ h_pl (h_book d s w m) = h_pl d := by
  have k := h_book_w d s w m
  exact ⟨⟨k.1, k.2.1, k.2.2.1, k.2.2.2.1, k.2.2.2.2.1, k.2.2.2.2.2.1⟩, k.2.2.2.2.2.2.1⟩
/-- an inner change: what the class answers and leaves, and what the reference does -/
def IN (B : Nat) (e : ED) (m : MD) (E : Int32 × ED) (no : Int32) (mno : MD) (D : Int32 × MD) : Prop :=
  (∃ d2, ¬ E.1 < 0 ∧ E.2 = e_snow e d2 ∧ no = 0 ∧ mno = m ∧ D.1 = E.1 ∧ RN B d2 D.2 ∧ m_kk m D.2 ∧ (∀ j, 454 ≤ j → m_row D.2 j = m_row m j)) ∨
  (E.1 < 0 ∧ E.1 = no ∧ ((E.2 = e ∧ mno = m) ∨ ∃ w, E.2 = e_srea e w ∧ mno = m_srea m w))
theorem IN_no {B : Nat} {e : ED} {m : MD} {v : Int32} {D : Int32 × MD} (h : v < 0) : IN B e m (v, e) v m D := Or.inr ⟨h, rfl, Or.inl ⟨rfl, rfl⟩⟩
theorem IN_ref {B : Nat} {e : ED} {m : MD} {v w : Int32} {D : Int32 × MD} (h : v < 0) : IN B e m (v, e_srea e w) v (m_srea m w) D := Or.inr ⟨h, rfl, Or.inr ⟨w, rfl, rfl⟩⟩
theorem in_out {B : Nat} {e : ED} {m : MD} (h : RN B (e_now e) m) (s i w : Int32) : IN B e m (e_outi e s i w) (m_noOut m s i w) m (m_doOut m s i w) := by
  have hH := h.1
  unfold e_outi m_noOut
  rw [HH_isS hH s, show z_inl i.toInt64 1 600 = z_in i 1 600 from z_in_l i 1 600, show z_inl w.toInt64 1 100 = z_in w 1 100 from z_in_l w 1 100]
  by_cases h1 : h_has (e_now e) s = true
  · rw [if_pos h1, if_pos h1]
    by_cases h2 : z_in i 1 600 = true
    · rw [if_pos h2, if_pos h2]
      by_cases h3 : z_in w 1 100 = true
      · rw [if_pos h3, if_pos h3]
        obtain ⟨es, hs, hs8⟩ := HH_has hH h1
        have bi := (z_in_b (a := 1) (b := 600) (by decide) (by decide) h2).1
        have bw := (z_in_b (a := 1) (b := 100) (by decide) (by decide) h3).1
        have q1 := q_mul bi bw (by decide) (by decide) (by decide)
        have q2 := q_add q1.2.1 (show zok 99 99 from ⟨by decide, by decide⟩) (by decide)
        have q3 := q_d100 q2.2.1 (by decide)
        obtain ⟨v, hv⟩ : ∃ v, v = (i * w + 99) / 100 := ⟨_, rfl⟩
        have hvk : zok v ((600 * 100 + 99) / 100) := by rw [hv]; exact q3.2.1
        obtain ⟨a, ha⟩ : ∃ a, a = zn32 s := ⟨_, rfl⟩
        rw [← ha] at es hs hs8
        have k := HS_out (w := 3) (m := v.toInt64) hH.2.1 hs8 (by decide) (by decide)
        have bk := h_book_kk (e_now e) (nI a) (nI 3) v.toInt64
        have eo : e_out1 e s i w = e_snow e (h_book (e_now e) (nI a) (nI 3) v.toInt64) := by unfold e_out1; rw [← hv, ← es]; rfl
        have em : m_out1 m a v = m_srow m (r_change (r_add (m_row m) (14 + 15 * a + 7 + 3) v.toInt64) a (-v.toInt64)) := by unfold m_out1; rw [q_neg hvk (by decide)]
        have hRN : RN B (h_book (e_now e) (nI a) (nI 3) v.toInt64) (m_out1 m a v) := by
          rw [em]
          refine RN_row h (HH_serv hH k bk.1 bk.2 hs (fun j hj => ?_)) (by rw [bk.2]; exact h.2.1)
          rw [r_change_x (by omega), r_add_o (by omega)]
        have hrow : ∀ j, 454 ≤ j → m_row (m_out1 m a v) j = m_row m j := by
          intro j hj; rw [em]
          show r_change _ _ _ j = _
          rw [r_change_x (by omega), r_add_o (by omega)]
        have hkk : m_kk m (m_out1 m a v) := by rw [em]; exact m_kk.row m _
        have hfz : h_isf (e_now (e_out1 e s i w)) s = r_frz (m_row (m_out1 m a v)) a := by rw [eo, es]; exact HS_isf hRN.1.2.1 hs8
        unfold m_doOut
        rw [← ha, ← hv, hfz, eo]
        generalize m_out1 m a v = m2 at hRN hrow hkk ⊢
        split
        · exact Or.inl ⟨_, (show ¬ (1 : Int32) < 0 by decide), rfl, rfl, rfl, rfl, hRN, hkk, hrow⟩
        · exact Or.inl ⟨_, (show ¬ (0 : Int32) < 0 by decide), rfl, rfl, rfl, rfl, hRN, hkk, hrow⟩
      · rw [if_neg h3, if_neg h3]; exact IN_no (by decide)
    · rw [if_neg h2, if_neg h2]; exact IN_no (by decide)
  · rw [if_neg h1, if_neg h1]; exact IN_no (by decide)
theorem in_rel {B : Nat} {e : ED} {m : MD} (h : RN B (e_now e) m) (s z x : Int32) : IN B e m (e_reli e s z x) (m_noRel m s z x).1 (m_noRel m s z x).2 (m_doRel m s z) := by
  have hH := h.1
  unfold e_reli m_noRel
  rw [HH_isS hH s, show z_inl z.toInt64 1 200 = z_in z 1 200 from z_in_l z 1 200, show z_inl x.toInt64 0 1 = z_in x 0 1 from z_in_l x 0 1]
  by_cases h1 : h_has (e_now e) s = true
  · rw [if_pos h1, if_pos h1]
    by_cases h2 : z_in z 1 200 = true
    · rw [if_pos h2, if_pos h2]
      by_cases h3 : z_in x 0 1 = true
      · rw [if_pos h3, if_pos h3]
        obtain ⟨es, hs, hs8⟩ := HH_has hH h1
        obtain ⟨a, ha⟩ : ∃ a, a = zn32 s := ⟨_, rfl⟩
        rw [← ha] at es hs hs8
        have hfz : h_isf (e_now e) s = r_frz (m_row m) a := by rw [es]; exact HS_isf hH.2.1 hs8
        have hex := (hH.2.1.2.2 a hs8).2.2.1
        have hz0 : (m_row m (14 + 15 * a + 2) = 0) ↔ h_exe (e_now e) a = 0 := by rw [hex.1]; exact q_eq _ 0
        rw [hfz, ← ha]
        by_cases h4 : r_frz (m_row m) a = true
        · rw [if_pos h4, if_pos h4]
          by_cases h5 : x = 0
          · rw [if_pos h5, if_pos h5]; exact IN_ref (by decide)
          · rw [if_neg h5, if_neg h5]
            by_cases h6 : h_exe (e_now e) a = 0
            · rw [if_pos h6, if_pos (hz0.mpr h6)]; exact IN_ref (by decide)
            · rw [if_neg h6, if_neg (fun y => h6 (hz0.mp y))]
              have hk9 := hex.2.2
              have hpos : 1 ≤ zn32 (h_exe (e_now e) a) := by
                rcases Nat.lt_or_ge 0 (zn32 (h_exe (e_now e) a)) with y | y
                · exact y
                · exact absurd (by rw [hex.2.1, show zn32 (h_exe (e_now e) a) = 0 by omega]; rfl) h6
              have e1 : h_exe (e_now e) a - 1 = nI (zn32 (h_exe (e_now e) a) - 1) := by
                conv => lhs; rw [hex.2.1, show (1 : Int32) = nI 1 from rfl]
                exact pk_sub hpos
              have e2 : (h_exe (e_now e) a - 1).toInt64 = m_row m (14 + 15 * a + 2) - 1 := by
                rw [e1, nI_l (by omega), hex.1, q_ok hex.2 (by decide), show (1 : Int64) = lN 1 from rfl, lN_sub hpos]
              have k1 := HS_exe (a := h_exe (e_now e) a - 1) (v := m_row m (14 + 15 * a + 2) - 1) hH.2.1 hs8 ⟨e2.symm, by rw [e1]; exact zok_lit (by omega) (by omega)⟩
              have k2 := HS_dorel (z := z) k1 hs8
              have em : m_doRel m s z = (1, m_srow (m_rl1 m a 1) (r_spend (vp_updL (m_row m) (14 + 15 * a + 2) (m_row m (14 + 15 * a + 2) - 1)) a z.toInt64)) := by
                unfold m_doRel m_used
                rw [← ha, if_pos h4]; rfl
              rw [em]
              have ee : e_dor (e_exe1 e s) s z = e_snow e (h_dorel (h_sexe (e_now e) (upd (h_exe (e_now e)) a (h_exe (e_now e) a - 1))) (nI a) z) := by
                unfold e_dor e_exe1; rw [← ha, ← es]; rfl
              rw [ee]
              have w := h_dorel_w (h_sexe (e_now e) (upd (h_exe (e_now e)) a (h_exe (e_now e) a - 1))) (nI a) z
              have wk : h_kk (e_now e) (h_sexe (e_now e) (upd (h_exe (e_now e)) a (h_exe (e_now e) a - 1))) := ⟨rfl, rfl, rfl, rfl, rfl, rfl⟩
              refine Or.inl ⟨_, (show ¬ (1 : Int32) < 0 by decide), rfl, rfl, rfl, rfl, ?_, ?_, fun j hj => ?_⟩
              · refine RN_row2 (d := e_now e) (m := m) (m2 := m_srow (m_rl1 m a 1) _) h ⟨rfl, rfl, rfl⟩ (HH_serv hH k2 (wk.tr w.1) w.2 hs (fun j hj => ?_)) (by rw [w.2]; exact h.2.1)
                show r_spend _ _ _ j = _
                rw [r_spend_x (by omega), vp_uLo (by omega)]
              · exact (m_kk.row m _).tr (m_kk.row (m_rl1 m a 1) _)
              · show r_spend _ _ _ j = _
                rw [r_spend_x (by omega), vp_uLo (by omega)]
        · rw [if_neg h4, if_neg h4]
          have k2 := HS_dorel (z := z) hH.2.1 hs8
          have e0 : vp_updL (m_row m) (14 + 15 * a + 2) (m_row m (14 + 15 * a + 2) - 0) = m_row m := by
            funext j
            by_cases g : j = 14 + 15 * a + 2
            · subst g; rw [pk_uLs]; exact Int64.sub_zero _
            · rw [pk_uLn g]
          have em : m_doRel m s z = (0, m_srow (m_rl1 m a 0) (r_spend (m_row m) a z.toInt64)) := by
            unfold m_doRel m_used
            rw [← ha, if_neg h4]
            have e3 : m_row (m_rl1 m a 0) = m_row m := e0
            rw [e3]
          rw [em]
          have ee : e_dor e s z = e_snow e (h_dorel (e_now e) (nI a) z) := by unfold e_dor; rw [← es]
          rw [ee]
          have w := h_dorel_w (e_now e) (nI a) z
          refine Or.inl ⟨_, (show ¬ (0 : Int32) < 0 by decide), rfl, rfl, rfl, rfl, ?_, ?_, fun j hj => ?_⟩
          · refine RN_row2 (d := e_now e) (m := m) (m2 := m_srow (m_rl1 m a 0) _) h ⟨rfl, rfl, rfl⟩ (HH_serv hH k2 w.1 w.2 hs (fun j hj => ?_)) (by rw [w.2]; exact h.2.1)
            show r_spend _ _ _ j = _
            rw [r_spend_x (by omega)]
          · exact (m_kk.row m _).tr (m_kk.row (m_rl1 m a 0) _)
          · show r_spend _ _ _ j = _
            rw [r_spend_x (by omega)]
      · rw [if_neg h3, if_neg h3]; exact IN_no (by decide)
    · rw [if_neg h2, if_neg h2]; exact IN_no (by decide)
  · rw [if_neg h1, if_neg h1]; exact IN_no (by decide)
theorem q_lcnt {B c : Nat} {L : LD} {r : RW} (h : HL c B L r) (b : Int32) : ∀ n, n ≤ zn32 (l_num L) → r_lcnt r 1 b n = z_cnt (l_bor L) b n ∧ zok (z_cnt (l_bor L) b n) n
  | 0, _ => ⟨rfl, zok_0 _⟩
  | n + 1, hn => by
    have h40 := h.1.2.2
    have ih := q_lcnt h b n (by omega)
    have e : r (134 + 5 * n + 1) = (l_bor L n).toInt64 := (h.2 n (by omega) 1 (by decide)).1
    have q := q_s_lt ih.2 (by omega)
    rw [r_lcnt, z_cnt, e, ih.1]
    by_cases g : l_bor L n = b
    · rw [if_pos g, if_pos ((q_eq _ _).mpr g)]; exact ⟨rfl, q.2.1⟩
    · rw [if_neg g, if_neg (fun z => g ((q_eq _ _).mp z))]; exact ⟨Int32.add_zero _, zok_mono ih.2 (by omega)⟩
theorem q_why {B : Nat} {d : HD} {r : RW} (h : HH B d r) {a : Nat} (ha : a < 8) (b m : Int32) : r_why r (nI a) b m = h_refu d (nI a) b m := by
  have hn := HL_n h.2.2.2.1
  have hq := q_lcnt h.2.2.2.1 b (zn32 (l_num (h_lo d))) (Nat.le_refl _)
  have h6 := h.1.1 6 (by decide)
  unfold r_why h_refu
  rw [zn_nI (by omega), HS_isf h.2.1 ha, HS_mo h.2.1 ha, (HS_thw h.2.1 ha).1, hn, hq.1, h6.1]
  have e : (z_cnt (l_bor (h_lo d)) b (zn32 (l_num (h_lo d)))).toInt64 < (h_set d 6).toInt64 ↔ z_cnt (l_bor (h_lo d)) b (zn32 (l_num (h_lo d))) < h_set d 6 := q_lt _ _
  by_cases h1 : r_frz r a = true
  · rw [if_pos h1, if_pos h1]
  · rw [if_neg h1, if_neg h1]
    by_cases h2 : r_left r a - m.toInt64 ≤ r_thw r a
    · rw [if_pos h2, if_pos h2]
    · rw [if_neg h2, if_neg h2]
      by_cases h3 : z_cnt (l_bor (h_lo d)) b (zn32 (l_num (h_lo d))) < h_set d 6
      · rw [if_pos h3, if_pos (e.mpr h3)]
      · rw [if_neg h3, if_neg (fun z => h3 (e.mp z))]
theorem q_full {v : Int32} {n : Nat} (hv : zok v n) (hn : n < 2 ^ 31) : (v.toInt64 = lN n ↔ ¬ v < nI n) ∧ (v < nI n → zn32 v < n) := by
  have h2 := hv.2
  have e1 : v < nI n ↔ zn32 v < n := by
    conv => lhs; rw [hv.1]
    exact nI_ltI (by omega) hn
  rw [q_ok hv hn, e1, lN_eq (by omega) hn]
  exact ⟨by omega, id⟩
theorem in_len {B : Nat} {e : ED} {m : MD} (hB : B + 3000 < 2 ^ 30) (h : RN B (e_now e) m) (a b i w : Int32) : IN B e m (e_leni e a b i w) (m_noLend m a b i w).1 (m_noLend m a b i w).2 (m_doLend m a b i w) := by
  have hH := h.1
  obtain ⟨hA, hS, hZ, hL, hW, hP⟩ := id hH
  unfold e_leni m_noLend
  rw [HH_isS hH a, HH_isS hH b, show z_inl i.toInt64 1 5000 = z_in i 1 5000 from z_in_l i 1 5000, show z_inl w.toInt64 1 9 = z_in w 1 9 from z_in_l w 1 9]
  by_cases h1 : h_has (e_now e) a = true
  · rw [if_pos h1, if_pos h1]
    by_cases h2 : h_has (e_now e) b = true
    · rw [if_pos h2, if_pos h2]
      by_cases h3 : a = b
      · rw [if_pos h3, if_pos h3]; exact IN_no (by decide)
      · rw [if_neg h3, if_neg h3]
        by_cases h4 : z_in i 1 5000 = true
        · rw [if_pos h4, if_pos h4]
          by_cases h5 : z_in w 1 9 = true
          · rw [if_pos h5, if_pos h5]
            have q := q_full hL.1.2 (by decide)
            have e40 : (m_row m 12 = 40) ↔ ¬ l_num (h_lo (e_now e)) < 40 := by rw [hL.1.1]; exact q.1
            by_cases h6 : l_num (h_lo (e_now e)) < 40
            · rw [if_pos h6, if_neg (fun z => e40.mp z h6)]
              obtain ⟨ea, ha, ha8⟩ := HH_has hH h1
              obtain ⟨eb, hb, hb8⟩ := HH_has hH h2
              obtain ⟨x, hx⟩ : ∃ x, x = zn32 a := ⟨_, rfl⟩
              obtain ⟨y, hy⟩ : ∃ y, y = zn32 b := ⟨_, rfl⟩
              rw [← hx] at ea ha ha8
              rw [← hy] at eb hb hb8
              have bi := z_in_b (a := 1) (b := 5000) (by decide) (by decide) h4
              have bw := z_in_b (a := 1) (b := 9) (by decide) (by decide) h5
              have ew : r_why (m_row m) a b i = h_refu (e_now e) a b i := by rw [ea]; exact q_why hH ha8 b i
              rw [ew]
              by_cases h7 : h_refu (e_now e) a b i = 0
              · rw [if_pos h7, if_pos h7]
                have K := HS_lend hS hA hL hA.2.2.2.2.2.2 ha hb bi.1 bi.2 bw.1 bw.2 (q.2 h6) (by omega) hW
                obtain ⟨k1, k2, k3, ⟨w1, w2, w3, w4, w5, w6⟩, k5, k6⟩ := K
                have el : zn32 (m_row m 12).toInt32 = zn32 (l_num (h_lo (e_now e))) := by rw [hL.1.1, q_i]
                have em : m_doLend m a b i w = (l_num (h_lo (e_now e)), m_srow m (r_lend (m_row m) (zn32 (l_num (h_lo (e_now e)))) (nI x) (nI y) i w)) := by
                  unfold m_doLend; rw [el, ← ea, ← eb, hL.1.1, q_i]
                have ee : h_lend (e_now e) a b i w = h_lend (e_now e) (nI x) (nI y) i w := by rw [← ea, ← eb]
                rw [em, ee]
                generalize h_lend (e_now e) (nI x) (nI y) i w = d2 at k1 k2 k3 w1 w2 w3 w4 w5 w6 ⊢
                generalize r_lend (m_row m) (zn32 (l_num (h_lo (e_now e)))) (nI x) (nI y) i w = r2 at k1 k2 k5 k6 ⊢
                refine Or.inl ⟨d2, ?_, rfl, rfl, rfl, rfl, RN_row h ⟨HA_d (HA_r hA (fun j hj => k5 j (by omega) (by omega))) w1 w2 w3 w4 w5, k1, ?_, ?_, k3, ?_⟩ (by rw [w6]; exact h.2.1), m_kk.row m _, fun j hj => k5 j (by omega) (by omega)⟩
                · have := hL.1.2.2
                  rw [hL.1.2.1]; exact nI_pos (by omega)
                · rw [w5]; intro s k hs hs8 hk
                  rw [k6 s k hs8 hk hs]; exact hZ s k hs hs8 hk
                · rw [w5]; exact k2
                · rw [w5, w6]; exact HP_r hP (fun j hj => k5 j (by omega) (by omega))
              · rw [if_neg h7, if_neg h7]; exact IN_ref (by decide)
            · rw [if_neg h6, if_pos (e40.mpr h6)]; exact IN_no (by decide)
          · rw [if_neg h5, if_neg h5]; exact IN_no (by decide)
        · rw [if_neg h4, if_neg h4]; exact IN_no (by decide)
    · rw [if_neg h2, if_neg h2]; exact IN_no (by decide)
  · rw [if_neg h1, if_neg h1]; exact IN_no (by decide)
