
/-! WHAT ALWAYS HOLDS, over the row: an hour; and what becomes of a plan that is watched. -/
/-- the watched plan: none, or the plan q, of service w, of hour t -/
def WA (w : Nat) (t : Int64) (m : MD) : Prop := m_wat m = -6 ∨ ∃ q, q < zn64 (m_row m 13) ∧ m_wat m = nI q ∧ m_row m (334 + 4 * q + 0) = lN w ∧ m_row m (334 + 4 * q + 1) = t
/-- nothing done yet (the releases are R or more), or it was done in this very hour -/
def WB (w : Nat) (t : Int64) (R : Int) (w0 : Int32) (m : MD) : Prop := R ≤ gA (m_row m) w 4 ∧ (m_wh m = w0 ∨ (m_wh m = (m_row m 8).toInt32 ∧ t ≤ m_row m 8 ∧ R + 1 ≤ gA (m_row m) w 4))
theorem np_lt {m : MD} : ∀ n, zit (m_npstep m) (-6) n = -6 ∨ ∃ p, p < n ∧ zit (m_npstep m) (-6) n = nI p ∧ m_row m (334 + 4 * p + 1) ≤ m_row m 8
  | 0 => Or.inl rfl
  | n + 1 => by
    have ih := np_lt (m := m) n
    have e : zit (m_npstep m) (-6) (n + 1) = m_npstep m n (zit (m_npstep m) (-6) n) := rfl
    rw [e]
    generalize zit (m_npstep m) (-6) n = b at ih ⊢
    have hb : b = -6 ∨ ∃ p, p < n + 1 ∧ b = nI p ∧ m_row m (334 + 4 * p + 1) ≤ m_row m 8 := by
      rcases ih with z | ⟨l, h1, h2, h3⟩
      · exact Or.inl z
      · exact Or.inr ⟨l, by omega, h2, h3⟩
    unfold m_npstep
    split
    · split
      · rename_i y
        split
        · exact Or.inr ⟨n, by omega, rfl, y⟩
        · split
          · exact Or.inr ⟨n, by omega, rfl, y⟩
          · exact hb
      · exact hb
    · exact hb
/-- one plan is looked at -/
theorem IV_dp {c F p n w : Nat} {t : Int64} {R : Int} {w0 : Int32} {m : MD} (hF : F < 1000000000) (h : IV c F (m_row m)) (hn : m_row m 13 = lN n) (hn30 : n ≤ 30) (hp : p < n) (hd : m_row m (334 + 4 * p + 1) ≤ m_row m 8) (hw : w < 8) (a : WA w t m) (b : WB w t R w0 m) :
    IV c (F + 1) (m_row (m_dpstep m p)) ∧ m_row (m_dpstep m p) 13 = m_row m 13 ∧ m_row (m_dpstep m p) 8 = m_row m 8 ∧ WA w t (m_dpstep m p) ∧ WB w t R w0 (m_dpstep m p) := by
  obtain ⟨h1, h2, h3, h4, ⟨n0, m1, m2, m3⟩, h6⟩ := id h
  have en : n0 = n := by
    have e1 := lN_t m2 (by omega)
    have e2 := lN_t hn (by omega)
    omega
  subst en
  obtain ⟨⟨s, hs, es⟩, z1, z2⟩ := m3 p hp
  have eps : m_ps m p = s := by unfold m_ps; rw [es, lN_i]; exact nI_clamp (by omega)
  have hs8 : s < 8 := by omega
  unfold m_dpstep
  rw [eps]
  by_cases f : r_frz (m_row m) s = true
  · rw [if_pos f]
    by_cases l : m_late m p = true
    · rw [if_pos l]
      have er : m_row (m_srow (m_go (m_see m p) p 1) (r_add (m_row m) (14 + 15 * s + 5) 1)) = r_add (m_row m) (14 + 15 * s + 5) 1 := rfl
      have ew : m_wat (m_srow (m_go (m_see m p) p 1) (r_add (m_row m) (14 + 15 * s + 5) 1)) = m_wat m := rfl
      have eh : m_wh (m_srow (m_go (m_see m p) p 1) (r_add (m_row m) (14 + 15 * s + 5) 1)) = m_wh m := rfl
      generalize m_srow (m_go (m_see m p) p 1) (r_add (m_row m) (14 + 15 * s + 5) 1) = M at er ew eh ⊢
      have eo : ∀ j, (j < 14 ∨ 134 ≤ j) → m_row M j = m_row m j := fun j hj => by rw [er]; exact r_add_o (by omega)
      have e4 : gA (m_row M) w 4 = gA (m_row m) w 4 := by rw [er]; exact gA_o (by omega)
      refine ⟨IV_srv h (by omega) (IVa_mono (IVa_r h1 h3 (fun s2 k hs2 hk hk2 hk5 => by rw [er]; exact gA_o (by omega))) (Nat.le_succ F)) eo, eo 13 (by decide), eo 8 (by decide), ?_, ?_⟩
      · unfold WA at a ⊢
        rw [ew, eo 13 (by decide)]
        rcases a with a | ⟨q, a1, a2, a3, a4⟩
        · exact Or.inl a
        · exact Or.inr ⟨q, a1, a2, by rw [eo _ (by omega)]; exact a3, by rw [eo _ (by omega)]; exact a4⟩
      · unfold WB at b ⊢; rw [e4, eh, eo 8 (by decide)]; exact b
    · rw [if_neg l]
      exact ⟨IV_mono h (Nat.le_succ F), rfl, rfl, a, b⟩
  · rw [if_neg f]
    have hv : 0 ≤ (m_row m (334 + 4 * p + 2)).toInt ∧ (m_row m (334 + 4 * p + 2)).toInt ≤ 10000000 := ⟨z1, by omega⟩
    obtain ⟨A1, A2, A3⟩ := IVa_spend h1 hF h3 hs8 hv
    have er : m_row (m_srow (m_wh1 (m_go (m_see m p) p 1) p) (r_spend (m_row m) s (m_row m (334 + 4 * p + 2)))) = r_spend (m_row m) s (m_row m (334 + 4 * p + 2)) := rfl
    have ew : m_wat (m_srow (m_wh1 (m_go (m_see m p) p 1) p) (r_spend (m_row m) s (m_row m (334 + 4 * p + 2)))) = m_wat m := by
      show m_wat (m_wh1 (m_go (m_see m p) p 1) p) = m_wat m
      unfold m_wh1; split <;> rfl
    have eh : m_wh (m_srow (m_wh1 (m_go (m_see m p) p 1) p) (r_spend (m_row m) s (m_row m (334 + 4 * p + 2)))) = (if nI p = m_wat m then (m_row m 8).toInt32 else m_wh m) := by
      show m_wh (m_wh1 (m_go (m_see m p) p 1) p) = _
      unfold m_wh1
      have x1 : m_wat (m_go (m_see m p) p 1) = m_wat m := rfl
      rw [x1]; split <;> rfl
    generalize m_srow (m_wh1 (m_go (m_see m p) p 1) p) (r_spend (m_row m) s (m_row m (334 + 4 * p + 2))) = M at er ew eh ⊢
    have eo : ∀ j, (j < 14 ∨ 134 ≤ j) → m_row M j = m_row m j := fun j hj => by rw [er]; unfold r_spend; rw [r_change_x (by omega), r_add_o (by omega), r_add_o (by omega)]
    rw [← er] at A1 A2 A3
    refine ⟨IV_srv h (by omega) A1 eo, eo 13 (by decide), eo 8 (by decide), ?_, ?_⟩
    · unfold WA at a ⊢
      rw [ew, eo 13 (by decide)]
      rcases a with a | ⟨q, a1, a2, a3, a4⟩
      · exact Or.inl a
      · exact Or.inr ⟨q, a1, a2, by rw [eo _ (by omega)]; exact a3, by rw [eo _ (by omega)]; exact a4⟩
    · have hR : gA (m_row m) w 4 ≤ gA (m_row M) w 4 := by
        by_cases y : w = s
        · subst y; omega
        · have := A3 w hw y; omega
      obtain ⟨b1, b2⟩ := b
      refine ⟨by omega, ?_⟩
      rw [eh, eo 8 (by decide)]
      by_cases g : nI p = m_wat m
      · rw [if_pos g]
        rcases a with a | ⟨q, a1, a2, a3, a4⟩
        · rw [a] at g; exact absurd g (nI_ne6 (by omega))
        · rw [zn64_e hn (by omega)] at a1
          have epq : p = q := (nI_eq (by omega) (by omega)).mp (g.trans a2)
          subst epq
          have esw : s = w := by
            have e1 := lN_t es (by omega)
            have e2 := lN_t a3 (by omega)
            omega
          subst esw
          rw [a4] at hd
          exact Or.inr ⟨rfl, hd, by omega⟩
      · rw [if_neg g]
        rcases b2 with b2 | ⟨c1, c2, c3⟩
        · exact Or.inl b2
        · exact Or.inr ⟨c1, c2, by omega⟩
theorem IV_dloop {c n w : Nat} {t : Int64} {R : Int} {w0 : Int32} (hn30 : n ≤ 30) (hw : w < 8) : ∀ (k F : Nat) (m : MD), F + k < 1000000000 → IV c F (m_row m) → m_row m 13 = lN n → WA w t m → WB w t R w0 m →
    IV c (F + k) (m_row (m_dploop k m)) ∧ m_row (m_dploop k m) 13 = m_row m 13 ∧ m_row (m_dploop k m) 8 = m_row m 8 ∧ WA w t (m_dploop k m) ∧ WB w t R w0 (m_dploop k m)
  | 0, F, m, _, h, _, a, b => ⟨h, rfl, rfl, a, b⟩
  | k + 1, F, m, hF, h, hn, a, b => by
    by_cases z : m_nextP m = -6
    · have e : m_dploop (k + 1) m = m := if_pos z
      rw [e]; exact ⟨IV_mono h (by omega), rfl, rfl, a, b⟩
    · have e : m_dploop (k + 1) m = m_dploop k (m_dpstep m (zn32 (m_nextP m))) := if_neg z
      have hz : zn64 (m_row m 13) = n := zn64_e hn (by omega)
      have q := np_lt (m := m) n
      have e2 : m_nextP m = zit (m_npstep m) (-6) n := by unfold m_nextP; rw [hz]
      rw [← e2] at q
      rcases q with q | ⟨p, hp, q, hd⟩
      · exact absurd q z
      · have el : zn32 (m_nextP m) = p := by rw [q]; exact nI_clamp (by omega)
        rw [e, el]
        obtain ⟨s1, s2, s3, s4, s5⟩ := IV_dp (F := F) (by omega) h hn hn30 hp hd hw a b
        have ih := IV_dloop hn30 hw k (F + 1) (m_dpstep m p) (by omega) s1 (s2.trans hn) s4 s5
        exact ⟨by rw [show F + (k + 1) = F + 1 + k by omega]; exact ih.1, ih.2.1.trans s2, ih.2.2.1.trans s3, ih.2.2.2⟩
theorem IV_mclear {c F w : Nat} {t : Int64} {R : Int} {w0 : Int32} {m : MD} (h : IV c F (m_row m)) (a : WA w t m) (b : WB w t R w0 m) (hw : w < 8) : IV c F (m_row (m_clear m)) ∧ m_row (m_clear m) 8 = m_row m 8 ∧ WA w t (m_clear m) ∧ WB w t R w0 (m_clear m) := by
  obtain ⟨h1, h2, h3, h4, ⟨n, m1, m2, m3⟩, h6⟩ := id h
  have hz : zn64 (m_row m 13) = n := zn64_e m2 (by omega)
  obtain ⟨s1, s2, s3, s4, s5, s6, s7, s8⟩ := m_clear_spec m hz m1
  have hle := z_ct_le (m_keep m) n
  have e13 : m_row (m_clear m) 13 = lN (z_ct (m_keep m) n) := by rw [s1, nI_l (by omega)]
  have ez : zn64 (m_row (m_clear m) 13) = z_ct (m_keep m) n := zn64_e e13 (by omega)
  have eo : ∀ j, j < 334 → j ≠ 13 → m_row (m_clear m) j = m_row m j := fun j hj h13 => s3 j (Or.inl hj) h13
  refine ⟨⟨h1, by rw [eo 11 (by decide) (by decide)]; exact h2, IVa_r h1 h3 (fun s k hs hk _ _ => gA_r (eo _ (by omega) (by omega))), IVl_r h4 (fun j hj => eo j (by omega) (by omega)), ⟨z_ct (m_keep m) n, by omega, e13, fun p hp => ?_⟩, IVm_r h6 (Nat.le_refl _) (fun j hj => eo j (by omega) (by omega))⟩, eo 8 (by decide) (by decide), ?_, ?_⟩
  · obtain ⟨p0, q1, q2, q3⟩ := z_ct_sur hp
    subst q3
    have e : ∀ k, k < 4 → m_row (m_clear m) (334 + 4 * z_ct (m_keep m) p0 + k) = m_row m (334 + 4 * p0 + k) := fun k hk => s2 p0 k q1 hk q2
    have q := m3 p0 q1
    unfold PLk at q ⊢
    rw [e 0 (by decide), e 2 (by decide)]; exact q
  · rcases a with a | ⟨q, a1, a2, a3, a4⟩
    · refine Or.inl ((s8 (fun p hp e => ?_)).trans a)
      rw [a] at e; exact nI_ne6 (by omega) e.symm
    · rw [hz] at a1
      have ew := s7 q a1 a2
      by_cases g : m_gone m q = 0
      · rw [if_pos g] at ew
        have hk : m_keep m q = true := decide_eq_true g
        exact Or.inr ⟨z_ct (m_keep m) q, by rw [ez]; exact z_ct_lt a1 hk, ew, by rw [s2 q 0 a1 (by decide) hk]; exact a3, by rw [s2 q 1 a1 (by decide) hk]; exact a4⟩
      · rw [if_neg g] at ew; exact Or.inl ew
  · have e4 : gA (m_row (m_clear m)) w 4 = gA (m_row m) w 4 := gA_r (eo _ (by omega) (by omega))
    unfold WB at b ⊢
    rw [e4, s6, eo 8 (by decide) (by decide)]; exact b
theorem IV_doPlans {c F w : Nat} {t : Int64} {R : Int} {w0 : Int32} {m : MD} (hF : F + 30 < 1000000000) (h : IV c F (m_row m)) (a : WA w t m) (b : WB w t R w0 m) (hw : w < 8) : IV c (F + 30) (m_row (m_doPlans m)) ∧ m_row (m_doPlans m) 8 = m_row m 8 ∧ WA w t (m_doPlans m) ∧ WB w t R w0 (m_doPlans m) := by
  obtain ⟨n, m1, m2, m3⟩ := id h.2.2.2.2.1
  obtain ⟨d1, d2, d3, d4, d5⟩ := IV_dloop m1 hw 30 F m hF h m2 a b
  unfold m_doPlans
  generalize m_dploop 30 m = x at d1 d2 d3 d4 d5 ⊢
  have k := IV_mclear d1 d4 d5 hw
  exact ⟨k.1, k.2.1.trans d3, k.2.2⟩
/-- an hour -/
theorem IV_hour {c F w : Nat} {t : Int64} {R : Int} {w0 : Int32} {m : MD} (hF : F + 80 < 1000000000) (h : IV c F (m_row m)) (a : WA w t m) (hR : R ≤ gA (m_row m) w 4) (hw0 : m_wh m = w0) (hw : w < 8) :
    IV c (F + 80) (m_row (m_hour m)) ∧ (m_row (m_hour m) 8).toInt = (m_row m 8).toInt + 1 ∧ WA w t (m_hour m) ∧ WB w t R w0 (m_hour m) := by
  have er : m_row (m_hr1 m) = r_add (m_row m) 8 1 := rfl
  have ew : m_wat (m_hr1 m) = m_wat m := rfl
  have eh : m_wh (m_hr1 m) = m_wh m := rfl
  unfold m_hour
  generalize m_hr1 m = m1 at er ew eh ⊢
  have ho : ∀ j, j ≠ 8 → m_row m1 j = m_row m j := fun j hj => by rw [er]; exact r_add_o (by omega)
  obtain ⟨h1, h2, h3, h4, h5, h6⟩ := id h
  have t1 : (1 : Int64).toInt = 1 := by decide
  have h68 := h6.2.1
  have h69 := h6.2.2.1
  have e8 : (m_row m1 8).toInt = (m_row m 8).toInt + 1 := by rw [er, r_add_e rfl, t_add (by rw [t1]; omega) (by rw [t1]; omega), t1]
  have hI : IV c (F + 1) (m_row m1) := by
    refine ⟨h1, by rw [ho 11 (by decide)]; exact h2, IVa_mono (IVa_r h1 h3 (fun s k hs hk _ _ => gA_r (ho _ (by omega)))) (Nat.le_succ F), IVl_r h4 (fun j hj => ho j (by omega)), IVp_r h5 (fun j hj => ho j (by omega)), ?_⟩
    unfold IVm at h6 ⊢
    rw [ho 10 (by decide), ho 1 (by decide), ho 4 (by decide), e8]
    exact ⟨by omega, by omega, by omega, h6.2.2.2⟩
  have hA : WA w t m1 := by
    unfold WA at a ⊢
    rw [ew, ho 13 (by decide)]
    rcases a with a | ⟨q, a1, a2, a3, a4⟩
    · exact Or.inl a
    · exact Or.inr ⟨q, a1, a2, by rw [ho _ (by omega)]; exact a3, by rw [ho _ (by omega)]; exact a4⟩
  have hB : WB w t R w0 m1 := ⟨by rw [show gA (m_row m1) w 4 = gA (m_row m) w 4 from gA_r (ho _ (by omega))]; exact hR, Or.inl (eh.trans hw0)⟩
  split
  · have k := IV_doPlans (by omega) hI hA hB hw
    exact ⟨IV_mono k.1 (by omega), by rw [k.2.1]; exact e8, k.2.2⟩
  · obtain ⟨b1, b2⟩ := IV_begin (by omega) hI
    have fr : m_row (m_srow m1 (r_begin (m_row m1))) = r_begin (m_row m1) := rfl
    have fw : m_wat (m_srow m1 (r_begin (m_row m1))) = m_wat m1 := rfl
    have fh : m_wh (m_srow m1 (r_begin (m_row m1))) = m_wh m1 := rfl
    generalize m_srow m1 (r_begin (m_row m1)) = m2 at fr fw fh ⊢
    have go : ∀ j, (j < 9 ∨ j = 11 ∨ j = 13 ∨ 334 ≤ j) → m_row m2 j = m_row m1 j := fun j hj => by rw [fr]; exact b2.1 j hj
    have g4 : gA (m_row m2) w 4 = gA (m_row m1) w 4 := by rw [fr]; exact gA_r (b2.2 w hw)
    have k := IV_doPlans (m := m2) (F := F + 1 + 48) (by omega) (by rw [fr]; exact b1) (w := w) (t := t) (R := R) (w0 := w0) (by
      unfold WA at hA ⊢
      rw [fw, go 13 (by decide)]
      rcases hA with a | ⟨q, a1, a2, a3, a4⟩
      · exact Or.inl a
      · exact Or.inr ⟨q, a1, a2, by rw [go _ (by omega)]; exact a3, by rw [go _ (by omega)]; exact a4⟩) (by
      unfold WB at hB ⊢
      rw [g4, fh, go 8 (by decide)]; exact hB) hw
    exact ⟨IV_mono k.1 (by omega), by rw [k.2.1, go 8 (by decide)]; exact e8, k.2.2⟩
theorem IV_hrs {c F : Nat} {m : MD} (h : IV c F (m_row m)) (hw : WA 0 0 m) : ∀ n, F + 80 * n < 1000000000 → IV c (F + 80 * n) (m_row (m_hrs m n)) ∧ (m_row (m_hrs m n) 8).toInt = (m_row m 8).toInt + n ∧ WA 0 0 (m_hrs m n)
  | 0, _ => ⟨h, by show (m_row m 8).toInt = (m_row m 8).toInt + ((0 : Nat) : Int); omega, hw⟩
  | n + 1, hn => by
    obtain ⟨i1, i2, i3⟩ := IV_hrs h hw n (by omega)
    have e : m_hrs m (n + 1) = m_hour (m_hrs m n) := rfl
    rw [e]
    generalize m_hrs m n = x at i1 i2 i3 ⊢
    have k := IV_hour (w := 0) (t := 0) (R := gA (m_row x) 0 4) (w0 := m_wh x) (by omega) i1 i3 (Int.le_refl _) rfl (by decide)
    exact ⟨by rw [show F + 80 * (n + 1) = F + 80 * n + 80 by omega]; exact k.1, by rw [k.2.1, i2]; omega, k.2.2.1⟩
theorem m_hrs_s (m : MD) : ∀ n, m_hrs (m_hour m) n = m_hrs m (n + 1)
  | 0 => rfl
  | n + 1 => by
    have e : m_hrs (m_hour m) (n + 1) = m_hour (m_hrs (m_hour m) n) := rfl
    rw [e, m_hrs_s m n]; rfl
/-- what doneAt's trial finds: an hour in which a release was done -/
theorem IV_dal {c w : Nat} {t : Int64} {R h0 : Int} (hw : w < 8) : ∀ (k i F : Nat) (m : MD), F + 80 * k < 1000000000 → IV c F (m_row m) → WA w t m → R ≤ gA (m_row m) w 4 → (m_row m 8).toInt = h0 + i → ¬ m_wh (m_dal k m) = m_wh m →
    ∃ n, n ≤ k ∧ 1 ≤ n ∧ m_wh (m_dal k m) = (m_row (m_hrs m n) 8).toInt32 ∧ (m_row (m_hrs m n) 8).toInt = h0 + i + n ∧ t ≤ m_row (m_hrs m n) 8 ∧ R + 1 ≤ gA (m_row (m_hrs m n)) w 4
  | 0, i, F, m, _, _, _, _, _, hn => absurd rfl hn
  | k + 1, i, F, m, hF, h, a, hR, h8, hn => by
    by_cases g : m_wat m = -6
    · have e : m_dal (k + 1) m = m := if_pos g
      rw [e] at hn; exact absurd rfl hn
    · have e : m_dal (k + 1) m = m_dal k (m_hour m) := if_neg g
      rw [e] at hn ⊢
      obtain ⟨k1, k2, k3, k4, k5⟩ := IV_hour (R := R) (w0 := m_wh m) (by omega) h a hR rfl hw
      by_cases y : m_wh (m_dal k (m_hour m)) = m_wh (m_hour m)
      · rw [y] at hn ⊢
        rcases k5 with k5 | ⟨c1, c2, c3⟩
        · exact absurd k5 hn
        · have e1 : m_hrs m 1 = m_hour m := rfl
          exact ⟨1, by omega, Nat.le_refl _, by rw [e1]; exact c1, by rw [e1, k2, h8]; omega, by rw [e1]; exact c2, by rw [e1]; exact c3⟩
      · obtain ⟨n, n1, n2, n3, n4, n5, n6⟩ := IV_dal (h0 := h0) hw k (i + 1) (F + 80) (m_hour m) (by omega) k1 k3 k4 (by rw [k2, h8]; omega) y
        rw [m_hrs_s m n] at n3 n4 n5 n6
        exact ⟨n + 1, by omega, by omega, n3, by rw [n4]; omega, n5, n6⟩
