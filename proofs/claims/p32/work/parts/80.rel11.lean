
/-! THE RELATION: plans made and dropped, hours; what a change leaves. -/
theorem IN_mono {B B2 : Nat} {e : ED} {m : MD} {E : Int32 × ED} {no : Int32} {mno : MD} {D : Int32 × MD} (h : IN B e m E no mno D) (hB : B ≤ B2) : IN B2 e m E no mno D := by
  rcases h with ⟨d2, h1, h2, h3, h4, h5, h6, h7, h8⟩ | h
  · exact Or.inl ⟨d2, h1, h2, h3, h4, h5, RN_mono h6 hB, h7, h8⟩
  · exact Or.inr h
theorem HP_add {c B : Nat} {P : PD} {r : RW} {s : Nat} {t z y : Int32} (h : HP c B P r) (hn : zn32 (p_num P) < 30) (hs : s < c) (hc : c ≤ 8) (ht : zok t B) (hz : zok z 200) (hy : zok y 9) :
    HP c B (p_add P (nI s) t z y) (r_doPlan r (zn32 (p_num P)) (nI s) t z y) ∧ p_wat (p_add P (nI s) t z y) = p_wat P := by
  obtain ⟨hP, hf, hS⟩ := h
  have q := q_s_lt hP.1.2 (by decide)
  obtain ⟨n, hnn⟩ : ∃ n, n = zn32 (p_num P) := ⟨_, rfl⟩
  have hX : p_ok (p_snum (p_put P (zn32 (p_num P)) (nI s) t z y 0) (p_num P + 1)) := ⟨q.2.1.1, by show zn32 (p_num P + 1) ≤ 30; rw [q.2.2.2]; omega⟩
  have eN : p_num (p_add P (nI s) t z y) = p_num P + 1 := (p_arr_at _ 0).2.1
  have eat : ∀ k j, p_at (p_add P (nI s) t z y) k j = if j = n then (match k with | 0 => nI s | 1 => t | 2 => z | 3 => y | _ => 0) else p_at P k j := by
    intro k j
    rw [show p_at (p_add P (nI s) t z y) k = p_at (p_snum (p_put P (zn32 (p_num P)) (nI s) t z y 0) (p_num P + 1)) k from (p_arr_at _ k).1]
    by_cases e : j = n
    · rw [if_pos e]
      have e2 : j = zn32 (p_num P) := e.trans hnn
      match k with
      | 0 => show upd (p_srv P) (zn32 (p_num P)) (nI s) j = _; rw [e2, pk_us]; rfl
      | 1 => show upd (p_hr P) (zn32 (p_num P)) t j = _; rw [e2, pk_us]; rfl
      | 2 => show upd (p_sz P) (zn32 (p_num P)) z j = _; rw [e2, pk_us]; rfl
      | 3 => show upd (p_pri P) (zn32 (p_num P)) y j = _; rw [e2, pk_us]; rfl
      | _ + 4 => show upd (p_fate P) (zn32 (p_num P)) 0 j = _; rw [e2, pk_us]; rfl
    · rw [if_neg e]
      have e2 : j ≠ zn32 (p_num P) := fun z => e (z.trans hnn.symm)
      match k with
      | 0 => exact pk_un e2
      | 1 => exact pk_un e2
      | 2 => exact pk_un e2
      | 3 => exact pk_un e2
      | _ + 4 => exact pk_un e2
  have ez : zn32 (p_num P + 1) = n + 1 := by rw [q.2.2.2, hnn]
  refine ⟨⟨⟨⟨?_, by rw [eN]; exact hX⟩, fun p hp k hk => ?_⟩, fun p hp => ?_, ?_⟩, (p_arr_at _ 0).2.2.1⟩
  · rw [eN, ← hnn]
    unfold r_doPlan r_add
    rw [pk_uLs, vp_uLo (by omega), vp_uLo (by omega), vp_uLo (by omega), vp_uLo (by omega), hP.1.1, q.2.2.1]
  · rw [eN, ez] at hp
    rw [eat, ← hnn]
    unfold r_doPlan
    rw [r_add_o (by omega)]
    by_cases e : p = n
    · rw [if_pos e, e]
      match k, hk with
      | 0, _ => exact ⟨by show _ = (nI s).toInt64; rw [vp_uLo (by omega), vp_uLo (by omega), vp_uLo (by omega), pk_uLs], zlt_nI hs (by omega)⟩
      | 1, _ => exact ⟨by show _ = t.toInt64; rw [vp_uLo (by omega), vp_uLo (by omega), pk_uLs], ht⟩
      | 2, _ => exact ⟨by show _ = z.toInt64; rw [vp_uLo (by omega), pk_uLs], hz⟩
      | 3, _ => exact ⟨by show _ = y.toInt64; rw [pk_uLs], hy⟩
    · rw [if_neg e, vp_uLo (by omega), vp_uLo (by omega), vp_uLo (by omega), vp_uLo (by omega)]
      exact hP.2 p (by omega) k hk
  · rw [eN, ez] at hp
    show p_at (p_add P (nI s) t z y) 4 p = 0
    rw [eat]
    by_cases e : p = n
    · rw [if_pos e]; rfl
    · rw [if_neg e]; exact hf p (by omega)
  · rw [eN]; exact p_arr_S hX
theorem in_plan {B : Nat} {e : ED} {m : MD} (hB : B + 3000 < 2 ^ 30) (h : RN B (e_now e) m) (s t z y : Int32) : IN B e m (e_plani e s t z y) (m_noPlan m s t z y) m (m_doPlan m s t z y) := by
  have hH := h.1
  obtain ⟨hA, hS, hZ, hL, hW, hP⟩ := id hH
  have q1 := q_add hA.2.1.2 (show zok 1 1 from ⟨by decide, by decide⟩) (by omega)
  have q2 := q_add hA.2.1.2 (show zok 2000 2000 from ⟨by decide, by decide⟩) (by omega)
  have eT : z_inl t.toInt64 (m_row m 8 + 1) (m_row m 8 + 2000) = z_in t (h_hour (e_now e) + 1) (h_hour (e_now e) + 2000) := by
    rw [← z_in_l, q1.1, q2.1, hA.2.1.1]; rfl
  unfold e_plani m_noPlan
  rw [HH_isS hH s, eT, show z_inl z.toInt64 1 200 = z_in z 1 200 from z_in_l z 1 200, show z_inl y.toInt64 0 9 = z_in y 0 9 from z_in_l y 0 9]
  by_cases h1 : h_has (e_now e) s = true
  · rw [if_pos h1, if_pos h1]
    by_cases h2 : z_in t (h_hour (e_now e) + 1) (h_hour (e_now e) + 2000) = true
    · rw [if_pos h2, if_pos h2]
      by_cases h3 : z_in z 1 200 = true
      · rw [if_pos h3, if_pos h3]
        by_cases h4 : z_in y 0 9 = true
        · rw [if_pos h4, if_pos h4]
          have q := q_full hP.1.1.2 (by decide)
          have e30 : (m_row m 13 = 30) ↔ ¬ p_num (h_pl (e_now e)) < 30 := by rw [hP.1.1.1]; exact q.1
          by_cases h6 : p_num (h_pl (e_now e)) < 30
          · rw [if_pos h6, if_neg (fun z => e30.mp z h6)]
            obtain ⟨ea, ha, ha8⟩ := HH_has hH h1
            obtain ⟨x, hx⟩ : ∃ x, x = zn32 s := ⟨_, rfl⟩
            rw [← hx] at ea ha ha8
            have b3 := (z_in_b (a := 1) (b := 200) (by decide) (by decide) h3).1
            have b4 := (z_in_b (a := 0) (b := 9) (by decide) (by decide) h4).1
            have hh := hA.2.1.2.2
            have e1 : h_hour (e_now e) + 1 = nI (zn32 (h_hour (e_now e)) + 1) := by rw [nI_succ, ← hA.2.1.2.1]
            have e2 : h_hour (e_now e) + 2000 = nI (zn32 (h_hour (e_now e)) + 2000) := by rw [← nI_add, ← hA.2.1.2.1]; rfl
            rw [e1, e2] at h2
            have b2 := (z_in_b (a := zn32 (h_hour (e_now e)) + 1) (b := zn32 (h_hour (e_now e)) + 2000) (by omega) (by omega) h2).1
            have K := HP_add hP (q.2 h6) ha hA.2.2.2.2.2.2 (zok_mono b2 (by omega)) b3 b4
            have el : zn32 (m_row m 13).toInt32 = zn32 (p_num (h_pl (e_now e))) := by rw [hP.1.1.1, q_i]
            have em : m_doPlan m s t z y = (p_num (h_pl (e_now e)), m_srow m (r_doPlan (m_row m) (zn32 (p_num (h_pl (e_now e)))) (nI x) t z y)) := by
              unfold m_doPlan; rw [el, ← ea, hP.1.1.1, q_i]
            rw [em, ea]
            have hn30 := q.2 h6
            have hrow : ∀ j, (j < 13 ∨ (14 ≤ j ∧ j < 334) ∨ 454 ≤ j) → r_doPlan (m_row m) (zn32 (p_num (h_pl (e_now e)))) (nI x) t z y j = m_row m j := by
              intro j hj
              unfold r_doPlan
              rw [r_add_o (by omega), vp_uLo (by omega), vp_uLo (by omega), vp_uLo (by omega), vp_uLo (by omega)]
            generalize r_doPlan (m_row m) (zn32 (p_num (h_pl (e_now e)))) (nI x) t z y = r2 at K hrow ⊢
            generalize p_add (h_pl (e_now e)) (nI x) t z y = P2 at K ⊢
            refine Or.inl ⟨h_spl (e_now e) P2, ?_, rfl, rfl, rfl, rfl, RN_row (d2 := h_spl (e_now e) P2) h ⟨HA_r (d := h_spl (e_now e) P2) hA (fun j hj => hrow j (by omega)), HS_r (d := h_spl (e_now e) P2) hS (fun j hj => hrow j (by omega)), fun s2 k hs hs8 hk => ?_, HL_r hL (fun j hj => hrow j (by omega)), hW, K.1⟩ (K.2.trans h.2.1), m_kk.row m _, fun j hj => hrow j (by omega)⟩
            · rw [hP.1.1.2.1]; exact nI_pos (by omega)
            · rw [hrow _ (by omega)]; exact hZ s2 k hs hs8 hk
          · rw [if_neg h6, if_pos (e30.mpr h6)]; exact IN_no (by decide)
        · rw [if_neg h4, if_neg h4]; exact IN_no (by decide)
      · rw [if_neg h3, if_neg h3]; exact IN_no (by decide)
    · rw [if_neg h2, if_neg h2]; exact IN_no (by decide)
  · rw [if_neg h1, if_neg h1]; exact IN_no (by decide)
def m_noDrop (m : MD) (p : Int32) : Int32 := if r_isP (m_row m) p then 0 else -1
theorem in_drop {B : Nat} {e : ED} {m : MD} (h : RN B (e_now e) m) (p : Int32) : IN B e m (e_dropi e p) (m_noDrop m p) m (m_doDrop m p) := by
  have hH := h.1
  obtain ⟨hA, hS, hZ, hL, hW, hP⟩ := id hH
  unfold e_dropi m_noDrop
  rw [HH_isP hH p]
  by_cases h1 : p_has (h_pl (e_now e)) p = true
  · rw [if_pos h1, if_pos h1]
    have h30 := hP.1.1.2.2
    have hp := p_has_in h1 hP.1.1.2
    obtain ⟨x, hx⟩ : ∃ x, x = zn32 p := ⟨_, rfl⟩
    have hxN : x < zn32 (p_num (h_pl (e_now e))) := by rw [hx]; exact hp.2.1
    have hk : p_kk (h_pl (e_now e)) (p_sfate (h_pl (e_now e)) (upd (p_fate (h_pl (e_now e))) x 2)) := ⟨rfl, rfl, rfl, rfl, rfl, rfl, rfl, rfl⟩
    have hfu : p_fate (p_sfate (h_pl (e_now e)) (upd (p_fate (h_pl (e_now e))) x 2)) = upd (p_fate (h_pl (e_now e))) x 2 := rfl
    have hPx := HPc_kk hP.1 hk
    have ee : e_prem (e_fate2 e p) = e_snow e (h_spl (e_now e) (p_rem (p_sfate (h_pl (e_now e)) (upd (p_fate (h_pl (e_now e))) x 2)))) := by rw [hx]; rfl
    have eg : m_row (m_go m x 1) = m_row m ∧ m_gone (m_go m x 1) = upd (m_gone m) x 1 ∧ m_seen (m_go m x 1) = m_seen m ∧ m_wat (m_go m x 1) = m_wat m ∧ m_kk m (m_go m x 1) := ⟨rfl, rfl, rfl, rfl, m_kk.gone m _⟩
    unfold m_doDrop
    rw [ee, ← hx]
    generalize p_sfate (h_pl (e_now e)) (upd (p_fate (h_pl (e_now e))) x 2) = P1 at hk hfu hPx ⊢
    generalize m_go m x 1 = m1 at eg ⊢
    obtain ⟨g1, g2, g3, g4, g5⟩ := eg
    have hP1 : HPc (zn32 (h_cnt (e_now e))) (B + 2000) P1 (m_row m1) := by rw [g1]; exact hPx
    have R := HP_rem hP1 (fun q hq => by
      rw [g2, hfu]
      by_cases ge : q = x
      · subst ge; rw [pk_us, pk_us]; exact ⟨fun z => absurd z (by decide), fun z => absurd z (by decide)⟩
      · rw [pk_un ge, pk_un ge]
        have hq2 : q < zn32 (p_num (h_pl (e_now e))) := by rw [← hk.1]; exact hq
        exact ⟨fun _ => hP.2.1 q hq2, fun _ => (h.2.2.1 q (by omega)).1⟩)
    have hN : zn64 (m_row m1 13) = zn32 (p_num (h_pl (e_now e))) := by rw [HPc_n hP1, hk.1]
    obtain ⟨t1, t2, t3, t4, t5, t6, t7, t8⟩ := m_clear_spec m1 hN h30
    have hW1 := (p_rem_w hP1.1.2).2 (fun q hq => by rw [hk.2.2.2.2.2.2.1, h.2.1]; have := hP1.1.2.2; exact fun z => nI_ne1 (by omega) z.symm)
    generalize p_rem P1 = P2 at R hW1 ⊢
    generalize m_clear m1 = m2 at R t1 t2 t3 t4 t5 t6 t7 t8 ⊢
    have hrow : ∀ j, (j < 334 ∨ 454 ≤ j) → j ≠ 13 → m_row m2 j = m_row m j := fun j h1 h2 => by rw [t3 j h1 h2, g1]
    refine Or.inl ⟨h_spl (e_now e) P2, ?_, rfl, rfl, rfl, ?_, ⟨⟨HA_r (d := h_spl (e_now e) P2) hA (fun j hj => hrow j (by omega) (by omega)), HS_r (d := h_spl (e_now e) P2) hS (fun j hj => hrow j (by omega) (by omega)), fun s2 k hs hs8 hk2 => ?_, HL_r hL (fun j hj => hrow j (by omega) (by omega)), hW, R⟩, ?_, fun q hq => ?_, ?_⟩, g5.tr t5, fun j hj => hrow j (by omega) (by omega)⟩
    · show ¬ p_num P2 < 0
      have := R.1.1.2.2
      rw [R.1.1.2.1]; exact nI_pos (by omega)
    · show (m_row m2 13).toInt32 = p_num P2
      rw [R.1.1.1, q_i]
    · rw [hrow _ (by omega) (by omega)]; exact hZ s2 k hs hs8 hk2
    · exact hW1.2.trans (hk.2.2.2.2.2.2.1.trans h.2.1)
    · have h4 := t4 q
      have h5 := h.2.2.1 q hq
      by_cases gq : q < zn32 (p_num (h_pl (e_now e)))
      · rw [if_pos gq, if_pos gq] at h4; exact h4
      · rw [if_neg gq, if_neg gq, g2, g3, pk_un (by omega)] at h4
        exact ⟨h4.1.trans h5.1, h4.2.trans h5.2⟩
    · rw [t8 (fun q hq => by rw [g4, h.2.2.2]; exact fun z => nI_ne6 (by omega) z.symm), g4]; exact h.2.2.2
  · rw [if_neg h1, if_neg h1]; exact IN_no (by decide)
/-! hours -/
theorem RN_hour {B i : Nat} {d : HD} {m : MD} (hB : B + 3100 < 2 ^ 30) (h : RN B d m) : m_hgood m ∧ RN (B + 1) (h_hstep i d) (m_hour m) ∧ m_kk m (m_hour m) ∧ (∀ j, 454 ≤ j → m_row (m_hour m) j = m_row m j) := by
  have k := HH_hour (i := i) hB h.1 h.2.2.1
  have w := k.2.2.2.2.2.2.1 h.2.1 h.2.2.2
  exact ⟨k.1, ⟨k.2.1, w.1, k.2.2.1, w.2.2.1⟩, k.2.2.2.1, k.2.2.2.2.1⟩
theorem RN_hrs {B : Nat} {d : HD} {m : MD} : ∀ n, B + n + 3100 < 2 ^ 30 → RN B d m → RN (B + n) (h_hrs d n) (m_hrs m n) ∧ m_kk m (m_hrs m n) ∧ (∀ j, 454 ≤ j → m_row (m_hrs m n) j = m_row m j) ∧ (∀ i, i < n → m_hgood (m_hrs m i))
  | 0, _, h => ⟨h, m_kk.rf m, fun _ _ => rfl, fun i hi => absurd hi (Nat.not_lt_zero _)⟩
  | n + 1, hB, h => by
    have ih := RN_hrs n (by omega) h
    have k := RN_hour (i := n) (by omega) ih.1
    refine ⟨k.2.1, ih.2.1.tr k.2.2.1, fun j hj => (k.2.2.2 j hj).trans (ih.2.2.1 j hj), fun i hi => ?_⟩
    by_cases e : i = n
    · subst e; exact k.1
    · exact ih.2.2.2 i (by omega)
def m_noHrs (k : Int32) : Int32 := if z_inl k.toInt64 1 1000 then 0 else -2
theorem in_hrs {B : Nat} {e : ED} {m : MD} (hB : B + 4100 < 2 ^ 30) (h : RN B (e_now e) m) (k : Int32) : IN (B + 1000) e m (e_hrsi e k) (m_noHrs k) m (m_pass m k) ∧ (z_inl k.toInt64 1 1000 = true → ∀ i, i < zn32 k → m_hgood (m_hrs m i)) := by
  unfold e_hrsi m_noHrs h_passr h_pass
  rw [show z_inl k.toInt64 1 1000 = z_in k 1 1000 from z_in_l k 1 1000]
  by_cases h1 : z_in k 1 1000 = true
  · rw [if_pos h1, if_pos h1, if_pos h1]
    have bk := (z_in_b (a := 1) (b := 1000) (by decide) (by decide) h1).1
    have bk2 := bk.2
    have K := RN_hrs (zn32 k) (by omega) h
    refine ⟨Or.inl ⟨_, ?_, rfl, rfl, rfl, ?_, RN_mono K.1 (by omega), K.2.1, K.2.2.1⟩, fun _ => K.2.2.2⟩
    · have hh := K.1.1.1.2.1.2
      have := hh.2
      show ¬ h_hour (h_hrs (e_now e) (zn32 k)) < 0
      rw [hh.1]; exact nI_pos (by omega)
    · show (m_row (m_hrs m (zn32 k)) 8).toInt32 = h_hour (h_hrs (e_now e) (zn32 k))
      rw [K.1.1.1.2.1.1, q_i]
  · rw [if_neg h1, if_neg h1, if_neg h1]
    exact ⟨Or.inr ⟨(by decide : (-2 : Int32) < 0), rfl, Or.inl ⟨rfl, rfl⟩⟩, fun z => absurd z h1⟩
/-! the change is recorded -/
theorem e_fin_f (p : Int32 × ED) : (e_fin p).1 = p.1 ∧ e_now (e_fin p).2 = e_now p.2 ∧ e_his (e_fin p).2 = y_keep (e_his p.2) p.1 ∧ e_sl (e_fin p).2 = e_sl p.2 ∧ e_sav (e_fin p).2 = e_sav p.2 ∧ e_pad (e_fin p).2 = e_pad p.2 ∧ e_rea (e_fin p).2 = e_rea p.2 := ⟨rfl, rfl, rfl, rfl, rfl, rfl, rfl⟩
theorem e_prep_f (e : ED) : e_now (e_prep e) = e_now e ∧ e_his (e_prep e) = y_prep (e_his e) (e_now e) ∧ e_sl (e_prep e) = e_sl e ∧ e_sav (e_prep e) = e_sav e ∧ e_pad (e_prep e) = e_pad e ∧ e_rea (e_prep e) = e_rea e := ⟨rfl, rfl, rfl, rfl, rfl, rfl⟩
theorem e_snow_f (e : ED) (d : HD) : e_now (e_snow e d) = d ∧ e_his (e_snow e d) = e_his e ∧ e_sl (e_snow e d) = e_sl e ∧ e_sav (e_snow e d) = e_sav e ∧ e_pad (e_snow e d) = e_pad e ∧ e_rea (e_snow e d) = e_rea e := ⟨rfl, rfl, rfl, rfl, rfl, rfl⟩
theorem e_srea_f (e : ED) (w : Int32) : e_now (e_srea e w) = e_now e ∧ e_his (e_srea e w) = e_his e ∧ e_sl (e_srea e w) = e_sl e ∧ e_sav (e_srea e w) = e_sav e ∧ e_pad (e_srea e w) = e_pad e ∧ e_rea (e_srea e w) = w := ⟨rfl, rfl, rfl, rfl, rfl, rfl⟩
theorem m_srea_f (m : MD) (w : Int32) : m_row (m_srea m w) = m_row m ∧ m_sts (m_srea m w) = m_sts m ∧ m_sav (m_srea m w) = m_sav m ∧ m_rea (m_srea m w) = w ∧ m_pad (m_srea m w) = m_pad m ∧ m_len (m_srea m w) = m_len m ∧ m_wat (m_srea m w) = m_wat m ∧ m_gone (m_srea m w) = m_gone m ∧ m_seen (m_srea m w) = m_seen m := ⟨rfl, rfl, rfl, rfl, rfl, rfl, rfl, rfl, rfl⟩
/-- a change that counts: e and m at its beginning, E what the class has at its end, m2 what the reference has -/
theorem RR_fin {B B2 : Nat} {e : ED} {m : MD} {v : Int32} {d2 : HD} {m2 : MD} {a : AD} (h : RR B e m) (hv : ¬ v < 0) {E : Int32 × ED} (h1 : E.1 = v) (h2 : e_now E.2 = d2 ∧ e_his E.2 = y_prep (e_his e) (e_now e) ∧ e_sl E.2 = e_sl e ∧ e_sav E.2 = e_sav e ∧ e_pad E.2 = a) (hrea : m_rea m2 = e_rea E.2) (hok : e_ok (e_fin E).2)
    (hN : RN B2 d2 m2) (hB : B ≤ B2) (hsts : m_sts m2 = m_sts (m_rec m)) (hsav : m_sav m2 = m_sav m) (hP : RP a m2) (hrow : ∀ j, 454 ≤ j → m_row m2 j = m_row (m_rec m) j) : RR B2 (e_fin E).2 m2 := by
  obtain ⟨f1, f2, f3, f4, f5, f6, f7⟩ := e_fin_f E
  obtain ⟨hok0, hN0, hI, hSl, hR, hP0⟩ := h
  have hy := hok0.2.2.1
  have hs6 : zok (m_sts m) 6 := by rw [hI.1]; exact hy.2
  refine ⟨hok, by rw [f2, h2.1]; exact hN, ?_, ?_, by rw [f7]; exact hrea, by rw [f6, h2.2.2.2.2]; exact hP⟩
  · rw [f3, h2.2.1, h1]
    have K := RI_mono (RI_rec (v := v) hy hI hN0.1 hv) hB
    exact RI_of K hsts (fun j hj _ => hrow j hj) (y_keep_ok (y := y_prep (e_his e) (e_now e)) hy v).2.2
  · rw [f4, f5, h2.2.2.1, h2.2.2.2.1]
    exact RS_of (RS_mono hSl hB) hsav (fun j hj _ => by rw [hrow j (by omega)]; exact (m_rec_row hs6).1 j (Or.inr hj))
/-- a change that does not count -/
theorem RR_neg {B : Nat} {e : ED} {m m2 : MD} {v : Int32} {E : Int32 × ED} (h : RR B e m) (hv : v < 0) (h1 : E.1 = v) (h2 : e_now E.2 = e_now e ∧ e_his E.2 = y_prep (e_his e) (e_now e) ∧ e_sl E.2 = e_sl e ∧ e_sav E.2 = e_sav e ∧ e_pad E.2 = e_pad e) (hrea : m_rea m2 = e_rea E.2) (hok : e_ok (e_fin E).2)
    (hm : m_row m2 = m_row m ∧ m_sts m2 = m_sts m ∧ m_sav m2 = m_sav m ∧ m_pad m2 = m_pad m ∧ m_len m2 = m_len m ∧ m_wat m2 = m_wat m ∧ m_gone m2 = m_gone m ∧ m_seen m2 = m_seen m) : RR B (e_fin E).2 m2 := by
  obtain ⟨f1, f2, f3, f4, f5, f6, f7⟩ := e_fin_f E
  obtain ⟨hok0, hN0, hI, hSl, hR, hP0⟩ := h
  obtain ⟨a1, a2, a3, a4, a5, a6, a7, a8⟩ := hm
  have hy := hok0.2.2.1
  refine ⟨hok, ?_, ?_, ?_, by rw [f7]; exact hrea, by rw [f6, h2.2.2.2.2]; exact RP_of hP0 a5 a4⟩
  · rw [f2, h2.1]
    exact ⟨by rw [a1]; exact hN0.1, hN0.2.1, fun p hp => by rw [a7, a8]; exact hN0.2.2.1 p hp, a6.trans hN0.2.2.2⟩
  · rw [f3, h2.2.1, h1]
    have e : y_keep (y_prep (e_his e) (e_now e)) v = y_prep (e_his e) (e_now e) := if_pos hv
    rw [e]
    exact RI_of (RI_prep hy hI) a2 (fun j _ _ => by rw [a1]) hy.2.2
  · rw [f4, f5, h2.2.2.1, h2.2.2.2.1]
    exact RS_of hSl a3 (fun j _ _ => by rw [a1])
theorem RR_in {B B2 : Nat} {e : ED} {m : MD} {E : Int32 × ED} {no no2 : Int32} {mno mno2 : MD} {D : MD → Int32 × MD} (h : RR B e m) (hB : B ≤ B2) (h1 : IN B2 (e_prep e) m E no mno (D m)) (h2 : IN B2 (e_prep e) (m_rec m) E no2 mno2 (D (m_rec m))) (hok : e_ok (e_fin E).2) :
    (e_fin E).1 = (if no = 0 then D (m_rec mno) else (no, mno)).1 ∧ RR B2 (e_fin E).2 (if no = 0 then D (m_rec mno) else (no, mno)).2 := by
  have p := e_prep_f e
  obtain ⟨k, -, -⟩ := m_rec_f m
  have hr : m_rea m = e_rea e := h.2.2.2.2.1
  have hpd := h.2.2.2.2.2
  rcases h1 with ⟨d2, a1, a2, a3, a4, a5, a6, a7, a8⟩ | ⟨a1, a2, a3⟩
  · rw [if_pos a3, a4]
    rcases h2 with ⟨d3, b1, b2, b3, b4, b5, b6, b7, b8⟩ | ⟨b1, -, -⟩
    · refine ⟨b5.symm, ?_⟩
      have s := e_snow_f (e_prep e) d3
      generalize D (m_rec m) = X at b5 b6 b7 b8 ⊢
      obtain ⟨c1, c2, c3, c4, c5, c6, c7, c8⟩ := b7
      refine RR_fin (a := e_pad e) h b1 rfl ⟨by rw [b2]; exact s.1, by rw [b2]; exact s.2.1.trans p.2.1, by rw [b2]; exact s.2.2.1.trans p.2.2.1, by rw [b2]; exact s.2.2.2.1.trans p.2.2.2.1, by rw [b2]; exact s.2.2.2.2.1.trans p.2.2.2.2.1⟩ ?_ hok b6 hB c1 (c2.trans k.1) (RP_of hpd (c5.trans k.2.2.2.1) (c4.trans k.2.2.1)) b8
      rw [b2, s.2.2.2.2.2, p.2.2.2.2.2, c3, k.2.1]; exact hr
    · exact absurd b1 a1
  · have hne : ¬ no = 0 := by rw [← a2]; intro z; rw [z] at a1; exact absurd a1 (by decide)
    rw [if_neg hne]
    refine ⟨a2, ?_⟩
    rcases a3 with ⟨c1, c2⟩ | ⟨w, c1, c2⟩
    · rw [c2]
      refine RR_mono (RR_neg h a1 rfl ⟨by rw [c1]; exact p.1, by rw [c1]; exact p.2.1, by rw [c1]; exact p.2.2.1, by rw [c1]; exact p.2.2.2.1, by rw [c1]; exact p.2.2.2.2.1⟩ ?_ hok ⟨rfl, rfl, rfl, rfl, rfl, rfl, rfl, rfl⟩) hB
      rw [c1, p.2.2.2.2.2]; exact hr
    · rw [c2]
      have s := e_srea_f (e_prep e) w
      have t := m_srea_f m w
      refine RR_mono (RR_neg h a1 rfl ⟨by rw [c1]; exact s.1.trans p.1, by rw [c1]; exact s.2.1.trans p.2.1, by rw [c1]; exact s.2.2.1.trans p.2.2.1, by rw [c1]; exact s.2.2.2.1.trans p.2.2.2.1, by rw [c1]; exact s.2.2.2.2.1.trans p.2.2.2.2.1⟩ ?_ hok ⟨t.1, t.2.1, t.2.2.1, t.2.2.2.2.1, t.2.2.2.2.2.1, t.2.2.2.2.2.2.1, t.2.2.2.2.2.2.2.1, t.2.2.2.2.2.2.2.2⟩) hB
      rw [c1, s.2.2.2.2.2]; exact t.2.2.2.1
