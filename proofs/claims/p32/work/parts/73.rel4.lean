
/-! THE RELATION: a window begun; what is lent; a new service. -/
def HW (d : HD) : Prop := ∀ l, l < zn32 (l_num (h_lo d)) → ¬ l_owe (h_lo d) l ≤ 0 ∧ h_win d < l_due (h_lo d) l
theorem q_s_lt {a : Int32} {n : Nat} (h : zok a n) (hn : n + 1 < 2 ^ 31) : a < a + 1 ∧ zok (a + 1) (n + 1) ∧ (a + 1).toInt64 = a.toInt64 + 1 ∧ zn32 (a + 1) = zn32 a + 1 := by
  have k := q_add h (show zok 1 1 from ⟨by decide, by decide⟩) hn
  have h2 := h.2
  refine ⟨?_, k.2.1, k.1, k.2.2⟩
  have e : a + 1 = nI (zn32 a + 1) := by rw [nI_succ, ← h.1]
  rw [e]
  have := nI_lt (a := zn32 a) (b := zn32 a + 1) (by omega) (by omega)
  rw [← h.1] at this; exact this
theorem q_lt_s {a b : Int32} {n m : Nat} (ha : zok a n) (hb : zok b m) (hn : n + 1 < 2 ^ 31) (hm : m < 2 ^ 31) (h : a < b) : a + 1 ≤ b := by
  have ha2 := ha.2; have hb2 := hb.2
  have e : a + 1 = nI (zn32 a + 1) := by rw [nI_succ, ← ha.1]
  rw [e, hb.1]
  rw [ha.1, hb.1] at h
  have h3 := (nI_ltI (by omega) (by omega)).mp h
  exact nI_le h3 (by omega)
theorem h_dloop_0 (d : HD) : h_dloop d 0 = d := rfl
theorem HH_begin {B : Nat} {d : HD} {r : RW} (hB : B + 11 < 2 ^ 30) (hA : HA B d r) (hw : zok (h_win d + 1) B) (hwl : (h_win d + 1).toInt64 = r 9 + 1) (hS : HS d r) (hZ : HZ (zn32 (h_cnt d)) r) (hL : HL (zn32 (h_cnt d)) (B + 10) (h_lo d) r) (hW : HW d) :
    r_bgood r ∧ HA B (h_due (h_begin d)) (r_begin r) ∧ HS (h_due (h_begin d)) (r_begin r) ∧ HZ (zn32 (h_cnt d)) (r_begin r) ∧ HL (zn32 (h_cnt d)) (B + 10) (h_lo (h_due (h_begin d))) (r_begin r) ∧ HW (h_due (h_begin d)) ∧
    (h_set (h_due (h_begin d)) = h_set d ∧ h_hour (h_due (h_begin d)) = h_hour d ∧ h_cnt (h_due (h_begin d)) = h_cnt d ∧ h_pl (h_due (h_begin d)) = h_pl d) ∧ (∀ j, 334 ≤ j → r_begin r j = r j) ∧ r_begin r 13 = r 13 := by
  have hc8 := hA.2.2.2.2.2.2
  have hcz : zn64 (r 11) = zn32 (h_cnt d) := by rw [hA.2.2.2.2.1]; exact (q_okl hA.2.2.2.2.2 (by decide)).2
  have w := h_bgl_w (h_beg0 d) (zn32 (h_cnt d))
  have kS := HS_begin hA hS (zn32 (h_cnt d)) hc8
  have kx : ∀ j, (j < 14 ∨ 14 + 15 * zn32 (h_cnt d) ≤ j) → r_bwg r (zn32 (h_cnt d)) j = r_bw0 r j := fun j hj => r_bwg_x hj
  have e9 : r_bwg r (zn32 (h_cnt d)) 9 = r 9 + 1 := by
    rw [kx 9 (by omega)]; unfold r_bw0; rw [vp_uLo (by decide)]; exact pk_uLs
  have e10 : r_bwg r (zn32 (h_cnt d)) 10 = r 8 := by
    rw [kx 10 (by omega)]; unfold r_bw0; rw [pk_uLs]; exact vp_uLo (by decide)
  have eo : ∀ j, (j < 14 ∨ 14 + 15 * zn32 (h_cnt d) ≤ j) → j ≠ 9 → j ≠ 10 → r_bwg r (zn32 (h_cnt d)) j = r j := fun j hj h1 h2 => by rw [kx j hj, r_bw0_o ⟨h1, h2⟩]
  have eD : h_begin d = zit h_gstep (h_beg0 d) (zn32 (h_cnt d)) := rfl
  rw [← eD] at kS w
  generalize h_begin d = D at kS w ⊢
  have w1 : h_set D = h_set d := w.1
  have w2 : h_hour D = h_hour d := w.2.1
  have w3 : h_win D = h_win d + 1 := w.2.2.1
  have w4 : h_ws D = h_hour d := w.2.2.2.1
  have w5 : h_cnt D = h_cnt d := w.2.2.2.2.1
  have w6 : h_lo D = h_lo d := w.2.2.2.2.2.1
  have w7 : h_pl D = h_pl d := w.2.2.2.2.2.2
  clear w eD
  generalize hR : r_bwg r (zn32 (h_cnt d)) = R at kS kx e9 e10 eo
  have hlt9 := q_s_lt hA.2.2.1.2 (by omega)
  have hws : zok (h_win d + 1) (B + 10) := zok_mono hw (by omega)
  have hwsl := q_s_lt hw (by omega)
  have hL0 : HL (zn32 (h_cnt d)) (B + 10) (h_lo D) R := by rw [w6]; exact HL_r hL (fun j hj => eo j (by omega) (by omega) (by omega))
  have V0 : HV (zn32 (h_cnt d)) (B + 10) 0 D (h_dloop D 0) R := by
    rw [h_dloop_0]
    refine ⟨kS, hL0, ⟨by rw [e9, w3, hwl], ?_, ?_, ?_⟩, ?_, fun l hl => ⟨fun z => absurd z (Nat.not_lt_zero _), fun _ => ?_⟩, ⟨rfl, rfl, rfl, rfl, rfl, rfl, rfl⟩⟩
    · rw [w3]; exact zok_mono hwsl.2.1 (by omega)
    · rw [w3, e9, hwsl.2.2.1, hwl]
    · rw [w3]; exact hwsl.1
    · rw [eo 4 (by omega) (by decide) (by decide), w1]; exact hA.1 4 (by decide)
    · rw [w6] at hl ⊢
      rw [w3]
      have h1 := hW l hl
      exact ⟨h1.1, q_lt_s hA.2.2.1.2 (hL.2 l hl 4 (by decide)).2 (by omega) (by omega) h1.2⟩
  have V := HV_due hc8 (zn32 (l_num (h_lo D))) 0 40 R (by omega) (by have := hL0.1.2.2; omega) V0
  rw [Nat.zero_add] at V
  have eB : r_begin r = r_clear (r_wloop 40 R) := by unfold r_begin; rw [hcz, hR]
  have eG : r_bgood r = (zokl (r 11) 8 ∧ r_wgood 40 R) := by unfold r_bgood; rw [hcz, hR]
  rw [eB, eG]
  obtain ⟨⟨vS, vL, ⟨v9, v9k, v9s, v9l⟩, v4, vd, vw⟩, vF, vG⟩ := V
  have e11 : zokl (r 11) 8 := by rw [hA.2.2.2.2.1]; exact (q_okl hA.2.2.2.2.2 (by decide)).1
  have eDue : h_due D = h_slo (h_dloop D (zn32 (l_num (h_lo D)))) (l_rem (h_lo (h_dloop D (zn32 (l_num (h_lo D)))))) := rfl
  rw [eDue]
  generalize h_dloop D (zn32 (l_num (h_lo D))) = X at vS vL v9 v9k v9s v9l v4 vd vw ⊢
  have hn40 : zn64 (r_wloop 40 R 12) ≤ 40 := by rw [HL_n vL]; exact vL.1.2.2
  have co : ∀ j, (j < 134 ∨ 334 ≤ j) → j ≠ 12 → r_clear (r_wloop 40 R) j = r_wloop 40 R j := fun j hj h12 => r_clear_o hn40 hj h12
  have cj : ∀ j, (j < 14 ∨ 334 ≤ j) → j ≠ 12 → r_clear (r_wloop 40 R) j = R j := fun j hj h12 => by rw [co j (by omega) h12]; exact vF.1 j hj
  refine ⟨⟨e11, vG⟩, ⟨fun k hk => ?_, ?_, ?_, ?_, ?_⟩, ?_, fun s k hs hs8 hk => ?_, ?_, fun l hl => ⟨?_, ?_⟩, ⟨?_, ?_, ?_, ?_⟩, fun j hj => ?_, ?_⟩
  · show _ = (h_set X k).toInt64 ∧ zok (h_set X k) _
    rw [cj k (by omega) (by omega), vw.1, w1, eo k (by omega) (by omega) (by omega)]; exact hA.1 k hk
  · show _ = (h_hour X).toInt64 ∧ zok (h_hour X) _
    rw [cj 8 (by omega) (by omega), vw.2.1, w2, eo 8 (by omega) (by omega) (by omega)]; exact hA.2.1
  · show _ = (h_win X).toInt64 ∧ zok (h_win X) _
    rw [cj 9 (by omega) (by omega), vw.2.2.1, w3, e9]; exact ⟨hwl.symm, hw⟩
  · show _ = (h_ws X).toInt64 ∧ zok (h_ws X) _
    rw [cj 10 (by omega) (by omega), vw.2.2.2.1, w4, e10]; exact hA.2.1
  · show _ = (h_cnt X).toInt64 ∧ zok (h_cnt X) _
    rw [cj 11 (by omega) (by omega), vw.2.2.2.2.1, w5, eo 11 (by omega) (by omega) (by omega)]; exact hA.2.2.2.2
  · exact HS_r (d := h_slo X (l_rem (h_lo X))) vS (fun j hj => co j (by omega) (by omega))
  · rw [co _ (by omega) (by omega), vF.2 s k hs8 hk hs, eo _ (by omega) (by omega) (by omega)]; exact hZ s k hs hs8 hk
  · exact HL_rem vL
  · exact l_rem_pos vL.1.2 l hl
  · show h_win X < l_at (l_rem (h_lo X)) 4 l
    exact l_rem_all vL.1.2 (c := 4) (Q := fun v => h_win X < v) (fun i hi => (vd i hi).1 (by rw [vw.2.2.2.2.2.2] at hi; exact hi)) l hl
  · exact vw.1.trans w1
  · exact vw.2.1.trans w2
  · exact vw.2.2.2.2.1.trans w5
  · exact vw.2.2.2.2.2.1.trans w7
  · rw [cj j (by omega) (by omega), eo j (by omega) (by omega) (by omega)]
  · rw [cj 13 (by omega) (by omega), eo 13 (by omega) (by omega) (by omega)]
/-! lent -/
theorem HS_lend {c B : Nat} {d : HD} {r : RW} {a b : Nat} {m w : Int32} (hS : HS d r) (hA : HA B d r) (hL : HL c (B + 10) (h_lo d) r) (hc : c ≤ 8) (ha : a < c) (hb : b < c) (hm : zok m 5000) (hm1 : 1 ≤ zn32 m) (hw : zok w 9) (hw1 : 1 ≤ zn32 w) (hn : zn32 (l_num (h_lo d)) < 40) (hB : B + 11 < 2 ^ 30) (hW : HW d) :
    HS (h_lend d (nI a) (nI b) m w) (r_lend r (zn32 (l_num (h_lo d))) (nI a) (nI b) m w) ∧ HL c (B + 10) (h_lo (h_lend d (nI a) (nI b) m w)) (r_lend r (zn32 (l_num (h_lo d))) (nI a) (nI b) m w) ∧ HW (h_lend d (nI a) (nI b) m w) ∧
    (h_set (h_lend d (nI a) (nI b) m w) = h_set d ∧ h_hour (h_lend d (nI a) (nI b) m w) = h_hour d ∧ h_win (h_lend d (nI a) (nI b) m w) = h_win d ∧ h_ws (h_lend d (nI a) (nI b) m w) = h_ws d ∧ h_cnt (h_lend d (nI a) (nI b) m w) = h_cnt d ∧ h_pl (h_lend d (nI a) (nI b) m w) = h_pl d) ∧
    (∀ j, (j < 14 ∨ 334 ≤ j) → j ≠ 12 → r_lend r (zn32 (l_num (h_lo d))) (nI a) (nI b) m w j = r j) ∧ (∀ s k, s < 8 → k < 15 → c ≤ s → r_lend r (zn32 (l_num (h_lo d))) (nI a) (nI b) m w (14 + 15 * s + k) = r (14 + 15 * s + k)) := by
  have za : zn32 (nI a) = a := zn_nI (by omega)
  have zb : zn32 (nI b) = b := zn_nI (by omega)
  obtain ⟨n, hnn⟩ : ∃ n, n = zn32 (l_num (h_lo d)) := ⟨_, rfl⟩
  obtain ⟨R5, hR5⟩ : ∃ R5, R5 = r_ln5 (r_ln4 (r_ln3 r n (nI a) (nI b) m) n m) n w := ⟨_, rfl⟩
  have o5 : ∀ j, j < 134 + 5 * n ∨ 134 + 5 * n + 5 ≤ j → R5 j = r j := by
    intro j hj
    rw [hR5]; unfold r_ln5 r_ln4 r_ln3
    rw [vp_uLo (by omega), vp_uLo (by omega), vp_uLo (by omega), vp_uLo (by omega), vp_uLo (by omega)]
  have eL : r_lend r n (nI a) (nI b) m w = r_change (r_add (r_change (r_add (r_add R5 12 1) (14 + 15 * a + 7 + 5) m.toInt64) a (-m.toInt64)) (14 + 15 * b + 7 + 1) m.toInt64) b m.toInt64 := by
    unfold r_lend r_ln6
    rw [za, zb, ← hR5, q_neg hm (by decide), r_change_add (by omega)]
  have k0 : HS d (r_add R5 12 1) := HS_r hS (fun j hj => by rw [r_add_o (by omega), o5 j (by omega)])
  have k1 := HS_out (w := 5) (m := m.toInt64) k0 (show a < 8 by omega) (by decide) (by decide)
  have k2 := HS_in (w := 1) (m := m.toInt64) k1 (show b < 8 by omega) (by decide)
  have w1 := h_book_w d (nI a) (nI 5) m.toInt64
  have w2 := h_book_w (h_book d (nI a) (nI 5) m.toInt64) (nI b) (nI 1) m.toInt64
  have eX : h_lend d (nI a) (nI b) m w = h_slo (h_book (h_book d (nI a) (nI 5) m.toInt64) (nI b) (nI 1) m.toInt64) (l_add (h_lo (h_book (h_book d (nI a) (nI 5) m.toInt64) (nI b) (nI 1) m.toInt64)) (nI a) (nI b) m (m + m * h_set (h_book (h_book d (nI a) (nI 5) m.toInt64) (nI b) (nI 1) m.toInt64) 2 / 100) (h_win (h_book (h_book d (nI a) (nI 5) m.toInt64) (nI b) (nI 1) m.toInt64) + w)) := rfl
  rw [eX, ← hnn, eL]
  generalize h_book (h_book d (nI a) (nI 5) m.toInt64) (nI b) (nI 1) m.toInt64 = X at k2 w2 ⊢
  have x1 : h_set X = h_set d := w2.1.trans w1.1
  have x2 : h_hour X = h_hour d := w2.2.1.trans w1.2.1
  have x3 : h_win X = h_win d := w2.2.2.1.trans w1.2.2.1
  have x4 : h_ws X = h_ws d := w2.2.2.2.1.trans w1.2.2.2.1
  have x5 : h_cnt X = h_cnt d := w2.2.2.2.2.1.trans w1.2.2.2.2.1
  have x6 : h_lo X = h_lo d := w2.2.2.2.2.2.1.trans w1.2.2.2.2.2.1
  have x7 : h_pl X = h_pl d := w2.2.2.2.2.2.2.1.trans w1.2.2.2.2.2.2.1
  rw [x6, x1, x3]
  have q1 := q_mul hm (hA.1 2 (by decide)).2 (show 5000 * q_cap 2 < 2 ^ 31 by decide) (by decide) (by decide)
  have q2 := q_d100 q1.2.1 (by decide)
  have q3 := q_add hm q2.2.1 (by decide)
  have q4 := q_add hA.2.2.1.2 hw (by omega)
  have oo : ∀ j, (j < 14 ∨ 134 ≤ j) → r_change (r_add (r_change (r_add (r_add R5 12 1) (14 + 15 * a + 7 + 5) m.toInt64) a (-m.toInt64)) (14 + 15 * b + 7 + 1) m.toInt64) b m.toInt64 j = r_add R5 12 1 j := by
    intro j hj
    rw [r_change_x (by omega), r_add_o (by omega), r_change_x (by omega), r_add_o (by omega)]
  have hnl := hL.1.2.2
  have hs := q_s_lt hL.1.2 (by decide)
  refine ⟨HS_r (d := h_slo X _) k2 (fun _ _ => rfl), ?_, fun l hl => ?_, ⟨x1, x2, x3, x4, x5, x7⟩, fun j hj h12 => ?_, fun s k hs8 hk hcs => ?_⟩
  · refine ⟨⟨?_, ?_⟩, fun l hl k hk => ?_⟩
    · rw [oo 12 (by omega)]
      show vp_updL R5 12 (R5 12 + 1) 12 = (l_num (h_lo d) + 1).toInt64
      rw [pk_uLs, o5 12 (by omega), hL.1.1, hs.2.2.1]
    · show zok (l_num (h_lo d) + 1) 40
      refine ⟨hs.2.1.1, by rw [hs.2.2.2]; omega⟩
    · have hl2 : l < n + 1 := by
        have : zn32 (l_num (h_lo d) + 1) = n + 1 := by rw [hs.2.2.2, hnn]
        rw [← this]; exact hl
      rw [oo _ (by omega), r_add_o (by omega)]
      have eat : ∀ k, k < 5 → l_at (l_add (h_lo d) (nI a) (nI b) m (m + m * h_set d 2 / 100) (h_win d + w)) k l = if l = n then (match k with | 0 => nI a | 1 => nI b | 2 => m | 3 => m + m * h_set d 2 / 100 | _ => h_win d + w) else l_at (h_lo d) k l := by
        intro k hk
        by_cases e : l = n
        · rw [if_pos e]
          have e2 : l = zn32 (l_num (h_lo d)) := e.trans hnn
          match k, hk with
          | 0, _ => show upd (l_len (h_lo d)) (zn32 (l_num (h_lo d))) (nI a) l = _; rw [e2, pk_us]; rfl
          | 1, _ => show upd (l_bor (h_lo d)) (zn32 (l_num (h_lo d))) (nI b) l = _; rw [e2, pk_us]; rfl
          | 2, _ => show upd (l_min (h_lo d)) (zn32 (l_num (h_lo d))) m l = _; rw [e2, pk_us]; rfl
          | 3, _ => show upd (l_owe (h_lo d)) (zn32 (l_num (h_lo d))) (m + m * h_set d 2 / 100) l = _; rw [e2, pk_us]; rfl
          | 4, _ => show upd (l_due (h_lo d)) (zn32 (l_num (h_lo d))) (h_win d + w) l = _; rw [e2, pk_us]; rfl
        · rw [if_neg e]
          have e2 : l ≠ zn32 (l_num (h_lo d)) := fun z => e (z.trans hnn.symm)
          match k, hk with
          | 0, _ => exact pk_un e2
          | 1, _ => exact pk_un e2
          | 2, _ => exact pk_un e2
          | 3, _ => exact pk_un e2
          | 4, _ => exact pk_un e2
      show R5 (134 + 5 * l + k) = (l_at (l_add (h_lo d) (nI a) (nI b) m (m + m * h_set d 2 / 100) (h_win d + w)) k l).toInt64 ∧ LC c (B + 10) k (l_at (l_add (h_lo d) (nI a) (nI b) m (m + m * h_set d 2 / 100) (h_win d + w)) k l)
      rw [eat k hk]
      by_cases e : l = n
      · rw [if_pos e, e, hR5]
        unfold r_ln5 r_ln4 r_ln3
        match k, hk with
        | 0, _ => exact ⟨by rw [vp_uLo (by omega), vp_uLo (by omega), vp_uLo (by omega), vp_uLo (by omega), pk_uLs]; rfl, zlt_nI ha (by omega)⟩
        | 1, _ => exact ⟨by rw [vp_uLo (by omega), vp_uLo (by omega), vp_uLo (by omega), pk_uLs]; rfl, zlt_nI hb (by omega)⟩
        | 2, _ => exact ⟨by rw [vp_uLo (by omega), vp_uLo (by omega), pk_uLs]; rfl, hm⟩
        | 3, _ => exact ⟨by show _ = (m + m * h_set d 2 / 100).toInt64; rw [vp_uLo (by omega), pk_uLs, vp_uLo (by omega), vp_uLo (by omega), vp_uLo (by omega), (hA.1 2 (by decide)).1, q3.1, q2.1, q1.1], zok_mono q3.2.1 (by decide)⟩
        | 4, _ => exact ⟨by show _ = (h_win d + w).toInt64; rw [pk_uLs, vp_uLo (by omega), vp_uLo (by omega), vp_uLo (by omega), vp_uLo (by omega), hA.2.2.1.1, q4.1], zok_mono q4.2.1 (by omega)⟩
      · rw [if_neg e, o5 _ (by omega)]
        exact hL.2 l (by omega) k hk
  · have hl2 : l < n + 1 := by
      have : zn32 (l_num (h_lo d) + 1) = n + 1 := by rw [hs.2.2.2, hnn]
      rw [← this]; exact hl
    show ¬ upd (l_owe (h_lo d)) (zn32 (l_num (h_lo d))) (m + m * h_set d 2 / 100) l ≤ 0 ∧ h_win X < upd (l_due (h_lo d)) (zn32 (l_num (h_lo d))) (h_win d + w) l
    rw [← hnn, x3]
    by_cases e : l = n
    · rw [e, pk_us, pk_us]
      refine ⟨?_, ?_⟩
      · have h3 : zn32 (m + m * h_set d 2 / 100) ≤ 5000 + 5000 * 100 / 100 := q3.2.1.2
        rw [q3.2.1.1]; exact nI_nle (by rw [q3.2.2]; omega) (by omega)
      · have h4 := q4.2.1.2
        have h5 := hA.2.2.1.2.2
        have h6 : nI (zn32 (h_win d)) < nI (zn32 (h_win d + w)) := nI_lt (by rw [q4.2.2]; omega) (by omega)
        rw [← hA.2.2.1.2.1, ← q4.2.1.1] at h6; exact h6
    · rw [pk_un e, pk_un e]; exact hW l (by omega)
  · rw [oo j (by omega), r_add_o (by omega), o5 j (by omega)]
  · rw [r_change_x (by omega), r_add_o (by omega), r_change_x (by omega), r_add_o (by omega), r_add_o (by omega), o5 _ (by omega)]
/-! a new service -/
theorem HS_serv {B : Nat} {d : HD} {r : RW} {b : Int32} (hS : HS d r) (hA : HA B d r) (hZ : HZ (zn32 (h_cnt d)) r) (hn : zn32 (h_cnt d) < 8) (hb : zok b 10000) (hb1 : 1 ≤ zn32 b) :
    HS (h_add d b) (r_serv r (zn32 (h_cnt d)) b.toInt64) ∧ (∀ j, (j < 14 + 15 * zn32 (h_cnt d) ∨ 14 + 15 * zn32 (h_cnt d) + 15 ≤ j) → j ≠ 11 → r_serv r (zn32 (h_cnt d)) b.toInt64 j = r j) ∧ r_serv r (zn32 (h_cnt d)) b.toInt64 11 = (h_cnt d + 1).toInt64 ∧
    (h_set (h_add d b) = h_set d ∧ h_hour (h_add d b) = h_hour d ∧ h_win (h_add d b) = h_win d ∧ h_ws (h_add d b) = h_ws d ∧ h_cnt (h_add d b) = h_cnt d + 1 ∧ h_lo (h_add d b) = h_lo d ∧ h_pl (h_add d b) = h_pl d) := by
  obtain ⟨s, hs⟩ : ∃ s, s = zn32 (h_cnt d) := ⟨_, rfl⟩
  have hcs : h_cnt d = nI s := by rw [hs]; exact hA.2.2.2.2.2.1
  have hs8 : s < 8 := by omega
  obtain ⟨v, hv⟩ : ∃ v, v = b.toInt64 := ⟨_, rfl⟩
  have k1 := HS_bud (a := b) (v := v) hS hs8 ⟨hv, hb⟩
  have k2 := HS_exe (a := h_set d 7) (v := r 7) k1 hs8 (hA.1 7 (by decide))
  have k3 : HS (h_scnt (h_sexe (h_sbud d (upd (h_bud d) s b)) (upd (h_exe d) s (h_set d 7))) (nI s + 1)) (vp_updL (vp_updL (vp_updL r (14 + 15 * s + 0) v) (14 + 15 * s + 2) (r 7)) 11 (r 11 + 1)) := HS_r (d := h_scnt (h_sexe (h_sbud d (upd (h_bud d) s b)) (upd (h_exe d) s (h_set d 7))) (nI s + 1)) k2 (fun j hj => vp_uLo (by omega))
  have k4 := HS_in (w := 0) (m := v) k3 hs8 (by decide)
  have eX : h_add d b = h_book (h_scnt (h_sexe (h_sbud d (upd (h_bud d) s b)) (upd (h_exe d) s (h_set d 7))) (nI s + 1)) (nI s) (nI 0) v := by
    unfold h_add; rw [← hs, hcs, hv]; rfl
  have z1 : r (14 + 15 * s + 1) = 0 := hZ s 1 (by omega) hs8 (by decide)
  have z3 : r (14 + 15 * s + 3) = 0 := hZ s 3 (by omega) hs8 (by decide)
  have z7 : r (14 + 15 * s + 7 + 0) = 0 := hZ s 7 (by omega) hs8 (by decide)
  have hb2 := hb.2
  have hv0 : ¬ v ≤ 0 := by
    rw [hv, q_ok hb (by decide), Int64.le_iff_toInt_le, lN_toInt (by omega), show (0 : Int64).toInt = 0 by decide]; omega
  have eR : r_serv r s v = r_change (r_add (vp_updL (vp_updL (vp_updL r (14 + 15 * s + 0) v) (14 + 15 * s + 2) (r 7)) 11 (r 11 + 1)) (14 + 15 * s + 7 + 0) v) s v := by
    have e1 : r_add (r_add (vp_updL (vp_updL (vp_updL r (14 + 15 * s + 0) v) (14 + 15 * s + 2) (r 7)) 11 (r 11 + 1)) (14 + 15 * s + 7 + 0) v) (14 + 15 * s + 1) v = r_serv r s v := by
      funext j
      unfold r_serv r_ex r_sv2 r_add
      by_cases g1 : j = 14 + 15 * s + 1
      · subst g1
        rw [pk_uLs, vp_uLo (by omega), vp_uLo (by omega), vp_uLo (by omega), vp_uLo (by omega), z1, Int64.zero_add]
        rw [vp_uLo (by omega), vp_uLo (by omega), vp_uLo (by omega), pk_uLs]
      · rw [pk_uLn g1]
        by_cases g2 : j = 14 + 15 * s + 7 + 0
        · subst g2
          rw [pk_uLs, vp_uLo (by omega), vp_uLo (by omega), vp_uLo (by omega), z7, Int64.zero_add]
          rw [vp_uLo (by omega), pk_uLs]
        · rw [pk_uLn g2]
          by_cases g3 : j = 11
          · subst g3
            rw [pk_uLs, pk_uLs, vp_uLo (by omega), vp_uLo (by omega), vp_uLo (by omega), vp_uLo (by omega)]
          · rw [pk_uLn g3, pk_uLn g3, pk_uLn g2]
            by_cases g4 : j = 14 + 15 * s + 2
            · subst g4
              rw [pk_uLs, pk_uLs, vp_uLo (by omega), vp_uLo (by omega)]
            · rw [pk_uLn g4, pk_uLn g4, pk_uLn g1]
    unfold r_change
    rw [e1]
    have f1 : r_left (r_serv r s v) s = v := by
      rw [← e1]; show r_add _ _ _ _ = v
      unfold r_add
      rw [pk_uLs, vp_uLo (by omega), vp_uLo (by omega), vp_uLo (by omega), vp_uLo (by omega), z1, Int64.zero_add]
    have f3 : r_serv r s v (14 + 15 * s + 3) = 0 := by
      rw [← e1, r_add_o (by omega), r_add_o (by omega), vp_uLo (by omega), vp_uLo (by omega), vp_uLo (by omega), z3]
    unfold r_sett
    rw [f1, if_neg hv0]
    split
    · rfl
    · funext j
      by_cases g : j = 14 + 15 * s + 3
      · subst g; rw [pk_uLs, f3]
      · rw [pk_uLn g]
  have w := h_book_w (h_scnt (h_sexe (h_sbud d (upd (h_bud d) s b)) (upd (h_exe d) s (h_set d 7))) (nI s + 1)) (nI s) (nI 0) v
  rw [← hs, ← hv, eX]
  refine ⟨by rw [eR]; exact k4, fun j hj h11 => ?_, ?_, ⟨w.1, w.2.1, w.2.2.1, w.2.2.2.1, ?_, w.2.2.2.2.2.1, w.2.2.2.2.2.2.1⟩⟩
  · rw [eR, r_change_x (by omega), r_add_o (by omega), pk_uLn h11, vp_uLo (by omega), vp_uLo (by omega)]
  · rw [eR, r_change_x (by omega), r_add_o (by omega), pk_uLs, hA.2.2.2.2.1, (q_s_lt hA.2.2.2.2.2 (by decide)).2.2.1]
  · rw [w.2.2.2.2.1, hcs]; rfl
