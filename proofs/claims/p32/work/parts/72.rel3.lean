
/-! THE RELATION: a window begins. -/
def q_cap (k : Nat) : Nat := ([720, 100, 100, 100, 100, 300, 10, 9] : List Nat).getD k 0
def HA (B : Nat) (d : HD) (r : RW) : Prop := (∀ k, k < 8 → r k = (h_set d k).toInt64 ∧ zok (h_set d k) (q_cap k)) ∧ (r 8 = (h_hour d).toInt64 ∧ zok (h_hour d) B) ∧ (r 9 = (h_win d).toInt64 ∧ zok (h_win d) B) ∧ (r 10 = (h_ws d).toInt64 ∧ zok (h_ws d) B) ∧ (r 11 = (h_cnt d).toInt64 ∧ zok (h_cnt d) 8)
def HZ (c : Nat) (r : RW) : Prop := ∀ s k, c ≤ s → s < 8 → k < 15 → r (14 + 15 * s + k) = 0
theorem HA_r {B : Nat} {d : HD} {r r2 : RW} (h : HA B d r) (e : ∀ j, j < 12 → r2 j = r j) : HA B d r2 := by
  obtain ⟨h1, h2, h3, h4, h5⟩ := h
  refine ⟨fun k hk => by rw [e k (by omega)]; exact h1 k hk, by rw [e 8 (by decide)]; exact h2, by rw [e 9 (by decide)]; exact h3, by rw [e 10 (by decide)]; exact h4, by rw [e 11 (by decide)]; exact h5⟩
theorem HA_d {B : Nat} {d d2 : HD} {r : RW} (h : HA B d r) (e1 : h_set d2 = h_set d) (e2 : h_hour d2 = h_hour d) (e3 : h_win d2 = h_win d) (e4 : h_ws d2 = h_ws d) (e5 : h_cnt d2 = h_cnt d) : HA B d2 r := by
  unfold HA; rw [e1, e2, e3, e4, e5]; exact h
theorem HA_mono {B B2 : Nat} {d : HD} {r : RW} (h : HA B d r) (hB : B ≤ B2) : HA B2 d r :=
  ⟨h.1, ⟨h.2.1.1, zok_mono h.2.1.2 hB⟩, ⟨h.2.2.1.1, zok_mono h.2.2.1.2 hB⟩, ⟨h.2.2.2.1.1, zok_mono h.2.2.2.1.2 hB⟩, h.2.2.2.2⟩
theorem h_book_w (d : HD) (s w : Int32) (m : Int64) : h_set (h_book d s w m) = h_set d ∧ h_hour (h_book d s w m) = h_hour d ∧ h_win (h_book d s w m) = h_win d ∧ h_ws (h_book d s w m) = h_ws d ∧ h_cnt (h_book d s w m) = h_cnt d ∧ h_lo (h_book d s w m) = h_lo d ∧ h_pl (h_book d s w m) = h_pl d ∧ h_bud (h_book d s w m) = h_bud d := by
  unfold h_book h_sett h_enter
  repeat' split
  all_goals exact ⟨rfl, rfl, rfl, rfl, rfl, rfl, rfl, rfl⟩
theorem q_laps {d : HD} {r : RW} {s : Nat} (hS : HS d r) (hs : s < 8) (h1 : r 1 = (h_set d 1).toInt64) : h_left0 d (nI s) - h_carry d s (h_left0 d (nI s)) = r_laps r s := by
  have hb := (hS.2.2 s hs).1
  have hb2 := hb.2.2
  have hz : (0 : Int64).toInt = 0 := by decide
  have hbn : ¬ (h_bud d s).toInt64 < 0 := by
    rw [q_ok hb.2 (by decide), Int64.lt_iff_toInt_lt, lN_toInt (by omega), hz]; omega
  unfold h_left0 r_laps h_carry r_some
  rw [HS_mo hS hs, hb.1, h1]
  by_cases h : r_left r s ≤ 0
  · rw [if_pos h]
    have e : (if r_left r s < 0 then 0 else r_left r s) = 0 := by
      split
      · rfl
      · rename_i z
        rw [Int64.le_iff_toInt_le, hz] at h
        rw [Int64.lt_iff_toInt_lt, hz] at z
        exact Int64.toInt_inj.mp (by rw [hz]; omega)
    rw [e, if_neg hbn, Int64.zero_mul]; rfl
  · rw [if_neg h]
    have e : (if r_left r s < 0 then 0 else r_left r s) = r_left r s := by
      rw [if_neg]
      intro z
      rw [Int64.le_iff_toInt_le, hz] at h
      rw [Int64.lt_iff_toInt_lt, hz] at z
      omega
    rw [e]
    have e2 : (if (h_bud d s).toInt64 < r_left r s then (h_bud d s).toInt64 else r_left r s) = (if r_left r s < (h_bud d s).toInt64 then r_left r s else (h_bud d s).toInt64) := by
      simp only [Int64.lt_iff_toInt_lt]
      by_cases g1 : (h_bud d s).toInt64.toInt < (r_left r s).toInt
      · rw [if_pos g1, if_neg (by omega)]
      · rw [if_neg g1]
        by_cases g2 : (r_left r s).toInt < (h_bud d s).toInt64.toInt
        · rw [if_pos g2]
        · rw [if_neg g2]; exact Int64.toInt_inj.mp (by omega)
    rw [e2]
theorem HS_gstep {d : HD} {r : RW} {s : Nat} (hS : HS d r) (hs : s < 8) (h1 : r 1 = (h_set d 1).toInt64) (h7 : r 7 = (h_set d 7).toInt64 ∧ zok (h_set d 7) 9) : HS (h_gstep s d) (r_grant r s) := by
  have hv := q_laps hS hs h1
  have hb := (hS.2.2 s hs).1
  obtain ⟨V, hV⟩ : ∃ V, V = r_laps r s := ⟨_, rfl⟩
  obtain ⟨b, hbv⟩ : ∃ b, b = (h_bud d s).toInt64 := ⟨_, rfl⟩
  have e1 : h_gr1 d s = h_ac (h_ac d (nI s) 7 V) (nI s) 8 (-V) := by
    unfold h_gr1 h_enter
    rw [if_neg (by decide), hv, ← hV]
  have k1 : HS (h_ac d (nI s) 7 V) (r_add r (14 + 15 * s + 7 + 7) V) := HS_ac (w := 7) hS hs (by decide)
  have k2 := HS_ac8 (m := -V) k1 hs
  have k3 := HS_in (w := 0) (m := b) k2 hs (by decide)
  rw [← e1] at k3
  have e2 : h_gr2 (h_gr1 d s) s = h_book (h_gr1 d s) (nI s) (nI 0) b := by
    unfold h_gr2
    rw [show h_bud (h_gr1 d s) = h_bud d by rw [e1]; rfl, ← hbv]; rfl
  rw [← e2] at k3
  have e3 : h_set (h_gr2 (h_gr1 d s) s) = h_set d := by
    rw [e2, (h_book_w _ _ _ _).1, e1]; rfl
  have k4 := HS_exe (a := h_set (h_gr2 (h_gr1 d s) s) 7) (v := r 7) k3 hs (by rw [e3]; exact h7)
  have e4 : h_gstep s d = h_sexe (h_gr2 (h_gr1 d s) s) (upd (h_exe (h_gr2 (h_gr1 d s) s)) s (h_set (h_gr2 (h_gr1 d s) s) 7)) := rfl
  rw [e4]
  have e5 : r_grant r s = vp_updL (r_change (r_add (r_add (r_add r (14 + 15 * s + 7 + 7) V) (14 + 15 * s + 1) (-V)) (14 + 15 * s + 7 + 0) b) s b) (14 + 15 * s + 2) (r 7) := by
    unfold r_grant r_grant2 r_ex
    rw [hb.1, ← hbv, ← hV, ← r_change_u (by omega)]
    have e7 : (r_add (r_add r (14 + 15 * s + 7 + 7) V) (14 + 15 * s + 7 + 0) b) 7 = r 7 := by
      rw [r_add_o (by omega), r_add_o (by omega)]
    rw [e7]
    unfold r_change
    congr 1
    funext j
    unfold r_add
    by_cases g : j = 14 + 15 * s + 1
    · subst g
      rw [pk_uLs, pk_uLs, vp_uLo (by omega), vp_uLo (by omega), vp_uLo (by omega), vp_uLo (by omega), vp_uLo (by omega), pk_uLs]
      rw [Int64.sub_eq_add_neg, Int64.add_assoc, Int64.add_comm b (-V)]
    · rw [pk_uLn g, pk_uLn g]
      by_cases g2 : j = 14 + 15 * s + 2
      · subst g2; rw [pk_uLs, pk_uLs]
      · rw [pk_uLn g2, pk_uLn g2]
        by_cases g3 : j = 14 + 15 * s + 7 + 0
        · subst g3
          rw [pk_uLs, pk_uLs, vp_uLo (by omega), vp_uLo (by omega)]
          rw [vp_uLo (by omega)]
        · rw [pk_uLn g3, pk_uLn g3, pk_uLn g]
  rw [e5]; exact k4
theorem r_grant_x {r : RW} {s j : Nat} (h : j < 14 + 15 * s ∨ 14 + 15 * s + 15 ≤ j) : r_grant r s j = r j := by
  unfold r_grant r_grant2 r_ex
  rw [r_change_x (by omega), vp_uLo (by omega), r_add_o (by omega), r_add_o (by omega)]
theorem h_sexe_w (d : HD) (v : Nat → Int32) : h_set (h_sexe d v) = h_set d ∧ h_hour (h_sexe d v) = h_hour d ∧ h_win (h_sexe d v) = h_win d ∧ h_ws (h_sexe d v) = h_ws d ∧ h_cnt (h_sexe d v) = h_cnt d ∧ h_lo (h_sexe d v) = h_lo d ∧ h_pl (h_sexe d v) = h_pl d := ⟨rfl, rfl, rfl, rfl, rfl, rfl, rfl⟩
theorem h_gr1_w (d : HD) (s : Nat) : h_set (h_gr1 d s) = h_set d ∧ h_hour (h_gr1 d s) = h_hour d ∧ h_win (h_gr1 d s) = h_win d ∧ h_ws (h_gr1 d s) = h_ws d ∧ h_cnt (h_gr1 d s) = h_cnt d ∧ h_lo (h_gr1 d s) = h_lo d ∧ h_pl (h_gr1 d s) = h_pl d := by
  unfold h_gr1 h_enter; split <;> exact ⟨rfl, rfl, rfl, rfl, rfl, rfl, rfl⟩
theorem h_gr2_w (d : HD) (s : Nat) : h_set (h_gr2 d s) = h_set d ∧ h_hour (h_gr2 d s) = h_hour d ∧ h_win (h_gr2 d s) = h_win d ∧ h_ws (h_gr2 d s) = h_ws d ∧ h_cnt (h_gr2 d s) = h_cnt d ∧ h_lo (h_gr2 d s) = h_lo d ∧ h_pl (h_gr2 d s) = h_pl d := by
  have k := h_book_w d (nI s) 0 (h_bud d s).toInt64
  exact ⟨k.1, k.2.1, k.2.2.1, k.2.2.2.1, k.2.2.2.2.1, k.2.2.2.2.2.1, k.2.2.2.2.2.2.1⟩
theorem h_gr3_w (d : HD) (s : Nat) : h_set (h_gr3 d s) = h_set d ∧ h_hour (h_gr3 d s) = h_hour d ∧ h_win (h_gr3 d s) = h_win d ∧ h_ws (h_gr3 d s) = h_ws d ∧ h_cnt (h_gr3 d s) = h_cnt d ∧ h_lo (h_gr3 d s) = h_lo d ∧ h_pl (h_gr3 d s) = h_pl d := h_sexe_w d _
theorem h_gstep_w (s : Nat) (d : HD) : h_set (h_gstep s d) = h_set d ∧ h_hour (h_gstep s d) = h_hour d ∧ h_win (h_gstep s d) = h_win d ∧ h_ws (h_gstep s d) = h_ws d ∧ h_cnt (h_gstep s d) = h_cnt d ∧ h_lo (h_gstep s d) = h_lo d ∧ h_pl (h_gstep s d) = h_pl d := by
  obtain ⟨a1, a2, a3, a4, a5, a6, a7⟩ := h_gr1_w d s
  obtain ⟨b1, b2, b3, b4, b5, b6, b7⟩ := h_gr2_w (h_gr1 d s) s
  obtain ⟨c1, c2, c3, c4, c5, c6, c7⟩ := h_gr3_w (h_gr2 (h_gr1 d s) s) s
  unfold h_gstep
  exact ⟨c1.trans (b1.trans a1), c2.trans (b2.trans a2), c3.trans (b3.trans a3), c4.trans (b4.trans a4), c5.trans (b5.trans a5), c6.trans (b6.trans a6), c7.trans (b7.trans a7)⟩
theorem h_bgl_w (d : HD) : ∀ n, h_set (zit h_gstep d n) = h_set d ∧ h_hour (zit h_gstep d n) = h_hour d ∧ h_win (zit h_gstep d n) = h_win d ∧ h_ws (zit h_gstep d n) = h_ws d ∧ h_cnt (zit h_gstep d n) = h_cnt d ∧ h_lo (zit h_gstep d n) = h_lo d ∧ h_pl (zit h_gstep d n) = h_pl d
  | 0 => ⟨rfl, rfl, rfl, rfl, rfl, rfl, rfl⟩
  | n + 1 => by
    have k := h_gstep_w n (zit h_gstep d n)
    have k1 := h_bgl_w d n
    exact ⟨k.1.trans k1.1, k.2.1.trans k1.2.1, k.2.2.1.trans k1.2.2.1, k.2.2.2.1.trans k1.2.2.2.1, k.2.2.2.2.1.trans k1.2.2.2.2.1, k.2.2.2.2.2.1.trans k1.2.2.2.2.2.1, k.2.2.2.2.2.2.trans k1.2.2.2.2.2.2⟩
theorem r_bw0_o {r : RW} {j : Nat} (h : j ≠ 9 ∧ j ≠ 10) : r_bw0 r j = r j := by
  unfold r_bw0; rw [pk_uLn h.2]; exact pk_uLn h.1
theorem r_bwg_x {r : RW} {j : Nat} : ∀ {n : Nat}, (j < 14 ∨ 14 + 15 * n ≤ j) → r_bwg r n j = r_bw0 r j
  | 0, _ => rfl
  | n + 1, h => by
    show r_grant (r_bwg r n) n j = _
    rw [r_grant_x (by omega)]; exact r_bwg_x (n := n) (by omega)
theorem HS_begin {B : Nat} {d : HD} {r : RW} (hA : HA B d r) (hS : HS d r) : ∀ n, n ≤ 8 → HS (zit h_gstep (h_beg0 d) n) (r_bwg r n)
  | 0, _ => HS_r (d := h_beg0 d) hS (fun j hj => r_bw0_o (by omega))
  | n + 1, h => by
    have ih := HS_begin hA hS n (by omega)
    have w := h_bgl_w (h_beg0 d) n
    refine HS_gstep ih (by omega) ?_ ?_
    · show r_bwg r n 1 = _
      rw [r_bwg_x (Or.inl (by decide)), r_bw0_o (by decide), w.1]; exact (hA.1 1 (by decide)).1
    · show r_bwg r n 7 = _ ∧ _
      rw [r_bwg_x (Or.inl (by decide)), r_bw0_o (by decide), w.1]; exact hA.1 7 (by decide)
/-! the loan that is due next -/
def r_may (r : RW) (l : Nat) : Prop := ¬ r (134 + 5 * l + 3) ≤ 0 ∧ r (134 + 5 * l + 4) ≤ r 9
theorem r_nlstep_n {r : RW} {i : Nat} {b : Int32} (h : ¬ r_may r i) : r_nlstep r i b = b := by
  unfold r_nlstep
  split
  · rfl
  · rename_i h1
    split
    · rename_i h2; exact absurd ⟨h1, h2⟩ h
    · rfl
theorem r_nl_none {r : RW} : ∀ {n : Nat}, (∀ l, l < n → ¬ r_may r l) → zit (r_nlstep r) (-6) n = -6
  | 0, _ => rfl
  | n + 1, h => by
    show r_nlstep r n (zit (r_nlstep r) (-6) n) = -6
    rw [r_nlstep_n (h n (Nat.lt_succ_self n))]; exact r_nl_none (fun l hl => h l (Nat.lt_succ_of_lt hl))
theorem nI_ne6 {n : Nat} (h : n < 2 ^ 31) : ¬ nI n = -6 := by
  intro e
  have := congrArg Int32.toInt e
  rw [nI_toInt h, show (-6 : Int32).toInt = -6 by decide] at this
  omega
theorem r_nl_first {r : RW} {p : Nat} (hp : r_may r p) (hp31 : p < 2 ^ 31) (hb : ∀ l, l < p → ¬ r_may r l) : ∀ n, p < n → (∀ l, l < n → r_may r l → r (134 + 5 * l + 4) = r (134 + 5 * p + 4)) → zit (r_nlstep r) (-6) n = nI p
  | 0, h, _ => absurd h (Nat.not_lt_zero _)
  | n + 1, h, hd => by
    show r_nlstep r n (zit (r_nlstep r) (-6) n) = nI p
    by_cases e : n = p
    · subst e
      rw [r_nl_none hb]
      unfold r_nlstep
      rw [if_neg hp.1, if_pos hp.2, if_pos rfl]
    · rw [r_nl_first hp hp31 hb n (by omega) (fun l hl => hd l (Nat.lt_succ_of_lt hl))]
      by_cases hm : r_may r n
      · unfold r_nlstep
        rw [if_neg hm.1, if_pos hm.2, if_neg (nI_ne6 hp31), zn_nI hp31, hd n (Nat.lt_succ_self n) hm, if_neg (Int64.lt_irrefl)]
      · exact r_nlstep_n hm
/-! the loans that are due are paid, one after the other -/
def HV (c B j : Nat) (d0 d : HD) (r : RW) : Prop := HS d r ∧ HL c B (h_lo d) r ∧ (r 9 = (h_win d).toInt64 ∧ zok (h_win d + 1) B ∧ (h_win d + 1).toInt64 = r 9 + 1 ∧ h_win d < h_win d + 1) ∧ (r 4 = (h_set d 4).toInt64 ∧ zok (h_set d 4) 100) ∧
  (∀ l, l < zn32 (l_num (h_lo d)) → (l < j → h_win d < l_due (h_lo d) l) ∧ (j ≤ l → ¬ l_owe (h_lo d) l ≤ 0 ∧ h_win d ≤ l_due (h_lo d) l)) ∧
  (h_set d = h_set d0 ∧ h_hour d = h_hour d0 ∧ h_win d = h_win d0 ∧ h_ws d = h_ws d0 ∧ h_cnt d = h_cnt d0 ∧ h_pl d = h_pl d0 ∧ l_num (h_lo d) = l_num (h_lo d0))
def HF (c : Nat) (r r2 : RW) : Prop := (∀ j, j < 14 ∨ 334 ≤ j → r2 j = r j) ∧ (∀ s k, s < 8 → k < 15 → c ≤ s → r2 (14 + 15 * s + k) = r (14 + 15 * s + k))
theorem HF.rf (c : Nat) (r : RW) : HF c r r := ⟨fun _ _ => rfl, fun _ _ _ _ _ => rfl⟩
theorem HF.tr {c : Nat} {a b e : RW} (h : HF c a b) (k : HF c b e) : HF c a e := ⟨fun j hj => (k.1 j hj).trans (h.1 j hj), fun s k2 hs hk hc => (k.2 s k2 hs hk hc).trans (h.2 s k2 hs hk hc)⟩
theorem h_pay_w (d : HD) (l : Nat) : h_set (h_pay d l) = h_set d ∧ h_hour (h_pay d l) = h_hour d ∧ h_win (h_pay d l) = h_win d ∧ h_ws (h_pay d l) = h_ws d ∧ h_cnt (h_pay d l) = h_cnt d ∧ h_pl (h_pay d l) = h_pl d ∧ l_num (h_lo (h_pay d l)) = l_num (h_lo d) ∧ l_due (h_lo (h_pay d l)) = l_due (h_lo d) := by
  unfold h_pay
  split
  · exact ⟨rfl, rfl, rfl, rfl, rfl, rfl, rfl, rfl⟩
  · unfold h_pay1
    have k := h_book_w (h_pay2 d l (h_paid d l)) (l_bor (h_lo d) l) 6 (h_paid d l)
    have k2 := h_book_w (h_book (h_pay2 d l (h_paid d l)) (l_bor (h_lo d) l) 6 (h_paid d l)) (l_len (h_lo (h_book (h_pay2 d l (h_paid d l)) (l_bor (h_lo d) l) 6 (h_paid d l))) l) 2 (h_paid d l)
    refine ⟨k2.1.trans k.1, k2.2.1.trans k.2.1, k2.2.2.1.trans k.2.2.1, k2.2.2.2.1.trans k.2.2.2.1, k2.2.2.2.2.1.trans k.2.2.2.2.1, k2.2.2.2.2.2.2.1.trans k.2.2.2.2.2.2.1, ?_, ?_⟩
    · rw [k2.2.2.2.2.2.1, k.2.2.2.2.2.1]; rfl
    · rw [k2.2.2.2.2.2.1, k.2.2.2.2.2.1]; rfl
theorem q_grown {o p : Int32} (ho : zok o 10000000) (hp : zok p 100) : (if o + o * p / 100 < 10000000 then o + o * p / 100 else 10000000).toInt64 = (if o.toInt64 + o.toInt64 * p.toInt64 / 100 < 10000000 then o.toInt64 + o.toInt64 * p.toInt64 / 100 else 10000000) ∧ zok (if o + o * p / 100 < 10000000 then o + o * p / 100 else 10000000) 10000000 := by
  have k1 := q_mul ho hp (by decide) (by decide) (by decide)
  have k2 := q_d100 k1.2.1 (by decide)
  have k3 := q_add ho k2.2.1 (by decide)
  have e : o.toInt64 + o.toInt64 * p.toInt64 / 100 = (o + o * p / 100).toInt64 := by rw [k3.1, k2.1, k1.1]
  rw [e]
  have hl : (o + o * p / 100).toInt64 < 10000000 ↔ o + o * p / 100 < 10000000 := q_lt (o + o * p / 100) 10000000
  by_cases h : o + o * p / 100 < 10000000
  · rw [if_pos h, if_pos (hl.mpr h)]
    refine ⟨rfl, k3.2.1.1, ?_⟩
    rcases Nat.lt_or_ge (zn32 (o + o * p / 100)) 10000000 with z | z
    · exact Nat.le_of_lt z
    · have h4 := k3.2.1.2
      rw [k3.2.1.1, show (10000000 : Int32) = nI 10000000 from rfl] at h
      exact absurd h (nI_nlt z (by omega))
  · rw [if_neg h, if_neg (fun z => h (hl.mp z))]
    exact ⟨rfl, by decide, by decide⟩
theorem HV_step {c B j : Nat} {d0 d : HD} {r : RW} (h : HV c B j d0 d r) (hc : c ≤ 8) (hj : j < zn32 (l_num (h_lo d))) (hdue : l_due (h_lo d) j ≤ h_win d) : HV c B (j + 1) d0 (h_dstep j d) (r_wlstep r j) ∧ HF c r (r_wlstep r j) := by
  obtain ⟨hS, hL, ⟨h9, h9k, h9s, hlt9⟩, h4, hd, hw⟩ := h
  have hn := hL.1.2.2
  have h0 := (hd j hj).2 (Nat.le_refl _)
  have P := HP_pay hS hL hc hj h0.1
  have W := h_pay_w d j
  have e1 : h_dstep j d = h_due2 (h_due1 (h_pay d j) j) j := if_pos hdue
  rw [e1]
  clear e1
  generalize h_pay d j = D at P W ⊢
  have h3 := P.2.1.2 j (by rw [W.2.2.2.2.2.2.1]; exact hj) 3 (by decide)
  have h3a : r_pay r j (134 + 5 * j + 3) = (l_owe (h_lo D) j).toInt64 := h3.1
  have h3k : zok (l_owe (h_lo D) j) 10000000 := h3.2
  have p4 : r_pay r j 4 = (h_set D 4).toInt64 ∧ zok (h_set D 4) 100 := by rw [P.2.2.1 4 (by omega), W.1]; exact h4
  have g := q_grown h3k p4.2
  obtain ⟨a, ha⟩ : ∃ a, a = (if l_owe (h_lo D) j + l_owe (h_lo D) j * h_set D 4 / 100 < 10000000 then l_owe (h_lo D) j + l_owe (h_lo D) j * h_set D 4 / 100 else 10000000) := ⟨_, rfl⟩
  rw [← ha] at g
  have e2 : h_due1 D j = h_slo D (l_sowe (h_lo D) (upd (l_owe (h_lo D)) j a)) := by unfold h_due1; rw [← ha]
  have e3 : r_wl1 (r_pay r j) j = vp_updL (r_pay r j) (134 + 5 * j + 3) a.toInt64 := by
    unfold r_wl1 r_grown; rw [h3a, p4.1, g.1]
  have k1 := HL_owe (l := j) P.2.1 g.2
  rw [← e3] at k1
  have e4 : h_due2 (h_due1 D j) j = h_slo D (l_sdue (l_sowe (h_lo D) (upd (l_owe (h_lo D)) j a)) (upd (l_due (h_lo D)) j (h_win d + 1))) := by
    rw [e2]; unfold h_due2
    rw [show h_win (h_slo D (l_sowe (h_lo D) (upd (l_owe (h_lo D)) j a))) = h_win d from W.2.2.1]; rfl
  have k2 := HL_due (l := j) (a := h_win d + 1) k1 h9k
  have e5 : r_wlstep r j = vp_updL (r_wl1 (r_pay r j) j) (134 + 5 * j + 4) (h_win d + 1).toInt64 := by
    unfold r_wlstep r_wl2
    rw [e3, vp_uLo (by omega), P.2.2.1 9 (by omega), h9s]
  rw [← e5] at k2
  have hx : ∀ i, i < 134 ∨ 334 ≤ i → r_wlstep r j i = r_pay r j i := by
    intro i hi
    rw [e5, vp_uLo (by omega), e3, vp_uLo (by omega)]
  rw [e4]
  refine ⟨⟨?_, k2, ⟨by rw [hx 9 (by omega), P.2.2.1 9 (by omega)]; show r 9 = (h_win D).toInt64; rw [W.2.2.1]; exact h9, by show zok (h_win D + 1) B; rw [W.2.2.1]; exact h9k, ?_, by show h_win D < h_win D + 1; rw [W.2.2.1]; exact hlt9⟩, ?_, fun l hl => ⟨fun hlj => ?_, fun hlj => ?_⟩, ?_⟩, ?_, ?_⟩
  · exact HS_r (d := h_slo D (l_sdue (l_sowe (h_lo D) (upd (l_owe (h_lo D)) j a)) (upd (l_due (h_lo D)) j (h_win d + 1)))) P.1 (fun i hi => hx i (by omega))
  · show (h_win D + 1).toInt64 = _
    rw [W.2.2.1, hx 9 (by omega), P.2.2.1 9 (by omega)]; exact h9s
  · rw [hx 4 (by omega)]; exact p4
  · show h_win D < upd (l_due (h_lo D)) j (h_win d + 1) l
    rw [W.2.2.1]
    by_cases e : l = j
    · subst e; rw [pk_us]
      exact hlt9
    · rw [pk_un e, W.2.2.2.2.2.2.2]
      exact (hd l (by rw [← W.2.2.2.2.2.2.1]; exact hl)).1 (by omega)
  · have e : l ≠ j := by omega
    have := (hd l (by rw [← W.2.2.2.2.2.2.1]; exact hl)).2 (by omega)
    refine ⟨?_, ?_⟩
    · show ¬ upd (l_owe (h_lo D)) j a l ≤ 0
      rw [pk_un e, P.2.2.2.1 l e]; exact this.1
    · show h_win D ≤ upd (l_due (h_lo D)) j (h_win d + 1) l
      rw [pk_un e, W.2.2.1, W.2.2.2.2.2.2.2]; exact this.2
  · exact ⟨W.1.trans hw.1, W.2.1.trans hw.2.1, W.2.2.1.trans hw.2.2.1, W.2.2.2.1.trans hw.2.2.2.1, W.2.2.2.2.1.trans hw.2.2.2.2.1, W.2.2.2.2.2.1.trans hw.2.2.2.2.2.1, W.2.2.2.2.2.2.1.trans hw.2.2.2.2.2.2⟩
  · intro i hi; rw [hx i (by omega)]; exact P.2.2.1 i hi
  · intro s k hs hk hcs; rw [hx _ (by omega)]; exact P.2.2.2.2 s k hs hk hcs

theorem HV_due {c B : Nat} {d0 : HD} (hc : c ≤ 8) : ∀ (n j k : Nat) (r : RW), j + n = zn32 (l_num (h_lo d0)) → n ≤ k → HV c B j d0 (h_dloop d0 j) r → HV c B (j + n) d0 (h_dloop d0 (j + n)) (r_wloop k r) ∧ HF c r (r_wloop k r) ∧ r_wgood k r
  | 0, j, k, r, hj, hk, h => by
    obtain ⟨hS, hL, h9, h4, hd, hw⟩ := id h
    have hnum : zn32 (l_num (h_lo (h_dloop d0 j))) = j := by rw [hw.2.2.2.2.2.2]; omega
    have hnone : r_nextL r = -6 := by
      unfold r_nextL
      refine r_nl_none (fun l hl hm => ?_)
      rw [HL_n hL] at hl
      have h1 := (hd l hl).1 (by omega)
      have h2 := hm.2
      rw [(hL.2 l hl 4 (by decide)).1, h9.1, q_le] at h2
      exact absurd h1 (Int32.not_lt.mpr h2)
    have hok : zokl (r 12) 40 := by rw [hL.1.1]; exact (q_okl hL.1.2 (by decide)).1
    have e : r_wloop k r = r := by
      cases k with
      | zero => rfl
      | succ k => exact if_pos hnone
    rw [e]
    refine ⟨h, HF.rf c r, ?_⟩
    cases k with
    | zero => exact ⟨hok, hnone⟩
    | succ k => exact ⟨hok, fun z => absurd hnone z⟩
  | n + 1, j, k, r, hj, hk, h => by
    obtain ⟨hS, hL, h9, h4, hd, hw⟩ := id h
    have hnum : zn32 (l_num (h_lo (h_dloop d0 j))) = j + (n + 1) := by rw [hw.2.2.2.2.2.2]; omega
    have h40 := hL.1.2.2
    by_cases hdue : l_due (h_lo (h_dloop d0 j)) j ≤ h_win (h_dloop d0 j)
    · obtain ⟨k, rfl⟩ : ∃ k2, k = k2 + 1 := ⟨k - 1, by omega⟩
      have hmay : ∀ l, l < j + (n + 1) → (r_may r l ↔ (j ≤ l ∧ l_due (h_lo (h_dloop d0 j)) l ≤ h_win (h_dloop d0 j))) := by
        intro l hl
        have hl2 : l < zn32 (l_num (h_lo (h_dloop d0 j))) := by omega
        have a3 := (hL.2 l hl2 3 (by decide)).1
        have a4 := (hL.2 l hl2 4 (by decide)).1
        unfold r_may
        rw [a3, a4, h9.1, q_le]
        constructor
        · rintro ⟨z1, z2⟩
          refine ⟨?_, z2⟩
          rcases Nat.lt_or_ge l j with q | q
          · exact absurd ((hd l hl2).1 q) (Int32.not_lt.mpr z2)
          · exact q
        · rintro ⟨z1, z2⟩
          exact ⟨fun z => ((hd l hl2).2 z1).1 ((q_le _ 0).mp z), z2⟩
      have hnext : r_nextL r = nI j := by
        unfold r_nextL
        rw [HL_n hL, hnum]
        refine r_nl_first ((hmay j (by omega)).mpr ⟨Nat.le_refl _, hdue⟩) (by omega) (fun l hl hm => ?_) _ (by omega) (fun l hl hm => ?_)
        · have := ((hmay l (by omega)).mp hm).1; omega
        · have h1 := (hmay l hl).mp hm
          have hl2 : l < zn32 (l_num (h_lo (h_dloop d0 j))) := by omega
          have hj2 : j < zn32 (l_num (h_lo (h_dloop d0 j))) := by omega
          rw [(hL.2 l hl2 4 (by decide)).1, (hL.2 j hj2 4 (by decide)).1]
          have e1 := Int32.le_antisymm h1.2 ((hd l hl2).2 h1.1).2
          have e2 := Int32.le_antisymm hdue ((hd j hj2).2 (Nat.le_refl _)).2
          show (l_due _ l).toInt64 = (l_due _ j).toInt64
          rw [e1, e2]
      have S := HV_step h hc (by omega) hdue
      have ih := HV_due hc n (j + 1) k (r_wlstep r j) (by omega) (by omega) S.1
      have hne : ¬ r_nextL r = -6 := by rw [hnext]; exact nI_ne6 (by omega)
      have hz : zn32 (r_nextL r) = j := by rw [hnext]; exact zn_nI (by omega)
      have e : r_wloop (k + 1) r = r_wloop k (r_wlstep r j) := by
        rw [show r_wloop (k + 1) r = r_wloop k (r_wlstep r (zn32 (r_nextL r))) from if_neg hne, hz]
      rw [e, show j + (n + 1) = j + 1 + n by omega]
      refine ⟨ih.1, S.2.tr ih.2.1, by rw [hL.1.1]; exact (q_okl hL.1.2 (by decide)).1, fun _ => ?_⟩
      rw [hz]
      have b0 := hL.2 j (by omega) 0 (by decide)
      have b1 := hL.2 j (by omega) 1 (by decide)
      refine ⟨?_, ?_, r_wgood_k ih.2.2, ih.2.2⟩
      · rw [b0.1]; exact (q_inl (zlt_mono b0.2 hc) (by decide)).1
      · rw [b1.1]; exact (q_inl (zlt_mono b1.2 hc) (by decide)).1
    · have e1 : h_dloop d0 (j + 1) = h_dloop d0 j := if_neg hdue
      have h2 : HV c B (j + 1) d0 (h_dloop d0 (j + 1)) r := by
        rw [e1]
        refine ⟨hS, hL, h9, h4, fun l hl => ⟨fun hlj => ?_, fun hlj => (hd l hl).2 (by omega)⟩, hw⟩
        by_cases e : l = j
        · subst e; exact Int32.not_le.mp hdue
        · exact (hd l hl).1 (by omega)
      have ih := HV_due hc n (j + 1) k r (by omega) (by omega) h2
      rw [show j + (n + 1) = j + 1 + n by omega]
      exact ih
