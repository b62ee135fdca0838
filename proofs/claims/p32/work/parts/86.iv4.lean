
/-! WHAT ALWAYS HOLDS, over the row: the whole of it, and a new window. -/
def LNk (c : Nat) (r : RW) (l : Nat) : Prop := ∃ a b, a < c ∧ b < c ∧ a ≠ b ∧ r (134 + 5 * l + 0) = lN a ∧ r (134 + 5 * l + 1) = lN b ∧ 0 ≤ (r (134 + 5 * l + 3)).toInt ∧ (r (134 + 5 * l + 3)).toInt ≤ 10000000
def IVl (c : Nat) (r : RW) : Prop := ∃ n, n ≤ 40 ∧ r 12 = lN n ∧ ∀ l, l < n → LNk c r l
def PLk (c : Nat) (r : RW) (p : Nat) : Prop := (∃ s, s < c ∧ r (334 + 4 * p + 0) = lN s) ∧ 0 ≤ (r (334 + 4 * p + 2)).toInt ∧ (r (334 + 4 * p + 2)).toInt ≤ 200
def IVp (c : Nat) (r : RW) : Prop := ∃ n, n ≤ 30 ∧ r 13 = lN n ∧ ∀ p, p < n → PLk c r p
def IVm (F : Nat) (r : RW) : Prop := (r 10).toInt ≤ (r 8).toInt ∧ 0 ≤ (r 8).toInt ∧ (r 8).toInt ≤ (F : Int) ∧ 0 ≤ (r 1).toInt ∧ (r 1).toInt ≤ 100 ∧ 0 ≤ (r 4).toInt ∧ (r 4).toInt ≤ 100
def IV (c F : Nat) (r : RW) : Prop := c ≤ 8 ∧ r 11 = lN c ∧ IVa c F r ∧ IVl c r ∧ IVp c r ∧ IVm F r
theorem LNk_r {c l : Nat} {r r2 : RW} (h : LNk c r l) (e : ∀ k, k < 5 → r2 (134 + 5 * l + k) = r (134 + 5 * l + k)) : LNk c r2 l := by
  unfold LNk; rw [e 0 (by decide), e 1 (by decide), e 3 (by decide)]; exact h
theorem PLk_r {c p : Nat} {r r2 : RW} (h : PLk c r p) (e : ∀ k, k < 4 → r2 (334 + 4 * p + k) = r (334 + 4 * p + k)) : PLk c r2 p := by
  unfold PLk; rw [e 0 (by decide), e 2 (by decide)]; exact h
theorem IVl_r {c : Nat} {r r2 : RW} (h : IVl c r) (e : ∀ j, j = 12 ∨ (134 ≤ j ∧ j < 334) → r2 j = r j) : IVl c r2 := by
  obtain ⟨n, h1, h2, h3⟩ := h
  exact ⟨n, h1, by rw [e 12 (Or.inl rfl)]; exact h2, fun l hl => LNk_r (h3 l hl) (fun k hk => e _ (by omega))⟩
theorem IVp_r {c : Nat} {r r2 : RW} (h : IVp c r) (e : ∀ j, j = 13 ∨ (334 ≤ j ∧ j < 454) → r2 j = r j) : IVp c r2 := by
  obtain ⟨n, h1, h2, h3⟩ := h
  exact ⟨n, h1, by rw [e 13 (Or.inl rfl)]; exact h2, fun p hp => PLk_r (h3 p hp) (fun k hk => e _ (by omega))⟩
theorem IVm_r {F G : Nat} {r r2 : RW} (h : IVm F r) (hG : F ≤ G) (e : ∀ j, j = 1 ∨ j = 4 ∨ j = 8 ∨ j = 10 → r2 j = r j) : IVm G r2 := by
  unfold IVm at *
  rw [e 1 (by omega), e 4 (by omega), e 8 (by omega), e 10 (by omega)]
  exact ⟨h.1, h.2.1, by omega, h.2.2.2⟩
theorem IV_mono {c F G : Nat} {r : RW} (h : IV c F r) (hG : F ≤ G) : IV c G r := ⟨h.1, h.2.1, IVa_mono h.2.2.1 hG, h.2.2.2.1, h.2.2.2.2.1, IVm_r h.2.2.2.2.2 hG (fun _ _ => rfl)⟩
theorem IV_r {c F : Nat} {r r2 : RW} (h : IV c F r) (e : ∀ j, j < 454 → r2 j = r j) : IV c F r2 := by
  obtain ⟨h1, h2, h3, h4, h5, h6⟩ := h
  exact ⟨h1, by rw [e 11 (by decide)]; exact h2, IVa_r h1 h3 (fun s k hs hk _ _ => gA_r (e _ (by omega))), IVl_r h4 (fun j hj => e j (by omega)), IVp_r h5 (fun j hj => e j (by omega)), IVm_r h6 (Nat.le_refl _) (fun j hj => e j (by omega))⟩
/-- only services have changed -/
theorem IV_srv {c F G : Nat} {r r2 : RW} (h : IV c F r) (hG : F ≤ G) (ha : IVa c G r2) (e : ∀ j, j < 14 ∨ 134 ≤ j → r2 j = r j) : IV c G r2 := by
  obtain ⟨h1, h2, h3, h4, h5, h6⟩ := h
  exact ⟨h1, by rw [e 11 (by decide)]; exact h2, ha, IVl_r h4 (fun j hj => e j (by omega)), IVp_r h5 (fun j hj => e j (by omega)), IVm_r h6 hG (fun j hj => e j (by omega))⟩
/-- what a new window leaves -/
def RB (r r2 : RW) : Prop := (∀ j, (j < 9 ∨ j = 11 ∨ j = 13 ∨ 334 ≤ j) → r2 j = r j) ∧ (∀ t, t < 8 → r2 (14 + 15 * t + 4) = r (14 + 15 * t + 4))
theorem RB.rf (r : RW) : RB r r := ⟨fun _ _ => rfl, fun _ _ => rfl⟩
theorem RB.tr {a b d : RW} (h : RB a b) (k : RB b d) : RB a d := ⟨fun j hj => (k.1 j hj).trans (h.1 j hj), fun t ht => (k.2 t ht).trans (h.2 t ht)⟩
theorem IV_rb {c F G : Nat} {r r2 : RW} (h : IV c F r) (hG : F ≤ G) (hb : RB r r2) (ha : IVa c G r2) (hl : IVl c r2) (h10 : (r2 10).toInt ≤ (r2 8).toInt) : IV c G r2 := by
  obtain ⟨h1, h2, h3, h4, h5, h6⟩ := h
  have e := hb.1
  refine ⟨h1, by rw [e 11 (by decide)]; exact h2, ha, hl, IVp_r h5 (fun j hj => e j (by omega)), h10, ?_⟩
  rw [e 8 (by decide), e 1 (by decide), e 4 (by decide)]
  unfold IVm at h6
  exact ⟨h6.2.1, by omega, h6.2.2.2⟩
theorem RB_change {r : RW} {s : Nat} {b : Int64} (hs : s < 8) : RB r (r_change r s b) := ⟨fun j hj => r_change_x (by omega), fun t ht => r_change_x (by omega)⟩
theorem RB_add {r : RW} {s k : Nat} {b : Int64} (hs : s < 8) (hk : k < 15 ∧ k ≠ 4) : RB r (r_add r (14 + 15 * s + k) b) := ⟨fun j hj => r_add_o (by omega), fun t ht => r_add_o (by omega)⟩
theorem RB_upd {r : RW} {i : Nat} {b : Int64} (hi : (134 ≤ i ∧ i < 334) ∨ i = 9 ∨ i = 10 ∨ i = 12) : RB r (vp_updL r i b) := ⟨fun j hj => vp_uLo (by omega), fun t ht => vp_uLo (by omega)⟩
theorem RB_ex {r : RW} {s : Nat} (hs : s < 8) : RB r (r_ex r s) := ⟨fun j hj => vp_uLo (by omega), fun t ht => vp_uLo (by omega)⟩
theorem RB_grant {r : RW} {s : Nat} (hs : s < 8) : RB r (r_grant r s) := by
  unfold r_grant r_grant2
  exact (((RB_add (k := 7 + 7) hs (by decide)).tr (RB_add (k := 7 + 0) hs (by decide))).tr (RB_ex hs)).tr (RB_change hs)
theorem RB_pay {r : RW} {l : Nat} (ha : r_lp r l 0 < 8) (hb : r_lp r l 1 < 8) (hl : l < 40) : RB r (r_pay r l) := by
  have h3 : RB r (r_pay3 r l (r_lp r l 0) (r_lp r l 1) (r_paid r l)) := by
    unfold r_pay3
    exact ((RB_upd (Or.inl (by omega))).tr (RB_add (k := 7 + 6) hb (by decide))).tr (RB_add (k := 7 + 2) ha (by decide))
  unfold r_pay r_pay4
  split
  · exact h3
  · exact (h3.tr (RB_change hb)).tr (RB_change ha)
theorem r_lp_e {r : RW} {l k a : Nat} (h : r (134 + 5 * l + k) = lN a) (ha : a < 8) : r_lp r l k = a := by
  unfold r_lp; rw [h, lN_i]; exact nI_clamp (by omega)
theorem zn64_e {v : Int64} {n : Nat} (h : v = lN n) (hn : n < 2 ^ 31) : zn64 v = n := by rw [h]; exact zn64_lN hn
theorem lN_t {v : Int64} {n : Nat} (h : v = lN n) (hn : n < 2 ^ 31) : v.toInt = (n : Int) := by rw [h]; exact lN_toInt hn
theorem r_can_t (r : RW) (s : Nat) : 0 ≤ (r_can r s).toInt ∧ (0 < (r_can r s).toInt → (r_can r s).toInt ≤ gA r s 1) := by
  have t0 : (0 : Int64).toInt = 0 := by decide
  unfold r_can; split
  · rw [t0]; exact ⟨Int.le_refl _, fun z => absurd z (by decide)⟩
  · rename_i z
    have : ¬ (r_left r s).toInt ≤ 0 := fun y => z (t_le0.mpr y)
    exact ⟨by omega, fun _ => Int.le_refl _⟩
theorem r_paid_t {r : RW} {l : Nat} (h0 : 0 ≤ (r (134 + 5 * l + 3)).toInt) : 0 ≤ (r_paid r l).toInt ∧ (r_paid r l).toInt ≤ (r (134 + 5 * l + 3)).toInt ∧ (0 < (r_paid r l).toInt → (r_paid r l).toInt ≤ gA r (r_lp r l 1) 1) := by
  have k := r_can_t r (r_lp r l 1)
  unfold r_paid; split
  · rename_i z
    have := t_lt.mp z
    exact ⟨h0, Int.le_refl _, fun y => by have := k.2 (by omega); omega⟩
  · rename_i z
    have : ¬ (r (134 + 5 * l + 3)).toInt < (r_can r (r_lp r l 1)).toInt := fun y => z (t_lt.mpr y)
    exact ⟨k.1, by omega, k.2⟩
/-- a loan is paid -/
theorem IV_pay {c F l n : Nat} {r : RW} (hF : F < 1000000000) (h : IV c F r) (hn : r 12 = lN n) (hn40 : n ≤ 40) (hl : l < n) : IV c (F + 1) (r_pay r l) ∧ RB r (r_pay r l) ∧ r_pay r l 10 = r 10 ∧ r_pay r l 12 = r 12 ∧ r_pay r l 9 = r 9 ∧ 0 ≤ (r_pay r l (134 + 5 * l + 3)).toInt ∧ (r_pay r l (134 + 5 * l + 3)).toInt ≤ 10000000 := by
  obtain ⟨h1, h2, h3, ⟨n0, m1, m2, m3⟩, h5, h6⟩ := id h
  have en : n0 = n := by
    have e1 := lN_t m2 (by omega)
    have e2 := lN_t hn (by omega)
    omega
  subst en
  obtain ⟨a, b, ha, hb, hne, ea, eb, o1, o2⟩ := m3 l hl
  have la := r_lp_e ea (by omega)
  have lb := r_lp_e eb (by omega)
  have P := r_paid_t (r := r) (l := l) o1
  rw [lb] at P
  have hRB := RB_pay (r := r) (l := l) (by rw [la]; omega) (by rw [lb]; omega) (by omega)
  by_cases z : r_paid r l = 0
  · rw [r_paid_0 z]
    exact ⟨IV_mono h (Nat.le_succ F), RB.rf r, rfl, rfl, rfl, o1, o2⟩
  · have hp : 0 < (r_paid r l).toInt := by
      rcases Int.lt_or_le 0 (r_paid r l).toInt with y | y
      · exact y
      · exact absurd (t_eq (a := r_paid r l) (b := 0) (by rw [show (0 : Int64).toInt = 0 by decide]; omega)) z
    have hA := IVa_pay (l := l) h1 hF h3 (show a < 8 by omega) (show b < 8 by omega) hne (v := r_paid r l) ⟨hp, by omega⟩ (P.2.2 hp)
    have e0 : r_pay r l = r_pay4 (r_pay3 r l a b (r_paid r l)) a b (r_paid r l) := by unfold r_pay; rw [la, lb]
    have hpn : ¬ r_paid r l ≤ 0 := fun z => by have := t_le0.mp z; omega
    have ex : ∀ j, (j = 12 ∨ j = 10 ∨ j = 9 ∨ (134 ≤ j ∧ j < 334 ∧ j ≠ 134 + 5 * l + 3)) → r_pay r l j = r j := fun j hj => by
      rw [e0]; unfold r_pay4; rw [if_neg hpn, r_change_x (by omega), r_change_x (by omega)]
      unfold r_pay3; rw [r_add_o (by omega), r_add_o (by omega), vp_uLo (by omega)]
    have eo : (r_pay r l (134 + 5 * l + 3)).toInt = (r (134 + 5 * l + 3)).toInt - (r_paid r l).toInt := by
      rw [e0]; unfold r_pay4; rw [if_neg hpn, r_change_x (by omega), r_change_x (by omega)]
      unfold r_pay3; rw [r_add_o (by omega), r_add_o (by omega), vp_uLe rfl]
      exact t_sub (by omega) (by omega)
    rw [← e0] at hA
    refine ⟨IV_rb h (Nat.le_succ F) hRB hA ⟨n0, m1, by rw [ex 12 (by omega)]; exact m2, fun l2 hl2 => ?_⟩ (by rw [ex 10 (by omega), hRB.1 8 (by decide)]; exact h6.1), hRB, ex 10 (by omega), ex 12 (by omega), ex 9 (by omega), by omega, by omega⟩
    by_cases y : l2 = l
    · subst y
      exact ⟨a, b, ha, hb, hne, by rw [ex _ (by omega)]; exact ea, by rw [ex _ (by omega)]; exact eb, by omega, by omega⟩
    · exact LNk_r (m3 l2 hl2) (fun k hk => ex _ (by omega))
theorem r_grown_t {r : RW} {l : Nat} (h0 : 0 ≤ (r (134 + 5 * l + 3)).toInt ∧ (r (134 + 5 * l + 3)).toInt ≤ 10000000) (h4 : 0 ≤ (r 4).toInt ∧ (r 4).toInt ≤ 100) : 0 ≤ (if r_grown r l < 10000000 then r_grown r l else 10000000).toInt ∧ (if r_grown r l < 10000000 then r_grown r l else 10000000).toInt ≤ 10000000 := by
  have p := t_pct h0 h4
  have e : (r_grown r l).toInt = (r (134 + 5 * l + 3)).toInt + (r (134 + 5 * l + 3)).toInt * (r 4).toInt / 100 := by
    unfold r_grown; rw [t_add (by rw [p.1]; omega) (by rw [p.1]; omega), p.1]
  have t : (10000000 : Int64).toInt = 10000000 := by decide
  split
  · rename_i z
    have := t_lt.mp z
    rw [t] at this
    omega
  · rw [t]; omega
theorem IV_wlstep {c F l n : Nat} {r : RW} (hF : F < 1000000000) (h : IV c F r) (hn : r 12 = lN n) (hn40 : n ≤ 40) (hl : l < n) : IV c (F + 1) (r_wlstep r l) ∧ RB r (r_wlstep r l) ∧ r_wlstep r l 12 = r 12 := by
  obtain ⟨p1, p2, p3, p4, p5, p6, p7⟩ := IV_pay hF h hn hn40 hl
  unfold r_wlstep r_wl2 r_wl1
  generalize r_pay r l = x at p1 p2 p3 p4 p5 p6 p7 ⊢
  have g := r_grown_t (r := x) (l := l) ⟨p6, p7⟩ p1.2.2.2.2.2.2.2.2.2.2
  generalize (if r_grown x l < 10000000 then r_grown x l else 10000000) = v at g ⊢
  have hb : RB x (vp_updL (vp_updL x (134 + 5 * l + 3) v) (134 + 5 * l + 4) (vp_updL x (134 + 5 * l + 3) v 9 + 1)) := (RB_upd (Or.inl (by omega))).tr (RB_upd (Or.inl (by omega)))
  refine ⟨?_, p2.tr hb, by rw [vp_uLo (by omega), vp_uLo (by omega)]; exact p4⟩
  obtain ⟨h1, h2, h3, ⟨n0, m1, m2, m3⟩, h5, h6⟩ := id p1
  refine IV_rb p1 (Nat.le_refl _) hb (IVa_r h1 h3 (fun s k hs hk _ _ => by rw [gA_u (by omega), gA_u (by omega)])) ⟨n0, m1, by rw [vp_uLo (by omega), vp_uLo (by omega)]; exact m2, fun l2 hl2 => ?_⟩ (by rw [vp_uLo (by omega), vp_uLo (by omega), vp_uLo (by omega), vp_uLo (by omega)]; exact h6.1)
  by_cases y : l2 = l
  · subst y
    obtain ⟨a, b, ha, hb, hne, ea, eb, o1, o2⟩ := m3 l2 hl2
    refine ⟨a, b, ha, hb, hne, by rw [vp_uLo (by omega), vp_uLo (by omega)]; exact ea, by rw [vp_uLo (by omega), vp_uLo (by omega)]; exact eb, ?_, ?_⟩
    · rw [vp_uLo (by omega), vp_uLe rfl]; exact g.1
    · rw [vp_uLo (by omega), vp_uLe rfl]; exact g.2
  · exact LNk_r (m3 l2 hl2) (fun k hk => by rw [vp_uLo (by omega), vp_uLo (by omega)])
theorem nl_lt {r : RW} : ∀ n, zit (r_nlstep r) (-6) n = -6 ∨ ∃ l, l < n ∧ zit (r_nlstep r) (-6) n = nI l
  | 0 => Or.inl rfl
  | n + 1 => by
    have ih := nl_lt (r := r) n
    have e : zit (r_nlstep r) (-6) (n + 1) = r_nlstep r n (zit (r_nlstep r) (-6) n) := rfl
    rw [e]
    generalize zit (r_nlstep r) (-6) n = b at ih ⊢
    have hb : b = -6 ∨ ∃ l, l < n + 1 ∧ b = nI l := by
      rcases ih with z | ⟨l, h1, h2⟩
      · exact Or.inl z
      · exact Or.inr ⟨l, by omega, h2⟩
    unfold r_nlstep
    split
    · exact hb
    · split
      · split
        · exact Or.inr ⟨n, by omega, rfl⟩
        · split
          · exact Or.inr ⟨n, by omega, rfl⟩
          · exact hb
      · exact hb
theorem IV_wloop {c n : Nat} (hn40 : n ≤ 40) : ∀ (k F : Nat) (r : RW), F + k < 1000000000 → IV c F r → r 12 = lN n → IV c (F + k) (r_wloop k r) ∧ RB r (r_wloop k r) ∧ r_wloop k r 12 = r 12
  | 0, F, r, _, h, _ => ⟨h, RB.rf r, rfl⟩
  | k + 1, F, r, hF, h, hn => by
    by_cases z : r_nextL r = -6
    · have e : r_wloop (k + 1) r = r := if_pos z
      rw [e]; exact ⟨IV_mono h (by omega), RB.rf r, rfl⟩
    · have e : r_wloop (k + 1) r = r_wloop k (r_wlstep r (zn32 (r_nextL r))) := if_neg z
      have hz : zn64 (r 12) = n := zn64_e hn (by omega)
      have q := nl_lt (r := r) n
      have e2 : r_nextL r = zit (r_nlstep r) (-6) n := by unfold r_nextL; rw [hz]
      rw [← e2] at q
      rcases q with q | ⟨l, hl, q⟩
      · exact absurd q z
      · have el : zn32 (r_nextL r) = l := by rw [q]; exact nI_clamp (by omega)
        rw [e, el]
        have s := IV_wlstep (F := F) (by omega) h hn hn40 hl
        have ih := IV_wloop hn40 k (F + 1) (r_wlstep r l) (by omega) s.1 (s.2.2.trans hn)
        exact ⟨by rw [show F + (k + 1) = F + 1 + k by omega]; exact ih.1, s.2.1.tr ih.2.1, ih.2.2.trans s.2.2⟩
theorem IV_bwg {c F : Nat} {r : RW} (hF : F + 8 < 1000000000) (h : IV c F r) : ∀ n, n ≤ c → IV c (F + n) (r_bwg r n) ∧ RB r (r_bwg r n) ∧ r_bwg r n 12 = r 12
  | 0, _ => by
    show IV c (F + 0) (r_bw0 r) ∧ RB r (r_bw0 r) ∧ r_bw0 r 12 = r 12
    have hb : RB r (r_bw0 r) := by
      unfold r_bw0
      exact RB.tr (b := r_add r 9 1) (RB_upd (Or.inr (Or.inl rfl))) (RB_upd (Or.inr (Or.inr (Or.inl rfl))))
    have ho : ∀ j, j ≠ 9 → j ≠ 10 → r_bw0 r j = r j := fun j h9 h10 => by unfold r_bw0; rw [vp_uLo (by omega), r_add_o (by omega)]
    have h10 : r_bw0 r 10 = r 8 := by unfold r_bw0; rw [vp_uLe rfl, r_add_o (by decide)]
    obtain ⟨h1, h2, h3, h4, h5, h6⟩ := id h
    refine ⟨IV_rb h (Nat.le_refl _) hb (IVa_r h1 h3 (fun s k hs hk _ _ => gA_r (ho _ (by omega) (by omega)))) (IVl_r h4 (fun j hj => ho j (by omega) (by omega))) (by rw [h10, ho 8 (by decide) (by decide)]; exact Int.le_refl _), hb, ho 12 (by decide) (by decide)⟩
  | n + 1, hn => by
    obtain ⟨i1, i2, i3⟩ := IV_bwg hF h n (by omega)
    have e : r_bwg r (n + 1) = r_grant (r_bwg r n) n := rfl
    rw [e]
    generalize r_bwg r n = x at i1 i2 i3 ⊢
    have h8 := i1.1
    have A := IVa_grant (s := n) h8 (by omega) i1.2.2.1 (by omega) ⟨i1.2.2.2.2.2.2.2.2.1, i1.2.2.2.2.2.2.2.2.2.1⟩
    have hx : ∀ j, (j < 14 ∨ 134 ≤ j) → r_grant x n j = x j := fun j hj => r_grant_x (by omega)
    have hb := RB_grant (r := x) (s := n) (by omega)
    exact ⟨IV_srv i1 (by omega) A hx, i2.tr hb, (hx 12 (by decide)).trans i3⟩
theorem RB_clear {r : RW} (hn : zn64 (r 12) ≤ 40) : RB r (r_clear r) := ⟨fun j hj => r_clear_o hn (by omega) (by omega), fun t ht => r_clear_o hn (by omega) (by omega)⟩
theorem IV_clear {c F : Nat} {r : RW} (h : IV c F r) : IV c F (r_clear r) ∧ RB r (r_clear r) := by
  obtain ⟨h1, h2, h3, ⟨n, m1, m2, m3⟩, h5, h6⟩ := id h
  have hz : zn64 (r 12) = n := zn64_e m2 (by omega)
  have hb := RB_clear (r := r) (by omega)
  obtain ⟨s1, s2, s3⟩ := r_cloop_spec r n
  have hle := z_ct_le (r_keep r) n
  refine ⟨IV_rb h (Nat.le_refl _) hb (IVa_r h1 h3 (fun s k hs hk _ _ => gA_r (r_clear_o (by omega) (by omega) (by omega)))) ⟨z_ct (r_keep r) n, by omega, ?_, fun l hl => ?_⟩ (by rw [hb.1 8 (by decide), r_clear_o (by omega) (by decide) (by decide)]; exact h6.1), hb⟩
  · unfold r_clear; rw [hz, s1, vp_uLe rfl, nI_l (by omega)]
  · obtain ⟨m, q1, q2, q3⟩ := z_ct_sur hl
    subst q3
    have e : ∀ k, k < 5 → r_clear r (134 + 5 * z_ct (r_keep r) m + k) = r (134 + 5 * m + k) := fun k hk => by
      unfold r_clear; rw [hz, vp_uLo (by omega)]; exact s2 m k q1 hk q2
    have q := m3 m q1
    unfold LNk at q ⊢
    rw [e 0 (by decide), e 1 (by decide), e 3 (by decide)]; exact q
theorem IV_begin {c F : Nat} {r : RW} (hF : F + 48 < 1000000000) (h : IV c F r) : IV c (F + 48) (r_begin r) ∧ RB r (r_begin r) := by
  have h8 := h.1
  have hz : zn64 (r 11) = c := zn64_e h.2.1 (by omega)
  obtain ⟨b1, b2, b3⟩ := IV_bwg (by omega) h c (Nat.le_refl _)
  unfold r_begin
  rw [hz]
  generalize r_bwg r c = x at b1 b2 b3 ⊢
  obtain ⟨n, m1, m2, m3⟩ := id b1.2.2.2.1
  obtain ⟨w1, w2, w3⟩ := IV_wloop m1 40 (F + c) x (by omega) b1 m2
  generalize r_wloop 40 x = y at w1 w2 w3 ⊢
  have k := IV_clear w1
  exact ⟨IV_mono k.1 (by omega), (b2.tr w2).tr k.2⟩
