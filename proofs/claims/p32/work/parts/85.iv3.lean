
/-! WHAT ALWAYS HOLDS, over the row: payments, loans, new services, new windows. -/
theorem RC_k {r : RW} {s k : Nat} {b : Int64} (h : k ≠ 1 ∧ k ≠ 3 ∧ k ≠ 6) : gA (r_change r s b) s k = gA r s k := gA_r (r_change_x (by omega))
theorem RC_o {r : RW} {s t k : Nat} {b : Int64} (hk : k < 15) (hne : t ≠ s) : gA (r_change r s b) t k = gA r t k := gA_r (r_change_x (by omega))
/-- a payment of v minutes from b to a, and the loan's own number -/
theorem IVa_pay {c F a b l : Nat} {r : RW} {v : Int64} (hc : c ≤ 8) (hF : F < 1000000000) (H : IVa c F r) (ha : a < 8) (hb : b < 8) (hne : a ≠ b) (hv : 0 < v.toInt ∧ v.toInt ≤ 10000000) (hle : v.toInt ≤ gA r b 1) : IVa c (F + 1) (r_pay4 (r_pay3 r l a b v) a b v) := by
  have A := H.1 a ha
  have B := H.1 b hb
  have LA := IVs_left A hF
  have LB := IVs_left B hF
  have hp : ¬ v ≤ 0 := fun z => by have := t_le0.mp z; omega
  have e0 : r_pay4 (r_pay3 r l a b v) a b v = r_change (r_change (r_pay3 r l a b v) b (-v)) a v := if_neg hp
  have ob : ∀ k, k ≠ 13 → k < 15 → gA (r_pay3 r l a b v) b k = gA r b k := fun k h1 h2 => by unfold r_pay3; rw [gA_o (by omega), gA_o (by omega), gA_u (by omega)]
  have oa : ∀ k, k ≠ 9 → k < 15 → gA (r_pay3 r l a b v) a k = gA r a k := fun k h1 h2 => by unfold r_pay3; rw [gA_o (by omega), gA_o (by omega), gA_u (by omega)]
  have oo : ∀ t k, t < 8 → k < 15 → t ≠ a → t ≠ b → r_pay3 r l a b v (14 + 15 * t + k) = r (14 + 15 * t + k) := fun t k ht hk h1 h2 => by unfold r_pay3; rw [r_add_o (by omega), r_add_o (by omega), vp_uLo (by omega)]
  have b13 : gA (r_pay3 r l a b v) b 13 = gA r b 13 + v.toInt := by
    unfold r_pay3; rw [gA_o (by omega)]
    have x : IVs F (gA (vp_updL r (134 + 5 * l + 3) (r (134 + 5 * l + 3) - v)) b) := IVs_c B (fun k hk => gA_u (by omega))
    have y := gA_add (k := 13) x hF (Or.inl ⟨by decide, by decide⟩) (v := v) ⟨by omega, by omega⟩
    rw [gA_u (show 134 + 5 * l + 3 ≠ 14 + 15 * b + 13 by omega)] at y; exact y
  have a9 : gA (r_pay3 r l a b v) a 9 = gA r a 9 + v.toInt := by
    unfold r_pay3
    have x : IVs F (gA (r_add (vp_updL r (134 + 5 * l + 3) (r (134 + 5 * l + 3) - v)) (14 + 15 * b + 7 + 6) v) a) := IVs_c A (fun k hk => by rw [gA_o (by omega), gA_u (by omega)])
    have y := gA_add (k := 9) x hF (Or.inl ⟨by decide, by decide⟩) (v := v) ⟨by omega, by omega⟩
    rw [gA_o (show 14 + 15 * b + 7 + 6 ≠ 14 + 15 * a + 9 by omega), gA_u (show 134 + 5 * l + 3 ≠ 14 + 15 * a + 9 by omega)] at y; exact y
  rw [e0]
  generalize r_pay3 r l a b v = x at ob oa oo b13 a9 ⊢
  have hn := t_neg (v := v) (by omega)
  have hl : (x (14 + 15 * b + 1) + -v).toInt = gA r b 1 - v.toInt := by
    have e1 : (x (14 + 15 * b + 1)).toInt = gA r b 1 := ob 1 (by decide) (by decide)
    rw [t_add (by rw [e1, hn]; omega) (by rw [e1, hn]; omega), e1, hn]; omega
  have R := rc_spec (r := x) (s := b) (by rw [ob 3 (by decide) (by decide)]; exact B.2.2.1) (by rw [ob 6 (by decide) (by decide)]; omega) hl
  have oy : ∀ t k, t < 8 → k < 15 → t ≠ b → r_change x b (-v) (14 + 15 * t + k) = x (14 + 15 * t + k) := fun t k ht hk h2 => r_change_x (by omega)
  generalize r_change x b (-v) = y at R oy ⊢
  have ya : ∀ k, k < 15 → gA y a k = gA x a k := fun k hk => gA_r (oy a k ha hk hne)
  have hl2 : (y (14 + 15 * a + 1) + v).toInt = gA r a 1 + v.toInt := by
    have e1 : (y (14 + 15 * a + 1)).toInt = gA r a 1 := (ya 1 (by decide)).trans (oa 1 (by decide) (by decide))
    rw [t_add (by rw [e1]; omega) (by rw [e1]; omega), e1]
  have S := rc_spec (r := y) (s := a) (by rw [ya 3 (by decide), oa 3 (by decide) (by decide)]; exact A.2.2.1) (by rw [ya 6 (by decide), oa 6 (by decide) (by decide)]; omega) hl2
  have oz : ∀ t k, t < 8 → k < 15 → t ≠ a → r_change y a v (14 + 15 * t + k) = y (14 + 15 * t + k) := fun t k ht hk h2 => r_change_x (by omega)
  generalize r_change y a v = z at S oz ⊢
  obtain ⟨q1, q2, q3, q4, q5, q6, q7⟩ := R
  obtain ⟨u1, u2, u3, u4, u5, u6, u7⟩ := S
  rw [ob 6 (by decide) (by decide)] at q5 q6 q7
  rw [ob 3 (by decide) (by decide)] at q7
  rw [ya 6 (by decide), oa 6 (by decide) (by decide)] at u5 u6 u7
  rw [ya 3 (by decide), oa 3 (by decide) (by decide)] at u7
  have zb : ∀ k, k < 15 → gA z b k = gA y b k := fun k hk => gA_r (oz b k hb hk (fun h => hne h.symm))
  have pb : ∀ k, k < 15 → k ≠ 1 → k ≠ 3 → k ≠ 6 → k ≠ 13 → gA z b k = gA r b k := fun k h h1 h3 h6 h13 => by rw [zb k h, q2 k h1 h3 h6, ob k h13 h]
  have pa : ∀ k, k < 15 → k ≠ 1 → k ≠ 3 → k ≠ 6 → k ≠ 9 → gA z a k = gA r a k := fun k h h1 h3 h6 h9 => by rw [u2 k h1 h3 h6, ya k h, oa k h9 h]
  have pb13 : gA z b 13 = gA r b 13 + v.toInt := by rw [zb 13 (by decide), q2 13 (by decide) (by decide) (by decide), b13]
  have pa9 : gA z a 9 = gA r a 9 + v.toInt := by rw [u2 9 (by decide) (by decide) (by decide), ya 9 (by decide), a9]
  rw [← zb 1 (by decide)] at q1
  rw [← zb 3 (by decide)] at q3 q4 q7
  rw [← zb 6 (by decide)] at q5 q6 q7
  have b0 := pb 0 (by decide) (by decide) (by decide) (by decide) (by decide)
  have b4 := pb 4 (by decide) (by decide) (by decide) (by decide) (by decide)
  have b7 := pb 7 (by decide) (by decide) (by decide) (by decide) (by decide)
  have b8 := pb 8 (by decide) (by decide) (by decide) (by decide) (by decide)
  have b9 := pb 9 (by decide) (by decide) (by decide) (by decide) (by decide)
  have b10 := pb 10 (by decide) (by decide) (by decide) (by decide) (by decide)
  have b11 := pb 11 (by decide) (by decide) (by decide) (by decide) (by decide)
  have b12 := pb 12 (by decide) (by decide) (by decide) (by decide) (by decide)
  have b14 := pb 14 (by decide) (by decide) (by decide) (by decide) (by decide)
  have a0 := pa 0 (by decide) (by decide) (by decide) (by decide) (by decide)
  have a4 := pa 4 (by decide) (by decide) (by decide) (by decide) (by decide)
  have a7 := pa 7 (by decide) (by decide) (by decide) (by decide) (by decide)
  have a8 := pa 8 (by decide) (by decide) (by decide) (by decide) (by decide)
  have a10 := pa 10 (by decide) (by decide) (by decide) (by decide) (by decide)
  have a11 := pa 11 (by decide) (by decide) (by decide) (by decide) (by decide)
  have a12 := pa 12 (by decide) (by decide) (by decide) (by decide) (by decide)
  have a13 := pa 13 (by decide) (by decide) (by decide) (by decide) (by decide)
  have a14 := pa 14 (by decide) (by decide) (by decide) (by decide) (by decide)
  have A1 := A.1
  have B1 := B.1
  have A0 := A.2.2.2.2.2.2
  have B0 := B.2.2.2.2.2.2
  refine IVa_two hc H ha hb hne (Nat.le_succ F) (fun t k ht hk h1 h2 => by rw [oz t k ht hk h1, oy t k ht hk h2, oo t k ht hk h1 h2]) ?_ ?_ (fun w => u4 (by omega)) (fun w => q4 (by omega)) (by omega) (by omega)
  · exact IVs_step A (by omega) (by omega) (by omega) (by omega) (by omega) (by omega) (by omega) (by omega) (by omega) (by omega) (by omega) (Or.inl ⟨a12, a13, a14⟩) u3 ⟨u5, u6⟩ u7
  · exact IVs_step B (by omega) (by omega) (by omega) (by omega) (by omega) (by omega) (by omega) (by omega) (by omega) (by omega) (by omega) (Or.inr (by omega)) q3 ⟨q5, q6⟩ q7
/-- v minutes are lent by a to b -/
theorem IVa_lend {c F a b : Nat} {r x : RW} {v nv : Int64} (hc : c ≤ 8) (hF : F < 1000000000) (H : IVa c F r) (ha : a < 8) (hb : b < 8) (hne : a ≠ b) (hv : 0 < v.toInt ∧ v.toInt ≤ 10000000) (hnv : nv.toInt = -v.toInt) (hle : v.toInt ≤ gA r a 1)
    (oa : ∀ k, k < 15 → k ≠ 12 → gA x a k = gA r a k) (ob : ∀ k, k < 15 → k ≠ 8 → gA x b k = gA r b k) (oo : ∀ t k, t < 8 → k < 15 → t ≠ a → t ≠ b → x (14 + 15 * t + k) = r (14 + 15 * t + k)) (a12 : gA x a 12 = gA r a 12 + v.toInt) (b8 : gA x b 8 = gA r b 8 + v.toInt) :
    IVa c (F + 1) (r_change (r_change x a nv) b v) := by
  have A := H.1 a ha
  have B := H.1 b hb
  have LA := IVs_left A hF
  have LB := IVs_left B hF
  have hl : (x (14 + 15 * a + 1) + nv).toInt = gA r a 1 - v.toInt := by
    have e1 : (x (14 + 15 * a + 1)).toInt = gA r a 1 := oa 1 (by decide) (by decide)
    rw [t_add (by rw [e1, hnv]; omega) (by rw [e1, hnv]; omega), e1, hnv]; omega
  have R := rc_spec (r := x) (s := a) (by rw [oa 3 (by decide) (by decide)]; exact A.2.2.1) (by rw [oa 6 (by decide) (by decide)]; omega) hl
  have oy : ∀ t k, t < 8 → k < 15 → t ≠ a → r_change x a nv (14 + 15 * t + k) = x (14 + 15 * t + k) := fun t k ht hk h2 => r_change_x (by omega)
  generalize r_change x a nv = y at R oy ⊢
  have yb : ∀ k, k < 15 → gA y b k = gA x b k := fun k hk => gA_r (oy b k hb hk (fun h => hne h.symm))
  have hl2 : (y (14 + 15 * b + 1) + v).toInt = gA r b 1 + v.toInt := by
    have e1 : (y (14 + 15 * b + 1)).toInt = gA r b 1 := (yb 1 (by decide)).trans (ob 1 (by decide) (by decide))
    rw [t_add (by rw [e1]; omega) (by rw [e1]; omega), e1]
  have S := rc_spec (r := y) (s := b) (by rw [yb 3 (by decide), ob 3 (by decide) (by decide)]; exact B.2.2.1) (by rw [yb 6 (by decide), ob 6 (by decide) (by decide)]; omega) hl2
  have oz : ∀ t k, t < 8 → k < 15 → t ≠ b → r_change y b v (14 + 15 * t + k) = y (14 + 15 * t + k) := fun t k ht hk h2 => r_change_x (by omega)
  generalize r_change y b v = z at S oz ⊢
  obtain ⟨q1, q2, q3, q4, q5, q6, q7⟩ := R
  obtain ⟨u1, u2, u3, u4, u5, u6, u7⟩ := S
  rw [oa 6 (by decide) (by decide)] at q5 q6 q7
  rw [oa 3 (by decide) (by decide)] at q7
  rw [yb 6 (by decide), ob 6 (by decide) (by decide)] at u5 u6 u7
  rw [yb 3 (by decide), ob 3 (by decide) (by decide)] at u7
  have za : ∀ k, k < 15 → gA z a k = gA y a k := fun k hk => gA_r (oz a k ha hk hne)
  have pa : ∀ k, k < 15 → k ≠ 1 → k ≠ 3 → k ≠ 6 → k ≠ 12 → gA z a k = gA r a k := fun k h h1 h3 h6 h12 => by rw [za k h, q2 k h1 h3 h6, oa k h h12]
  have pb : ∀ k, k < 15 → k ≠ 1 → k ≠ 3 → k ≠ 6 → k ≠ 8 → gA z b k = gA r b k := fun k h h1 h3 h6 h8 => by rw [u2 k h1 h3 h6, yb k h, ob k h h8]
  have pa12 : gA z a 12 = gA r a 12 + v.toInt := by rw [za 12 (by decide), q2 12 (by decide) (by decide) (by decide), a12]
  have pb8 : gA z b 8 = gA r b 8 + v.toInt := by rw [u2 8 (by decide) (by decide) (by decide), yb 8 (by decide), b8]
  rw [← za 1 (by decide)] at q1
  rw [← za 3 (by decide)] at q3 q4 q7
  rw [← za 6 (by decide)] at q5 q6 q7
  have b0 := pb 0 (by decide) (by decide) (by decide) (by decide) (by decide)
  have b4 := pb 4 (by decide) (by decide) (by decide) (by decide) (by decide)
  have b7 := pb 7 (by decide) (by decide) (by decide) (by decide) (by decide)
  have b9 := pb 9 (by decide) (by decide) (by decide) (by decide) (by decide)
  have b10 := pb 10 (by decide) (by decide) (by decide) (by decide) (by decide)
  have b11 := pb 11 (by decide) (by decide) (by decide) (by decide) (by decide)
  have b12 := pb 12 (by decide) (by decide) (by decide) (by decide) (by decide)
  have b13 := pb 13 (by decide) (by decide) (by decide) (by decide) (by decide)
  have b14 := pb 14 (by decide) (by decide) (by decide) (by decide) (by decide)
  have a0 := pa 0 (by decide) (by decide) (by decide) (by decide) (by decide)
  have a4 := pa 4 (by decide) (by decide) (by decide) (by decide) (by decide)
  have a7 := pa 7 (by decide) (by decide) (by decide) (by decide) (by decide)
  have a8 := pa 8 (by decide) (by decide) (by decide) (by decide) (by decide)
  have a9 := pa 9 (by decide) (by decide) (by decide) (by decide) (by decide)
  have a10 := pa 10 (by decide) (by decide) (by decide) (by decide) (by decide)
  have a11 := pa 11 (by decide) (by decide) (by decide) (by decide) (by decide)
  have a13 := pa 13 (by decide) (by decide) (by decide) (by decide) (by decide)
  have a14 := pa 14 (by decide) (by decide) (by decide) (by decide) (by decide)
  have A1 := A.1
  have B1 := B.1
  have A0 := A.2.2.2.2.2.2
  have B0 := B.2.2.2.2.2.2
  refine IVa_two hc H ha hb hne (Nat.le_succ F) (fun t k ht hk h1 h2 => by rw [oz t k ht hk h2, oy t k ht hk h1, oo t k ht hk h1 h2]) ?_ ?_ (fun w => q4 (by omega)) (fun w => u4 (by omega)) (by omega) (by omega)
  · exact IVs_step A (by omega) (by omega) (by omega) (by omega) (by omega) (by omega) (by omega) (by omega) (by omega) (by omega) (by omega) (Or.inr (by omega)) q3 ⟨q5, q6⟩ q7
  · exact IVs_step B (by omega) (by omega) (by omega) (by omega) (by omega) (by omega) (by omega) (by omega) (by omega) (by omega) (by omega) (Or.inl ⟨b12, b13, b14⟩) u3 ⟨u5, u6⟩ u7
/-- what lapses -/
theorem t_pct {x p : Int64} (hx : 0 ≤ x.toInt ∧ x.toInt ≤ 10000000) (hp : 0 ≤ p.toInt ∧ p.toInt ≤ 100) : (x * p / 100).toInt = x.toInt * p.toInt / 100 ∧ 0 ≤ x.toInt * p.toInt / 100 ∧ x.toInt * p.toInt / 100 ≤ x.toInt := by
  have h1 : 0 ≤ x.toInt * p.toInt := Int.mul_nonneg hx.1 hp.1
  have h2 : x.toInt * p.toInt ≤ x.toInt * 100 := Int.mul_le_mul_of_nonneg_left hp.2 hx.1
  have e1 : (x * p).toInt = x.toInt * p.toInt := by rw [Int64.toInt_mul, Int.bmod_eq_of_le (by omega) (by omega)]
  have e2 : (x * p / 100).toInt = x.toInt * p.toInt / 100 := by
    rw [Int64.toInt_div, e1, show (100 : Int64).toInt = 100 by decide, Int.tdiv_eq_ediv_of_nonneg h1, Int.bmod_eq_of_le (by omega) (by omega)]
  exact ⟨e2, by omega, by omega⟩
theorem r_laps_g {r : RW} {s F : Nat} (h : IVs F (gA r s)) (hF : F < 1000000000) (h1 : 0 ≤ (r 1).toInt ∧ (r 1).toInt ≤ 100) : 0 ≤ (r_laps r s).toInt ∧ (gA r s 1 ≤ 0 → (r_laps r s).toInt = 0) ∧ (0 ≤ gA r s 1 → (r_laps r s).toInt ≤ gA r s 1) := by
  have L := IVs_left h hF
  have h0 := h.2.2.2.2.2.2
  have e1 : (r_left r s).toInt = gA r s 1 := rfl
  have e0 : (r (14 + 15 * s + 0)).toInt = gA r s 0 := rfl
  unfold r_laps
  by_cases z : r_left r s ≤ 0
  · rw [if_pos z]
    have := t_le0.mp z
    rw [show (0 : Int64).toInt = 0 by decide]
    exact ⟨by omega, fun _ => rfl, fun _ => by omega⟩
  · rw [if_neg z]
    have hp : ¬ gA r s 1 ≤ 0 := fun y => z (t_le0.mpr y)
    have hs : 0 ≤ (r_some r s).toInt ∧ (r_some r s).toInt ≤ 10000 ∧ (r_some r s).toInt ≤ gA r s 1 := by
      unfold r_some; split
      · rename_i y
        have := t_lt.mp y
        rw [e1, e0] at this
        rw [e1]; omega
      · rename_i y
        have : ¬ (r_left r s).toInt < (r (14 + 15 * s + 0)).toInt := fun w => y (t_lt.mpr w)
        rw [e1, e0] at this
        rw [e0]; omega
    have p := t_pct (x := r_some r s) (p := r 1) ⟨hs.1, by omega⟩ h1
    rw [t_sub (by rw [e1, p.1]; omega) (by rw [e1, p.1]; omega), e1, p.1]
    exact ⟨by omega, fun y => absurd y hp, fun _ => by omega⟩
theorem IVa_grant {c F s : Nat} {r : RW} (hc : c ≤ 8) (hF : F < 1000000000) (H : IVa c F r) (hs : s < 8) (h1 : 0 ≤ (r 1).toInt ∧ (r 1).toInt ≤ 100) : IVa c (F + 1) (r_grant r s) := by
  have h := H.1 s hs
  have L := IVs_left h hF
  obtain ⟨v0, v1, v2⟩ := r_laps_g h hF h1
  have h0 := h.2.2.2.2.2.2
  unfold r_grant
  have ebz : (r (14 + 15 * s + 0)).toInt = gA r s 0 := rfl
  generalize r_laps r s = v at v0 v1 v2 ⊢
  generalize r (14 + 15 * s + 0) = bz at ebz ⊢
  have hvb : v.toInt ≤ 30000000 * (F : Int) := by
    by_cases z : gA r s 1 ≤ 0
    · have := v1 z; omega
    · have := v2 (by omega); omega
  have ek : ∀ k, k < 15 → k ≠ 14 → k ≠ 7 → k ≠ 2 → gA (r_ex (r_add (r_add r (14 + 15 * s + 7 + 7) v) (14 + 15 * s + 7 + 0) bz) s) s k = gA r s k := fun k h1 h2 h3 h4 => by unfold r_ex; rw [gA_u (by omega), gA_o (by omega), gA_o (by omega)]
  have e14 : gA (r_ex (r_add (r_add r (14 + 15 * s + 7 + 7) v) (14 + 15 * s + 7 + 0) bz) s) s 14 = gA r s 14 + v.toInt := by
    unfold r_ex; rw [gA_u (by omega), gA_o (by omega)]; exact gA_add (k := 14) h hF (Or.inl ⟨by decide, by decide⟩) (v := v) ⟨by omega, by omega⟩
  have e7 : gA (r_ex (r_add (r_add r (14 + 15 * s + 7 + 7) v) (14 + 15 * s + 7 + 0) bz) s) s 7 = gA r s 7 + bz.toInt := by
    unfold r_ex; rw [gA_u (by omega)]
    have e1 : (r_add r (14 + 15 * s + 7 + 7) v (14 + 15 * s + 7 + 0)).toInt = gA r s 7 := gA_o (k := 7) (by omega)
    show (r_add (r_add r (14 + 15 * s + 7 + 7) v) (14 + 15 * s + 7 + 0) bz (14 + 15 * s + 7 + 0)).toInt = _
    have b7 := h.2.1.1
    rw [r_add_e rfl, t_add (by rw [e1]; omega) (by rw [e1]; omega), e1]
  have ho : RO r (r_grant2 r s bz v) s := fun t k ht hk hne => by unfold r_grant2 r_ex; rw [r_change_x (by omega), vp_uLo (by omega), r_add_o (by omega), r_add_o (by omega)]
  unfold r_grant2 at ho ⊢
  generalize r_ex (r_add (r_add r (14 + 15 * s + 7 + 7) v) (14 + 15 * s + 7 + 0) bz) s = x at ek e14 e7 ho ⊢
  have hl : (x (14 + 15 * s + 1) + (bz - v)).toInt = gA r s 1 + bz.toInt - v.toInt := by
    have e1 : (x (14 + 15 * s + 1)).toInt = gA r s 1 := ek 1 (by decide) (by decide) (by decide) (by decide)
    have hn := t_sub (x := bz) (v := v) (by omega) (by omega)
    rw [t_add (by rw [e1, hn]; omega) (by rw [e1, hn]; omega), e1, hn]; omega
  have R := rc_spec (r := x) (s := s) (by rw [ek 3 (by decide) (by decide) (by decide) (by decide)]; exact h.2.2.1) (by rw [ek 6 (by decide) (by decide) (by decide) (by decide)]; omega) hl
  generalize r_change x s (bz - v) = r2 at R ho ⊢
  obtain ⟨q1, q2, q3, q4, q5, q6, q7⟩ := R
  rw [ek 6 (by decide) (by decide) (by decide) (by decide)] at q5 q6 q7
  rw [ek 3 (by decide) (by decide) (by decide) (by decide)] at q7
  have p : ∀ k, k < 15 → k ≠ 1 → k ≠ 3 → k ≠ 6 → k ≠ 14 → k ≠ 7 → k ≠ 2 → gA r2 s k = gA r s k := fun k a b d e f g i => (q2 k b d e).trans (ek k a f g i)
  have p14 : gA r2 s 14 = gA r s 14 + v.toInt := (q2 14 (by decide) (by decide) (by decide)).trans e14
  have p7 : gA r2 s 7 = gA r s 7 + bz.toInt := (q2 7 (by decide) (by decide) (by decide)).trans e7
  have p0 := p 0 (by decide) (by decide) (by decide) (by decide) (by decide) (by decide) (by decide)
  have p4 := p 4 (by decide) (by decide) (by decide) (by decide) (by decide) (by decide) (by decide)
  have p8 := p 8 (by decide) (by decide) (by decide) (by decide) (by decide) (by decide) (by decide)
  have p9 := p 9 (by decide) (by decide) (by decide) (by decide) (by decide) (by decide) (by decide)
  have p10 := p 10 (by decide) (by decide) (by decide) (by decide) (by decide) (by decide) (by decide)
  have p11 := p 11 (by decide) (by decide) (by decide) (by decide) (by decide) (by decide) (by decide)
  have p12 := p 12 (by decide) (by decide) (by decide) (by decide) (by decide) (by decide) (by decide)
  have p13 := p 13 (by decide) (by decide) (by decide) (by decide) (by decide) (by decide) (by decide)
  have h1 := h.1
  refine IVa_one hc H hs (by omega) ho ?_ (fun _ z => q4 (by omega)) (by omega) (by omega)
  refine IVs_step h (by omega) (by omega) (by omega) (by omega) (by omega) (by omega) (by omega) (by omega) (by omega) (by omega) (by omega) ?_ q3 ⟨q5, q6⟩ q7
  by_cases z : gA r s 1 ≤ 0
  · have := v1 z; exact Or.inl ⟨p12, p13, by omega⟩
  · have := v2 (by omega); exact Or.inr (by omega)
/-- a new service -/
theorem IVa_serv {c F : Nat} {r : RW} {b : Int64} (hc : c < 8) (H : IVa c F r) (hb : 1 ≤ b.toInt ∧ b.toInt ≤ 10000) (hz : ∀ k, k < 15 → r (14 + 15 * c + k) = 0) : IVa (c + 1) (F + 1) (r_serv r c b) := by
  have z0 : ∀ k, k < 15 → gA r c k = 0 := fun k hk => by unfold gA; rw [hz k hk]; decide
  have ek : ∀ k, k < 15 → k ≠ 0 → k ≠ 1 → k ≠ 2 → k ≠ 7 → gA (r_serv r c b) c k = 0 := fun k h h0 h1 h2 h7 => by
    unfold r_serv r_ex r_sv2; rw [gA_o (by omega), gA_u (by omega), gA_u (by omega), gA_u (by omega), gA_u (by omega)]; exact z0 k h
  have e0 : gA (r_serv r c b) c 0 = b.toInt := by unfold r_serv r_ex r_sv2; rw [gA_o (by omega), gA_u (by omega), gA_u (by omega), gA_u (by omega)]; unfold gA; rw [vp_uLe rfl]
  have e1 : gA (r_serv r c b) c 1 = b.toInt := by unfold r_serv r_ex r_sv2; rw [gA_o (by omega), gA_u (by omega), gA_u (by omega)]; unfold gA; rw [vp_uLe rfl]
  have e7 : gA (r_serv r c b) c 7 = b.toInt := by unfold r_serv r_ex r_sv2; rw [gA_o (by omega)]; unfold gA; rw [vp_uLe rfl]
  have ho : RO r (r_serv r c b) c := fun t k ht hk hne => by unfold r_serv r_ex r_sv2; rw [r_add_o (by omega), vp_uLo (by omega), vp_uLo (by omega), vp_uLo (by omega), vp_uLo (by omega)]
  generalize r_serv r c b = r2 at ek e0 e1 e7 ho ⊢
  have k3 := ek 3 (by decide) (by decide) (by decide) (by decide) (by decide)
  have k4 := ek 4 (by decide) (by decide) (by decide) (by decide) (by decide)
  have k6 := ek 6 (by decide) (by decide) (by decide) (by decide) (by decide)
  have k8 := ek 8 (by decide) (by decide) (by decide) (by decide) (by decide)
  have k9 := ek 9 (by decide) (by decide) (by decide) (by decide) (by decide)
  have k10 := ek 10 (by decide) (by decide) (by decide) (by decide) (by decide)
  have k11 := ek 11 (by decide) (by decide) (by decide) (by decide) (by decide)
  have k12 := ek 12 (by decide) (by decide) (by decide) (by decide) (by decide)
  have k13 := ek 13 (by decide) (by decide) (by decide) (by decide) (by decide)
  have k14 := ek 14 (by decide) (by decide) (by decide) (by decide) (by decide)
  have z8 := z0 8 (by decide)
  have z9 := z0 9 (by decide)
  have z12 := z0 12 (by decide)
  have z13 := z0 13 (by decide)
  obtain ⟨a1, a2, a3, a4⟩ := H
  have HO : IVa c (F + 1) r2 := IVa_one (by omega) ⟨a1, a2, a3, a4⟩ hc (Nat.le_succ F) ho (by
    unfold IVs
    have hF : ((F + 1 : Nat) : Int) = (F : Int) + 1 := by omega
    rw [hF, e0, e1, e7, k3, k4, k6, k8, k9, k10, k11, k12, k13, k14]
    exact ⟨by omega, ⟨⟨by omega, by omega⟩, ⟨by omega, by omega⟩, ⟨by omega, by omega⟩, ⟨by omega, by omega⟩, ⟨by omega, by omega⟩, ⟨by omega, by omega⟩, ⟨by omega, by omega⟩, ⟨by omega, by omega⟩⟩, Or.inl rfl, ⟨by omega, by omega⟩, ⟨by omega, by omega⟩, fun z => absurd z (by decide), by omega, by omega⟩) (fun z => absurd z (by omega)) (by omega) (by omega)
  refine ⟨HO.1, fun s hs => ?_, HO.2.2⟩
  by_cases z : s = c
  · subst z; intro y; omega
  · exact HO.2.1 s (by omega)
