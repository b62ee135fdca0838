
/-! WHAT ALWAYS HOLDS, over the row: numbers as integers; a service. -/
theorem t_add {x v : Int64} (h1 : -9223372036854775808 ≤ x.toInt + v.toInt) (h2 : x.toInt + v.toInt < 9223372036854775808) : (x + v).toInt = x.toInt + v.toInt := by
  rw [Int64.toInt_add, Int.bmod_eq_of_le (by omega) (by omega)]
theorem t_sub {x v : Int64} (h1 : -9223372036854775808 ≤ x.toInt - v.toInt) (h2 : x.toInt - v.toInt < 9223372036854775808) : (x - v).toInt = x.toInt - v.toInt := by
  rw [Int64.toInt_sub, Int.bmod_eq_of_le (by omega) (by omega)]
theorem t_neg {v : Int64} (h1 : -9223372036854775808 < v.toInt) : (-v).toInt = -v.toInt := by
  have := Int64.toInt_lt v
  rw [Int64.toInt_neg, Int.bmod_eq_of_le (by omega) (by omega)]
theorem t_le0 {v : Int64} : v ≤ 0 ↔ v.toInt ≤ 0 := by
  rw [Int64.le_iff_toInt_le, show (0 : Int64).toInt = 0 by decide]
theorem t_lt {a b : Int64} : a < b ↔ a.toInt < b.toInt := Int64.lt_iff_toInt_lt
theorem t_eq {a b : Int64} (h : a.toInt = b.toInt) : a = b := Int64.toInt_inj.mp h
theorem vp_uLe {f : RW} {i j : Nat} {v : Int64} (h : i = j) : vp_updL f i v j = v := by subst h; exact pk_uLs
theorem r_add_e {r : RW} {i j : Nat} {v : Int64} (h : i = j) : r_add r i v j = r j + v := by subst h; exact pk_uLs
def gA (r : RW) (s k : Nat) : Int := (r (14 + 15 * s + k)).toInt
theorem gA_r {r r2 : RW} {s k : Nat} (h : r2 (14 + 15 * s + k) = r (14 + 15 * s + k)) : gA r2 s k = gA r s k := by unfold gA; rw [h]
/-- what holds of the fifteen numbers of a service -/
def IVs (F : Nat) (g : Nat → Int) : Prop :=
  g 1 = g 7 + g 8 + g 9 - g 10 - g 11 - g 12 - g 13 - g 14 ∧
  ((0 ≤ g 7 ∧ g 7 ≤ 10000000 * (F : Int)) ∧ (0 ≤ g 8 ∧ g 8 ≤ 10000000 * (F : Int)) ∧ (0 ≤ g 9 ∧ g 9 ≤ 10000000 * (F : Int)) ∧ (0 ≤ g 10 ∧ g 10 ≤ 10000000 * (F : Int)) ∧ (0 ≤ g 11 ∧ g 11 ≤ 10000000 * (F : Int)) ∧
   (0 ≤ g 12 ∧ g 12 ≤ 30000000 * (F : Int)) ∧ (0 ≤ g 13 ∧ g 13 ≤ 30000000 * (F : Int)) ∧ (0 ≤ g 14 ∧ g 14 ≤ 30000000 * (F : Int))) ∧
  (g 3 = 0 ∨ g 3 = 1) ∧ (0 ≤ g 4 ∧ g 4 ≤ (F : Int)) ∧ (0 ≤ g 6 ∧ g 6 ≤ (F : Int)) ∧ (g 3 = 1 → 1 ≤ g 6) ∧ (0 ≤ g 0 ∧ g 0 ≤ 10000)
theorem IVs_c {F : Nat} {g g2 : Nat → Int} (h : IVs F g) (e : ∀ k, k < 15 → g2 k = g k) : IVs F g2 := by
  unfold IVs
  rw [e 0 (by decide), e 1 (by decide), e 3 (by decide), e 4 (by decide), e 6 (by decide), e 7 (by decide), e 8 (by decide), e 9 (by decide), e 10 (by decide), e 11 (by decide), e 12 (by decide), e 13 (by decide), e 14 (by decide)]
  exact h
theorem IVs_mono {F G : Nat} {g : Nat → Int} (h : IVs F g) (hG : F ≤ G) : IVs G g := by
  obtain ⟨a, ⟨b1, b2, b3, b4, b5, b6, b7, b8⟩, c, d, e, f, i⟩ := h
  exact ⟨a, ⟨⟨b1.1, by omega⟩, ⟨b2.1, by omega⟩, ⟨b3.1, by omega⟩, ⟨b4.1, by omega⟩, ⟨b5.1, by omega⟩, ⟨b6.1, by omega⟩, ⟨b7.1, by omega⟩, ⟨b8.1, by omega⟩⟩, c, ⟨d.1, by omega⟩, ⟨e.1, by omega⟩, f, i⟩
/-- what a change of the minutes makes of a service -/
def RCs (g g2 : Nat → Int) (v : Int) : Prop :=
  g2 1 = v ∧ (∀ k, k ≠ 1 → k ≠ 3 → k ≠ 6 → g2 k = g k) ∧ (g2 3 = 0 ∨ g2 3 = 1) ∧ (v ≤ 0 → g2 3 = 1) ∧ g 6 ≤ g2 6 ∧ g2 6 ≤ g 6 + 1 ∧ (g2 3 = 1 → g 3 = 1 ∨ g2 6 = g 6 + 1)
theorem r_frz_g {r : RW} {s : Nat} (h : gA r s 3 = 0 ∨ gA r s 3 = 1) : (r_frz r s = true ↔ gA r s 3 = 1) ∧ (r_frz r s = false ↔ gA r s 3 = 0) := by
  unfold r_frz gA at *
  rcases h with h | h
  · have e : r (14 + 15 * s + 3) = 0 := t_eq (h.trans (by decide))
    rw [e]; decide
  · have e : r (14 + 15 * s + 3) = 1 := t_eq (h.trans (by decide))
    rw [e]; decide
theorem rc_spec {r : RW} {s : Nat} {b : Int64} {v : Int} (h3 : gA r s 3 = 0 ∨ gA r s 3 = 1) (h6 : 0 ≤ gA r s 6 ∧ gA r s 6 ≤ 4000000000) (hv : (r (14 + 15 * s + 1) + b).toInt = v) : RCs (gA r s) (gA (r_change r s b) s) v := by
  have e1 : ∀ k, k ≠ 1 → r_add r (14 + 15 * s + 1) b (14 + 15 * s + k) = r (14 + 15 * s + k) := fun k hk => r_add_o (by omega)
  have e2 : r_add r (14 + 15 * s + 1) b (14 + 15 * s + 1) = r (14 + 15 * s + 1) + b := r_add_e rfl
  unfold r_change
  generalize r_add r (14 + 15 * s + 1) b = x at e1 e2 ⊢
  have g1 : gA x s 1 = v := by unfold gA; rw [e2]; exact hv
  have gk : ∀ k, k ≠ 1 → gA x s k = gA r s k := fun k hk => gA_r (e1 k hk)
  have g3 := r_frz_g (r := x) (s := s) (by rw [gk 3 (by decide)]; exact h3)
  rw [gk 3 (by decide)] at g3
  have hl : r_left x s ≤ 0 ↔ v ≤ 0 := by
    show x (14 + 15 * s + 1) ≤ 0 ↔ v ≤ 0
    rw [t_le0, ← g1]; rfl
  have u3 : ∀ (y : RW) (w : Int64), gA (vp_updL y (14 + 15 * s + 3) w) s 3 = w.toInt := fun y w => by unfold gA; rw [vp_uLe rfl]
  have uk : ∀ (y : RW) (w : Int64) (k : Nat), k ≠ 3 → gA (vp_updL y (14 + 15 * s + 3) w) s k = gA y s k := fun y w k hk => gA_r (vp_uLo (by omega))
  have w6 : gA (r_add x (14 + 15 * s + 6) 1) s 6 = gA r s 6 + 1 := by
    have h6x : (x (14 + 15 * s + 6)).toInt = gA r s 6 := gk 6 (by decide)
    have h1 : (1 : Int64).toInt = 1 := by decide
    unfold gA; rw [r_add_e rfl, t_add (by omega) (by omega), h6x, h1]; rfl
  have wk : ∀ k, k ≠ 6 → gA (r_add x (14 + 15 * s + 6) 1) s k = gA x s k := fun k hk => gA_r (r_add_o (by omega))
  have t1 : (1 : Int64).toInt = 1 := by decide
  have t0 : (0 : Int64).toInt = 0 := by decide
  unfold r_sett RCs
  by_cases c1 : r_left x s ≤ 0
  · have v0 := hl.mp c1
    rw [if_pos c1]
    by_cases c2 : r_frz x s = true
    · rw [if_pos c2, r_add_0, uk _ _ 1 (by decide), uk _ _ 6 (by decide), u3, gk 6 (by decide), g1, t1]
      exact ⟨rfl, fun k h1 h3 h6 => by rw [uk _ _ k h3, gk k h1], Or.inr rfl, fun _ => rfl, Int.le_refl _, by omega, fun _ => Or.inl (g3.1.mp c2)⟩
    · rw [if_neg c2, uk _ _ 1 (by decide), uk _ _ 6 (by decide), u3, wk 1 (by decide), w6, g1, t1]
      exact ⟨rfl, fun k h1 h3 h6 => by rw [uk _ _ k h3, wk k h6, gk k h1], Or.inr rfl, fun _ => rfl, by omega, Int.le_refl _, fun _ => Or.inr rfl⟩
  · have v0 : ¬ v ≤ 0 := fun z => c1 (hl.mpr z)
    rw [if_neg c1]
    by_cases c2 : r_left x s ≤ r_thw x s
    · rw [if_pos c2, gk 3 (by decide), gk 6 (by decide)]
      exact ⟨g1, fun k h1 h3 h6 => gk k h1, h3, fun z => absurd z v0, Int.le_refl _, by omega, fun z => Or.inl z⟩
    · rw [if_neg c2, uk _ _ 1 (by decide), uk _ _ 6 (by decide), u3, gk 6 (by decide), g1, t0]
      exact ⟨rfl, fun k h1 h3 h6 => by rw [uk _ _ k h3, gk k h1], Or.inl rfl, fun z => absurd z v0, Int.le_refl _, by omega, fun z => absurd z (by decide)⟩
/-! sums over the eight services -/
def zs8 (f : Nat → Int) : Int := f 0 + f 1 + f 2 + f 3 + f 4 + f 5 + f 6 + f 7
theorem zs8_c {f f2 : Nat → Int} (h : ∀ s, s < 8 → f2 s = f s) : zs8 f2 = zs8 f := by
  unfold zs8; rw [h 0 (by decide), h 1 (by decide), h 2 (by decide), h 3 (by decide), h 4 (by decide), h 5 (by decide), h 6 (by decide), h 7 (by decide)]
theorem zs8_u {f f2 : Nat → Int} {a : Nat} (ha : a < 8) (h : ∀ s, s < 8 → s ≠ a → f2 s = f s) : zs8 f2 = zs8 f + (f2 a - f a) := by
  unfold zs8
  match a, ha with
  | 0, _ => rw [h 1 (by decide) (by decide), h 2 (by decide) (by decide), h 3 (by decide) (by decide), h 4 (by decide) (by decide), h 5 (by decide) (by decide), h 6 (by decide) (by decide), h 7 (by decide) (by decide)]; omega
  | 1, _ => rw [h 0 (by decide) (by decide), h 2 (by decide) (by decide), h 3 (by decide) (by decide), h 4 (by decide) (by decide), h 5 (by decide) (by decide), h 6 (by decide) (by decide), h 7 (by decide) (by decide)]; omega
  | 2, _ => rw [h 0 (by decide) (by decide), h 1 (by decide) (by decide), h 3 (by decide) (by decide), h 4 (by decide) (by decide), h 5 (by decide) (by decide), h 6 (by decide) (by decide), h 7 (by decide) (by decide)]; omega
  | 3, _ => rw [h 0 (by decide) (by decide), h 1 (by decide) (by decide), h 2 (by decide) (by decide), h 4 (by decide) (by decide), h 5 (by decide) (by decide), h 6 (by decide) (by decide), h 7 (by decide) (by decide)]; omega
  | 4, _ => rw [h 0 (by decide) (by decide), h 1 (by decide) (by decide), h 2 (by decide) (by decide), h 3 (by decide) (by decide), h 5 (by decide) (by decide), h 6 (by decide) (by decide), h 7 (by decide) (by decide)]; omega
  | 5, _ => rw [h 0 (by decide) (by decide), h 1 (by decide) (by decide), h 2 (by decide) (by decide), h 3 (by decide) (by decide), h 4 (by decide) (by decide), h 6 (by decide) (by decide), h 7 (by decide) (by decide)]; omega
  | 6, _ => rw [h 0 (by decide) (by decide), h 1 (by decide) (by decide), h 2 (by decide) (by decide), h 3 (by decide) (by decide), h 4 (by decide) (by decide), h 5 (by decide) (by decide), h 7 (by decide) (by decide)]; omega
  | 7, _ => rw [h 0 (by decide) (by decide), h 1 (by decide) (by decide), h 2 (by decide) (by decide), h 3 (by decide) (by decide), h 4 (by decide) (by decide), h 5 (by decide) (by decide), h 6 (by decide) (by decide)]; omega
  | _ + 8, h => exact absurd h (by omega)
