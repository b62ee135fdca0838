
/-! WHAT ALWAYS HOLDS, over the row: the services, and what is done to them. -/
theorem IVs_step {F : Nat} {g h : Nat → Int} (H : IVs F g) (b0 : 0 ≤ h 0 ∧ h 0 ≤ 10000) (h1 : h 1 = h 7 + h 8 + h 9 - h 10 - h 11 - h 12 - h 13 - h 14) (h4 : g 4 ≤ h 4 ∧ h 4 ≤ g 4 + 1)
    (d7 : g 7 ≤ h 7 ∧ h 7 ≤ g 7 + 10000000) (d8 : g 8 ≤ h 8 ∧ h 8 ≤ g 8 + 10000000) (d9 : g 9 ≤ h 9 ∧ h 9 ≤ g 9 + 10000000) (d10 : g 10 ≤ h 10 ∧ h 10 ≤ g 10 + 10000000) (d11 : g 11 ≤ h 11 ∧ h 11 ≤ g 11 + 10000000)
    (d12 : g 12 ≤ h 12) (d13 : g 13 ≤ h 13) (d14 : g 14 ≤ h 14) (hz : (h 12 = g 12 ∧ h 13 = g 13 ∧ h 14 = g 14) ∨ 0 ≤ h 1)
    (h3 : h 3 = 0 ∨ h 3 = 1) (h6 : g 6 ≤ h 6 ∧ h 6 ≤ g 6 + 1) (h36 : h 3 = 1 → g 3 = 1 ∨ h 6 = g 6 + 1) : IVs (F + 1) h := by
  obtain ⟨a, ⟨b1, b2, b3, b4, b5, b6, b7, b8⟩, c, d, e, f, i⟩ := H
  have hF : ((F + 1 : Nat) : Int) = (F : Int) + 1 := by omega
  unfold IVs
  rw [hF]
  refine ⟨h1, ⟨⟨by omega, by omega⟩, ⟨by omega, by omega⟩, ⟨by omega, by omega⟩, ⟨by omega, by omega⟩, ⟨by omega, by omega⟩, ⟨by omega, ?_⟩, ⟨by omega, ?_⟩, ⟨by omega, ?_⟩⟩, h3, ⟨by omega, by omega⟩, ⟨by omega, by omega⟩, ?_, b0⟩
  · rcases hz with ⟨z1, z2, z3⟩ | z
    · omega
    · omega
  · rcases hz with ⟨z1, z2, z3⟩ | z
    · omega
    · omega
  · rcases hz with ⟨z1, z2, z3⟩ | z
    · omega
    · omega
  · intro z
    rcases h36 z with y | y
    · have := f y; omega
    · omega
def IVa (c F : Nat) (r : RW) : Prop := (∀ s, s < 8 → IVs F (gA r s)) ∧ (∀ s, s < c → gA r s 1 ≤ 0 → gA r s 3 = 1) ∧ zs8 (fun s => gA r s 12 - gA r s 8) = 0 ∧ zs8 (fun s => gA r s 13 - gA r s 9) = 0
/-- the other services are as they were -/
def RO (r r2 : RW) (s : Nat) : Prop := ∀ t k, t < 8 → k < 15 → t ≠ s → r2 (14 + 15 * t + k) = r (14 + 15 * t + k)
theorem IVa_one {c F G s : Nat} {r r2 : RW} (hc : c ≤ 8) (H : IVa c F r) (hs : s < 8) (hG : F ≤ G) (ho : RO r r2 s) (h1 : IVs G (gA r2 s)) (h2 : s < c → gA r2 s 1 ≤ 0 → gA r2 s 3 = 1) (h3 : gA r2 s 12 - gA r2 s 8 = gA r s 12 - gA r s 8) (h4 : gA r2 s 13 - gA r2 s 9 = gA r s 13 - gA r s 9) : IVa c G r2 := by
  obtain ⟨a1, a2, a3, a4⟩ := H
  have e : ∀ t k, t < 8 → k < 15 → t ≠ s → gA r2 t k = gA r t k := fun t k ht hk hne => gA_r (ho t k ht hk hne)
  refine ⟨fun t ht => ?_, fun t ht => ?_, ?_, ?_⟩
  · by_cases z : t = s
    · subst z; exact h1
    · exact IVs_c (IVs_mono (a1 t ht) hG) (fun k hk => e t k ht hk z)
  · by_cases z : t = s
    · subst z; exact h2 ht
    · have ht8 : t < 8 := by omega
      rw [e t 1 ht8 (by decide) z, e t 3 ht8 (by decide) z]; exact a2 t ht
  · rw [← a3]; refine zs8_c (fun t ht => ?_)
    by_cases z : t = s
    · subst z; exact h3
    · show gA r2 t 12 - gA r2 t 8 = _; rw [e t 12 ht (by decide) z, e t 8 ht (by decide) z]
  · rw [← a4]; refine zs8_c (fun t ht => ?_)
    by_cases z : t = s
    · subst z; exact h4
    · show gA r2 t 13 - gA r2 t 9 = _; rw [e t 13 ht (by decide) z, e t 9 ht (by decide) z]
theorem zs8_u2 {f f2 : Nat → Int} {a b : Nat} (ha : a < 8) (hb : b < 8) (hne : a ≠ b) (h : ∀ s, s < 8 → s ≠ a → s ≠ b → f2 s = f s) : zs8 f2 = zs8 f + (f2 a - f a) + (f2 b - f b) := by
  have e1 : zs8 (fun s => if s = a then f2 a else f s) = zs8 f + (f2 a - f a) := by
    have := zs8_u (f := f) (f2 := fun s => if s = a then f2 a else f s) ha (fun s _ hs => if_neg hs)
    rw [this]; show zs8 f + ((if a = a then f2 a else f a) - f a) = _; rw [if_pos rfl]
  have e2 := zs8_u (f := fun s => if s = a then f2 a else f s) (f2 := f2) hb (fun s hs hsb => by
    show f2 s = (if s = a then f2 a else f s)
    by_cases z : s = a
    · rw [if_pos z, z]
    · rw [if_neg z]; exact h s hs z hsb)
  rw [e2, e1]
  show _ + (f2 b - (if b = a then f2 a else f b)) = _
  rw [if_neg (fun z => hne z.symm)]
theorem IVa_two {c F G a b : Nat} {r r2 : RW} (hc : c ≤ 8) (H : IVa c F r) (ha : a < 8) (hb : b < 8) (hne : a ≠ b) (hG : F ≤ G) (ho : ∀ t k, t < 8 → k < 15 → t ≠ a → t ≠ b → r2 (14 + 15 * t + k) = r (14 + 15 * t + k))
    (h1 : IVs G (gA r2 a)) (h1b : IVs G (gA r2 b)) (h2 : gA r2 a 1 ≤ 0 → gA r2 a 3 = 1) (h2b : gA r2 b 1 ≤ 0 → gA r2 b 3 = 1)
    (h3 : (gA r2 a 12 - gA r2 a 8) + (gA r2 b 12 - gA r2 b 8) = (gA r a 12 - gA r a 8) + (gA r b 12 - gA r b 8)) (h4 : (gA r2 a 13 - gA r2 a 9) + (gA r2 b 13 - gA r2 b 9) = (gA r a 13 - gA r a 9) + (gA r b 13 - gA r b 9)) : IVa c G r2 := by
  obtain ⟨a1, a2, a3, a4⟩ := H
  have e : ∀ t k, t < 8 → k < 15 → t ≠ a → t ≠ b → gA r2 t k = gA r t k := fun t k ht hk hna hnb => gA_r (ho t k ht hk hna hnb)
  refine ⟨fun t ht => ?_, fun t ht => ?_, ?_, ?_⟩
  · by_cases z : t = a
    · subst z; exact h1
    · by_cases y : t = b
      · subst y; exact h1b
      · exact IVs_c (IVs_mono (a1 t ht) hG) (fun k hk => e t k ht hk z y)
  · by_cases z : t = a
    · subst z; exact h2
    · by_cases y : t = b
      · subst y; exact h2b
      · rw [e t 1 (by omega) (by decide) z y, e t 3 (by omega) (by decide) z y]; exact a2 t ht
  · rw [zs8_u2 (f := fun s => gA r s 12 - gA r s 8) ha hb hne (fun s hs hsa hsb => by show gA r2 s 12 - gA r2 s 8 = _; rw [e s 12 hs (by decide) hsa hsb, e s 8 hs (by decide) hsa hsb]), a3]
    show 0 + (gA r2 a 12 - gA r2 a 8 - (gA r a 12 - gA r a 8)) + (gA r2 b 12 - gA r2 b 8 - (gA r b 12 - gA r b 8)) = 0
    omega
  · rw [zs8_u2 (f := fun s => gA r s 13 - gA r s 9) ha hb hne (fun s hs hsa hsb => by show gA r2 s 13 - gA r2 s 9 = _; rw [e s 13 hs (by decide) hsa hsb, e s 9 hs (by decide) hsa hsb]), a4]
    show 0 + (gA r2 a 13 - gA r2 a 9 - (gA r a 13 - gA r a 9)) + (gA r2 b 13 - gA r2 b 9 - (gA r b 13 - gA r b 9)) = 0
    omega
theorem IVa_r {c F : Nat} {r r2 : RW} (hc : c ≤ 8) (H : IVa c F r) (e : ∀ s k, s < 8 → k < 15 → k ≠ 2 → k ≠ 5 → gA r2 s k = gA r s k) : IVa c F r2 := by
  obtain ⟨a1, a2, a3, a4⟩ := H
  refine ⟨fun s hs => ?_, fun s hs => by rw [e s 1 (by omega) (by decide) (by decide) (by decide), e s 3 (by omega) (by decide) (by decide) (by decide)]; exact a2 s hs, ?_, ?_⟩
  · have h := a1 s hs
    unfold IVs at h ⊢
    rw [e s 0 hs (by decide) (by decide) (by decide), e s 1 hs (by decide) (by decide) (by decide), e s 3 hs (by decide) (by decide) (by decide), e s 4 hs (by decide) (by decide) (by decide), e s 6 hs (by decide) (by decide) (by decide), e s 7 hs (by decide) (by decide) (by decide), e s 8 hs (by decide) (by decide) (by decide), e s 9 hs (by decide) (by decide) (by decide), e s 10 hs (by decide) (by decide) (by decide), e s 11 hs (by decide) (by decide) (by decide), e s 12 hs (by decide) (by decide) (by decide), e s 13 hs (by decide) (by decide) (by decide), e s 14 hs (by decide) (by decide) (by decide)]
    exact h
  · rw [← a3]; exact zs8_c (fun s hs => by show gA r2 s 12 - gA r2 s 8 = _; rw [e s 12 hs (by decide) (by decide) (by decide), e s 8 hs (by decide) (by decide) (by decide)])
  · rw [← a4]; exact zs8_c (fun s hs => by show gA r2 s 13 - gA r2 s 9 = _; rw [e s 13 hs (by decide) (by decide) (by decide), e s 9 hs (by decide) (by decide) (by decide)])
theorem IVa_mono {c F G : Nat} {r : RW} (H : IVa c F r) (hG : F ≤ G) : IVa c G r := ⟨fun s hs => IVs_mono (H.1 s hs) hG, H.2⟩
/-- what is left is a number of minutes that fits -/
theorem IVs_left {F : Nat} {g : Nat → Int} (h : IVs F g) (hF : F < 1000000000) : -110000000 * (F : Int) ≤ g 1 ∧ g 1 ≤ 30000000 * (F : Int) ∧ 0 ≤ g 6 ∧ g 6 ≤ 4000000000 - 5 := by
  obtain ⟨a, ⟨b1, b2, b3, b4, b5, b6, b7, b8⟩, c, d, e, f, i⟩ := h
  refine ⟨by omega, by omega, by omega, by omega⟩
theorem gA_add {r : RW} {s k : Nat} {v : Int64} {F : Nat} (h : IVs F (gA r s)) (hF : F < 1000000000) (hk : 7 ≤ k ∧ k < 15 ∨ k = 4) (hv : -100000000000000000 ≤ v.toInt ∧ v.toInt ≤ 100000000000000000) : gA (r_add r (14 + 15 * s + k) v) s k = gA r s k + v.toInt := by
  obtain ⟨a, ⟨b1, b2, b3, b4, b5, b6, b7, b8⟩, c, d, e, f, i⟩ := h
  have hb : 0 ≤ gA r s k ∧ gA r s k ≤ 30000000 * (F : Int) := by
    have : k = 4 ∨ k = 7 ∨ k = 8 ∨ k = 9 ∨ k = 10 ∨ k = 11 ∨ k = 12 ∨ k = 13 ∨ k = 14 := by omega
    rcases this with z | z | z | z | z | z | z | z | z <;> subst z <;> constructor <;> omega
  have e1 : (r (14 + 15 * s + k)).toInt = gA r s k := rfl
  unfold gA at *
  rw [r_add_e rfl]
  exact t_add (by omega) (by omega)
theorem gA_o {r : RW} {s k i : Nat} {v : Int64} (h : i ≠ 14 + 15 * s + k) : gA (r_add r i v) s k = gA r s k := gA_r (r_add_o h)
theorem gA_u {r : RW} {s k i : Nat} {v : Int64} (h : i ≠ 14 + 15 * s + k) : gA (vp_updL r i v) s k = gA r s k := gA_r (vp_uLo h)
/-- minutes are spent: by an outage (k = 10) -/
theorem IVa_out {c F s : Nat} {r : RW} {v : Int64} (hc : c ≤ 8) (hF : F < 1000000000) (H : IVa c F r) (hs : s < 8) (hv : 0 ≤ v.toInt ∧ v.toInt ≤ 10000000) : IVa c (F + 1) (r_change (r_add r (14 + 15 * s + 10) v) s (-v)) := by
  have h := H.1 s hs
  have L := IVs_left h hF
  have ek : ∀ k, k ≠ 10 → gA (r_add r (14 + 15 * s + 10) v) s k = gA r s k := fun k hk => gA_o (by omega)
  have e10 := gA_add (k := 10) h hF (Or.inl ⟨by decide, by decide⟩) (v := v) ⟨by omega, by omega⟩
  have ho : RO r (r_change (r_add r (14 + 15 * s + 10) v) s (-v)) s := fun t k ht hk hne => by rw [r_change_x (by omega), r_add_o (by omega)]
  have hl : (r_add r (14 + 15 * s + 10) v (14 + 15 * s + 1) + -v).toInt = gA r s 1 - v.toInt := by
    have e1 : (r_add r (14 + 15 * s + 10) v (14 + 15 * s + 1)).toInt = gA r s 1 := ek 1 (by decide)
    have hn := t_neg (v := v) (by omega)
    rw [t_add (by rw [e1, hn]; omega) (by rw [e1, hn]; omega), e1, hn]; omega
  have R := rc_spec (r := r_add r (14 + 15 * s + 10) v) (by rw [ek 3 (by decide)]; exact h.2.2.1) (by rw [ek 6 (by decide)]; omega) hl
  generalize r_change (r_add r (14 + 15 * s + 10) v) s (-v) = r2 at R ho ⊢
  generalize r_add r (14 + 15 * s + 10) v = r1 at R ek e10
  obtain ⟨q1, q2, q3, q4, q5, q6, q7⟩ := R
  rw [ek 6 (by decide)] at q5 q6 q7
  rw [ek 3 (by decide)] at q7
  have p : ∀ k, k ≠ 1 → k ≠ 3 → k ≠ 6 → k ≠ 10 → gA r2 s k = gA r s k := fun k a b d e => (q2 k a b d).trans (ek k e)
  have p10 : gA r2 s 10 = gA r s 10 + v.toInt := (q2 10 (by decide) (by decide) (by decide)).trans e10
  have p0 := p 0 (by decide) (by decide) (by decide) (by decide)
  have p4 := p 4 (by decide) (by decide) (by decide) (by decide)
  have p7 := p 7 (by decide) (by decide) (by decide) (by decide)
  have p8 := p 8 (by decide) (by decide) (by decide) (by decide)
  have p9 := p 9 (by decide) (by decide) (by decide) (by decide)
  have p11 := p 11 (by decide) (by decide) (by decide) (by decide)
  have p12 := p 12 (by decide) (by decide) (by decide) (by decide)
  have p13 := p 13 (by decide) (by decide) (by decide) (by decide)
  have p14 := p 14 (by decide) (by decide) (by decide) (by decide)
  have h1 := h.1
  have h0 := h.2.2.2.2.2.2
  refine IVa_one hc H hs (by omega) ho ?_ (fun _ z => q4 (by omega)) (by omega) (by omega)
  exact IVs_step h (by omega) (by omega) (by omega) (by omega) (by omega) (by omega) (by omega) (by omega) (by omega) (by omega) (by omega) (Or.inl ⟨p12, p13, p14⟩) q3 ⟨q5, q6⟩ q7
/-- minutes are spent by a release -/
theorem IVa_spend {c F s : Nat} {r : RW} {v : Int64} (hc : c ≤ 8) (hF : F < 1000000000) (H : IVa c F r) (hs : s < 8) (hv : 0 ≤ v.toInt ∧ v.toInt ≤ 10000000) : IVa c (F + 1) (r_spend r s v) ∧ gA (r_spend r s v) s 4 = gA r s 4 + 1 ∧ (∀ t, t < 8 → t ≠ s → gA (r_spend r s v) t 4 = gA r t 4) := by
  have h := H.1 s hs
  have L := IVs_left h hF
  have t1 : (1 : Int64).toInt = 1 := by decide
  have ek : ∀ k, k ≠ 11 → k ≠ 4 → gA (r_add (r_add r (14 + 15 * s + 7 + 4) v) (14 + 15 * s + 4) 1) s k = gA r s k := fun k h1 h2 => by rw [gA_o (by omega), gA_o (by omega)]
  have e11 : gA (r_add (r_add r (14 + 15 * s + 7 + 4) v) (14 + 15 * s + 4) 1) s 11 = gA r s 11 + v.toInt := by
    rw [gA_o (by omega)]; exact gA_add (k := 11) h hF (Or.inl ⟨by decide, by decide⟩) (v := v) ⟨by omega, by omega⟩
  have e4 : gA (r_add (r_add r (14 + 15 * s + 7 + 4) v) (14 + 15 * s + 4) 1) s 4 = gA r s 4 + 1 := by
    have x : gA (r_add r (14 + 15 * s + 7 + 4) v) s 4 = gA r s 4 := gA_o (by omega)
    have h4 := h.2.2.2.1
    unfold gA at x ⊢
    rw [r_add_e rfl, t_add (by rw [x, t1]; unfold gA at h4; omega) (by rw [x, t1]; unfold gA at h4; omega), x, t1]
  have ho : RO r (r_spend r s v) s := fun t k ht hk hne => by unfold r_spend; rw [r_change_x (by omega), r_add_o (by omega), r_add_o (by omega)]
  unfold r_spend at ho ⊢
  generalize r_add (r_add r (14 + 15 * s + 7 + 4) v) (14 + 15 * s + 4) 1 = r1 at ek e11 e4 ho ⊢
  have hl : (r1 (14 + 15 * s + 1) + -v).toInt = gA r s 1 - v.toInt := by
    have e1 : (r1 (14 + 15 * s + 1)).toInt = gA r s 1 := ek 1 (by decide) (by decide)
    have hn := t_neg (v := v) (by omega)
    rw [t_add (by rw [e1, hn]; omega) (by rw [e1, hn]; omega), e1, hn]; omega
  have R := rc_spec (r := r1) (by rw [ek 3 (by decide) (by decide)]; exact h.2.2.1) (by rw [ek 6 (by decide) (by decide)]; omega) hl
  generalize r_change r1 s (-v) = r2 at R ho ⊢
  obtain ⟨q1, q2, q3, q4, q5, q6, q7⟩ := R
  rw [ek 6 (by decide) (by decide)] at q5 q6 q7
  rw [ek 3 (by decide) (by decide)] at q7
  have p : ∀ k, k ≠ 1 → k ≠ 3 → k ≠ 6 → k ≠ 11 → k ≠ 4 → gA r2 s k = gA r s k := fun k a b d e f => (q2 k a b d).trans (ek k e f)
  have p11 : gA r2 s 11 = gA r s 11 + v.toInt := (q2 11 (by decide) (by decide) (by decide)).trans e11
  have p4 : gA r2 s 4 = gA r s 4 + 1 := (q2 4 (by decide) (by decide) (by decide)).trans e4
  have p0 := p 0 (by decide) (by decide) (by decide) (by decide) (by decide)
  have p7 := p 7 (by decide) (by decide) (by decide) (by decide) (by decide)
  have p8 := p 8 (by decide) (by decide) (by decide) (by decide) (by decide)
  have p9 := p 9 (by decide) (by decide) (by decide) (by decide) (by decide)
  have p10 := p 10 (by decide) (by decide) (by decide) (by decide) (by decide)
  have p12 := p 12 (by decide) (by decide) (by decide) (by decide) (by decide)
  have p13 := p 13 (by decide) (by decide) (by decide) (by decide) (by decide)
  have p14 := p 14 (by decide) (by decide) (by decide) (by decide) (by decide)
  have h1 := h.1
  have h0 := h.2.2.2.2.2.2
  refine ⟨IVa_one hc H hs (by omega) ho ?_ (fun _ z => q4 (by omega)) (by omega) (by omega), p4, fun t ht hne => gA_r (ho t 4 ht (by decide) hne)⟩
  exact IVs_step h (by omega) (by omega) (by omega) (by omega) (by omega) (by omega) (by omega) (by omega) (by omega) (by omega) (by omega) (Or.inl ⟨p12, p13, p14⟩) q3 ⟨q5, q6⟩ q7
