
/-! THE RELATION of class and reference, on the pure functions: numbers, services. -/
theorem q_lt (a b : Int32) : a.toInt64 < b.toInt64 ↔ a < b := by
  rw [Int64.lt_iff_toInt_lt, Int32.toInt_toInt64, Int32.toInt_toInt64, Int32.lt_iff_toInt_lt]
theorem q_le (a b : Int32) : a.toInt64 ≤ b.toInt64 ↔ a ≤ b := by
  rw [Int64.le_iff_toInt_le, Int32.toInt_toInt64, Int32.toInt_toInt64, Int32.le_iff_toInt_le]
theorem q_eq (a b : Int32) : a.toInt64 = b.toInt64 ↔ a = b := by
  constructor
  · intro h
    have := congrArg Int64.toInt h
    rw [Int32.toInt_toInt64, Int32.toInt_toInt64] at this
    exact Int32.toInt_inj.mp this
  · intro h; rw [h]
theorem q_i (a : Int32) : a.toInt64.toInt32 = a := Int32.toInt32_toInt64 a
theorem q_ok {a : Int32} {n : Nat} (h : zok a n) (hn : n < 2 ^ 31) : a.toInt64 = lN (zn32 a) := by
  have := h.2
  rw [h.1, nI_l (by omega), ← h.1]
theorem q_okl {a : Int32} {n : Nat} (h : zok a n) (hn : n < 2 ^ 31) : zokl a.toInt64 n ∧ zn64 a.toInt64 = zn32 a := by
  have h2 := h.2
  rw [q_ok h hn]
  have e : zn64 (lN (zn32 a)) = zn32 a := zn64_lN (by omega)
  exact ⟨zokl_lN h2 hn, e⟩
def zlt (a : Int32) (n : Nat) : Prop := a = nI (zn32 a) ∧ zn32 a < n
theorem zlt_nI {k n : Nat} (h : k < n) (hn : n < 2 ^ 31) : zlt (nI k) n := by
  have e : zn32 (nI k) = k := nI_clamp (by omega)
  exact ⟨by rw [e], by rw [e]; exact h⟩
theorem zlt_in {a : Int32} {n : Nat} (h : zlt a n) (hn : n < 2 ^ 31) : vp_in a n := by rw [h.1]; exact vp_in_nI h.2 hn
theorem q_inl {a : Int32} {n : Nat} (h : zlt a n) (hn : n < 2 ^ 31) : zinl a.toInt64 n ∧ zn64 a.toInt64 = zn32 a := by
  have h2 := h.2
  rw [q_ok ⟨h.1, Nat.le_of_lt h2⟩ hn]
  have e : zn64 (lN (zn32 a)) = zn32 a := zn64_lN (by omega)
  exact ⟨zinl_lN h2 hn, e⟩
theorem zok_mono {a : Int32} {n m : Nat} (h : zok a n) (k : n ≤ m) : zok a m := ⟨h.1, Nat.le_trans h.2 k⟩
theorem zlt_mono {a : Int32} {n m : Nat} (h : zlt a n) (k : n ≤ m) : zlt a m := ⟨h.1, Nat.lt_of_lt_of_le h.2 k⟩
theorem q_add {a b : Int32} {n m : Nat} (ha : zok a n) (hb : zok b m) (h : n + m < 2 ^ 31) : (a + b).toInt64 = a.toInt64 + b.toInt64 ∧ zok (a + b) (n + m) ∧ zn32 (a + b) = zn32 a + zn32 b := by
  have ha2 := ha.2
  have hb2 := hb.2
  have e : a + b = nI (zn32 a + zn32 b) := by rw [← nI_add, ← ha.1, ← hb.1]
  have e2 : zn32 (a + b) = zn32 a + zn32 b := by rw [e]; exact nI_clamp (by omega)
  refine ⟨?_, ⟨by rw [e2]; exact e, by rw [e2]; omega⟩, e2⟩
  rw [e, q_ok ha (by omega), q_ok hb (by omega), lN_add, nI_l (by omega)]
theorem q_mul {a b : Int32} {n m : Nat} (ha : zok a n) (hb : zok b m) (h : n * m < 2 ^ 31) (hn : n < 2 ^ 31) (hm : m < 2 ^ 31) : (a * b).toInt64 = a.toInt64 * b.toInt64 ∧ zok (a * b) (n * m) ∧ zn32 (a * b) = zn32 a * zn32 b := by
  have hl : zn32 a * zn32 b ≤ n * m := Nat.mul_le_mul ha.2 hb.2
  have e : a * b = nI (zn32 a * zn32 b) := by rw [← pk_mul, ← ha.1, ← hb.1]
  have e2 : zn32 (a * b) = zn32 a * zn32 b := by rw [e]; exact nI_clamp (by omega)
  refine ⟨?_, ⟨by rw [e2]; exact e, by rw [e2]; omega⟩, e2⟩
  rw [e, q_ok ha hn, q_ok hb hm, lN_mul, nI_l (by omega)]
theorem q_d100 {a : Int32} {n : Nat} (ha : zok a n) (h : n < 2 ^ 31) : (a / 100).toInt64 = a.toInt64 / 100 ∧ zok (a / 100) (n / 100) ∧ zn32 (a / 100) = zn32 a / 100 := by
  have ha2 := ha.2
  have e : a / 100 = nI (zn32 a / 100) := by rw [show (100 : Int32) = nI 100 from rfl, ← pk_div (by omega) (by decide) (by decide), ← ha.1]
  have hd : zn32 a / 100 ≤ n / 100 := Nat.div_le_div_right ha2
  have hd2 : n / 100 ≤ n := Nat.div_le_self _ _
  have e2 : zn32 (a / 100) = zn32 a / 100 := by rw [e]; exact nI_clamp (by omega)
  refine ⟨?_, ⟨by rw [e2]; exact e, by rw [e2]; exact hd⟩, e2⟩
  rw [e, nI_l (by omega), q_ok ha h, show (100 : Int64) = lN 100 from rfl, pk_lDiv (by omega) (by decide) (by decide)]
theorem q_sub {a b : Int32} {n m : Nat} (ha : zok a n) (hb : zok b m) (hn : n < 2 ^ 30) (hm : m < 2 ^ 30) : (a - b).toInt64 = a.toInt64 - b.toInt64 := by
  have ha2 := ha.2
  have hb2 := hb.2
  apply Int64.toInt_inj.mp
  rw [Int32.toInt_toInt64, Int64.toInt_sub, Int32.toInt_toInt64, Int32.toInt_toInt64, ha.1, hb.1, pk_sub_toInt (by omega) (by omega), nI_toInt (by omega), nI_toInt (by omega)]
  rw [Int.bmod_eq_of_le (by omega) (by omega)]
theorem q_neg {a : Int32} {n : Nat} (ha : zok a n) (hn : n < 2 ^ 31) : (-a).toInt64 = -a.toInt64 := by
  have ha2 := ha.2
  apply Int64.toInt_inj.mp
  rw [Int32.toInt_toInt64, Int64.toInt_neg, Int32.toInt_toInt64, ha.1, sb_negT (by omega), nI_toInt (by omega)]
  rw [Int.bmod_eq_of_le (by omega) (by omega)]
theorem zn_nI {k : Nat} (h : k < 2 ^ 31) : zn32 (nI k) = k := nI_clamp h
theorem zok_lit {k n : Nat} (h : k ≤ n) (hn : k < 2 ^ 31) : zok (nI k) n := by rw [zok, zn_nI hn]; exact ⟨rfl, h⟩
/-! the set of those that are frozen -/
def q_mk (n : Nat) (x : Int32) (b : Bool) : Int32 := if b then x ||| (1 <<< (nI n &&& 31)) else x ||| 0
theorem r_fset_s (r : RW) (n : Nat) : r_fset r (n + 1) = q_mk n (r_fset r n) (r_frz r n) := rfl
def q_m8 (b0 b1 b2 b3 b4 b5 b6 b7 : Bool) : Int32 := q_mk 7 (q_mk 6 (q_mk 5 (q_mk 4 (q_mk 3 (q_mk 2 (q_mk 1 (q_mk 0 0 b0) b1) b2) b3) b4) b5) b6) b7
theorem r_fset_8 (r : RW) : r_fset r 8 = q_m8 (r_frz r 0) (r_frz r 1) (r_frz r 2) (r_frz r 3) (r_frz r 4) (r_frz r 5) (r_frz r 6) (r_frz r 7) := by
  rw [r_fset_s, r_fset_s, r_fset_s, r_fset_s, r_fset_s, r_fset_s, r_fset_s, r_fset_s]; rfl
def q_isf (x : Int32) (s : Nat) : Bool := if (x >>> (nI s &&& 31)) &&& 1 = 1 then true else false
theorem q_b0 : ∀ b0 b1 b2 b3 b4 b5 b6 b7 : Bool, q_isf (q_m8 b0 b1 b2 b3 b4 b5 b6 b7) 0 = b0 ∧ q_m8 b0 b1 b2 b3 b4 b5 b6 b7 ||| (1 <<< (nI 0 &&& 31)) = q_m8 true b1 b2 b3 b4 b5 b6 b7 ∧ q_m8 b0 b1 b2 b3 b4 b5 b6 b7 &&& ((1 <<< (nI 0 &&& 31)) ^^^ -1) = q_m8 false b1 b2 b3 b4 b5 b6 b7 := by decide +kernel
theorem q_b1 : ∀ b0 b1 b2 b3 b4 b5 b6 b7 : Bool, q_isf (q_m8 b0 b1 b2 b3 b4 b5 b6 b7) 1 = b1 ∧ q_m8 b0 b1 b2 b3 b4 b5 b6 b7 ||| (1 <<< (nI 1 &&& 31)) = q_m8 b0 true b2 b3 b4 b5 b6 b7 ∧ q_m8 b0 b1 b2 b3 b4 b5 b6 b7 &&& ((1 <<< (nI 1 &&& 31)) ^^^ -1) = q_m8 b0 false b2 b3 b4 b5 b6 b7 := by decide +kernel
theorem q_b2 : ∀ b0 b1 b2 b3 b4 b5 b6 b7 : Bool, q_isf (q_m8 b0 b1 b2 b3 b4 b5 b6 b7) 2 = b2 ∧ q_m8 b0 b1 b2 b3 b4 b5 b6 b7 ||| (1 <<< (nI 2 &&& 31)) = q_m8 b0 b1 true b3 b4 b5 b6 b7 ∧ q_m8 b0 b1 b2 b3 b4 b5 b6 b7 &&& ((1 <<< (nI 2 &&& 31)) ^^^ -1) = q_m8 b0 b1 false b3 b4 b5 b6 b7 := by decide +kernel
theorem q_b3 : ∀ b0 b1 b2 b3 b4 b5 b6 b7 : Bool, q_isf (q_m8 b0 b1 b2 b3 b4 b5 b6 b7) 3 = b3 ∧ q_m8 b0 b1 b2 b3 b4 b5 b6 b7 ||| (1 <<< (nI 3 &&& 31)) = q_m8 b0 b1 b2 true b4 b5 b6 b7 ∧ q_m8 b0 b1 b2 b3 b4 b5 b6 b7 &&& ((1 <<< (nI 3 &&& 31)) ^^^ -1) = q_m8 b0 b1 b2 false b4 b5 b6 b7 := by decide +kernel
theorem q_b4 : ∀ b0 b1 b2 b3 b4 b5 b6 b7 : Bool, q_isf (q_m8 b0 b1 b2 b3 b4 b5 b6 b7) 4 = b4 ∧ q_m8 b0 b1 b2 b3 b4 b5 b6 b7 ||| (1 <<< (nI 4 &&& 31)) = q_m8 b0 b1 b2 b3 true b5 b6 b7 ∧ q_m8 b0 b1 b2 b3 b4 b5 b6 b7 &&& ((1 <<< (nI 4 &&& 31)) ^^^ -1) = q_m8 b0 b1 b2 b3 false b5 b6 b7 := by decide +kernel
theorem q_b5 : ∀ b0 b1 b2 b3 b4 b5 b6 b7 : Bool, q_isf (q_m8 b0 b1 b2 b3 b4 b5 b6 b7) 5 = b5 ∧ q_m8 b0 b1 b2 b3 b4 b5 b6 b7 ||| (1 <<< (nI 5 &&& 31)) = q_m8 b0 b1 b2 b3 b4 true b6 b7 ∧ q_m8 b0 b1 b2 b3 b4 b5 b6 b7 &&& ((1 <<< (nI 5 &&& 31)) ^^^ -1) = q_m8 b0 b1 b2 b3 b4 false b6 b7 := by decide +kernel
theorem q_b6 : ∀ b0 b1 b2 b3 b4 b5 b6 b7 : Bool, q_isf (q_m8 b0 b1 b2 b3 b4 b5 b6 b7) 6 = b6 ∧ q_m8 b0 b1 b2 b3 b4 b5 b6 b7 ||| (1 <<< (nI 6 &&& 31)) = q_m8 b0 b1 b2 b3 b4 b5 true b7 ∧ q_m8 b0 b1 b2 b3 b4 b5 b6 b7 &&& ((1 <<< (nI 6 &&& 31)) ^^^ -1) = q_m8 b0 b1 b2 b3 b4 b5 false b7 := by decide +kernel
theorem q_b7 : ∀ b0 b1 b2 b3 b4 b5 b6 b7 : Bool, q_isf (q_m8 b0 b1 b2 b3 b4 b5 b6 b7) 7 = b7 ∧ q_m8 b0 b1 b2 b3 b4 b5 b6 b7 ||| (1 <<< (nI 7 &&& 31)) = q_m8 b0 b1 b2 b3 b4 b5 b6 true ∧ q_m8 b0 b1 b2 b3 b4 b5 b6 b7 &&& ((1 <<< (nI 7 &&& 31)) ^^^ -1) = q_m8 b0 b1 b2 b3 b4 b5 b6 false := by decide +kernel

theorem r_fset_c {r r2 : RW} : ∀ {n : Nat}, (∀ s, s < n → r_frz r2 s = r_frz r s) → r_fset r2 n = r_fset r n
  | 0, _ => rfl
  | n + 1, h => by rw [r_fset_s, r_fset_s, h n (Nat.lt_succ_self n), r_fset_c (n := n) (fun s hs => h s (Nat.lt_succ_of_lt hs))]
theorem r_frz_o {r : RW} {s i : Nat} {v : Int64} (h : i ≠ 14 + 15 * s + 3) : r_frz (vp_updL r i v) s = r_frz r s := by
  unfold r_frz; rw [vp_uLo h]
theorem r_frz_1 (r : RW) (s : Nat) : r_frz (vp_updL r (14 + 15 * s + 3) 1) s = true := by
  unfold r_frz; rw [pk_uLs]; rfl
theorem r_frz_0 (r : RW) (s : Nat) : r_frz (vp_updL r (14 + 15 * s + 3) 0) s = false := by
  unfold r_frz; rw [pk_uLs]; rfl
theorem q_frz {r : RW} {s : Nat} (hs : s < 8) : q_isf (r_fset r 8) s = r_frz r s ∧ r_fset r 8 ||| (1 <<< (nI s &&& 31)) = r_fset (vp_updL r (14 + 15 * s + 3) 1) 8 ∧ r_fset r 8 &&& ((1 <<< (nI s &&& 31)) ^^^ -1) = r_fset (vp_updL r (14 + 15 * s + 3) 0) 8 := by
  rw [r_fset_8, r_fset_8, r_fset_8]
  match s, hs with
  | 0, _ =>
    rw [r_frz_1 r 0, r_frz_o (r := r) (s := 1) (i := 14 + 15 * 0 + 3) (v := 1) (by decide), r_frz_o (r := r) (s := 2) (i := 14 + 15 * 0 + 3) (v := 1) (by decide), r_frz_o (r := r) (s := 3) (i := 14 + 15 * 0 + 3) (v := 1) (by decide), r_frz_o (r := r) (s := 4) (i := 14 + 15 * 0 + 3) (v := 1) (by decide), r_frz_o (r := r) (s := 5) (i := 14 + 15 * 0 + 3) (v := 1) (by decide), r_frz_o (r := r) (s := 6) (i := 14 + 15 * 0 + 3) (v := 1) (by decide), r_frz_o (r := r) (s := 7) (i := 14 + 15 * 0 + 3) (v := 1) (by decide), r_frz_0 r 0, r_frz_o (r := r) (s := 1) (i := 14 + 15 * 0 + 3) (v := 0) (by decide), r_frz_o (r := r) (s := 2) (i := 14 + 15 * 0 + 3) (v := 0) (by decide), r_frz_o (r := r) (s := 3) (i := 14 + 15 * 0 + 3) (v := 0) (by decide), r_frz_o (r := r) (s := 4) (i := 14 + 15 * 0 + 3) (v := 0) (by decide), r_frz_o (r := r) (s := 5) (i := 14 + 15 * 0 + 3) (v := 0) (by decide), r_frz_o (r := r) (s := 6) (i := 14 + 15 * 0 + 3) (v := 0) (by decide), r_frz_o (r := r) (s := 7) (i := 14 + 15 * 0 + 3) (v := 0) (by decide)]
    exact q_b0 _ _ _ _ _ _ _ _
  | 1, _ =>
    rw [r_frz_o (r := r) (s := 0) (i := 14 + 15 * 1 + 3) (v := 1) (by decide), r_frz_1 r 1, r_frz_o (r := r) (s := 2) (i := 14 + 15 * 1 + 3) (v := 1) (by decide), r_frz_o (r := r) (s := 3) (i := 14 + 15 * 1 + 3) (v := 1) (by decide), r_frz_o (r := r) (s := 4) (i := 14 + 15 * 1 + 3) (v := 1) (by decide), r_frz_o (r := r) (s := 5) (i := 14 + 15 * 1 + 3) (v := 1) (by decide), r_frz_o (r := r) (s := 6) (i := 14 + 15 * 1 + 3) (v := 1) (by decide), r_frz_o (r := r) (s := 7) (i := 14 + 15 * 1 + 3) (v := 1) (by decide), r_frz_o (r := r) (s := 0) (i := 14 + 15 * 1 + 3) (v := 0) (by decide), r_frz_0 r 1, r_frz_o (r := r) (s := 2) (i := 14 + 15 * 1 + 3) (v := 0) (by decide), r_frz_o (r := r) (s := 3) (i := 14 + 15 * 1 + 3) (v := 0) (by decide), r_frz_o (r := r) (s := 4) (i := 14 + 15 * 1 + 3) (v := 0) (by decide), r_frz_o (r := r) (s := 5) (i := 14 + 15 * 1 + 3) (v := 0) (by decide), r_frz_o (r := r) (s := 6) (i := 14 + 15 * 1 + 3) (v := 0) (by decide), r_frz_o (r := r) (s := 7) (i := 14 + 15 * 1 + 3) (v := 0) (by decide)]
    exact q_b1 _ _ _ _ _ _ _ _
  | 2, _ =>
    rw [r_frz_o (r := r) (s := 0) (i := 14 + 15 * 2 + 3) (v := 1) (by decide), r_frz_o (r := r) (s := 1) (i := 14 + 15 * 2 + 3) (v := 1) (by decide), r_frz_1 r 2, r_frz_o (r := r) (s := 3) (i := 14 + 15 * 2 + 3) (v := 1) (by decide), r_frz_o (r := r) (s := 4) (i := 14 + 15 * 2 + 3) (v := 1) (by decide), r_frz_o (r := r) (s := 5) (i := 14 + 15 * 2 + 3) (v := 1) (by decide), r_frz_o (r := r) (s := 6) (i := 14 + 15 * 2 + 3) (v := 1) (by decide), r_frz_o (r := r) (s := 7) (i := 14 + 15 * 2 + 3) (v := 1) (by decide), r_frz_o (r := r) (s := 0) (i := 14 + 15 * 2 + 3) (v := 0) (by decide), r_frz_o (r := r) (s := 1) (i := 14 + 15 * 2 + 3) (v := 0) (by decide), r_frz_0 r 2, r_frz_o (r := r) (s := 3) (i := 14 + 15 * 2 + 3) (v := 0) (by decide), r_frz_o (r := r) (s := 4) (i := 14 + 15 * 2 + 3) (v := 0) (by decide), r_frz_o (r := r) (s := 5) (i := 14 + 15 * 2 + 3) (v := 0) (by decide), r_frz_o (r := r) (s := 6) (i := 14 + 15 * 2 + 3) (v := 0) (by decide), r_frz_o (r := r) (s := 7) (i := 14 + 15 * 2 + 3) (v := 0) (by decide)]
    exact q_b2 _ _ _ _ _ _ _ _
  | 3, _ =>
    rw [r_frz_o (r := r) (s := 0) (i := 14 + 15 * 3 + 3) (v := 1) (by decide), r_frz_o (r := r) (s := 1) (i := 14 + 15 * 3 + 3) (v := 1) (by decide), r_frz_o (r := r) (s := 2) (i := 14 + 15 * 3 + 3) (v := 1) (by decide), r_frz_1 r 3, r_frz_o (r := r) (s := 4) (i := 14 + 15 * 3 + 3) (v := 1) (by decide), r_frz_o (r := r) (s := 5) (i := 14 + 15 * 3 + 3) (v := 1) (by decide), r_frz_o (r := r) (s := 6) (i := 14 + 15 * 3 + 3) (v := 1) (by decide), r_frz_o (r := r) (s := 7) (i := 14 + 15 * 3 + 3) (v := 1) (by decide), r_frz_o (r := r) (s := 0) (i := 14 + 15 * 3 + 3) (v := 0) (by decide), r_frz_o (r := r) (s := 1) (i := 14 + 15 * 3 + 3) (v := 0) (by decide), r_frz_o (r := r) (s := 2) (i := 14 + 15 * 3 + 3) (v := 0) (by decide), r_frz_0 r 3, r_frz_o (r := r) (s := 4) (i := 14 + 15 * 3 + 3) (v := 0) (by decide), r_frz_o (r := r) (s := 5) (i := 14 + 15 * 3 + 3) (v := 0) (by decide), r_frz_o (r := r) (s := 6) (i := 14 + 15 * 3 + 3) (v := 0) (by decide), r_frz_o (r := r) (s := 7) (i := 14 + 15 * 3 + 3) (v := 0) (by decide)]
    exact q_b3 _ _ _ _ _ _ _ _
  | 4, _ =>
    rw [r_frz_o (r := r) (s := 0) (i := 14 + 15 * 4 + 3) (v := 1) (by decide), r_frz_o (r := r) (s := 1) (i := 14 + 15 * 4 + 3) (v := 1) (by decide), r_frz_o (r := r) (s := 2) (i := 14 + 15 * 4 + 3) (v := 1) (by decide), r_frz_o (r := r) (s := 3) (i := 14 + 15 * 4 + 3) (v := 1) (by decide), r_frz_1 r 4, r_frz_o (r := r) (s := 5) (i := 14 + 15 * 4 + 3) (v := 1) (by decide), r_frz_o (r := r) (s := 6) (i := 14 + 15 * 4 + 3) (v := 1) (by decide), r_frz_o (r := r) (s := 7) (i := 14 + 15 * 4 + 3) (v := 1) (by decide), r_frz_o (r := r) (s := 0) (i := 14 + 15 * 4 + 3) (v := 0) (by decide), r_frz_o (r := r) (s := 1) (i := 14 + 15 * 4 + 3) (v := 0) (by decide), r_frz_o (r := r) (s := 2) (i := 14 + 15 * 4 + 3) (v := 0) (by decide), r_frz_o (r := r) (s := 3) (i := 14 + 15 * 4 + 3) (v := 0) (by decide), r_frz_0 r 4, r_frz_o (r := r) (s := 5) (i := 14 + 15 * 4 + 3) (v := 0) (by decide), r_frz_o (r := r) (s := 6) (i := 14 + 15 * 4 + 3) (v := 0) (by decide), r_frz_o (r := r) (s := 7) (i := 14 + 15 * 4 + 3) (v := 0) (by decide)]
    exact q_b4 _ _ _ _ _ _ _ _
  | 5, _ =>
    rw [r_frz_o (r := r) (s := 0) (i := 14 + 15 * 5 + 3) (v := 1) (by decide), r_frz_o (r := r) (s := 1) (i := 14 + 15 * 5 + 3) (v := 1) (by decide), r_frz_o (r := r) (s := 2) (i := 14 + 15 * 5 + 3) (v := 1) (by decide), r_frz_o (r := r) (s := 3) (i := 14 + 15 * 5 + 3) (v := 1) (by decide), r_frz_o (r := r) (s := 4) (i := 14 + 15 * 5 + 3) (v := 1) (by decide), r_frz_1 r 5, r_frz_o (r := r) (s := 6) (i := 14 + 15 * 5 + 3) (v := 1) (by decide), r_frz_o (r := r) (s := 7) (i := 14 + 15 * 5 + 3) (v := 1) (by decide), r_frz_o (r := r) (s := 0) (i := 14 + 15 * 5 + 3) (v := 0) (by decide), r_frz_o (r := r) (s := 1) (i := 14 + 15 * 5 + 3) (v := 0) (by decide), r_frz_o (r := r) (s := 2) (i := 14 + 15 * 5 + 3) (v := 0) (by decide), r_frz_o (r := r) (s := 3) (i := 14 + 15 * 5 + 3) (v := 0) (by decide), r_frz_o (r := r) (s := 4) (i := 14 + 15 * 5 + 3) (v := 0) (by decide), r_frz_0 r 5, r_frz_o (r := r) (s := 6) (i := 14 + 15 * 5 + 3) (v := 0) (by decide), r_frz_o (r := r) (s := 7) (i := 14 + 15 * 5 + 3) (v := 0) (by decide)]
    exact q_b5 _ _ _ _ _ _ _ _
  | 6, _ =>
    rw [r_frz_o (r := r) (s := 0) (i := 14 + 15 * 6 + 3) (v := 1) (by decide), r_frz_o (r := r) (s := 1) (i := 14 + 15 * 6 + 3) (v := 1) (by decide), r_frz_o (r := r) (s := 2) (i := 14 + 15 * 6 + 3) (v := 1) (by decide), r_frz_o (r := r) (s := 3) (i := 14 + 15 * 6 + 3) (v := 1) (by decide), r_frz_o (r := r) (s := 4) (i := 14 + 15 * 6 + 3) (v := 1) (by decide), r_frz_o (r := r) (s := 5) (i := 14 + 15 * 6 + 3) (v := 1) (by decide), r_frz_1 r 6, r_frz_o (r := r) (s := 7) (i := 14 + 15 * 6 + 3) (v := 1) (by decide), r_frz_o (r := r) (s := 0) (i := 14 + 15 * 6 + 3) (v := 0) (by decide), r_frz_o (r := r) (s := 1) (i := 14 + 15 * 6 + 3) (v := 0) (by decide), r_frz_o (r := r) (s := 2) (i := 14 + 15 * 6 + 3) (v := 0) (by decide), r_frz_o (r := r) (s := 3) (i := 14 + 15 * 6 + 3) (v := 0) (by decide), r_frz_o (r := r) (s := 4) (i := 14 + 15 * 6 + 3) (v := 0) (by decide), r_frz_o (r := r) (s := 5) (i := 14 + 15 * 6 + 3) (v := 0) (by decide), r_frz_0 r 6, r_frz_o (r := r) (s := 7) (i := 14 + 15 * 6 + 3) (v := 0) (by decide)]
    exact q_b6 _ _ _ _ _ _ _ _
  | 7, _ =>
    rw [r_frz_o (r := r) (s := 0) (i := 14 + 15 * 7 + 3) (v := 1) (by decide), r_frz_o (r := r) (s := 1) (i := 14 + 15 * 7 + 3) (v := 1) (by decide), r_frz_o (r := r) (s := 2) (i := 14 + 15 * 7 + 3) (v := 1) (by decide), r_frz_o (r := r) (s := 3) (i := 14 + 15 * 7 + 3) (v := 1) (by decide), r_frz_o (r := r) (s := 4) (i := 14 + 15 * 7 + 3) (v := 1) (by decide), r_frz_o (r := r) (s := 5) (i := 14 + 15 * 7 + 3) (v := 1) (by decide), r_frz_o (r := r) (s := 6) (i := 14 + 15 * 7 + 3) (v := 1) (by decide), r_frz_1 r 7, r_frz_o (r := r) (s := 0) (i := 14 + 15 * 7 + 3) (v := 0) (by decide), r_frz_o (r := r) (s := 1) (i := 14 + 15 * 7 + 3) (v := 0) (by decide), r_frz_o (r := r) (s := 2) (i := 14 + 15 * 7 + 3) (v := 0) (by decide), r_frz_o (r := r) (s := 3) (i := 14 + 15 * 7 + 3) (v := 0) (by decide), r_frz_o (r := r) (s := 4) (i := 14 + 15 * 7 + 3) (v := 0) (by decide), r_frz_o (r := r) (s := 5) (i := 14 + 15 * 7 + 3) (v := 0) (by decide), r_frz_o (r := r) (s := 6) (i := 14 + 15 * 7 + 3) (v := 0) (by decide), r_frz_0 r 7]
    exact q_b7 _ _ _ _ _ _ _ _
  | _ + 8, h => exact absurd h (by omega)

/-! services -/
def SV (d : HD) (r : RW) (s : Nat) : Prop :=
  (r (14 + 15 * s + 0) = (h_bud d s).toInt64 ∧ zok (h_bud d s) 10000) ∧ r (14 + 15 * s + 1) = h_acc d (9 * s + 8) ∧ (r (14 + 15 * s + 2) = (h_exe d s).toInt64 ∧ zok (h_exe d s) 9) ∧ (r (14 + 15 * s + 3) = 0 ∨ r (14 + 15 * s + 3) = 1) ∧
  h_rel d s = (r (14 + 15 * s + 4)).toInt32 ∧ h_drp d s = (r (14 + 15 * s + 5)).toInt32 ∧ h_fr d s = (r (14 + 15 * s + 6)).toInt32 ∧ ∀ w, w < 8 → h_acc d (9 * s + w) = r (14 + 15 * s + 7 + w)
def HS (d : HD) (r : RW) : Prop := (r 3 = (h_set d 3).toInt64 ∧ zok (h_set d 3) 100) ∧ h_frz d = r_fset r 8 ∧ ∀ s, s < 8 → SV d r s
theorem SV_of {d d2 : HD} {r r2 : RW} {s : Nat} (h : SV d r s) (e : ∀ k, k < 15 → r2 (14 + 15 * s + k) = r (14 + 15 * s + k)) (e1 : h_bud d2 s = h_bud d s) (e2 : h_exe d2 s = h_exe d s) (e3 : h_rel d2 s = h_rel d s) (e4 : h_drp d2 s = h_drp d s) (e5 : h_fr d2 s = h_fr d s) (e6 : ∀ w, w < 9 → h_acc d2 (9 * s + w) = h_acc d (9 * s + w)) : SV d2 r2 s := by
  obtain ⟨a1, a2, a3, a4, a5, a6, a7, a8⟩ := h
  unfold SV
  rw [e 0 (by decide), e 1 (by decide), e 2 (by decide), e 3 (by decide), e 4 (by decide), e 5 (by decide), e 6 (by decide), e1, e2, e3, e4, e5, e6 8 (by decide)]
  refine ⟨a1, a2, a3, a4, a5, a6, a7, fun w hw => ?_⟩
  rw [e6 w (by omega), show 14 + 15 * s + 7 + w = 14 + 15 * s + (7 + w) by omega, e (7 + w) (by omega)]
  have := a8 w hw
  rw [show 14 + 15 * s + 7 + w = 14 + 15 * s + (7 + w) by omega] at this
  exact this
theorem HS_acc {d : HD} {r : RW} {s w : Nat} {v : Int64} (h : HS d r) (hs : s < 8) (hw : w < 8) : HS (h_sacc d (vp_updL (h_acc d) (9 * s + w) v)) (vp_updL r (14 + 15 * s + 7 + w) v) := by
  obtain ⟨⟨h3, h3k⟩, hf, hv⟩ := h
  refine ⟨⟨by rw [vp_uLo (by omega)]; exact h3, h3k⟩, ?_, fun s2 hs2 => ?_⟩
  · rw [r_fset_c (r := r) (fun s2 _ => r_frz_o (by omega))]; exact hf
  · by_cases e : s2 = s
    · subst e
      obtain ⟨a1, a2, a3, a4, a5, a6, a7, a8⟩ := hv s2 hs2
      refine ⟨by rw [vp_uLo (by omega)]; exact a1, ?_, by rw [vp_uLo (by omega)]; exact a3, by rw [vp_uLo (by omega)]; exact a4, by rw [vp_uLo (by omega)]; exact a5, by rw [vp_uLo (by omega)]; exact a6, by rw [vp_uLo (by omega)]; exact a7, fun w2 hw2 => ?_⟩
      · show vp_updL r _ v _ = vp_updL (h_acc d) _ v _
        rw [vp_uLo (by omega), vp_uLo (by omega)]; exact a2
      · show vp_updL (h_acc d) _ v _ = vp_updL r _ v _
        by_cases e2 : w2 = w
        · subst e2; rw [pk_uLs, pk_uLs]
        · rw [vp_uLo (by omega), vp_uLo (by omega)]; exact a8 w2 hw2
    · exact SV_of (hv s2 hs2) (fun k hk => vp_uLo (by omega)) rfl rfl rfl rfl rfl (fun w2 hw2 => vp_uLo (f := h_acc d) (by omega))
theorem HS_left {d : HD} {r : RW} {s : Nat} {v : Int64} (h : HS d r) (hs : s < 8) : HS (h_sacc d (vp_updL (h_acc d) (9 * s + 8) v)) (vp_updL r (14 + 15 * s + 1) v) := by
  obtain ⟨⟨h3, h3k⟩, hf, hv⟩ := h
  refine ⟨⟨by rw [vp_uLo (by omega)]; exact h3, h3k⟩, ?_, fun s2 hs2 => ?_⟩
  · rw [r_fset_c (r := r) (fun s2 _ => r_frz_o (by omega))]; exact hf
  · by_cases e : s2 = s
    · subst e
      obtain ⟨a1, a2, a3, a4, a5, a6, a7, a8⟩ := hv s2 hs2
      refine ⟨by rw [vp_uLo (by omega)]; exact a1, ?_, by rw [vp_uLo (by omega)]; exact a3, by rw [vp_uLo (by omega)]; exact a4, by rw [vp_uLo (by omega)]; exact a5, by rw [vp_uLo (by omega)]; exact a6, by rw [vp_uLo (by omega)]; exact a7, fun w2 hw2 => ?_⟩
      · show vp_updL r _ v _ = vp_updL (h_acc d) _ v _
        rw [pk_uLs, pk_uLs]
      · show vp_updL (h_acc d) _ v _ = vp_updL r _ v _
        rw [vp_uLo (by omega), vp_uLo (by omega)]; exact a8 w2 hw2
    · exact SV_of (hv s2 hs2) (fun k hk => vp_uLo (by omega)) rfl rfl rfl rfl rfl (fun w2 hw2 => vp_uLo (f := h_acc d) (by omega))
theorem up_o {f : Nat → Int32} {i j : Nat} {v : Int32} (h : i ≠ j) : upd f i v j = f j := pk_un (fun e => h e.symm)
theorem HS_bud {d : HD} {r : RW} {s : Nat} {a : Int32} {v : Int64} (h : HS d r) (hs : s < 8) (hx : v = a.toInt64 ∧ zok a 10000) : HS (h_sbud d (upd (h_bud d) s a)) (vp_updL r (14 + 15 * s + 0) v) := by
  obtain ⟨⟨h3, h3k⟩, hf, hv⟩ := h
  refine ⟨⟨by rw [vp_uLo (by omega)]; exact h3, h3k⟩, ?_, fun s2 hs2 => ?_⟩
  · rw [r_fset_c (r := r) (fun s2 _ => r_frz_o (by omega))]; exact hf
  · by_cases e : s2 = s
    · subst e
      obtain ⟨a1, a2, a3, a4, a5, a6, a7, a8⟩ := hv s2 hs2
      exact ⟨(by rw [pk_uLs]; show _ = (upd (h_bud d) s2 a s2).toInt64 ∧ zok (upd (h_bud d) s2 a s2) 10000; rw [pk_us]; exact hx), by rw [vp_uLo (by omega)]; exact a2, by rw [vp_uLo (by omega)]; exact a3, by rw [vp_uLo (by omega)]; exact a4, by rw [vp_uLo (by omega)]; exact a5, by rw [vp_uLo (by omega)]; exact a6, by rw [vp_uLo (by omega)]; exact a7, fun w2 hw2 => by rw [vp_uLo (by omega)]; exact a8 w2 hw2⟩
    · exact SV_of (hv s2 hs2) (fun k hk => vp_uLo (by omega)) (up_o (f := h_bud d) (fun z => e z.symm)) rfl rfl rfl rfl (fun _ _ => rfl)
theorem HS_exe {d : HD} {r : RW} {s : Nat} {a : Int32} {v : Int64} (h : HS d r) (hs : s < 8) (hx : v = a.toInt64 ∧ zok a 9) : HS (h_sexe d (upd (h_exe d) s a)) (vp_updL r (14 + 15 * s + 2) v) := by
  obtain ⟨⟨h3, h3k⟩, hf, hv⟩ := h
  refine ⟨⟨by rw [vp_uLo (by omega)]; exact h3, h3k⟩, ?_, fun s2 hs2 => ?_⟩
  · rw [r_fset_c (r := r) (fun s2 _ => r_frz_o (by omega))]; exact hf
  · by_cases e : s2 = s
    · subst e
      obtain ⟨a1, a2, a3, a4, a5, a6, a7, a8⟩ := hv s2 hs2
      exact ⟨by rw [vp_uLo (by omega)]; exact a1, by rw [vp_uLo (by omega)]; exact a2, (by rw [pk_uLs]; show _ = (upd (h_exe d) s2 a s2).toInt64 ∧ zok (upd (h_exe d) s2 a s2) 9; rw [pk_us]; exact hx), by rw [vp_uLo (by omega)]; exact a4, by rw [vp_uLo (by omega)]; exact a5, by rw [vp_uLo (by omega)]; exact a6, by rw [vp_uLo (by omega)]; exact a7, fun w2 hw2 => by rw [vp_uLo (by omega)]; exact a8 w2 hw2⟩
    · exact SV_of (hv s2 hs2) (fun k hk => vp_uLo (by omega)) rfl (up_o (f := h_exe d) (fun z => e z.symm)) rfl rfl rfl (fun _ _ => rfl)
theorem HS_rel {d : HD} {r : RW} {s : Nat} {a : Int32} {v : Int64} (h : HS d r) (hs : s < 8) (hx : a = v.toInt32) : HS (h_srel d (upd (h_rel d) s a)) (vp_updL r (14 + 15 * s + 4) v) := by
  obtain ⟨⟨h3, h3k⟩, hf, hv⟩ := h
  refine ⟨⟨by rw [vp_uLo (by omega)]; exact h3, h3k⟩, ?_, fun s2 hs2 => ?_⟩
  · rw [r_fset_c (r := r) (fun s2 _ => r_frz_o (by omega))]; exact hf
  · by_cases e : s2 = s
    · subst e
      obtain ⟨a1, a2, a3, a4, a5, a6, a7, a8⟩ := hv s2 hs2
      exact ⟨by rw [vp_uLo (by omega)]; exact a1, by rw [vp_uLo (by omega)]; exact a2, by rw [vp_uLo (by omega)]; exact a3, by rw [vp_uLo (by omega)]; exact a4, (by rw [pk_uLs]; show upd (h_rel d) s2 a s2 = _; rw [pk_us]; exact hx), by rw [vp_uLo (by omega)]; exact a6, by rw [vp_uLo (by omega)]; exact a7, fun w2 hw2 => by rw [vp_uLo (by omega)]; exact a8 w2 hw2⟩
    · exact SV_of (hv s2 hs2) (fun k hk => vp_uLo (by omega)) rfl rfl (up_o (f := h_rel d) (fun z => e z.symm)) rfl rfl (fun _ _ => rfl)
theorem HS_drp {d : HD} {r : RW} {s : Nat} {a : Int32} {v : Int64} (h : HS d r) (hs : s < 8) (hx : a = v.toInt32) : HS (h_sdrp d (upd (h_drp d) s a)) (vp_updL r (14 + 15 * s + 5) v) := by
  obtain ⟨⟨h3, h3k⟩, hf, hv⟩ := h
  refine ⟨⟨by rw [vp_uLo (by omega)]; exact h3, h3k⟩, ?_, fun s2 hs2 => ?_⟩
  · rw [r_fset_c (r := r) (fun s2 _ => r_frz_o (by omega))]; exact hf
  · by_cases e : s2 = s
    · subst e
      obtain ⟨a1, a2, a3, a4, a5, a6, a7, a8⟩ := hv s2 hs2
      exact ⟨by rw [vp_uLo (by omega)]; exact a1, by rw [vp_uLo (by omega)]; exact a2, by rw [vp_uLo (by omega)]; exact a3, by rw [vp_uLo (by omega)]; exact a4, by rw [vp_uLo (by omega)]; exact a5, (by rw [pk_uLs]; show upd (h_drp d) s2 a s2 = _; rw [pk_us]; exact hx), by rw [vp_uLo (by omega)]; exact a7, fun w2 hw2 => by rw [vp_uLo (by omega)]; exact a8 w2 hw2⟩
    · exact SV_of (hv s2 hs2) (fun k hk => vp_uLo (by omega)) rfl rfl rfl (up_o (f := h_drp d) (fun z => e z.symm)) rfl (fun _ _ => rfl)
theorem HS_fr {d : HD} {r : RW} {s : Nat} {a : Int32} {v : Int64} (h : HS d r) (hs : s < 8) (hx : a = v.toInt32) : HS (h_sfr d (upd (h_fr d) s a)) (vp_updL r (14 + 15 * s + 6) v) := by
  obtain ⟨⟨h3, h3k⟩, hf, hv⟩ := h
  refine ⟨⟨by rw [vp_uLo (by omega)]; exact h3, h3k⟩, ?_, fun s2 hs2 => ?_⟩
  · rw [r_fset_c (r := r) (fun s2 _ => r_frz_o (by omega))]; exact hf
  · by_cases e : s2 = s
    · subst e
      obtain ⟨a1, a2, a3, a4, a5, a6, a7, a8⟩ := hv s2 hs2
      exact ⟨by rw [vp_uLo (by omega)]; exact a1, by rw [vp_uLo (by omega)]; exact a2, by rw [vp_uLo (by omega)]; exact a3, by rw [vp_uLo (by omega)]; exact a4, by rw [vp_uLo (by omega)]; exact a5, by rw [vp_uLo (by omega)]; exact a6, (by rw [pk_uLs]; show upd (h_fr d) s2 a s2 = _; rw [pk_us]; exact hx), fun w2 hw2 => by rw [vp_uLo (by omega)]; exact a8 w2 hw2⟩
    · exact SV_of (hv s2 hs2) (fun k hk => vp_uLo (by omega)) rfl rfl rfl rfl (up_o (f := h_fr d) (fun z => e z.symm)) (fun _ _ => rfl)
theorem HS_frz {d : HD} {r : RW} {s : Nat} {v : Int64} (h : HS d r) (hs : s < 8) (hv : v = 0 ∨ v = 1) {x : Int32} (hx : x = r_fset (vp_updL r (14 + 15 * s + 3) v) 8) : HS (h_sfrz d x) (vp_updL r (14 + 15 * s + 3) v) := by
  obtain ⟨⟨h3, h3k⟩, hf, hw⟩ := h
  refine ⟨⟨by rw [vp_uLo (by omega)]; exact h3, h3k⟩, hx, fun s2 hs2 => ?_⟩
  by_cases e : s2 = s
  · subst e
    obtain ⟨a1, a2, a3, a4, a5, a6, a7, a8⟩ := hw s2 hs2
    exact ⟨by rw [vp_uLo (by omega)]; exact a1, by rw [vp_uLo (by omega)]; exact a2, by rw [vp_uLo (by omega)]; exact a3, by rw [pk_uLs]; exact hv, by rw [vp_uLo (by omega)]; exact a5, by rw [vp_uLo (by omega)]; exact a6, by rw [vp_uLo (by omega)]; exact a7, fun w2 hw2 => by rw [vp_uLo (by omega)]; exact a8 w2 hw2⟩
  · exact SV_of (hw s2 hs2) (fun k hk => vp_uLo (by omega)) rfl rfl rfl rfl rfl (fun _ _ => rfl)
theorem HS_r {d : HD} {r r2 : RW} (h : HS d r) (e : ∀ j, j = 3 ∨ (14 ≤ j ∧ j < 134) → r2 j = r j) : HS d r2 := by
  obtain ⟨h3, hf, hv⟩ := h
  refine ⟨by rw [e 3 (Or.inl rfl)]; exact h3, ?_, fun s hs => SV_of (hv s hs) (fun k hk => e _ (Or.inr (by omega))) rfl rfl rfl rfl rfl (fun _ _ => rfl)⟩
  rw [r_fset_c (r := r) (fun s hs => by unfold r_frz; rw [e _ (Or.inr (by omega))])]; exact hf
theorem r_add_0 (r : RW) (i : Nat) : r_add r i 0 = r := by
  funext j; unfold r_add
  by_cases e : j = i
  · subst e; rw [pk_uLs]; exact Int64.add_zero _
  · rw [pk_uLn e]
/-! frozen or not; minutes -/
theorem HS_isf {d : HD} {r : RW} {s : Nat} (h : HS d r) (hs : s < 8) : h_isf d (nI s) = r_frz r s := by
  have := (q_frz (r := r) hs).1
  rw [← h.2.1] at this; exact this
theorem h_ix_n {s w : Nat} (hs : s < 8) (hw : w < 9) : h_ix (nI s) (nI w) = 9 * s + w := by
  unfold h_ix
  rw [show (9 : Int32) = nI 9 from rfl, pk_mul, nI_add]
  rw [zn_nI (by omega)]; omega
theorem HS_mo {d : HD} {r : RW} {s : Nat} (h : HS d r) (hs : s < 8) : h_mo d (nI s) 8 = r_left r s := by
  show h_acc d (h_ix (nI s) (nI 8)) = _
  rw [h_ix_n hs (by decide)]; exact (h.2.2 s hs).2.1.symm
theorem HS_thw {d : HD} {r : RW} {s : Nat} (h : HS d r) (hs : s < 8) : (h_thw d (nI s)).toInt64 = r_thw r s ∧ zok (h_thw d (nI s)) 10000 := by
  have hb := (h.2.2 s hs).1
  have k1 := q_mul hb.2 h.1.2 (by decide) (by decide) (by decide)
  have k2 := q_d100 k1.2.1 (by decide)
  unfold h_thw r_thw
  rw [zn_nI (by omega), k2.1, k1.1, hb.1, h.1.1]
  exact ⟨rfl, k2.2.1⟩
theorem HS_sett {d : HD} {r : RW} {s : Nat} (h : HS d r) (hs : s < 8) : HS (h_sett d (nI s)) (r_sett r s) := by
  have hz : zn32 (nI s) = s := zn_nI (by omega)
  unfold h_sett r_sett
  rw [HS_mo h hs, HS_isf h hs, (HS_thw h hs).1]
  by_cases h1 : r_left r s ≤ 0
  · rw [if_pos h1, if_pos h1]
    by_cases h2 : r_frz r s = true
    · rw [if_pos h2, if_pos h2, r_add_0]
      refine HS_frz h hs (Or.inr rfl) ?_
      rw [h.2.1]; exact (q_frz hs).2.1
    · rw [if_neg h2, if_neg h2, hz]
      have k := HS_fr (a := h_fr d s + 1) (v := r (14 + 15 * s + 6) + 1) h hs (by rw [Int64.toInt32_add, ← (h.2.2 s hs).2.2.2.2.2.2.1]; rfl)
      refine HS_frz k hs (Or.inr rfl) ?_
      show h_frz d ||| _ = _
      have k2 := k.2.1
      rw [show h_frz d = r_fset (vp_updL r (14 + 15 * s + 6) (r (14 + 15 * s + 6) + 1)) 8 from k2]
      exact (q_frz hs).2.1
  · rw [if_neg h1, if_neg h1]
    by_cases h2 : r_left r s ≤ r_thw r s
    · rw [if_pos h2, if_pos h2]; exact h
    · rw [if_neg h2, if_neg h2]
      refine HS_frz h hs (Or.inl rfl) ?_
      rw [h.2.1]; exact (q_frz hs).2.2
theorem HS_ac {d : HD} {r : RW} {s w : Nat} {m : Int64} (h : HS d r) (hs : s < 8) (hw : w < 8) : HS (h_ac d (nI s) (nI w) m) (r_add r (14 + 15 * s + 7 + w) m) := by
  have k := HS_acc (w := w) (v := r (14 + 15 * s + 7 + w) + m) h hs hw
  unfold h_ac r_add
  rw [h_ix_n hs (by omega), (h.2.2 s hs).2.2.2.2.2.2.2 w hw]; exact k
theorem HS_ac8 {d : HD} {r : RW} {s : Nat} {m : Int64} (h : HS d r) (hs : s < 8) : HS (h_ac d (nI s) 8 m) (r_add r (14 + 15 * s + 1) m) := by
  have k := HS_left (v := r (14 + 15 * s + 1) + m) h hs
  show HS (h_ac d (nI s) (nI 8) m) _
  unfold h_ac r_add
  rw [h_ix_n hs (by decide), (h.2.2 s hs).2.1] at *; exact k
theorem HS_in {d : HD} {r : RW} {s w : Nat} {m : Int64} (h : HS d r) (hs : s < 8) (hw : w < 3) : HS (h_book d (nI s) (nI w) m) (r_change (r_add r (14 + 15 * s + 7 + w) m) s m) := by
  unfold h_book h_enter
  rw [if_pos (show nI w ≤ 2 from nI_le (b := 2) (by omega) (by decide))]
  exact HS_sett (HS_ac8 (HS_ac h hs (by omega)) hs) hs
theorem HS_out {d : HD} {r : RW} {s w : Nat} {m : Int64} (h : HS d r) (hs : s < 8) (hw : 3 ≤ w) (hw2 : w < 8) : HS (h_book d (nI s) (nI w) m) (r_change (r_add r (14 + 15 * s + 7 + w) m) s (-m)) := by
  unfold h_book h_enter
  rw [if_neg (show ¬ nI w ≤ 2 from nI_ge (a := 2) (by omega) (by omega))]
  exact HS_sett (HS_ac8 (HS_ac h hs hw2) hs) hs
theorem HS_dorel {d : HD} {r : RW} {s : Nat} {z : Int32} (h : HS d r) (hs : s < 8) : HS (h_dorel d (nI s) z) (r_spend r s z.toInt64) := by
  unfold h_dorel r_spend
  rw [zn_nI (by omega)]
  have k1 := HS_rel (a := h_rel d s + 1) (v := r (14 + 15 * s + 4) + 1) h hs (by rw [Int64.toInt32_add, ← (h.2.2 s hs).2.2.2.2.1]; rfl)
  have k2 := HS_out (w := 4) (m := z.toInt64) k1 hs (by decide) (by decide)
  have e : r_add (vp_updL r (14 + 15 * s + 4) (r (14 + 15 * s + 4) + 1)) (14 + 15 * s + 7 + 4) z.toInt64 = r_add (r_add r (14 + 15 * s + 7 + 4) z.toInt64) (14 + 15 * s + 4) 1 := by
    funext j
    unfold r_add
    by_cases e1 : j = 14 + 15 * s + 7 + 4
    · subst e1; rw [pk_uLs, pk_uLn (by omega), pk_uLn (by omega), pk_uLs]
    · rw [pk_uLn e1]
      by_cases e2 : j = 14 + 15 * s + 4
      · subst e2; rw [pk_uLs, pk_uLs, vp_uLo (by omega)]
      · rw [pk_uLn e2, pk_uLn e2, pk_uLn e1]
  rw [← e]; exact k2
