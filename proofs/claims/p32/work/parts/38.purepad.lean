
def zSlen : List Nat := [5, 4, 7, 7, 1, 0]
def zSbyt : List (List Int32) := [[115, 42, 110, 37, 110], [115, 42, 110, 33], [115, 62, 115, 42, 110, 47, 100], [115, 64, 110, 42, 110, 94, 100], [110], []]
def zsC (i k : Nat) : Int32 := (zSbyt.getD i []).getD k 0

/-! The pad, as functions. -/
theorem zR_tswD {x : zX} {g : zG} {own : String} {cc : ByteArray} {ret : Option FieldType} {f : Nat} {post : Option Value → va_W → Prop} {n : Nat × Nat} {pc pc' : Nat} {lv : List (Nat × Value)} {st : List Value} {ws : va_W} (C : zC x g own cc ret f) {dflt lo hi : Int} {offs : Array Int} {len tgt : Nat} {v : Int32} (d : zD cc pc (.tableswitch dflt lo hi offs) len pc')
    (hs : ∀ j : Nat, j < offs.size → offs[j]? = some dflt ∨ ¬ v.toInt = lo + (j : Int)) (hsz : (offs.size : Int) = hi - lo + 1) (ht : (pc : Int) + dflt = (tgt : Int)) (k : zR x g post n tgt lv st ws) : zR x g post n pc lv (.int v :: st) ws := by
  by_cases h : v.toInt < lo ∨ hi < v.toInt
  · exact zR_tswOut C d h ht k
  · have hj : (v.toInt - lo).toNat < offs.size := by omega
    rcases hs _ hj with h1 | h1
    · exact zR_tswIn C d (by omega) (by omega) h1 ht k
    · exact absurd (by omega) h1
def a_okc (h : Nat → Int32) : Prop := ∀ i, narrow .char (.int (h i)) = .int (h i)
def a_ok (d : AD) : Prop := zok (a_len d) 80 ∧ zok (a_at d) (zn32 (a_len d)) ∧ a_okc (a_sig d) ∧ a_okc (a_kin d) ∧ zok (a_ord d) 27
def a_here (d : AD) : Int32 := if a_at d < a_len d then a_sig d (zn32 (a_at d)) else 0
def a_adv (d : AD) : AD := a_sat d (a_at d + 1)
def a_sign (d : AD) (c : Int32) : Bool × AD := if a_here d = c then (true, a_adv d) else (false, d)
def a_digit (d : AD) (m : Int32) : Int32 × AD := if a_here d < 48 then (-1, d) else if a_here d ≤ m then (a_here d - 48, a_adv d) else (-1, d)
def a_nl (f : AD → Int32 → Int32 × AD) (d : AD) (v : Int32) : Int32 × AD := if v ≤ 0 then (v, d) else if (a_digit d 57).1 < 0 then (v, (a_digit d 57).2) else f (a_digit d 57).2 (v * 10 + (a_digit d 57).1)
def a_num (d : AD) : Int32 × AD := a_nl (a_nl (a_nl (fun d v => (v, d)))) (a_digit d 57).2 (a_digit d 57).1
def a_part (d : AD) (c : Int32) : Int32 × AD :=
  if c = 33 then (if (a_sign d 33).1 then (1, (a_sign d 33).2) else (0, (a_sign d 33).2))
  else if c = 100 then a_digit d 57 else if c = 110 then a_num d else if c = 115 then a_digit d 55
  else if (a_sign d c).1 then (0, (a_sign d c).2) else (-1, (a_sign d c).2)
def a_isv (c : Int32) : Bool := if c = 115 then true else if c = 100 then true else if c = 110 then true else if c = 33 then true else false
def a_shape (c : Int32) : Nat := if c = 104 then 4 else if c = 108 then 2 else if c = 111 then 0 else if c = 112 then 3 else if c = 114 then 1 else if c = 120 then 4 else 5
theorem a_shape_lt (c : Int32) : a_shape c < 6 := by
  unfold a_shape; repeat' split
  all_goals decide
def a_store (d : AD) (p : Nat) (v : Int32) : AD := a_sval d (upd (a_val d) (zn32 (a_ord d * 4 + nI p)) v)
def a_rl (i : Nat) : Nat → Nat → Nat → AD → Bool × AD
  | 0, _, _, d => (true, d)
  | k + 1, j, p, d => if (a_part d (zsC i j)).1 < 0 then (false, (a_part d (zsC i j)).2)
    else if a_isv (zsC i j) then (if nI p < 4 then a_rl i k (j + 1) (p + 1) (a_store (a_part d (zsC i j)).2 p (a_part d (zsC i j)).1) else a_rl i k (j + 1) p (a_part d (zsC i j)).2)
    else a_rl i k (j + 1) p (a_part d (zsC i j)).2
def a_kind (d : AD) : AD := a_adv (a_skin d (upd (a_kin d) (zn32 (a_ord d)) (a_here d)))
def a_order (d : AD) : Bool × AD := if decide (a_shape (a_here d) = 5) then (false, d) else a_rl (a_shape (a_here d)) (zSlen.getD (a_shape (a_here d)) 0) 0 0 (a_kind d)
def a_next (d : AD) : AD := a_sord d (a_ord d + 1)
def a_oloop : Nat → AD → Int32 × AD
  | 0, d => (a_at d, d)
  | k + 1, d => if (a_order d).1 then
      (if a_at (a_next (a_order d).2) < a_len (a_next (a_order d).2) then (if (a_sign (a_next (a_order d).2) 59).1 then a_oloop k (a_sign (a_next (a_order d).2) 59).2 else (a_at (a_sign (a_next (a_order d).2) 59).2, (a_sign (a_next (a_order d).2) 59).2)) else (-6, a_next (a_order d).2))
    else (a_at (a_order d).2, (a_order d).2)
def a_orders (d : AD) : Int32 × AD := a_oloop 27 (a_sord (a_sat d 0) 0)
def a_app (d : AD) (c : Int32) : AD := a_slen (a_ssig d (upd (a_sig d) (zn32 (a_len d)) c)) (a_len d + 1)
/-! what they keep -/
theorem zlp_out2 {v w : Int32} {n : Nat} (h : zok v n) (k : zok w 80) (hi : zn32 w ≤ zn32 v) : ¬ v < w := by
  by_cases hn : zn32 v < 2 ^ 31
  · rw [h.1, k.1]; exact nI_nlt hi hn
  · have : zn32 v < 2 ^ 31 := by have := v.toInt_lt; show v.toInt.toNat < _; omega
    exact absurd this hn
theorem zok_0 (n : Nat) : zok 0 n := ⟨rfl, Nat.zero_le _⟩
theorem zok_n {v : Int32} {n : Nat} (h : v = nI (zn32 v)) (h2 : zn32 v ≤ n) : zok v n := ⟨h, h2⟩
theorem a_here_lt {d : AD} (hd : a_ok d) (h : ¬ a_here d = 0) : zn32 (a_at d) < zn32 (a_len d) ∧ a_here d = a_sig d (zn32 (a_at d)) := by
  unfold a_here at h ⊢
  split at h
  · rename_i q
    rw [if_pos q]
    refine ⟨?_, rfl⟩
    rcases Nat.lt_or_ge (zn32 (a_at d)) (zn32 (a_len d)) with z | z
    · exact z
    · have h1 := hd.2.1.2; have h2 := hd.1.2
      exact absurd q (zlp_out2 hd.2.1 hd.1 z)
  · exact absurd rfl h
theorem a_adv_ok {d : AD} (hd : a_ok d) (h : ¬ a_here d = 0) : a_ok (a_adv d) := by
  obtain ⟨h1, -⟩ := a_here_lt hd h
  have h80 := hd.1.2
  refine ⟨hd.1, ?_, hd.2.2.1, hd.2.2.2.1, hd.2.2.2.2⟩
  have e : a_at (a_adv d) = nI (zn32 (a_at d) + 1) := by
    show a_at d + 1 = _
    rw [nI_succ, ← hd.2.1.1]
  rw [e]
  exact zok_nI h1 (by show zn32 (a_len d) < _; omega)
theorem a_adv_k (d : AD) : a_len (a_adv d) = a_len d ∧ a_sig (a_adv d) = a_sig d ∧ a_kin (a_adv d) = a_kin d ∧ a_ord (a_adv d) = a_ord d ∧ a_val (a_adv d) = a_val d := ⟨rfl, rfl, rfl, rfl, rfl⟩
/-- only the place where the reading stands has changed -/
def a_same (d e : AD) : Prop := a_len e = a_len d ∧ a_sig e = a_sig d ∧ a_kin e = a_kin d ∧ a_ord e = a_ord d ∧ a_val e = a_val d
theorem a_same.rf (d : AD) : a_same d d := ⟨rfl, rfl, rfl, rfl, rfl⟩
theorem a_same.tr {d e u : AD} (h : a_same d e) (k : a_same e u) : a_same d u := ⟨k.1.trans h.1, k.2.1.trans h.2.1, k.2.2.1.trans h.2.2.1, k.2.2.2.1.trans h.2.2.2.1, k.2.2.2.2.trans h.2.2.2.2⟩
theorem a_sign_ok {d : AD} {c : Int32} (hd : a_ok d) (hc : ¬ c = 0) : a_ok (a_sign d c).2 ∧ a_same d (a_sign d c).2 := by
  unfold a_sign; split
  · rename_i h; exact ⟨a_adv_ok hd (by rw [h]; exact hc), a_adv_k d⟩
  · exact ⟨hd, a_same.rf d⟩
theorem a_digit_ok {d : AD} {m : Int32} (hd : a_ok d) : a_ok (a_digit d m).2 ∧ a_same d (a_digit d m).2 := by
  unfold a_digit; split
  · exact ⟨hd, a_same.rf d⟩
  · rename_i h
    split
    · exact ⟨a_adv_ok hd (fun z => h (by rw [z]; decide)), a_adv_k d⟩
    · exact ⟨hd, a_same.rf d⟩
theorem a_nl_ok {f : AD → Int32 → Int32 × AD} (hf : ∀ d v, a_ok d → a_ok (f d v).2 ∧ a_same d (f d v).2) : ∀ d v, a_ok d → a_ok (a_nl f d v).2 ∧ a_same d (a_nl f d v).2 := by
  intro d v hd
  unfold a_nl; split
  · exact ⟨hd, a_same.rf d⟩
  · split
    · exact a_digit_ok hd
    · have h1 := a_digit_ok (m := 57) hd
      have h2 := hf (a_digit d 57).2 (v * 10 + (a_digit d 57).1) h1.1
      exact ⟨h2.1, h1.2.tr h2.2⟩
theorem a_num_ok {d : AD} (hd : a_ok d) : a_ok (a_num d).2 ∧ a_same d (a_num d).2 := by
  have h1 := a_digit_ok (m := 57) hd
  have h2 := a_nl_ok (f := a_nl (a_nl (fun d v => (v, d)))) (a_nl_ok (f := a_nl (fun d v => (v, d))) (a_nl_ok (f := fun d v => (v, d)) (fun d v h => ⟨h, a_same.rf d⟩))) (a_digit d 57).2 (a_digit d 57).1 h1.1
  exact ⟨h2.1, h1.2.tr h2.2⟩
theorem a_part_ok {d : AD} {c : Int32} (hd : a_ok d) (hc : ¬ c = 0) : a_ok (a_part d c).2 ∧ a_same d (a_part d c).2 := by
  unfold a_part; split
  · split <;> exact a_sign_ok hd (by decide)
  · split
    · exact a_digit_ok hd
    · split
      · exact a_num_ok hd
      · split
        · exact a_digit_ok hd
        · split <;> exact a_sign_ok hd hc
theorem zsC_ne : ∀ i, i < 6 → ∀ k, k < zSlen.getD i 0 → ¬ zsC i k = 0 := by decide +kernel
theorem a_rl_ok {i : Nat} (hi : i < 6) : ∀ (k j p : Nat) (d : AD), j + k = zSlen.getD i 0 → a_ok d → a_ok (a_rl i k j p d).2 ∧ a_len (a_rl i k j p d).2 = a_len d ∧ a_sig (a_rl i k j p d).2 = a_sig d ∧ a_kin (a_rl i k j p d).2 = a_kin d ∧ a_ord (a_rl i k j p d).2 = a_ord d
  | 0, _, _, d, _, hd => ⟨hd, rfl, rfl, rfl, rfl⟩
  | k + 1, j, p, d, hk, hd => by
    have h1 := a_part_ok hd (zsC_ne i hi j (by omega))
    have hs : a_ok (a_store (a_part d (zsC i j)).2 p (a_part d (zsC i j)).1) := h1.1
    show a_ok (if _ then _ else _ : Bool × AD).2 ∧ a_len (if _ then _ else _ : Bool × AD).2 = _ ∧ a_sig (if _ then _ else _ : Bool × AD).2 = _ ∧ a_kin (if _ then _ else _ : Bool × AD).2 = _ ∧ a_ord (if _ then _ else _ : Bool × AD).2 = _
    split
    · exact ⟨h1.1, h1.2.1, h1.2.2.1, h1.2.2.2.1, h1.2.2.2.2.1⟩
    · split
      · split
        · have h2 := a_rl_ok hi k (j + 1) (p + 1) (a_store (a_part d (zsC i j)).2 p (a_part d (zsC i j)).1) (by omega) hs
          exact ⟨h2.1, h2.2.1.trans h1.2.1, h2.2.2.1.trans h1.2.2.1, h2.2.2.2.1.trans h1.2.2.2.1, h2.2.2.2.2.trans h1.2.2.2.2.1⟩
        · have h2 := a_rl_ok hi k (j + 1) p (a_part d (zsC i j)).2 (by omega) h1.1
          exact ⟨h2.1, h2.2.1.trans h1.2.1, h2.2.2.1.trans h1.2.2.1, h2.2.2.2.1.trans h1.2.2.2.1, h2.2.2.2.2.trans h1.2.2.2.2.1⟩
      · have h2 := a_rl_ok hi k (j + 1) p (a_part d (zsC i j)).2 (by omega) h1.1
        exact ⟨h2.1, h2.2.1.trans h1.2.1, h2.2.2.1.trans h1.2.2.1, h2.2.2.2.1.trans h1.2.2.2.1, h2.2.2.2.2.trans h1.2.2.2.2.1⟩
theorem a_here_char {d : AD} (hd : a_ok d) : narrow .char (.int (a_here d)) = .int (a_here d) := by
  unfold a_here; split
  · exact hd.2.2.1 _
  · rfl
theorem a_kind_ok {d : AD} (hd : a_ok d) (h : ¬ a_here d = 0) : a_ok (a_kind d) := by
  have hk : a_okc (upd (a_kin d) (zn32 (a_ord d)) (a_here d)) := fun i => by
    by_cases e : i = zn32 (a_ord d)
    · subst e; rw [pk_us]; exact a_here_char hd
    · rw [pk_un e]; exact hd.2.2.2.1 i
  exact a_adv_ok (d := a_skin d (upd (a_kin d) (zn32 (a_ord d)) (a_here d))) ⟨hd.1, hd.2.1, hd.2.2.1, hk, hd.2.2.2.2⟩ h
theorem a_shape_0 {c : Int32} (h : ¬ a_shape c = 5) : ¬ c = 0 := by
  rintro rfl; exact h (by decide)
theorem a_order_ok {d : AD} (hd : a_ok d) : a_ok (a_order d).2 ∧ a_len (a_order d).2 = a_len d ∧ a_sig (a_order d).2 = a_sig d ∧ a_ord (a_order d).2 = a_ord d := by
  unfold a_order; split
  · exact ⟨hd, rfl, rfl, rfl⟩
  · rename_i h
    have h5 : ¬ a_shape (a_here d) = 5 := fun z => h (decide_eq_true z)
    have h1 := a_rl_ok (a_shape_lt (a_here d)) (zSlen.getD (a_shape (a_here d)) 0) 0 0 (a_kind d) (by omega) (a_kind_ok hd (a_shape_0 h5))
    exact ⟨h1.1, h1.2.1, h1.2.2.1, h1.2.2.2.2⟩
theorem a_next_ok {d : AD} (hd : a_ok d) (h : zn32 (a_ord d) ≤ 26) : a_ok (a_next d) := ⟨hd.1, hd.2.1, hd.2.2.1, hd.2.2.2.1, zok_succ (n := 26) ⟨hd.2.2.2.2.1, h⟩ (by decide)⟩
theorem a_next_k (d : AD) : a_len (a_next d) = a_len d ∧ a_sig (a_next d) = a_sig d ∧ a_ord (a_next d) = a_ord d + 1 := ⟨rfl, rfl, rfl⟩
theorem a_oloop_ok : ∀ (k : Nat) (d : AD), a_ok d → zn32 (a_ord d) + k ≤ 27 → a_ok (a_oloop k d).2 ∧ a_len (a_oloop k d).2 = a_len d ∧ a_sig (a_oloop k d).2 = a_sig d
  | 0, d, hd, _ => ⟨hd, rfl, rfl⟩
  | k + 1, d, hd, hk => by
    have h1 := a_order_ok hd
    have h2 := a_next_ok h1.1 (by rw [h1.2.2.2]; omega)
    have h3 := a_sign_ok (c := 59) h2 (by decide)
    have h4 := a_next_k (a_order d).2
    rw [a_oloop]
    generalize a_order d = r at h1 h2 h3 h4 ⊢
    generalize a_next r.2 = u at h2 h3 h4 ⊢
    generalize a_sign u 59 = s at h3 ⊢
    have e1 : a_ord s.2 = a_ord d + 1 := by rw [h3.2.2.2.2.1, h4.2.2, h1.2.2.2]
    have e2 : zn32 (a_ord d + 1) = zn32 (a_ord d) + 1 := by
      show (a_ord d + 1).toNatClampNeg = _
      rw [show a_ord d + 1 = nI (zn32 (a_ord d) + 1) by rw [nI_succ, ← hd.2.2.2.2.1], nI_clamp (by omega)]
    have e3 : a_len s.2 = a_len d := h3.2.1.trans (h4.1.trans h1.2.1)
    have e4 : a_sig s.2 = a_sig d := h3.2.2.1.trans (h4.2.1.trans h1.2.2.1)
    split
    · split
      · split
        · have h5 := a_oloop_ok k s.2 h3.1 (by rw [e1, e2]; omega)
          exact ⟨h5.1, h5.2.1.trans e3, h5.2.2.trans e4⟩
        · exact ⟨h3.1, e3, e4⟩
      · exact ⟨h2, h4.1.trans h1.2.1, h4.2.1.trans h1.2.2.1⟩
    · exact ⟨h1.1, h1.2.1, h1.2.2.1⟩
/-- between calls: where the reading stood is of no matter -/
def a_ok0 (d : AD) : Prop := zok (a_len d) 80 ∧ a_okc (a_sig d) ∧ a_okc (a_kin d) ∧ zok (a_ord d) 27
theorem a_ok.o {d : AD} (h : a_ok d) : a_ok0 d := ⟨h.1, h.2.2.1, h.2.2.2.1, h.2.2.2.2⟩
theorem a_start_ok {d : AD} (hd : a_ok0 d) : a_ok (a_sord (a_sat d 0) 0) := ⟨hd.1, zok_0 _, hd.2.1, hd.2.2.1, zok_0 _⟩
theorem a_orders_ok {d : AD} (hd : a_ok0 d) : a_ok (a_orders d).2 ∧ a_len (a_orders d).2 = a_len d ∧ a_sig (a_orders d).2 = a_sig d := by
  have h := a_oloop_ok 27 (a_sord (a_sat d 0) 0) (a_start_ok hd) (by show zn32 0 + 27 ≤ 27; decide)
  exact ⟨h.1, h.2.1, h.2.2⟩
