
/-! THE RELATION: loans. -/
theorem r_sett_x {r : RW} {s j : Nat} (h : j ≠ 14 + 15 * s + 3 ∧ j ≠ 14 + 15 * s + 6) : r_sett r s j = r j := by
  unfold r_sett r_add; split
  · split
    · rw [pk_uLn h.1, pk_uLn h.2]
    · rw [pk_uLn h.1, pk_uLn h.2]
  · split
    · rfl
    · rw [pk_uLn h.1]
theorem r_change_x {r : RW} {s j : Nat} {b : Int64} (h : j ≠ 14 + 15 * s + 1 ∧ j ≠ 14 + 15 * s + 3 ∧ j ≠ 14 + 15 * s + 6) : r_change r s b j = r j := by
  unfold r_change; rw [r_sett_x h.2]; exact pk_uLn h.1
theorem uL_comm {f : RW} {i j : Nat} {a b : Int64} (h : i ≠ j) : vp_updL (vp_updL f i a) j b = vp_updL (vp_updL f j b) i a := by
  funext k
  by_cases e1 : k = j
  · subst e1; rw [pk_uLs, vp_uLo h, pk_uLs]
  · rw [pk_uLn e1]
    by_cases e2 : k = i
    · subst e2; rw [pk_uLs, pk_uLs]
    · rw [pk_uLn e2, pk_uLn e2, pk_uLn e1]
theorem r_sett_u {r : RW} {s i : Nat} {u : Int64} (h : i ≠ 3 ∧ i ≠ 14 + 15 * s + 0 ∧ i ≠ 14 + 15 * s + 1 ∧ i ≠ 14 + 15 * s + 3 ∧ i ≠ 14 + 15 * s + 6) : r_sett (vp_updL r i u) s = vp_updL (r_sett r s) i u := by
  obtain ⟨h0, h1, h2, h3, h4⟩ := h
  have e1 : r_left (vp_updL r i u) s = r_left r s := vp_uLo h2
  have e2 : r_frz (vp_updL r i u) s = r_frz r s := r_frz_o h3
  have e3 : r_thw (vp_updL r i u) s = r_thw r s := by unfold r_thw; rw [vp_uLo h1, vp_uLo h0]
  unfold r_sett r_add
  rw [e1, e2, e3]
  split
  · split
    · rw [vp_uLo h4, uL_comm h4, uL_comm h3]
    · rw [vp_uLo h4, uL_comm h4, uL_comm h3]
  · split
    · rfl
    · rw [uL_comm h3]
theorem r_change_u {r : RW} {s i : Nat} {u b : Int64} (h : i ≠ 3 ∧ i ≠ 14 + 15 * s + 0 ∧ i ≠ 14 + 15 * s + 1 ∧ i ≠ 14 + 15 * s + 3 ∧ i ≠ 14 + 15 * s + 6) : r_change (vp_updL r i u) s b = vp_updL (r_change r s b) i u := by
  unfold r_change r_add
  rw [vp_uLo h.2.2.1, uL_comm h.2.2.1, r_sett_u h]
theorem r_change_add {r : RW} {s i : Nat} {u b : Int64} (h : i ≠ 3 ∧ i ≠ 14 + 15 * s + 0 ∧ i ≠ 14 + 15 * s + 1 ∧ i ≠ 14 + 15 * s + 3 ∧ i ≠ 14 + 15 * s + 6) : r_change (r_add r i u) s b = r_add (r_change r s b) i u := by
  have e : r_change r s b i = r i := r_change_x ⟨h.2.2.1, h.2.2.2.1, h.2.2.2.2⟩
  unfold r_add
  rw [e, r_change_u h]
def LC (c B : Nat) : Nat → Int32 → Prop
  | 0, v => zlt v c
  | 1, v => zlt v c
  | 2, v => zok v 5000
  | 3, v => zok v 10000000
  | _, v => zok v B
def HL (c B : Nat) (L : LD) (r : RW) : Prop := (r 12 = (l_num L).toInt64 ∧ zok (l_num L) 40) ∧ ∀ l, l < zn32 (l_num L) → ∀ k, k < 5 → r (134 + 5 * l + k) = (l_at L k l).toInt64 ∧ LC c B k (l_at L k l)
theorem HL_n {c B : Nat} {L : LD} {r : RW} (h : HL c B L r) : zn64 (r 12) = zn32 (l_num L) := by rw [h.1.1]; exact (q_okl h.1.2 (by decide)).2
theorem HL_r {c B : Nat} {L : LD} {r r2 : RW} (h : HL c B L r) (e : ∀ j, j = 12 ∨ (134 ≤ j ∧ j < 334) → r2 j = r j) : HL c B L r2 := by
  refine ⟨by rw [e 12 (Or.inl rfl)]; exact h.1, fun l hl k hk => ?_⟩
  have := h.1.2.2
  rw [e _ (Or.inr (by omega))]; exact h.2 l hl k hk
theorem LC_mono {c B c2 B2 k : Nat} {v : Int32} (h : LC c B k v) (hc : c ≤ c2) (hB : B ≤ B2) : LC c2 B2 k v := by
  match k, h with
  | 0, h => exact zlt_mono h hc
  | 1, h => exact zlt_mono h hc
  | 2, h => exact h
  | 3, h => exact h
  | _ + 4, h => exact zok_mono h hB
theorem HL_mono {c B c2 B2 : Nat} {L : LD} {r : RW} (h : HL c B L r) (hc : c ≤ c2) (hB : B ≤ B2) : HL c2 B2 L r :=
  ⟨h.1, fun l hl k hk => ⟨(h.2 l hl k hk).1, LC_mono (h.2 l hl k hk).2 hc hB⟩⟩
theorem HL_owe {c B : Nat} {L : LD} {r : RW} {l : Nat} {a : Int32} (h : HL c B L r) (ha : zok a 10000000) : HL c B (l_sowe L (upd (l_owe L) l a)) (vp_updL r (134 + 5 * l + 3) a.toInt64) := by
  refine ⟨by rw [vp_uLo (by omega)]; exact h.1, fun l2 hl2 k hk => ?_⟩
  have h0 := h.2 l2 hl2 k hk
  match k, hk with
  | 0, _ => rw [vp_uLo (by omega)]; exact h0
  | 1, _ => rw [vp_uLo (by omega)]; exact h0
  | 2, _ => rw [vp_uLo (by omega)]; exact h0
  | 4, _ => rw [vp_uLo (by omega)]; exact h0
  | 3, _ =>
    by_cases e : l2 = l
    · subst e
      rw [pk_uLs]
      show a.toInt64 = (upd (l_owe L) l2 a l2).toInt64 ∧ zok (upd (l_owe L) l2 a l2) 10000000
      rw [pk_us]; exact ⟨rfl, ha⟩
    · rw [vp_uLo (by omega)]
      show _ = (upd (l_owe L) l a l2).toInt64 ∧ zok (upd (l_owe L) l a l2) 10000000
      rw [pk_un e]; exact h0
theorem HL_due {c B : Nat} {L : LD} {r : RW} {l : Nat} {a : Int32} (h : HL c B L r) (ha : zok a B) : HL c B (l_sdue L (upd (l_due L) l a)) (vp_updL r (134 + 5 * l + 4) a.toInt64) := by
  refine ⟨by rw [vp_uLo (by omega)]; exact h.1, fun l2 hl2 k hk => ?_⟩
  have h0 := h.2 l2 hl2 k hk
  match k, hk with
  | 0, _ => rw [vp_uLo (by omega)]; exact h0
  | 1, _ => rw [vp_uLo (by omega)]; exact h0
  | 2, _ => rw [vp_uLo (by omega)]; exact h0
  | 3, _ => rw [vp_uLo (by omega)]; exact h0
  | 4, _ =>
    by_cases e : l2 = l
    · subst e
      rw [pk_uLs]
      show a.toInt64 = (upd (l_due L) l2 a l2).toInt64 ∧ zok (upd (l_due L) l2 a l2) B
      rw [pk_us]; exact ⟨rfl, ha⟩
    · rw [vp_uLo (by omega)]
      show _ = (upd (l_due L) l a l2).toInt64 ∧ zok (upd (l_due L) l a l2) B
      rw [pk_un e]; exact h0
/-! loans that are taken out -/
theorem r_mv5_at {r : RW} {i j c : Nat} (hj : j ≤ i) (hc : c < 5) : r_mv5 r i j (134 + 5 * j + c) = r (134 + 5 * i + c) := by
  unfold r_mv5 r_mv1
  match c, hc with
  | 0, _ => rw [vp_uLo (by omega), vp_uLo (by omega), vp_uLo (by omega), vp_uLo (by omega), pk_uLs]
  | 1, _ => rw [vp_uLo (by omega), vp_uLo (by omega), vp_uLo (by omega), pk_uLs, vp_uLo (by omega)]
  | 2, _ => rw [vp_uLo (by omega), vp_uLo (by omega), pk_uLs, vp_uLo (by omega), vp_uLo (by omega)]
  | 3, _ => rw [vp_uLo (by omega), pk_uLs, vp_uLo (by omega), vp_uLo (by omega), vp_uLo (by omega)]
  | 4, _ => rw [pk_uLs, vp_uLo (by omega), vp_uLo (by omega), vp_uLo (by omega), vp_uLo (by omega)]
def r_keep (r : RW) (m : Nat) : Bool := !decide (r (134 + 5 * m + 3) ≤ 0)
theorem r_cloop_spec (r : RW) : ∀ i : Nat, (r_cloop r i).2 = z_ct (r_keep r) i ∧ (∀ m c, m < i → c < 5 → r_keep r m = true → (r_cloop r i).1 (134 + 5 * z_ct (r_keep r) m + c) = r (134 + 5 * m + c)) ∧ (∀ j, j < 134 ∨ 134 + 5 * i ≤ j → (r_cloop r i).1 j = r j)
  | 0 => ⟨rfl, fun m c h => absurd h (Nat.not_lt_zero _), fun _ _ => rfl⟩
  | i + 1 => by
    obtain ⟨h1, h2, h3⟩ := r_cloop_spec r i
    have hle := z_ct_le (r_keep r) i
    have e0 : (r_cloop r i).1 (134 + 5 * i + 3) = r (134 + 5 * i + 3) := h3 _ (Or.inr (by omega))
    by_cases h : r (134 + 5 * i + 3) ≤ 0
    · have hk : ¬ r_keep r i = true := by simp [r_keep, h]
      have e : r_cloop r (i + 1) = r_cloop r i := if_pos (show (r_cloop r i).1 (134 + 5 * i + 3) ≤ 0 by rw [e0]; exact h)
      rw [e, z_ct_n hk]
      refine ⟨h1, fun m c hm hc hp => ?_, fun j hj => h3 j (by omega)⟩
      rcases Nat.lt_or_ge m i with q | q
      · exact h2 m c q hc hp
      · have : m = i := by omega
        subst this; exact absurd hp hk
    · have hk : r_keep r i = true := by simp [r_keep, h]
      have e : r_cloop r (i + 1) = (r_mv5 (r_cloop r i).1 i (r_cloop r i).2, (r_cloop r i).2 + 1) := if_neg (show ¬ (r_cloop r i).1 (134 + 5 * i + 3) ≤ 0 by rw [e0]; exact h)
      rw [e, z_ct_s hk]
      refine ⟨by rw [h1], fun m c hm hc hp => ?_, fun j hj => ?_⟩
      · show r_mv5 _ _ _ _ = _
        rw [h1]
        rcases Nat.lt_or_ge m i with q | q
        · have := z_ct_lt q hp
          rw [r_mv5_ne (by omega)]; exact h2 m c q hc hp
        · have : m = i := by omega
          subst this; rw [r_mv5_at hle hc]; exact h3 _ (Or.inr (by omega))
      · show r_mv5 _ _ _ _ = _
        rw [h1, r_mv5_ne (by omega)]; exact h3 j (by omega)
theorem z_ct_c {P Q : Nat → Bool} : ∀ {n : Nat}, (∀ m, m < n → P m = Q m) → z_ct P n = z_ct Q n
  | 0, _ => rfl
  | n + 1, h => by
    show (if P n then z_ct P n + 1 else z_ct P n) = (if Q n then z_ct Q n + 1 else z_ct Q n)
    rw [h n (Nat.lt_succ_self n), z_ct_c (n := n) (fun m hm => h m (Nat.lt_succ_of_lt hm))]
theorem HL_keep {c B : Nat} {L : LD} {r : RW} (h : HL c B L r) {m : Nat} (hm : m < zn32 (l_num L)) : r_keep r m = l_keep L m := by
  unfold r_keep l_keep
  rw [(h.2 m hm 3 (by decide)).1]
  have := q_le (l_at L 3 m) 0
  congr 1
  exact decide_eq_decide.mpr this
theorem r_clear_o {r : RW} {j : Nat} (hn : zn64 (r 12) ≤ 40) (hj : j < 134 ∨ 334 ≤ j) (h12 : j ≠ 12) : r_clear r j = r j := by
  unfold r_clear
  rw [pk_uLn h12]; exact (r_cloop_spec r _).2.2 j (by omega)
theorem HL_rem {c B : Nat} {L : LD} {r : RW} (h : HL c B L r) : HL c B (l_rem L) (r_clear r) := by
  have hn := HL_n h
  have hd : l_ok L := h.1.2
  have h40 := h.1.2.2
  have hnum := l_rem_num L hd
  have hct : ∀ m, m ≤ zn32 (l_num L) → z_ct (r_keep r) m = z_ct (l_keep L) m := fun m hm => z_ct_c (fun m2 h2 => HL_keep h (by omega))
  refine ⟨⟨?_, l_rem_ok L hd⟩, fun l hl k hk => ?_⟩
  · unfold r_clear
    rw [pk_uLs, hn, (r_cloop_spec r _).1, hct _ (Nat.le_refl _)]
    show _ = (nI (l_rloop L (zn32 (l_num L))).2).toInt64
    rw [(l_rloop_spec L _).1]
  · rw [hnum] at hl
    obtain ⟨m, h1, h2, h3⟩ := z_ct_sur hl
    subst h3
    rw [l_rem_at L m k h1 h2]
    have e : r_clear r (134 + 5 * z_ct (l_keep L) m + k) = r (134 + 5 * m + k) := by
      unfold r_clear
      rw [vp_uLo (by omega), hn, ← hct m (Nat.le_of_lt h1)]
      exact (r_cloop_spec r _).2.1 m k h1 hk (by rw [HL_keep h h1]; exact h2)
    rw [e]; exact h.2 m h1 k hk
theorem l_rem_pos {L : LD} (hd : l_ok L) : ∀ i, i < zn32 (l_num (l_rem L)) → ¬ l_owe (l_rem L) i ≤ 0 := by
  intro i hi
  rw [l_rem_num L hd] at hi
  obtain ⟨m, h1, h2, rfl⟩ := z_ct_sur hi
  have := l_rem_at L m 3 h1 h2
  rw [show l_owe (l_rem L) (z_ct (l_keep L) m) = l_owe L m from this]
  unfold l_keep at h2
  intro hz
  rw [decide_eq_true hz] at h2; cases h2
/-! a loan paid back -/
theorem r_paid_0 {r : RW} {l : Nat} (h : r_paid r l = 0) : r_pay r l = r := by
  unfold r_pay r_pay4
  rw [h, if_pos (by decide)]
  unfold r_pay3
  rw [r_add_0, r_add_0]
  funext j
  by_cases e : j = 134 + 5 * l + 3
  · subst e; rw [pk_uLs]; exact Int64.sub_zero _
  · rw [pk_uLn e]
theorem q_paid {left owe : Int64} (h0 : ¬ owe ≤ 0) :
    ((if left < owe then left else owe) ≤ 0 → (if owe < (if left ≤ 0 then 0 else left) then owe else (if left ≤ 0 then 0 else left)) = 0) ∧
    (¬ (if left < owe then left else owe) ≤ 0 → (if owe < (if left ≤ 0 then 0 else left) then owe else (if left ≤ 0 then 0 else left)) = (if left < owe then left else owe)) := by
  have hz : (0 : Int64).toInt = 0 := by decide
  simp only [Int64.le_iff_toInt_le, Int64.lt_iff_toInt_lt, hz] at h0 ⊢
  constructor
  · intro h
    split at h
    · rename_i h1
      rw [if_pos h, if_neg (by rw [hz]; omega)]
    · exact absurd h h0
  · intro h
    split at h
    · rename_i h1
      rw [if_neg h, if_pos h1, if_neg (by omega)]
    · rename_i h1
      rw [if_neg h1]
      have h2 : ¬ left.toInt ≤ 0 := by omega
      rw [if_neg h2]
      by_cases h3 : owe.toInt < left.toInt
      · rw [if_pos h3]
      · rw [if_neg h3]; exact Int64.toInt_inj.mp (by omega)
theorem q_paid_in {left : Int64} {owe : Int32} (ho : zok owe 10000000) (h : ¬ (if left < owe.toInt64 then left else owe.toInt64) ≤ 0) : ∃ k, k ≤ zn32 owe ∧ (if left < owe.toInt64 then left else owe.toInt64) = lN k := by
  have h2 := ho.2
  have e : owe.toInt64.toInt = (zn32 owe : Int) := by rw [q_ok ho (by decide), lN_toInt (by omega)]
  generalize hv : (if left < owe.toInt64 then left else owe.toInt64) = v at h ⊢
  have hle : v.toInt ≤ (zn32 owe : Int) := by
    rw [← hv]; split
    · rename_i h1; rw [Int64.lt_iff_toInt_lt] at h1; omega
    · omega
  have h0 : ¬ v < 0 := by
    intro z; rw [Int64.le_iff_toInt_le] at h; rw [Int64.lt_iff_toInt_lt] at z; omega
  obtain ⟨k, hk, rfl⟩ := pk_lOf h0
  rw [pk_lT hk] at hle
  exact ⟨k, by omega, rfl⟩
theorem HP_pay {c B : Nat} {d : HD} {r : RW} {l : Nat} (hS : HS d r) (hL : HL c B (h_lo d) r) (hc : c ≤ 8) (hl : l < zn32 (l_num (h_lo d))) (h0 : ¬ l_owe (h_lo d) l ≤ 0) : HS (h_pay d l) (r_pay r l) ∧ HL c B (h_lo (h_pay d l)) (r_pay r l) ∧ (∀ j, j < 14 ∨ 334 ≤ j → r_pay r l j = r j) ∧ (∀ j, j ≠ l → l_owe (h_lo (h_pay d l)) j = l_owe (h_lo d) j) ∧ (∀ s k, s < 8 → k < 15 → c ≤ s → r_pay r l (14 + 15 * s + k) = r (14 + 15 * s + k)) := by
  have h40 := hL.1.2.2
  have h1 := hL.2 l hl 0 (by decide)
  have h2 := hL.2 l hl 1 (by decide)
  have h3 := hL.2 l hl 3 (by decide)
  obtain ⟨a, ha⟩ : ∃ a, a = zn32 (l_len (h_lo d) l) := ⟨_, rfl⟩
  obtain ⟨b, hb⟩ : ∃ b, b = zn32 (l_bor (h_lo d) l) := ⟨_, rfl⟩
  have ea : l_len (h_lo d) l = nI a := by rw [ha]; exact h1.2.1
  have eb : l_bor (h_lo d) l = nI b := by rw [hb]; exact h2.2.1
  have hac : a < c := by rw [ha]; exact h1.2.2
  have hbc : b < c := by rw [hb]; exact h2.2.2
  have pa : r_lp r l 0 = a := by unfold r_lp; rw [h1.1, q_i]; exact ha.symm
  have pb : r_lp r l 1 = b := by unfold r_lp; rw [h2.1, q_i]; exact hb.symm
  have eo : r (134 + 5 * l + 3) = (l_owe (h_lo d) l).toInt64 := h3.1
  have hok : zok (l_owe (h_lo d) l) 10000000 := h3.2
  have e0 : ¬ (l_owe (h_lo d) l).toInt64 ≤ 0 := fun z => h0 ((q_le _ 0).mp z)
  have hq := q_paid (left := r_left r b) e0
  have hpd : h_paid d l = (if r_left r b < (l_owe (h_lo d) l).toInt64 then r_left r b else (l_owe (h_lo d) l).toInt64) := by
    unfold h_paid; rw [eb, HS_mo hS (by omega)]
  have hpr : r_paid r l = (if (l_owe (h_lo d) l).toInt64 < (if r_left r b ≤ 0 then 0 else r_left r b) then (l_owe (h_lo d) l).toInt64 else (if r_left r b ≤ 0 then 0 else r_left r b)) := by
    unfold r_paid r_can; rw [pb, eo]
  by_cases hz : h_paid d l ≤ 0
  · have e1 : h_pay d l = d := if_pos hz
    have e2 : r_pay r l = r := r_paid_0 (by rw [hpr]; exact hq.1 (by rw [← hpd]; exact hz))
    rw [e1, e2]
    exact ⟨hS, hL, fun _ _ => rfl, fun _ _ => rfl, fun _ _ _ _ _ => rfl⟩
  · have ev : r_paid r l = h_paid d l := by rw [hpr, hpd]; exact hq.2 (by rw [← hpd]; exact hz)
    have e1 : h_pay d l = h_pay1 (h_pay2 d l (h_paid d l)) l (nI b) (h_paid d l) := by rw [← eb]; exact if_neg hz
    obtain ⟨k, hk, hkv⟩ := q_paid_in (left := r_left r b) hok (by rw [← hpd]; exact hz)
    rw [← hpd] at hkv
    have e2 : r_pay r l = r_pay4 (r_pay3 r l a b (h_paid d l)) a b (h_paid d l) := by unfold r_pay; rw [pa, pb, ev]
    have e3 : r_pay4 (r_pay3 r l a b (h_paid d l)) a b (h_paid d l) = r_change (r_change (r_pay3 r l a b (h_paid d l)) b (-(h_paid d l))) a (h_paid d l) := if_neg hz
    have hsub : l_owe (h_lo d) l - (h_paid d l).toInt32 = nI (zn32 (l_owe (h_lo d) l) - k) := by
      rw [hkv, lN_i, hok.1, pk_sub hk, ← hok.1]
    have hok2 := hok.2
    have hsubl : (l_owe (h_lo d) l - (h_paid d l).toInt32).toInt64 = r (134 + 5 * l + 3) - h_paid d l := by
      rw [hsub, nI_l (by omega), eo, q_ok hok (by decide), hkv, lN_sub hk]
    obtain ⟨v, hv⟩ : ∃ v, v = h_paid d l := ⟨_, rfl⟩
    rw [← hv] at e1 e2 e3 hsub hsubl
    rw [e1, e2, e3]
    have k0 : HS (h_pay2 d l v) (vp_updL r (134 + 5 * l + 3) (r (134 + 5 * l + 3) - v)) := HS_r (d := h_pay2 d l v) hS (fun j hj => vp_uLo (by omega))
    have k1 := HS_out (w := 6) (m := v) k0 (show b < 8 by omega) (by decide) (by decide)
    have k2 := HS_in (w := 2) (m := v) k1 (show a < 8 by omega) (by decide)
    have el : l_len (h_lo (h_book (h_pay2 d l v) (nI b) 6 v)) l = nI a := by rw [(h_book_k (h_pay2 d l v) (nI b) 6 v).1]; exact ea
    have e5 : h_pay1 (h_pay2 d l v) l (nI b) v = h_book (h_book (h_pay2 d l v) (nI b) 6 v) (nI a) 2 v := by unfold h_pay1; rw [el]
    have e6 : r_change (r_change (r_pay3 r l a b v) b (-v)) a v = r_change (r_add (r_change (r_add (vp_updL r (134 + 5 * l + 3) (r (134 + 5 * l + 3) - v)) (14 + 15 * b + 7 + 6) v) b (-v)) (14 + 15 * a + 7 + 2) v) a v := by
      unfold r_pay3; rw [r_change_add (by omega)]
    have elo : h_lo (h_book (h_book (h_pay2 d l v) (nI b) 6 v) (nI a) 2 v) = l_sowe (h_lo d) (upd (l_owe (h_lo d)) l (l_owe (h_lo d) l - v.toInt32)) := by
      rw [(h_book_k (h_book (h_pay2 d l v) (nI b) 6 v) (nI a) 2 v).1, (h_book_k (h_pay2 d l v) (nI b) 6 v).1]; rfl
    have hout : ∀ j, j < 14 ∨ 134 ≤ j → r_change (r_add (r_change (r_add (vp_updL r (134 + 5 * l + 3) (r (134 + 5 * l + 3) - v)) (14 + 15 * b + 7 + 6) v) b (-v)) (14 + 15 * a + 7 + 2) v) a v j = vp_updL r (134 + 5 * l + 3) (r (134 + 5 * l + 3) - v) j := by
      intro j hj
      rw [r_change_x (by omega), r_add_o (by omega), r_change_x (by omega), r_add_o (by omega)]
    rw [e5, e6]
    refine ⟨k2, ?_, fun j hj => ?_, fun j hj => ?_, fun s k3 hs hk3 hcs => ?_⟩
    · rw [elo]
      have k4 := HL_owe (l := l) (a := l_owe (h_lo d) l - v.toInt32) hL (by rw [hsub]; exact zok_lit (by omega) (by omega))
      rw [hsubl] at k4
      exact HL_r k4 (fun j hj => hout j (by omega))
    · rw [hout j (by omega), vp_uLo (by omega)]
    · rw [elo]; exact pk_un hj
    · rw [r_change_x (by omega), r_add_o (by omega), r_change_x (by omega), r_add_o (by omega), vp_uLo (by omega)]
