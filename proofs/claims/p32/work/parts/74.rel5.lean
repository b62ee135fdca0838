
/-! THE RELATION: plans, their order. -/
theorem p_bef_iff (d : PD) {p q : Nat} (hp : p < 2 ^ 31) (hq : q < 2 ^ 31) : p_bef d (nI p) (nI q) = true ↔ ((p_pri d q).toInt < (p_pri d p).toInt ∨ ((p_pri d p).toInt = (p_pri d q).toInt ∧ ((p_hr d p).toInt < (p_hr d q).toInt ∨ ((p_hr d p).toInt = (p_hr d q).toInt ∧ p < q)))) := by
  unfold p_bef
  rw [zn_nI hp, zn_nI hq]
  have e1 : p_pri d p = p_pri d q ↔ (p_pri d p).toInt = (p_pri d q).toInt := Int32.toInt_inj.symm
  have e2 : p_hr d p = p_hr d q ↔ (p_hr d p).toInt = (p_hr d q).toInt := Int32.toInt_inj.symm
  have e3 : nI p < nI q ↔ p < q := nI_ltI hp hq
  by_cases h1 : p_pri d p = p_pri d q
  · rw [if_pos h1]
    have h1' := e1.mp h1
    by_cases h2 : p_hr d p = p_hr d q
    · rw [if_pos h2]
      have h2' := e2.mp h2
      split
      · rename_i h3; rw [e3] at h3; exact ⟨fun _ => Or.inr ⟨h1', Or.inr ⟨h2', h3⟩⟩, fun _ => rfl⟩
      · rename_i h3; rw [e3] at h3; exact ⟨fun z => (by cases z), fun z => by omega⟩
    · rw [if_neg h2]
      have h2' : ¬ (p_hr d p).toInt = (p_hr d q).toInt := fun z => h2 (e2.mpr z)
      split
      · rename_i h3; rw [Int32.lt_iff_toInt_lt] at h3; exact ⟨fun _ => Or.inr ⟨h1', Or.inl h3⟩, fun _ => rfl⟩
      · rename_i h3; rw [Int32.lt_iff_toInt_lt] at h3; exact ⟨fun z => (by cases z), fun z => by omega⟩
  · rw [if_neg h1]
    have h1' : ¬ (p_pri d p).toInt = (p_pri d q).toInt := fun z => h1 (e1.mpr z)
    split
    · rename_i h3; rw [Int32.le_iff_toInt_le] at h3; exact ⟨fun z => (by cases z), fun z => by omega⟩
    · rename_i h3; rw [Int32.le_iff_toInt_le] at h3; exact ⟨fun _ => Or.inl (by omega), fun _ => rfl⟩
def pb (d : PD) (p q : Nat) : Prop := p_bef d (nI p) (nI q) = true
theorem pb_tr {d : PD} {p q s : Nat} (hp : p < 2 ^ 31) (hq : q < 2 ^ 31) (hs : s < 2 ^ 31) (h : pb d p q) (k : pb d q s) : pb d p s := by
  unfold pb at *
  rw [p_bef_iff d hp hq] at h
  rw [p_bef_iff d hq hs] at k
  rw [p_bef_iff d hp hs]; omega
theorem pb_as {d : PD} {p q : Nat} (hp : p < 2 ^ 31) (hq : q < 2 ^ 31) (h : pb d p q) : ¬ pb d q p := by
  unfold pb at *
  rw [p_bef_iff d hp hq] at h
  rw [p_bef_iff d hq hp]; omega
theorem pb_tot {d : PD} {p q : Nat} (hp : p < 2 ^ 31) (hq : q < 2 ^ 31) (hne : p ≠ q) (h : ¬ pb d p q) : pb d q p := by
  unfold pb at *
  rw [p_bef_iff d hp hq] at h
  rw [p_bef_iff d hq hp]; omega
theorem pb_ne {d : PD} {p q : Nat} (hp : p < 2 ^ 31) (h : pb d p q) : p ≠ q := by
  rintro rfl; exact pb_as hp hp h h
/-- the first n of the turns are the plans 0 to n - 1 in their order -/
def pS (d : PD) (t : Nat → Int32) (n : Nat) : Prop := (∀ a, a < n → zlt (t a) n) ∧ (∀ a b, a < b → b < n → pb d (zn32 (t a)) (zn32 (t b))) ∧ (∀ p, p < n → ∃ a, a < n ∧ t a = nI p)
/-- while the plan i seeks its turn: the place k is free -/
def pH (d : PD) (i k : Nat) (t : Nat → Int32) : Prop := (∀ a, a ≤ i → a ≠ k → zlt (t a) i) ∧ (∀ a b, a < b → b ≤ i → a ≠ k → b ≠ k → pb d (zn32 (t a)) (zn32 (t b))) ∧ (∀ a, k < a → a ≤ i → pb d i (zn32 (t a))) ∧ (∀ p, p < i → ∃ a, a ≤ i ∧ a ≠ k ∧ t a = nI p)
theorem pH_put {d : PD} {i k : Nat} {t : Nat → Int32} (hi : i < 2 ^ 31 - 1) (hk : k ≤ i) (h : pH d i k t) (hb : ∀ a, a < k → pb d (zn32 (t a)) i) : pS d (upd t k (nI i)) (i + 1) := by
  obtain ⟨h1, h2, h3, h4⟩ := h
  have zi : zn32 (nI i) = i := zn_nI (by omega)
  refine ⟨fun a ha => ?_, fun a b hab hb2 => ?_, fun p hp => ?_⟩
  · by_cases e : a = k
    · subst e; rw [pk_us]; exact zlt_nI (by omega) (by omega)
    · rw [pk_un e]; exact zlt_mono (h1 a (by omega) e) (by omega)
  · by_cases ea : a = k
    · subst ea
      rw [pk_us, pk_un (by omega), zi]; exact h3 b hab (by omega)
    · by_cases eb : b = k
      · subst eb
        rw [pk_us, pk_un ea, zi]; exact hb a hab
      · rw [pk_un ea, pk_un eb]; exact h2 a b hab (by omega) ea eb
  · by_cases e : p = i
    · subst e; exact ⟨k, by omega, pk_us⟩
    · obtain ⟨a, ha, hak, hta⟩ := h4 p (by omega)
      exact ⟨a, by omega, by rw [pk_un hak]; exact hta⟩
theorem pH_ain {d : PD} {i : Nat} (hi : i < 2 ^ 31 - 1) : ∀ (k : Nat) (t : Nat → Int32), k ≤ i → pH d i k t → pS d (p_ain d i k t) (i + 1)
  | 0, t, hk, h => pH_put hi hk h (fun a ha => absurd ha (Nat.not_lt_zero _))
  | k + 1, t, hk, h => by
    have h1 := h.1 k (by omega) (by omega)
    have ek : t k = nI (zn32 (t k)) := h1.1
    show pS d (if p_bef d (nI i) (t k) then p_ain d i k (upd t (k + 1) (t k)) else upd t (k + 1) (nI i)) (i + 1)
    by_cases hb : p_bef d (nI i) (t k) = true
    · rw [if_pos hb]
      have hpb : pb d i (zn32 (t k)) := by unfold pb; rw [← ek]; exact hb
      refine pH_ain hi k _ (by omega) ⟨fun a ha hak => ?_, fun a b hab hbi hak hbk => ?_, fun a hka hai => ?_, fun p hp => ?_⟩
      · by_cases e : a = k + 1
        · subst e; rw [pk_us]; exact h1
        · rw [pk_un e]; exact h.1 a ha e
      · by_cases ea : a = k + 1
        · subst ea
          rw [pk_us, pk_un (by omega)]; exact h.2.1 k b (by omega) hbi (by omega) (by omega)
        · by_cases eb : b = k + 1
          · subst eb
            rw [pk_us, pk_un ea]; exact h.2.1 a k (by omega) (by omega) ea (by omega)
          · rw [pk_un ea, pk_un eb]; exact h.2.1 a b hab hbi ea eb
      · by_cases e : a = k + 1
        · subst e; rw [pk_us]; exact hpb
        · rw [pk_un e]; exact h.2.2.1 a (by omega) hai
      · obtain ⟨a, ha, hak, hta⟩ := h.2.2.2 p hp
        by_cases e : a = k
        · subst e; exact ⟨a + 1, by omega, by omega, by rw [pk_us]; exact hta⟩
        · exact ⟨a, ha, e, by rw [pk_un hak]; exact hta⟩
    · rw [if_neg hb]
      have hz := h1.2
      have hpb : pb d (zn32 (t k)) i := pb_tot (by omega) (by omega) (by omega) (by unfold pb; rw [← ek]; exact hb)
      refine pH_put hi hk h (fun a ha => ?_)
      rcases Nat.lt_or_ge a k with q | q
      · have h5 := (h.1 a (by omega) (by omega)).2
        exact pb_tr (by omega) (by omega) (by omega) (h.2.1 a k q (by omega) (by omega) (by omega)) hpb
      · have : a = k := by omega
        subst this; exact hpb
theorem pS_astep {d : PD} {t : Nat → Int32} {i : Nat} (hi : i < 2 ^ 31 - 1) (h : pS d t i) : pS d (p_ain d i i t) (i + 1) := by
  refine pH_ain hi i t (Nat.le_refl _) ⟨fun a ha hak => h.1 a (by omega), fun a b hab hb hak hbk => h.2.1 a b hab (by omega), fun a h1 h2 => by omega, fun p hp => ?_⟩
  obtain ⟨a, ha, hta⟩ := h.2.2 p hp
  exact ⟨a, by omega, by omega, hta⟩
theorem pS_of {d d2 : PD} {t : Nat → Int32} {n : Nat} (h1 : p_pri d2 = p_pri d) (h2 : p_hr d2 = p_hr d) (h : pS d t n) : pS d2 t n := by
  refine ⟨h.1, fun a b hab hb => ?_, h.2.2⟩
  have := h.2.1 a b hab hb
  unfold pb p_bef at *
  rw [h1, h2]; exact this
theorem p_astep_k (d : PD) : ∀ i, p_pri (zit p_astep d i) = p_pri d ∧ p_hr (zit p_astep d i) = p_hr d
  | 0 => ⟨rfl, rfl⟩
  | i + 1 => p_astep_k d i
theorem p_ain_c {d d2 : PD} (h1 : p_pri d2 = p_pri d) (h2 : p_hr d2 = p_hr d) (i : Nat) : ∀ (k : Nat) (t : Nat → Int32), p_ain d2 i k t = p_ain d i k t
  | 0, _ => rfl
  | k + 1, t => by
    have e : p_bef d2 (nI i) (t k) = p_bef d (nI i) (t k) := by unfold p_bef; rw [h1, h2]
    rw [p_ain, p_ain, e, p_ain_c h1 h2 i k]
theorem pS_arr (d : PD) : ∀ i, i < 2 ^ 31 - 1 → pS d (p_turn (zit p_astep d i)) i
  | 0, _ => ⟨fun a h => absurd h (Nat.not_lt_zero _), fun a b _ h => absurd h (Nat.not_lt_zero _), fun p h => absurd h (Nat.not_lt_zero _)⟩
  | i + 1, h => by
    have ih := pS_arr d i (by omega)
    show pS d (p_ain (zit p_astep d i) i i (p_turn (zit p_astep d i))) (i + 1)
    rw [p_ain_c (p_astep_k d i).1 (p_astep_k d i).2]
    exact pS_astep (by omega) ih
theorem p_arr_S {d : PD} (hd : p_ok d) : pS (p_arr d) (p_turn (p_arr d)) (zn32 (p_num d)) := by
  have := hd.2
  exact pS_of (p_astep_k d _).1 (p_astep_k d _).2 (pS_arr d (zn32 (p_num d)) (by omega))
/-! the reference's choice -/
def PC (c B : Nat) : Nat → Int32 → Prop
  | 0, v => zlt v c
  | 1, v => zok v B
  | 2, v => zok v 200
  | _, v => zok v 9
def HPc (c B : Nat) (P : PD) (r : RW) : Prop := (r 13 = (p_num P).toInt64 ∧ zok (p_num P) 30) ∧ ∀ p, p < zn32 (p_num P) → ∀ k, k < 4 → r (334 + 4 * p + k) = (p_at P k p).toInt64 ∧ PC c B k (p_at P k p)
theorem HPc_n {c B : Nat} {P : PD} {r : RW} (h : HPc c B P r) : zn64 (r 13) = zn32 (p_num P) := by rw [h.1.1]; exact (q_okl h.1.2 (by decide)).2
theorem HPc_r {c B : Nat} {P : PD} {r r2 : RW} (h : HPc c B P r) (e : ∀ j, j = 13 ∨ 334 ≤ j → r2 j = r j) : HPc c B P r2 := by
  refine ⟨by rw [e 13 (Or.inl rfl)]; exact h.1, fun p hp k hk => ?_⟩
  rw [e _ (Or.inr (by omega))]; exact h.2 p hp k hk
theorem HPc_r2 {c B : Nat} {P : PD} {r r2 : RW} (h : HPc c B P r) (e : ∀ j, j = 13 ∨ (334 ≤ j ∧ j < 454) → r2 j = r j) : HPc c B P r2 := by
  refine ⟨by rw [e 13 (Or.inl rfl)]; exact h.1, fun p hp k hk => ?_⟩
  have := h.1.2.2
  rw [e _ (Or.inr (by omega))]; exact h.2 p hp k hk
theorem PC_mono {c B c2 B2 k : Nat} {v : Int32} (h : PC c B k v) (hc : c ≤ c2) (hB : B ≤ B2) : PC c2 B2 k v := by
  match k, h with
  | 0, h => exact zlt_mono h hc
  | 1, h => exact zok_mono h hB
  | 2, h => exact h
  | _ + 3, h => exact h
theorem HPc_mono {c B c2 B2 : Nat} {P : PD} {r : RW} (h : HPc c B P r) (hc : c ≤ c2) (hB : B ≤ B2) : HPc c2 B2 P r :=
  ⟨h.1, fun p hp k hk => ⟨(h.2 p hp k hk).1, PC_mono (h.2 p hp k hk).2 hc hB⟩⟩
theorem q_ahead {c B : Nat} {P : PD} {r : RW} (h : HPc c B P r) {p q : Nat} (hp : p < zn32 (p_num P)) (hq : q < p) : r_ahead r p q = true ↔ pb P p q := by
  have h30 := h.1.2.2
  have a3 := h.2 p hp 3 (by decide)
  have b3 := h.2 q (by omega) 3 (by decide)
  have a1 := h.2 p hp 1 (by decide)
  have b1 := h.2 q (by omega) 1 (by decide)
  have ap : zok (p_pri P p) 9 := a3.2
  have bp : zok (p_pri P q) 9 := b3.2
  have a32 : r (334 + 4 * p + 3) = (p_pri P p).toInt64 := a3.1
  have b32 : r (334 + 4 * q + 3) = (p_pri P q).toInt64 := b3.1
  have a12 : r (334 + 4 * p + 1) = (p_hr P p).toInt64 := a1.1
  have b12 : r (334 + 4 * q + 1) = (p_hr P q).toInt64 := b1.1
  have es : (p_pri P p).toInt64 - (p_pri P q).toInt64 = (p_pri P p - p_pri P q).toInt64 := (q_sub ap bp (by decide) (by decide)).symm
  have et : (p_pri P p - p_pri P q).toInt = (p_pri P p).toInt - (p_pri P q).toInt := by
    have h1 := ap.2; have h2 := bp.2
    rw [ap.1, bp.1, pk_sub_toInt (by omega) (by omega), nI_toInt (by omega), nI_toInt (by omega)]
  have ez : (p_pri P p - p_pri P q).toInt64 = 0 ↔ (p_pri P p).toInt - (p_pri P q).toInt = 0 := by
    rw [show (0 : Int64) = (0 : Int32).toInt64 from rfl, q_eq, ← Int32.toInt_inj, et]; rfl
  have el : (p_pri P p - p_pri P q).toInt64 ≤ 0 ↔ (p_pri P p).toInt - (p_pri P q).toInt ≤ 0 := by
    rw [show (0 : Int64) = (0 : Int32).toInt64 from rfl, q_le, Int32.le_iff_toInt_le, et]; rfl
  unfold pb
  rw [p_bef_iff P (by omega) (by omega)]
  unfold r_ahead
  rw [a32, b32, a12, b12, es]
  split
  · rename_i h1
    rw [el] at h1
    split
    · rename_i h2
      rw [ez] at h2
      split
      · rename_i h3; rw [q_lt, Int32.lt_iff_toInt_lt] at h3; exact ⟨fun _ => by omega, fun _ => rfl⟩
      · rename_i h3; rw [q_lt, Int32.lt_iff_toInt_lt] at h3; exact ⟨fun z => (by cases z), fun z => by omega⟩
    · rename_i h2
      rw [ez] at h2
      exact ⟨fun z => (by cases z), fun z => by omega⟩
  · rename_i h1
    rw [el] at h1
    exact ⟨fun _ => by omega, fun _ => rfl⟩
def m_pmay (m : MD) (p : Nat) : Prop := m_seen m p = 0 ∧ m_row m (334 + 4 * p + 1) ≤ m_row m 8
theorem m_npstep_n {m : MD} {i : Nat} {b : Int32} (h : ¬ m_pmay m i) : m_npstep m i b = b := by
  unfold m_npstep
  split
  · rename_i h1
    split
    · rename_i h2; exact absurd ⟨h1, h2⟩ h
    · rfl
  · rfl
theorem m_np_none {m : MD} : ∀ {n : Nat}, (∀ p, p < n → ¬ m_pmay m p) → zit (m_npstep m) (-6) n = -6
  | 0, _ => rfl
  | n + 1, h => by
    show m_npstep m n (zit (m_npstep m) (-6) n) = -6
    rw [m_npstep_n (h n (Nat.lt_succ_self n))]; exact m_np_none (fun p hp => h p (Nat.lt_succ_of_lt hp))
theorem m_np_best {c B : Nat} {P : PD} {m : MD} (h : HPc c B P (m_row m)) {b : Nat} (hb : b < zn32 (p_num P)) (hm : m_pmay m b) : ∀ n, n ≤ zn32 (p_num P) → (∀ p, p < n → m_pmay m p → p ≠ b → pb P b p) → (b < n → zit (m_npstep m) (-6) n = nI b) ∧ (n ≤ b → zit (m_npstep m) (-6) n = -6 ∨ ∃ q, q < n ∧ zit (m_npstep m) (-6) n = nI q ∧ m_pmay m q)
  | 0, _, _ => ⟨fun z => absurd z (Nat.not_lt_zero _), fun _ => Or.inl rfl⟩
  | n + 1, hn, hp => by
    have h30 := h.1.2.2
    have ih := m_np_best h hb hm n (by omega) (fun p hpn => hp p (by omega))
    constructor
    · intro hbn
      show m_npstep m n (zit (m_npstep m) (-6) n) = nI b
      by_cases e : n = b
      · subst e
        have key := ih.2 (Nat.le_refl _)
        generalize zit (m_npstep m) (-6) n = v at key ⊢
        unfold m_npstep
        rw [if_pos hm.1, if_pos hm.2]
        rcases key with z | ⟨q, hq, hz, hqm⟩
        · rw [z, if_pos rfl]
        · rw [hz, if_neg (nI_ne6 (by omega)), zn_nI (by omega), if_pos ((q_ahead h (by omega) hq).mpr (hp q (by omega) hqm (by omega)))]
      · rw [ih.1 (by omega)]
        by_cases hmn : m_pmay m n
        · unfold m_npstep
          rw [if_pos hmn.1, if_pos hmn.2, if_neg (nI_ne6 (by omega)), zn_nI (by omega), if_neg]
          intro z
          exact pb_as (by omega) (by omega) (hp n (Nat.lt_succ_self n) hmn e) ((q_ahead h (by omega) (by omega)).mp z)
        · exact m_npstep_n hmn
    · intro hbn
      show m_npstep m n (zit (m_npstep m) (-6) n) = -6 ∨ ∃ q, q < n + 1 ∧ m_npstep m n (zit (m_npstep m) (-6) n) = nI q ∧ m_pmay m q
      by_cases hmn : m_pmay m n
      · have ih2 : zit (m_npstep m) (-6) n = -6 ∨ ∃ q, q < n + 1 ∧ zit (m_npstep m) (-6) n = nI q ∧ m_pmay m q := (ih.2 (by omega)).imp id (fun ⟨q, h1, h2, h3⟩ => ⟨q, by omega, h2, h3⟩)
        generalize zit (m_npstep m) (-6) n = v at ih2 ⊢
        unfold m_npstep
        rw [if_pos hmn.1, if_pos hmn.2]
        split
        · exact Or.inr ⟨n, by omega, rfl, hmn⟩
        · split
          · exact Or.inr ⟨n, by omega, rfl, hmn⟩
          · exact ih2
      · rw [m_npstep_n hmn]
        exact (ih.2 (by omega)).imp id (fun ⟨q, h1, h2, h3⟩ => ⟨q, by omega, h2, h3⟩)
