
/-! THE BEST LENDER, THE LEAST LOAN, THE SAFE SIZE. -/
theorem thw_t {B c F i : Nat} {r : RW} {d : HD} (hH : HH B d r) (iv : IV c F r) (hi : i < 8) : 0 ≤ (r_thw r i).toInt ∧ (r_thw r i).toInt ≤ 10000 := by
  have h3 := hH.1.1 3 (by decide)
  have t3 : (r 3).toInt = (zn32 (h_set d 3) : Int) := by rw [h3.1]; exact zok_t h3.2 (by decide)
  have t3b : zn32 (h_set d 3) ≤ 100 := h3.2.2
  have h0 := (iv.2.2.1.1 i hi).2.2.2.2.2.2
  unfold gA at h0
  have p := t_pct (x := r (14 + 15 * i + 0)) (p := r 3) ⟨h0.1, by omega⟩ ⟨by omega, by omega⟩
  unfold r_thw
  rw [p.1]; omega
theorem rc_frz (r : RW) (s : Nat) (b : Int64) : r_frz (r_change r s b) s = (if r_left r s + b ≤ 0 then true else if r_left r s + b ≤ r_thw r s then r_frz r s else false) := by
  have e1 : r_left (r_add r (14 + 15 * s + 1) b) s = r_left r s + b := r_add_e rfl
  have e2 : r_thw (r_add r (14 + 15 * s + 1) b) s = r_thw r s := by unfold r_thw; rw [r_add_o (by omega), r_add_o (by omega)]
  have e3 : r_frz (r_add r (14 + 15 * s + 1) b) s = r_frz r s := by unfold r_frz; rw [r_add_o (by omega)]
  unfold r_change
  generalize r_add r (14 + 15 * s + 1) b = x at e1 e2 e3 ⊢
  unfold r_sett
  rw [e1, e2]
  split
  · split <;> exact r_frz_1 _ s
  · split
    · exact e3
    · exact r_frz_0 _ s
theorem frz_c {r r2 : RW} {s : Nat} (h : r2 (14 + 15 * s + 3) = r (14 + 15 * s + 3)) : r_frz r2 s = r_frz r s := by unfold r_frz; rw [h]
theorem thw_c {r r2 : RW} {s : Nat} (h : r2 (14 + 15 * s + 0) = r (14 + 15 * s + 0)) (h3 : r2 3 = r 3) : r_thw r2 s = r_thw r s := by unfold r_thw; rw [h, h3]
theorem SV1 {B a : Nat} {ρ : RW} {e : ED} (hH : HH B (e_now e) ρ) (hs : r_isS ρ (nI a) = true) (ha : a < 8) : e_ofService e (nI a) 1 = (if r_frz ρ a then 1 else 0) := by
  rw [O_ofService (m := mO ρ e) hH]
  unfold m_ofService
  have h1 : r_isS (m_row (mO ρ e)) (nI a) = true := hs
  rw [if_pos h1, zn_nI (by omega)]
  show (ρ (14 + 15 * a + 3)).toInt32 = _
  unfold r_frz
  rcases (hH.2.1.2.2 a ha).2.2.2.1 with y | y
  · rw [y, if_neg (show ¬ (if (0 : Int64) = 1 then true else false) = true by decide)]; rfl
  · rw [y, if_pos (show (if (1 : Int64) = 1 then true else false) = true by decide)]; rfl
/-- who could lend k minutes to a -/
def CO (r : RW) (i a k : Nat) : Prop := i ≠ a ∧ ¬ r 12 = 40 ∧ r_why r (nI i) (nI a) (nI k) = 0
/-- whether a is frozen when it has k minutes more -/
def LF (r : RW) (a : Nat) (v : Int64) : Bool := if r_left r a + v ≤ 0 then true else if r_left r a + v ≤ r_thw r a then r_frz r a else false
theorem why_c {r r2 : RW} (h : ∀ j, j < 454 → r2 j = r j) {i a k n : Nat} (hi : i < 8) (hn : zn64 (r 12) = n) (hn40 : n ≤ 40) : r_why r2 (nI i) (nI a) (nI k) = r_why r (nI i) (nI a) (nI k) := by
  have e1 : r_frz r2 (zn32 (nI i)) = r_frz r (zn32 (nI i)) := by rw [zn_nI (by omega)]; exact frz_c (h _ (by omega))
  have e2 : r_left r2 (zn32 (nI i)) = r_left r (zn32 (nI i)) := by rw [zn_nI (by omega)]; exact h _ (by omega)
  have e3 : r_thw r2 (zn32 (nI i)) = r_thw r (zn32 (nI i)) := by rw [zn_nI (by omega)]; exact thw_c (h _ (by omega)) (h 3 (by decide))
  have e4 : ∀ m, m ≤ 40 → r_lcnt r2 1 (nI a) m = r_lcnt r 1 (nI a) m := by
    intro m
    induction m with
    | zero => intro _; rfl
    | succ m ih => intro hm; rw [r_lcnt_s, r_lcnt_s, ih (by omega), h _ (by omega)]
  unfold r_why
  rw [e1, e2, e3, h 12 (by decide), hn, e4 n hn40, h 6 (by decide)]
theorem z_k5 {k : Nat} (h1 : 1 ≤ k) (h2 : k ≤ 5000) : z_inl (nI k).toInt64 1 5000 = true := by
  have e : z_in (nI k) 1 5000 = true := by
    unfold z_in
    rw [if_neg (show ¬ nI k < 1 from nI_nlt (b := 1) h1 (by omega)), if_pos (show nI k ≤ 5000 from (nI_leI (b := 5000) (by omega) (by decide)).mpr h2)]
  exact (show z_inl (nI k).toInt64 1 5000 = z_in (nI k) 1 5000 from z_in_l (nI k) 1 5000).trans e
theorem LB1 {B c F k i a : Nat} {r : RW} {e : ED} (hB : B + 3000 < 2 ^ 30) (h : QS B r e) (iv : IV c F r) (hi : i < c) (ha : a < c) (h1 : 1 ≤ k) (h2 : k ≤ 5000) :
    (CO r i a k → ¬ (e_lend e (nI i) (nI a) (nI k) 1).1 < 0 ∧ e_ofService (e_lend e (nI i) (nI a) (nI k) 1).2 (nI a) 1 = (if LF r a (nI k).toInt64 then 1 else 0)) ∧ (¬ CO r i a k → (e_lend e (nI i) (nI a) (nI k) 1).1 < 0) := by
  have h8 := iv.1
  obtain ⟨⟨m, r1, r2⟩, -⟩ := h
  have ivm := IV_r iv r2
  have s1 : r_isS (m_row m) (nI i) = true := sn_has r1.2.1.1 ivm hi
  have s2 : r_isS (m_row m) (nI a) = true := sn_has r1.2.1.1 ivm ha
  obtain ⟨n, n40, n12, -⟩ := iv.2.2.2.1
  have hz : zn64 (r 12) = n := zn64_e n12 (by omega)
  have ew := why_c (a := a) (k := k) r2 (show i < 8 by omega) hz n40
  have e12 : m_row m 12 = r 12 := r2 12 (by decide)
  have S := S_lend hB r1 (nI i) (nI a) (nI k) 1
  have hne : nI i = nI a ↔ i = a := nI_eq (by omega) (by omega)
  have NL : m_noLend m (nI i) (nI a) (nI k) 1 = (if i = a then (-1, m) else if r 12 = 40 then (-4, m) else if r_why r (nI i) (nI a) (nI k) = 0 then (0, m) else (-5, m_srea m (r_why r (nI i) (nI a) (nI k)))) := by
    unfold m_noLend
    rw [if_pos s1, if_pos s2, if_pos (z_k5 h1 h2), if_pos (show z_inl (1 : Int32).toInt64 1 9 = true by decide), ew, e12]
    by_cases y : i = a
    · rw [if_pos (hne.mpr y), if_pos y]
    · rw [if_neg (fun z => y (hne.mp z)), if_neg y]
  unfold m_lend at S
  rw [NL] at S
  unfold CO
  by_cases y : i = a
  · rw [if_pos y] at S
    refine ⟨fun z => absurd y z.1, fun _ => ?_⟩
    rw [if_neg (show ¬ ((-1 : Int32), m).1 = 0 by intro z; exact absurd (show (-1 : Int32) = 0 from z) (by decide))] at S
    rw [S.1]; exact (show (-1 : Int32) < 0 by decide)
  · rw [if_neg y] at S
    by_cases w : r 12 = 40
    · rw [if_pos w] at S
      refine ⟨fun z => absurd w z.2.1, fun _ => ?_⟩
      rw [if_neg (show ¬ ((-4 : Int32), m).1 = 0 by intro z; exact absurd (show (-4 : Int32) = 0 from z) (by decide))] at S
      rw [S.1]; exact (show (-4 : Int32) < 0 by decide)
    · rw [if_neg w] at S
      by_cases v : r_why r (nI i) (nI a) (nI k) = 0
      · rw [if_pos v, if_pos rfl] at S
        refine ⟨fun _ => ?_, fun z => absurd ⟨y, w, v⟩ z⟩
        have lo : ∀ j, j < 454 → m_row (m_rec m) j = r j := fun j hj => (m_rec_lo hj).trans (r2 j hj)
        have ezn : zn32 (m_row (m_rec m) 12).toInt32 = n := by rw [lo 12 (by decide), n12, lN_i]; exact zn_nI (by omega)
        obtain ⟨S1, S2⟩ := S
        constructor
        · rw [S1]
          show ¬ (m_row (m_rec m) 12).toInt32 < 0
          rw [lo 12 (by decide), n12, lN_i]; exact nI_pos (by omega)
        · have hH := S2.2.1.1
          have er : m_row (m_doLend (m_rec m) (nI i) (nI a) (nI k) 1).2 = r_lend (m_row (m_rec m)) n (nI i) (nI a) (nI k) 1 := by
            show r_lend (m_row (m_rec m)) (zn32 (m_row (m_rec m) 12).toInt32) (nI i) (nI a) (nI k) 1 = _
            rw [ezn]
          rw [er] at hH
          generalize m_row (m_rec m) = ρ at lo hH
          have zi : zn32 (nI i) = i := zn_nI (by omega)
          have za : zn32 (nI a) = a := zn_nI (by omega)
          have oX : ∀ j, j < 134 → j ≠ 12 → j ≠ 14 + 15 * i + 12 → j ≠ 14 + 15 * a + 8 → r_ln6 (r_ln5 (r_ln4 (r_ln3 ρ n (nI i) (nI a) (nI k)) n (nI k)) n 1) (nI i) (nI a) (nI k) j = r j := fun j hj h12 hA hD => by
            unfold r_ln6 r_ln5 r_ln4 r_ln3
            rw [zi, za, r_add_o (by omega), r_add_o (by omega), r_add_o (by omega), vp_uLo (by omega), vp_uLo (by omega), vp_uLo (by omega), vp_uLo (by omega), vp_uLo (by omega)]
            exact lo j (by omega)
          unfold r_lend at hH
          rw [zi, za] at hH
          generalize r_ln6 (r_ln5 (r_ln4 (r_ln3 ρ n (nI i) (nI a) (nI k)) n (nI k)) n 1) (nI i) (nI a) (nI k) = X at oX hH
          have oY : ∀ j, j < 134 → j ≠ 12 → j ≠ 14 + 15 * i + 12 → j ≠ 14 + 15 * a + 8 → j ≠ 14 + 15 * i + 1 → j ≠ 14 + 15 * i + 3 → j ≠ 14 + 15 * i + 6 → r_change X i (-(nI k)).toInt64 j = r j := fun j hj h12 hA hD q1 q2 q3 => by
            rw [r_change_x ⟨q1, q2, q3⟩]; exact oX j hj h12 hA hD
          generalize r_change X i (-(nI k)).toInt64 = Y at oY hH
          have sS : r_isS (r_change Y a (nI k).toInt64) (nI a) = true := by
            have e11 : r_change Y a (nI k).toInt64 11 = m_row m 11 := by
              rw [r_change_x (by omega), oY 11 (by decide) (by decide) (by omega) (by omega) (by omega) (by omega) (by omega)]; exact (r2 11 (by decide)).symm
            unfold r_isS at s2 ⊢
            rw [e11]; exact s2
          rw [SV1 hH sS (by omega), rc_frz]
          have eL : r_left Y a = r_left r a := oY _ (by omega) (by omega) (by omega) (by omega) (by omega) (by omega) (by omega)
          have eT : r_thw Y a = r_thw r a := thw_c (oY _ (by omega) (by omega) (by omega) (by omega) (by omega) (by omega) (by omega)) (oY 3 (by decide) (by decide) (by omega) (by omega) (by omega) (by omega) (by omega))
          have eF : r_frz Y a = r_frz r a := frz_c (oY _ (by omega) (by omega) (by omega) (by omega) (by omega) (by omega) (by omega))
          rw [eL, eT, eF]
          rfl
      · rw [if_neg v, if_neg (show ¬ ((-5 : Int32), m_srea m (r_why r (nI i) (nI a) (nI k))).1 = 0 by intro z; exact absurd (show (-5 : Int32) = 0 from z) (by decide))] at S
        refine ⟨fun z => absurd z.2.2 v, fun _ => ?_⟩
        rw [S.1]; exact (show (-5 : Int32) < 0 by decide)
/-- the best lender -/
theorem bl_spec {r : RW} {a k n : Nat} (n12 : r 12 = lN n) (n40 : n ≤ 40) (ha : a < 8) : ∀ c, c ≤ 8 → (zit (r_blstep r (nI a) (nI k)) (-6) c = -6 ∧ ∀ i, i < c → ¬ CO r i a k) ∨ (∃ j, j < c ∧ zit (r_blstep r (nI a) (nI k)) (-6) c = nI j ∧ CO r j a k ∧ ∀ i, i < c → CO r i a k → (r_left r i).toInt ≤ (r_left r j).toInt ∧ ((r_left r i).toInt = (r_left r j).toInt → j ≤ i))
  | 0, _ => Or.inl ⟨rfl, fun i hi => absurd hi (Nat.not_lt_zero _)⟩
  | c + 1, hc => by
    have ih := bl_spec (r := r) (k := k) n12 n40 ha c (by omega)
    have e : zit (r_blstep r (nI a) (nI k)) (-6) (c + 1) = r_blstep r (nI a) (nI k) c (zit (r_blstep r (nI a) (nI k)) (-6) c) := rfl
    rw [e]
    generalize zit (r_blstep r (nI a) (nI k)) (-6) c = x at ih ⊢
    have h40 : r 12 < 40 ↔ ¬ r 12 = 40 := by
      rw [n12]
      have e1 : (lN n).toInt = n := lN_toInt (by omega)
      constructor
      · intro z y
        have := t_lt.mp z
        rw [y] at this
        exact absurd this (Int.lt_irrefl _)
      · intro z
        apply t_lt.mpr
        rw [e1, show (40 : Int64).toInt = 40 by decide]
        have : n ≠ 40 := fun y => z (by rw [y]; rfl)
        omega
    have hne : nI c = nI a ↔ c = a := nI_eq (by omega) (by omega)
    have keep : (¬ CO r c a k) → (x = -6 ∧ ∀ i, i < c + 1 → ¬ CO r i a k) ∨ (∃ j, j < c + 1 ∧ x = nI j ∧ CO r j a k ∧ ∀ i, i < c + 1 → CO r i a k → (r_left r i).toInt ≤ (r_left r j).toInt ∧ ((r_left r i).toInt = (r_left r j).toInt → j ≤ i)) := fun hn => by
      rcases ih with ⟨i1, i2⟩ | ⟨j, j1, j2, j3, j4⟩
      · refine Or.inl ⟨i1, fun i hi => ?_⟩
        by_cases z : i = c
        · rw [z]; exact hn
        · exact i2 i (by omega)
      · refine Or.inr ⟨j, by omega, j2, j3, fun i hi hco => ?_⟩
        by_cases z : i = c
        · rw [z] at hco; exact absurd hco hn
        · exact j4 i (by omega) hco
    unfold r_blstep
    by_cases y : c = a
    · rw [if_pos (hne.mpr y)]; exact keep (fun z => z.1 y)
    · rw [if_neg (fun z => y (hne.mp z))]
      by_cases w : r 12 < 40
      · rw [if_pos w]
        by_cases v : r_why r (nI c) (nI a) (nI k) = 0
        · rw [if_pos v]
          have hco : CO r c a k := ⟨y, h40.mp w, v⟩
          rcases ih with ⟨i1, i2⟩ | ⟨j, j1, j2, j3, j4⟩
          · rw [if_pos i1]
            refine Or.inr ⟨c, by omega, rfl, hco, fun i hi hi2 => ?_⟩
            by_cases z : i = c
            · rw [z]; exact ⟨Int.le_refl _, fun _ => Nat.le_refl _⟩
            · exact absurd hi2 (i2 i (by omega))
          · rw [if_neg (by rw [j2]; exact nI_ne6 (by omega)), j2, zn_nI (by omega), zn_nI (by omega)]
            by_cases u : r_left r c ≤ r_left r j
            · rw [if_pos u]
              have u2 := Int64.le_iff_toInt_le.mp u
              refine Or.inr ⟨j, by omega, rfl, j3, fun i hi hi2 => ?_⟩
              by_cases z : i = c
              · rw [z]; exact ⟨u2, fun _ => by omega⟩
              · exact j4 i (by omega) hi2
            · rw [if_neg u]
              have u2 : ¬ (r_left r c).toInt ≤ (r_left r j).toInt := fun z => u (Int64.le_iff_toInt_le.mpr z)
              refine Or.inr ⟨c, by omega, rfl, hco, fun i hi hi2 => ?_⟩
              by_cases z : i = c
              · rw [z]; exact ⟨Int.le_refl _, fun _ => Nat.le_refl _⟩
              · have := j4 i (by omega) hi2
                exact ⟨by omega, fun q => by omega⟩
        · rw [if_neg v]; exact keep (fun z => v z.2.2)
      · rw [if_neg w]; exact keep (fun z => w (h40.mpr z.2.1))
theorem LB2 {B c F k a : Nat} {r : RW} {e : ED} (h : QS B r e) (iv : IV c F r) (ha : a < c) (h1 : 1 ≤ k) (h2 : k ≤ 5000) : (e_best e (nI a) (nI k) = -6 ∧ ∀ i, i < c → ¬ CO r i a k) ∨ (∃ j, j < c ∧ e_best e (nI a) (nI k) = nI j ∧ CO r j a k ∧ ∀ i, i < c → CO r i a k → (r_left r i).toInt ≤ (r_left r j).toInt ∧ ((r_left r i).toInt = (r_left r j).toInt → j ≤ i)) := by
  have h8 := iv.1
  obtain ⟨n, n40, n12, -⟩ := iv.2.2.2.1
  have e1 : e_best e (nI a) (nI k) = zit (r_blstep r (nI a) (nI k)) (-6) c := by
    rw [O_best (m := mO r e) h.hh]
    unfold m_best
    have s1 : r_isS (m_row (mO r e)) (nI a) = true := sn_has h.hh iv ha
    rw [if_pos s1, if_pos (z_k5 h1 h2)]
    show zit (r_blstep r (nI a) (nI k)) (-6) (zn64 (r 11)) = _
    rw [zn64_e iv.2.1 (by omega)]
  rw [e1]
  exact bl_spec n12 n40 (by omega) c h8
/-- the least loan -/
theorem LB3 {B c F a : Nat} {r : RW} {e : ED} (hF : F < 1000000000) (h : QS B r e) (iv : IV c F r) (ha : a < c) : (r_frz r a = false → e_least e (nI a) = 0) ∧ (r_frz r a = true → ∃ y : Int, (e_least e (nI a)).toInt = y ∧ 1 ≤ y ∧ (y = 1 ∨ y = (r_thw r a).toInt - gA r a 1 + 1) ∧ (r_thw r a).toInt - gA r a 1 + 1 ≤ y) := by
  have h8 := iv.1
  have T := thw_t h.hh iv (show a < 8 by omega)
  have L := IVs_left (iv.2.2.1.1 a (by omega)) hF
  have e1 : e_least e (nI a) = (if r_frz r a then (if r_lst r a ≤ 1 then 1 else r_lst r a) else 0) := by
    rw [O_least (m := mO r e) h.hh]
    unfold m_least
    have s1 : r_isS (m_row (mO r e)) (nI a) = true := sn_has h.hh iv ha
    rw [if_pos s1, zn_nI (by omega)]
    rfl
  have t1 : (1 : Int64).toInt = 1 := by decide
  have el : (r_left r a).toInt = gA r a 1 := rfl
  have e2 : (r_lst r a).toInt = (r_thw r a).toInt - gA r a 1 + 1 := by
    unfold r_lst
    have q := t_sub (x := r_thw r a) (v := r_left r a) (by rw [el]; omega) (by rw [el]; omega)
    rw [t_add (by rw [q, t1, el]; omega) (by rw [q, t1, el]; omega), q, t1, el]
  rw [e1]
  refine ⟨fun f => by rw [f, if_neg Bool.false_ne_true], fun f => ?_⟩
  rw [f, if_pos rfl]
  by_cases y : r_lst r a ≤ 1
  · rw [if_pos y]
    have := Int64.le_iff_toInt_le.mp y
    rw [e2, t1] at this
    exact ⟨1, t1, Int.le_refl _, Or.inl rfl, this⟩
  · rw [if_neg y]
    have : ¬ (r_lst r a).toInt ≤ (1 : Int64).toInt := fun z => y (Int64.le_iff_toInt_le.mpr z)
    rw [e2, t1] at this
    exact ⟨_, e2, by omega, Or.inr rfl, Int.le_refl _⟩
/-- the safe size -/
theorem LB4 {B c F a : Nat} {r : RW} {e : ED} (hF : F < 1000000000) (h : QS B r e) (iv : IV c F r) (ha : a < c) : (r_frz r a = true → e_safe e (nI a) = -6) ∧ (r_frz r a = false → (e_safe e (nI a) = -6 ∧ gA r a 1 ≤ 1) ∨ (∃ z : Nat, 1 ≤ z ∧ z < 200 ∧ e_safe e (nI a) = nI z ∧ gA r a 1 = z + 1) ∨ (e_safe e (nI a) = nI 200 ∧ 201 ≤ gA r a 1)) := by
  have h8 := iv.1
  have L := IVs_left (iv.2.2.1.1 a (by omega)) hF
  have e1 : e_safe e (nI a) = (if r_frz r a then -6 else if r_left r a - 1 < 1 then -6 else if r_left r a - 1 < 200 then (r_left r a - 1).toInt32 else 200) := by
    rw [O_safe (m := mO r e) h.hh]
    unfold m_safe
    have s1 : r_isS (m_row (mO r e)) (nI a) = true := sn_has h.hh iv ha
    rw [if_pos s1, zn_nI (by omega)]
    rfl
  have t1 : (1 : Int64).toInt = 1 := by decide
  have t200 : (200 : Int64).toInt = 200 := by decide
  have el : (r_left r a).toInt = gA r a 1 := rfl
  have e2 : (r_left r a - 1).toInt = gA r a 1 - 1 := by
    rw [t_sub (by rw [el, t1]; omega) (by rw [el, t1]; omega), el, t1]
  rw [e1]
  refine ⟨fun f => by rw [f, if_pos rfl], fun f => ?_⟩
  rw [f, if_neg Bool.false_ne_true]
  by_cases y : r_left r a - 1 < 1
  · rw [if_pos y]
    have := t_lt.mp y
    rw [e2, t1] at this
    exact Or.inl ⟨rfl, by omega⟩
  · rw [if_neg y]
    have y2 : ¬ (r_left r a - 1).toInt < (1 : Int64).toInt := fun z => y (t_lt.mpr z)
    rw [e2, t1] at y2
    by_cases w : r_left r a - 1 < 200
    · rw [if_pos w]
      have := t_lt.mp w
      rw [e2, t200] at this
      obtain ⟨z, z1, z2, z3⟩ := t_i32 (v := r_left r a - 1) ⟨by omega, by omega⟩
      exact Or.inr (Or.inl ⟨z, by omega, by omega, z3, by omega⟩)
    · rw [if_neg w]
      have w2 : ¬ (r_left r a - 1).toInt < (200 : Int64).toInt := fun z => w (t_lt.mpr z)
      rw [e2, t200] at w2
      exact Or.inr (Or.inr ⟨rfl, by omega⟩)
/-- a release of a service that is not frozen -/
theorem LB5 {B c F a z : Nat} {r : RW} {e : ED} (hF : F < 1000000000) (h : QS B r e) (iv : IV c F r) (ha : a < c) (hf : r_frz r a = false) (h1 : 1 ≤ z) (h2 : z ≤ 200) : (e_release e (nI a) (nI z) 0).1 = 0 ∧ (gA r a 1 ≤ z → e_ofService (e_release e (nI a) (nI z) 0).2 (nI a) 1 = 1) ∧ (z < gA r a 1 → e_ofService (e_release e (nI a) (nI z) 0).2 (nI a) 1 = 0) := by
  have h8 := iv.1
  have L := IVs_left (iv.2.2.1.1 a (by omega)) hF
  obtain ⟨⟨m, r1, r2⟩, -⟩ := h
  have ivm := IV_r iv r2
  have s1 : r_isS (m_row m) (nI a) = true := sn_has r1.2.1.1 ivm ha
  have za : zn32 (nI a) = a := zn_nI (by omega)
  have fm : r_frz (m_row m) a = false := by rw [← hf]; exact frz_c (r2 _ (by omega))
  have hz : z_inl (nI z).toInt64 1 200 = true := by
    have e : z_in (nI z) 1 200 = true := by
      unfold z_in
      rw [if_neg (show ¬ nI z < 1 from nI_nlt (b := 1) h1 (by omega)), if_pos (show nI z ≤ 200 from (nI_leI (b := 200) (by omega) (by decide)).mpr h2)]
    exact (show z_inl (nI z).toInt64 1 200 = z_in (nI z) 1 200 from z_in_l (nI z) 1 200).trans e
  have S := S_release r1 (nI a) (nI z) 0
  have NR : m_noRel m (nI a) (nI z) 0 = (0, m) := by
    unfold m_noRel
    rw [if_pos s1, if_pos hz, if_pos (show z_inl (0 : Int32).toInt64 0 1 = true by decide), za, fm, if_neg Bool.false_ne_true]
  unfold m_release at S
  rw [NR, if_pos rfl] at S
  have lo : ∀ j, j < 454 → m_row (m_rec m) j = r j := fun j hj => (m_rec_lo hj).trans (r2 j hj)
  have fr : r_frz (m_row (m_rec m)) a = false := by rw [← hf]; exact frz_c (lo _ (by omega))
  have eu : m_used (m_rec m) (zn32 (nI a)) = 0 := by unfold m_used; rw [za, fr]; rfl
  obtain ⟨S1, S2⟩ := S
  have ev : (m_doRel (m_rec m) (nI a) (nI z)).1 = 0 := eu
  have hH := S2.2.1.1
  have er : m_row (m_doRel (m_rec m) (nI a) (nI z)).2 = r_spend (vp_updL (m_row (m_rec m)) (14 + 15 * a + 2) (m_row (m_rec m) (14 + 15 * a + 2) - (0 : Int32).toInt64)) a (nI z).toInt64 := by
    show r_spend (m_row (m_rl1 (m_rec m) (zn32 (nI a)) (m_used (m_rec m) (zn32 (nI a))))) (zn32 (nI a)) (nI z).toInt64 = _
    rw [eu, za]; rfl
  have hS : e_ofService (e_release e (nI a) (nI z) 0).2 (nI a) 1 = (if (if r_left r a + -(nI z).toInt64 ≤ 0 then true else if r_left r a + -(nI z).toInt64 ≤ r_thw r a then false else false) then 1 else 0) := by
    rw [er] at hH
    generalize m_row (m_rec m) = ρ at lo hH
    unfold r_spend at hH
    have oX : ∀ j, j < 134 → j ≠ 14 + 15 * a + 2 → j ≠ 14 + 15 * a + 4 → j ≠ 14 + 15 * a + 11 → r_add (r_add (vp_updL ρ (14 + 15 * a + 2) (ρ (14 + 15 * a + 2) - (0 : Int32).toInt64)) (14 + 15 * a + 7 + 4) (nI z).toInt64) (14 + 15 * a + 4) 1 j = r j := fun j hj q1 q2 q3 => by
      rw [r_add_o (by omega), r_add_o (by omega), vp_uLo (by omega)]; exact lo j (by omega)
    generalize r_add (r_add (vp_updL ρ (14 + 15 * a + 2) (ρ (14 + 15 * a + 2) - (0 : Int32).toInt64)) (14 + 15 * a + 7 + 4) (nI z).toInt64) (14 + 15 * a + 4) 1 = X at oX hH
    have sS : r_isS (r_change X a (-(nI z).toInt64)) (nI a) = true := by
      have e11 : r_change X a (-(nI z).toInt64) 11 = m_row m 11 := by
        rw [r_change_x (by omega), oX 11 (by decide) (by omega) (by omega) (by omega)]; exact (r2 11 (by decide)).symm
      unfold r_isS at s1 ⊢
      rw [e11]; exact s1
    rw [SV1 hH sS (by omega), rc_frz]
    have eL : r_left X a = r_left r a := oX _ (by omega) (by omega) (by omega) (by omega)
    have eT : r_thw X a = r_thw r a := thw_c (oX _ (by omega) (by omega) (by omega) (by omega)) (oX 3 (by decide) (by omega) (by omega) (by omega))
    have eF : r_frz X a = false := (frz_c (oX _ (by omega) (by omega) (by omega) (by omega))).trans hf
    rw [eL, eT, eF]
  have ez : (nI z).toInt64 = lN z := nI_l (by omega)
  have tz : (lN z).toInt = z := lN_toInt (by omega)
  have el : (r_left r a).toInt = gA r a 1 := rfl
  have et : (r_left r a + -(nI z).toInt64).toInt = gA r a 1 - z := by
    have hn := t_neg (v := lN z) (by rw [tz]; omega)
    rw [ez, t_add (by rw [hn, tz, el]; omega) (by rw [hn, tz, el]; omega), hn, tz, el]; omega
  refine ⟨S1.trans ev, fun q => ?_, fun q => ?_⟩
  · rw [hS, if_pos (show r_left r a + -(nI z).toInt64 ≤ 0 from t_le0.mpr (by rw [et]; omega))]; rfl
  · rw [hS, if_neg (show ¬ r_left r a + -(nI z).toInt64 ≤ 0 from fun y => by have := t_le0.mp y; rw [et] at this; omega)]
    split <;> rfl
/-- whether the loan thaws -/
theorem LB6 {c F k a : Nat} {r : RW} (hF : F < 1000000000) (iv : IV c F r) (ha : a < c) (h2 : k ≤ 5000) (T : 0 ≤ (r_thw r a).toInt ∧ (r_thw r a).toInt ≤ 10000) : ((r_thw r a).toInt < gA r a 1 + k → LF r a (nI k).toInt64 = false) ∧ (r_frz r a = true → gA r a 1 + k ≤ (r_thw r a).toInt → LF r a (nI k).toInt64 = true) := by
  have h8 := iv.1
  have L := IVs_left (iv.2.2.1.1 a (by omega)) hF
  have ez : (nI k).toInt64 = lN k := nI_l (by omega)
  have tz : (lN k).toInt = k := lN_toInt (by omega)
  have el : (r_left r a).toInt = gA r a 1 := rfl
  have et : (r_left r a + (nI k).toInt64).toInt = gA r a 1 + k := by
    rw [ez, t_add (by rw [tz, el]; omega) (by rw [tz, el]; omega), tz, el]
  unfold LF
  refine ⟨fun q => ?_, fun f q => ?_⟩
  · rw [if_neg (fun y => by have := t_le0.mp y; rw [et] at this; omega), if_neg (fun y => by have := Int64.le_iff_toInt_le.mp y; rw [et] at this; omega)]
  · by_cases y : r_left r a + (nI k).toInt64 ≤ 0
    · rw [if_pos y]
    · rw [if_neg y, if_pos (Int64.le_iff_toInt_le.mpr (by rw [et]; exact q))]; exact f
/-- who can lend can lend less -/
theorem LB7 {c F k j a : Nat} {r : RW} (hF : F < 1000000000) (iv : IV c F r) (hj : j < c) (T : 0 ≤ (r_thw r j).toInt ∧ (r_thw r j).toInt ≤ 10000) (h1 : 2 ≤ k) (h2 : k ≤ 5000) (h : CO r j a k) : CO r j a (k - 1) := by
  have h8 := iv.1
  have L := IVs_left (iv.2.2.1.1 j (by omega)) hF
  obtain ⟨c1, c2, c3⟩ := h
  refine ⟨c1, c2, ?_⟩
  have el : (r_left r j).toInt = gA r j 1 := rfl
  have tk : ∀ k, k ≤ 5000 → (r_left r j - (nI k).toInt64).toInt = gA r j 1 - k := fun k hk => by
    have ez : (nI k).toInt64 = lN k := nI_l (by omega)
    have tz : (lN k).toInt = k := lN_toInt (by omega)
    rw [ez, t_sub (by rw [tz, el]; omega) (by rw [tz, el]; omega), tz, el]
  unfold r_why at c3 ⊢
  rw [zn_nI (by omega)] at c3 ⊢
  by_cases f : r_frz r j = true
  · rw [if_pos f] at c3; exact absurd c3 (by decide)
  · rw [if_neg f] at c3 ⊢
    by_cases g : r_left r j - (nI k).toInt64 ≤ r_thw r j
    · rw [if_pos g] at c3; exact absurd c3 (by decide)
    · rw [if_neg g] at c3
      have g2 : ¬ (r_left r j - (nI k).toInt64).toInt ≤ (r_thw r j).toInt := fun z => g (Int64.le_iff_toInt_le.mpr z)
      rw [tk k h2] at g2
      rw [if_neg (fun z => by have := Int64.le_iff_toInt_le.mp z; rw [tk (k - 1) (by omega)] at this; omega)]
      exact c3
