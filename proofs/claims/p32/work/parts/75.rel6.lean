
/-! THE RELATION: plans that are taken out. -/
theorem r_mv4_at {r : RW} {i j c : Nat} (hj : j ≤ i) (hc : c < 4) : r_mv4 r i j (334 + 4 * j + c) = r (334 + 4 * i + c) := by
  unfold r_mv4 r_mv1
  match c, hc with
  | 0, _ => rw [vp_uLo (by omega), vp_uLo (by omega), vp_uLo (by omega), pk_uLs]
  | 1, _ => rw [vp_uLo (by omega), vp_uLo (by omega), pk_uLs, vp_uLo (by omega)]
  | 2, _ => rw [vp_uLo (by omega), pk_uLs, vp_uLo (by omega), vp_uLo (by omega)]
  | 3, _ => rw [pk_uLs, vp_uLo (by omega), vp_uLo (by omega), vp_uLo (by omega)]
def m_kk (a b : MD) : Prop := m_sts b = m_sts a ∧ m_sav b = m_sav a ∧ m_rea b = m_rea a ∧ m_pad b = m_pad a ∧ m_len b = m_len a ∧ m_at b = m_at a ∧ m_num b = m_num a ∧ m_nm b = m_nm a
theorem m_kk.rf (a : MD) : m_kk a a := ⟨rfl, rfl, rfl, rfl, rfl, rfl, rfl, rfl⟩
theorem m_kk.tr {a b c : MD} (h : m_kk a b) (k : m_kk b c) : m_kk a c := by
  obtain ⟨h1, h2, h3, h4, h5, h6, h7, h8⟩ := h
  obtain ⟨k1, k2, k3, k4, k5, k6, k7, k8⟩ := k
  exact ⟨k1.trans h1, k2.trans h2, k3.trans h3, k4.trans h4, k5.trans h5, k6.trans h6, k7.trans h7, k8.trans h8⟩
theorem m_kk.row (a : MD) (v : RW) : m_kk a (m_srow a v) := ⟨rfl, rfl, rfl, rfl, rfl, rfl, rfl, rfl⟩
theorem m_kk.wat (a : MD) (v : Int32) : m_kk a (m_swat a v) := ⟨rfl, rfl, rfl, rfl, rfl, rfl, rfl, rfl⟩
theorem m_kk.wh (a : MD) (v : Int32) : m_kk a (m_swh a v) := ⟨rfl, rfl, rfl, rfl, rfl, rfl, rfl, rfl⟩
theorem m_kk.gone (a : MD) (v : Nat → Int32) : m_kk a (m_sgone a v) := ⟨rfl, rfl, rfl, rfl, rfl, rfl, rfl, rfl⟩
theorem m_kk.seen (a : MD) (v : Nat → Int32) : m_kk a (m_sseen a v) := ⟨rfl, rfl, rfl, rfl, rfl, rfl, rfl, rfl⟩
theorem m_c2_f (m : MD) (i : Nat) : m_row (m_c2 m i) = m_row m ∧ m_gone (m_c2 m i) = upd (m_gone m) i 0 ∧ m_seen (m_c2 m i) = upd (m_seen m) i 0 ∧ m_wat (m_c2 m i) = m_wat m ∧ m_wh (m_c2 m i) = m_wh m ∧ m_kk m (m_c2 m i) := ⟨rfl, rfl, rfl, rfl, rfl, rfl, rfl, rfl, rfl, rfl, rfl, rfl, rfl⟩
theorem m_srow_f (m : MD) (v : RW) : m_row (m_srow m v) = v ∧ m_gone (m_srow m v) = m_gone m ∧ m_seen (m_srow m v) = m_seen m ∧ m_wat (m_srow m v) = m_wat m ∧ m_wh (m_srow m v) = m_wh m := ⟨rfl, rfl, rfl, rfl, rfl⟩
theorem m_c1_f (w : Int32) (i : Nat) (s : MD × Nat) : m_row (m_c1 w i s) = m_row s.1 ∧ m_gone (m_c1 w i s) = m_gone s.1 ∧ m_seen (m_c1 w i s) = m_seen s.1 ∧ m_wh (m_c1 w i s) = m_wh s.1 ∧ m_kk s.1 (m_c1 w i s) ∧ m_wat (m_c1 w i s) = (if nI i = w then (if m_gone s.1 i = 0 then nI s.2 else -6) else m_wat s.1) := by
  unfold m_c1
  split
  · split <;> exact ⟨rfl, rfl, rfl, rfl, m_kk.wat _ _, rfl⟩
  · exact ⟨rfl, rfl, rfl, rfl, m_kk.rf _, rfl⟩
def m_keep (m : MD) (p : Nat) : Bool := decide (m_gone m p = 0)
theorem m_cloop_spec (m : MD) : ∀ i : Nat, i < 2 ^ 31 → (m_cloop m i).2 = z_ct (m_keep m) i ∧ (∀ p c, p < i → c < 4 → m_keep m p = true → m_row (m_cloop m i).1 (334 + 4 * z_ct (m_keep m) p + c) = m_row m (334 + 4 * p + c)) ∧ (∀ j, j < 334 ∨ 334 + 4 * i ≤ j → m_row (m_cloop m i).1 j = m_row m j) ∧
    (∀ p, m_gone (m_cloop m i).1 p = (if p < i then 0 else m_gone m p) ∧ m_seen (m_cloop m i).1 p = (if p < i then 0 else m_seen m p)) ∧ m_kk m (m_cloop m i).1 ∧ m_wh (m_cloop m i).1 = m_wh m ∧
    (∀ p, p < i → m_wat m = nI p → m_wat (m_cloop m i).1 = (if m_gone m p = 0 then nI (z_ct (m_keep m) p) else -6)) ∧ ((∀ p, p < i → m_wat m ≠ nI p) → m_wat (m_cloop m i).1 = m_wat m)
  | 0, _ => ⟨rfl, fun p c h => absurd h (Nat.not_lt_zero _), fun _ _ => rfl, fun p => ⟨by rw [if_neg (Nat.not_lt_zero _)]; rfl, by rw [if_neg (Nat.not_lt_zero _)]; rfl⟩, m_kk.rf _, rfl, fun p h => absurd h (Nat.not_lt_zero _), fun _ => rfl⟩
  | i + 1, hi31 => by
    obtain ⟨h1, h2, h3, h4, h5, h6, h7, h8⟩ := m_cloop_spec m i (by omega)
    have hle := z_ct_le (m_keep m) i
    have hE : m_cloop m (i + 1) = m_cstep (m_wat m) i (m_cloop m i) := rfl
    rw [hE]
    generalize m_cloop m i = s at h1 h2 h3 h4 h5 h6 h7 h8 ⊢
    have C := m_c1_f (m_wat m) i s
    have eg : m_gone s.1 i = m_gone m i := by rw [(h4 i).1, if_neg (Nat.lt_irrefl _)]
    unfold m_cstep
    generalize m_c1 (m_wat m) i s = u at C ⊢
    obtain ⟨c1, c2, c3, c4, c5, c6⟩ := C
    have hwat : (∀ p, p < i + 1 → m_wat m = nI p → m_wat u = (if m_gone m p = 0 then nI (z_ct (m_keep m) p) else -6)) ∧ ((∀ p, p < i + 1 → m_wat m ≠ nI p) → m_wat u = m_wat m) := by
      refine ⟨fun p hp hw => ?_, fun hw => ?_⟩
      · by_cases e : p = i
        · subst e
          rw [c6, if_pos hw.symm, eg, h1]
        · have hne : ¬ nI i = m_wat m := by
            rw [hw]; intro z; exact e ((nI_eq (by omega) (by omega)).mp z).symm
          rw [c6, if_neg hne]; exact h7 p (by omega) hw
      · have hne : ¬ nI i = m_wat m := fun z => hw i (by omega) z.symm
        rw [c6, if_neg hne]; exact h8 (fun p hp => hw p (by omega))
    have hgs : ∀ p, (upd (m_gone u) i 0) p = (if p < i + 1 then 0 else m_gone m p) ∧ (upd (m_seen u) i 0) p = (if p < i + 1 then 0 else m_seen m p) := by
      intro p
      by_cases e : p = i
      · subst e; rw [pk_us, pk_us, if_pos (by omega), if_pos (by omega)]; exact ⟨rfl, rfl⟩
      · rw [pk_un e, pk_un e, c2, c3, (h4 p).1, (h4 p).2]
        by_cases g : p < i
        · rw [if_pos g, if_pos g, if_pos (by omega), if_pos (by omega)]; exact ⟨rfl, rfl⟩
        · rw [if_neg g, if_neg g, if_neg (by omega), if_neg (by omega)]; exact ⟨rfl, rfl⟩
    by_cases h : m_gone u i = 0
    · rw [if_pos h]
      have hk : m_keep m i = true := by unfold m_keep; rw [decide_eq_true]; rw [← eg, ← c2]; exact h
      have F := m_c2_f (m_srow u (r_mv4 (m_row u) i s.2)) i
      have G := m_srow_f u (r_mv4 (m_row u) i s.2)
      have K := m_kk.row u (r_mv4 (m_row u) i s.2)
      generalize m_srow u (r_mv4 (m_row u) i s.2) = v at F G K ⊢
      generalize m_c2 v i = x at F ⊢
      rw [z_ct_s hk]
      have er : m_row x = r_mv4 (m_row u) i s.2 := F.1.trans G.1
      refine ⟨by rw [h1], fun p c hp hc hpk => ?_, fun j hj => ?_, fun p => ?_, h5.tr (c5.tr (K.tr F.2.2.2.2.2)), by rw [F.2.2.2.2.1, G.2.2.2.2, c4, h6], fun p hp hw => by rw [F.2.2.2.1, G.2.2.2.1]; exact hwat.1 p hp hw, fun hw => by rw [F.2.2.2.1, G.2.2.2.1]; exact hwat.2 hw⟩
      · show m_row x _ = _
        rw [er, h1]
        rcases Nat.lt_or_ge p i with q | q
        · have := z_ct_lt q hpk
          rw [r_mv4_ne (by omega), c1]; exact h2 p c q hc hpk
        · have : p = i := by omega
          subst this; rw [r_mv4_at hle hc, c1]; exact h3 _ (Or.inr (by omega))
      · show m_row x _ = _
        rw [er, h1, r_mv4_ne (by omega), c1]; exact h3 j (by omega)
      · have h9 := hgs p
        rw [F.2.1, F.2.2.1, G.2.1, G.2.2.1]; exact h9
    · rw [if_neg h]
      have hk : ¬ m_keep m i = true := by unfold m_keep; rw [decide_eq_true_iff]; rw [← eg, ← c2]; exact h
      have F := m_c2_f u i
      generalize m_c2 u i = x at F ⊢
      rw [z_ct_n hk]
      refine ⟨h1, fun p c hp hc hpk => ?_, fun j hj => by show m_row x j = _; rw [F.1, c1]; exact h3 j (by omega), fun p => by rw [F.2.1, F.2.2.1]; exact hgs p, h5.tr (c5.tr F.2.2.2.2.2), by rw [F.2.2.2.2.1, c4, h6], fun p hp hw => by rw [F.2.2.2.1]; exact hwat.1 p hp hw, fun hw => by rw [F.2.2.2.1]; exact hwat.2 hw⟩
      show m_row x _ = _
      rw [F.1, c1]
      rcases Nat.lt_or_ge p i with q | q
      · exact h2 p c q hc hpk
      · have : p = i := by omega
        subst this; exact absurd hpk hk
/-- what m_clear leaves, of n plans -/
theorem m_clear_spec (m : MD) {n : Nat} (hn : zn64 (m_row m 13) = n) (h30 : n ≤ 30) : m_row (m_clear m) 13 = (nI (z_ct (m_keep m) n)).toInt64 ∧ (∀ p c, p < n → c < 4 → m_keep m p = true → m_row (m_clear m) (334 + 4 * z_ct (m_keep m) p + c) = m_row m (334 + 4 * p + c)) ∧ (∀ j, (j < 334 ∨ 454 ≤ j) → j ≠ 13 → m_row (m_clear m) j = m_row m j) ∧
    (∀ p, m_gone (m_clear m) p = (if p < n then 0 else m_gone m p) ∧ m_seen (m_clear m) p = (if p < n then 0 else m_seen m p)) ∧ m_kk m (m_clear m) ∧ m_wh (m_clear m) = m_wh m ∧
    (∀ p, p < n → m_wat m = nI p → m_wat (m_clear m) = (if m_gone m p = 0 then nI (z_ct (m_keep m) p) else -6)) ∧ ((∀ p, p < n → m_wat m ≠ nI p) → m_wat (m_clear m) = m_wat m) := by
  obtain ⟨h1, h2, h3, h4, h5, h6, h7, h8⟩ := m_cloop_spec m n (by omega)
  have hE : m_clear m = m_srow (m_cloop m n).1 (vp_updL (m_row (m_cloop m n).1) 13 (nI (m_cloop m n).2).toInt64) := by unfold m_clear; rw [hn]
  rw [hE]
  generalize m_cloop m n = s at h1 h2 h3 h4 h5 h6 h7 h8 ⊢
  have G := m_srow_f s.1 (vp_updL (m_row s.1) 13 (nI s.2).toInt64)
  have K := m_kk.row s.1 (vp_updL (m_row s.1) 13 (nI s.2).toInt64)
  generalize m_srow s.1 (vp_updL (m_row s.1) 13 (nI s.2).toInt64) = v at G K ⊢
  obtain ⟨g1, g2, g3, g4, g5⟩ := G
  rw [g1]
  refine ⟨by rw [pk_uLs, h1], fun p c hp hc hk => by rw [vp_uLo (by omega)]; exact h2 p c hp hc hk, fun j hj h13 => by rw [pk_uLn h13]; exact h3 j (by omega), fun p => by rw [g2, g3]; exact h4 p, h5.tr K, by rw [g5, h6], fun p hp hw => by rw [g4]; exact h7 p hp hw, fun hw => by rw [g4]; exact h8 hw⟩
/-- plans, between hours -/
def HP (c B : Nat) (P : PD) (r : RW) : Prop := HPc c B P r ∧ (∀ p, p < zn32 (p_num P) → p_fate P p = 0) ∧ pS P (p_turn P) (zn32 (p_num P))
theorem z_ct_all {P : Nat → Bool} : ∀ {n : Nat}, (∀ m, m < n → P m = true) → z_ct P n = n
  | 0, _ => rfl
  | n + 1, h => by rw [z_ct_s (h n (Nat.lt_succ_self n)), z_ct_all (fun m hm => h m (Nat.lt_succ_of_lt hm))]
/-- the class takes plans out (or has none to take out), the reference clears -/
def WT (P : PD) (m : MD) : Prop := (p_wat P = -1 ∧ m_wat m = -6) ∨ ∃ p, p < zn32 (p_num P) ∧ p_wat P = nI p ∧ m_wat m = nI p
theorem p_rloop_w (d : PD) : ∀ i : Nat, i < 2 ^ 31 → (∀ p, p < i → p_wat d = nI p → p_wf (p_rloop d i).1 = p_fate d p ∧ p_wat (p_rloop d i).1 = (if p_fate d p = 0 then nI (z_ct (p_keep d) p) else -1)) ∧ ((∀ p, p < i → p_wat d ≠ nI p) → p_wf (p_rloop d i).1 = p_wf d ∧ p_wat (p_rloop d i).1 = p_wat d)
  | 0, _ => ⟨fun p h => absurd h (Nat.not_lt_zero _), fun _ => ⟨rfl, rfl⟩⟩
  | i + 1, hi => by
    obtain ⟨h1, h2⟩ := p_rloop_w d i (by omega)
    obtain ⟨s1, s2, s3⟩ := p_rloop_spec d i
    have ef : p_fate (p_rloop d i).1 i = p_fate d i := s3 i 4 (Nat.le_refl _)
    have hE : p_rloop d (i + 1) = p_rstep (p_wat d) i (p_rloop d i) := rfl
    rw [hE]
    generalize p_rloop d i = s at h1 h2 s1 ef ⊢
    have hM : p_wf (p_rstep (p_wat d) i s).1 = p_wf (p_r1 (p_wat d) i s) ∧ p_wat (p_rstep (p_wat d) i s).1 = p_wat (p_r1 (p_wat d) i s) := by
      unfold p_rstep; split <;> exact ⟨rfl, rfl⟩
    rw [hM.1, hM.2]
    have hR : (nI i = p_wat d → p_wf (p_r1 (p_wat d) i s) = p_fate s.1 i ∧ p_wat (p_r1 (p_wat d) i s) = (if p_fate s.1 i = 0 then nI s.2 else -1)) ∧ (¬ nI i = p_wat d → p_r1 (p_wat d) i s = s.1) := by
      unfold p_r1
      refine ⟨fun z => ?_, fun z => if_neg z⟩
      rw [if_pos z]; split <;> exact ⟨rfl, rfl⟩
    refine ⟨fun p hp hw => ?_, fun hw => ?_⟩
    · by_cases e : p = i
      · subst e
        have := hR.1 hw.symm
        rw [this.1, this.2, ef, s1]; exact ⟨rfl, rfl⟩
      · have hne : ¬ nI i = p_wat d := by
          rw [hw]; intro z; exact e ((nI_eq (by omega) (by omega)).mp z).symm
        rw [hR.2 hne]; exact h1 p (by omega) hw
    · have hne : ¬ nI i = p_wat d := fun z => hw i (by omega) z.symm
      rw [hR.2 hne]; exact h2 (fun p hp => hw p (by omega))
theorem p_rem_w {d : PD} (hd : p_ok d) : (∀ p, p < zn32 (p_num d) → p_wat d = nI p → p_wf (p_rem d) = p_fate d p ∧ p_wat (p_rem d) = (if p_fate d p = 0 then nI (z_ct (p_keep d) p) else -1)) ∧ ((∀ p, p < zn32 (p_num d) → p_wat d ≠ nI p) → p_wf (p_rem d) = p_wf d ∧ p_wat (p_rem d) = p_wat d) := by
  have h30 := hd.2
  have h := p_rloop_w d (zn32 (p_num d)) (by omega)
  have k := p_arr_at (p_snum (p_rloop d (zn32 (p_num d))).1 (nI (p_rloop d (zn32 (p_num d))).2)) 0
  have e1 : p_wat (p_rem d) = p_wat (p_rloop d (zn32 (p_num d))).1 := k.2.2.1
  have e2 : p_wf (p_rem d) = p_wf (p_rloop d (zn32 (p_num d))).1 := k.2.2.2
  rw [e1, e2]; exact h
/-- plans with the fates f are taken out on both sides -/
theorem HP_rem {c B : Nat} {P : PD} {m : MD} (h : HPc c B P (m_row m)) (hg : ∀ p, p < zn32 (p_num P) → (m_gone m p = 0 ↔ p_fate P p = 0)) : HP c B (p_rem P) (m_row (m_clear m)) := by
  have hn := HPc_n h
  have h30 := h.1.2.2
  have hd : p_ok P := h.1.2
  have S := m_clear_spec m hn h30
  have hct : ∀ p, p ≤ zn32 (p_num P) → z_ct (m_keep m) p = z_ct (p_keep P) p := fun p hp => z_ct_c (fun q hq => by unfold m_keep p_keep; exact decide_eq_decide.mpr (hg q (by omega)))
  have hnum := p_rem_num P hd
  refine ⟨⟨⟨?_, p_rem_ok1 P hd⟩, fun p hp k hk => ?_⟩, fun p hp => ?_, ?_⟩
  · rw [S.1, hct _ (Nat.le_refl _), ← hnum]
    have := p_rem_ok1 P hd
    exact congrArg Int32.toInt64 this.1.symm
  · rw [hnum] at hp
    obtain ⟨q, h1, h2, h3⟩ := z_ct_sur hp
    subst h3
    rw [p_rem_at P q k h1 h2, ← hct q (by omega), S.2.1 q k h1 hk (by unfold m_keep; unfold p_keep at h2; rw [decide_eq_true_iff] at h2 ⊢; exact (hg q h1).mpr h2)]
    exact h.2 q h1 k hk
  · rw [hnum] at hp
    obtain ⟨q, h1, h2, h3⟩ := z_ct_sur hp
    subst h3
    show p_at (p_rem P) 4 _ = 0
    rw [p_rem_at P q 4 h1 h2]
    unfold p_keep at h2; exact of_decide_eq_true h2
  · have hk : p_ok (p_snum (p_rloop P (zn32 (p_num P))).1 (nI (p_rloop P (zn32 (p_num P))).2)) := p_rem_ok hd
    have hS := p_arr_S hk
    have e : p_num (p_rem P) = nI (p_rloop P (zn32 (p_num P))).2 := (p_arr_at _ 0).2.1
    rw [e]; exact hS
/-- nothing has ended: the class leaves its plans, the reference clears -/
theorem HP_same {c B : Nat} {P : PD} {m : MD} (h : HPc c B P (m_row m)) (hf : ∀ p, p < zn32 (p_num P) → p_fate P p = 0) (hs : pS P (p_turn P) (zn32 (p_num P))) (hg : ∀ p, p < zn32 (p_num P) → m_gone m p = 0) : HP c B P (m_row (m_clear m)) := by
  have hn := HPc_n h
  have h30 := h.1.2.2
  have S := m_clear_spec m hn h30
  have hk : ∀ p, p < zn32 (p_num P) → m_keep m p = true := fun p hp => decide_eq_true (hg p hp)
  have hct : ∀ p, p ≤ zn32 (p_num P) → z_ct (m_keep m) p = p := fun p hp => z_ct_all (fun q hq => hk q (by omega))
  refine ⟨⟨⟨?_, h.1.2⟩, fun p hp k hk2 => ?_⟩, hf, hs⟩
  · rw [S.1, hct _ (Nat.le_refl _)]
    exact congrArg Int32.toInt64 h.1.2.1.symm
  · have := S.2.1 p k hp hk2 (hk p hp)
    rw [hct p (by omega)] at this
    rw [this]; exact h.2 p hp k hk2
