
/-! THE RELATION: an hour. -/
def MX (m : MD) : Prop := ∀ p, p < 30 → m_gone m p = 0 ∧ m_seen m p = 0
def HH (B : Nat) (d : HD) (r : RW) : Prop := HA B d r ∧ HS d r ∧ HZ (zn32 (h_cnt d)) r ∧ HL (zn32 (h_cnt d)) (B + 10) (h_lo d) r ∧ HW d ∧ HP (zn32 (h_cnt d)) (B + 2000) (h_pl d) r
def f012 (f : Nat → Int32) : Prop := ∀ p, f p = 0 ∨ f p = 1 ∨ f p = 2
theorem h_fate_012 (d : HD) (p : Nat) : h_fate d p = 0 ∨ h_fate d p = 1 ∨ h_fate d p = 2 := by
  unfold h_fate
  split
  · exact Or.inl rfl
  · split
    · split
      · exact Or.inl rfl
      · exact Or.inr (Or.inr rfl)
    · exact Or.inr (Or.inl rfl)
theorem h_tstep_f (t : Nat) (s : HD × Bool) : p_fate (h_pl (h_tstep t s).1) = upd (p_fate (h_pl s.1)) (zn32 (p_turn (h_pl s.1) t)) (h_fate s.1 (zn32 (p_turn (h_pl s.1) t))) := by
  have e : (h_tstep t s).1 = (if h_fate s.1 (zn32 (p_turn (h_pl s.1) t)) = 1 then h_dorel (h_t1 s.1 (zn32 (p_turn (h_pl s.1) t))) (p_srv (h_pl (h_t1 s.1 (zn32 (p_turn (h_pl s.1) t)))) (zn32 (p_turn (h_pl s.1) t))) (p_sz (h_pl (h_t1 s.1 (zn32 (p_turn (h_pl s.1) t)))) (zn32 (p_turn (h_pl s.1) t))) else if h_fate s.1 (zn32 (p_turn (h_pl s.1) t)) = 2 then h_sdrp (h_t1 s.1 (zn32 (p_turn (h_pl s.1) t))) (upd (h_drp (h_t1 s.1 (zn32 (p_turn (h_pl s.1) t)))) (zn32 (p_srv (h_pl (h_t1 s.1 (zn32 (p_turn (h_pl s.1) t)))) (zn32 (p_turn (h_pl s.1) t)))) (h_drp (h_t1 s.1 (zn32 (p_turn (h_pl s.1) t))) (zn32 (p_srv (h_pl (h_t1 s.1 (zn32 (p_turn (h_pl s.1) t)))) (zn32 (p_turn (h_pl s.1) t)))) + 1)) else h_t1 s.1 (zn32 (p_turn (h_pl s.1) t))) := rfl
  rw [e]
  have x : p_fate (h_pl (h_t1 s.1 (zn32 (p_turn (h_pl s.1) t)))) = upd (p_fate (h_pl s.1)) (zn32 (p_turn (h_pl s.1) t)) (h_fate s.1 (zn32 (p_turn (h_pl s.1) t))) := (h_t1_f s.1 _ _).2.2
  generalize h_t1 s.1 (zn32 (p_turn (h_pl s.1) t)) = D at x ⊢
  split
  · rw [(h_dorel_w D _ _).2]; exact x
  · split
    · rw [(h_sdrp_w D _).2]; exact x
    · exact x
theorem f012_upd {f : Nat → Int32} {p : Nat} {v : Int32} (h : f012 f) (hv : v = 0 ∨ v = 1 ∨ v = 2) : f012 (upd f p v) := by
  intro q
  by_cases e : q = p
  · subst e; rw [pk_us]; exact hv
  · rw [pk_un e]; exact h q
theorem h_tloop_012 {d : HD} {N : Nat} (h : ∀ p, p < N → p_fate (h_pl d) p = 0) : ∀ t p, p < N → p_fate (h_pl (h_tloop d t).1) p = 0 ∨ p_fate (h_pl (h_tloop d t).1) p = 1 ∨ p_fate (h_pl (h_tloop d t).1) p = 2
  | 0, p, hp => Or.inl (h p hp)
  | t + 1, p, hp => by
    have ih := h_tloop_012 h t p hp
    show p_fate (h_pl (h_tstep t (h_tloop d t)).1) p = 0 ∨ p_fate (h_pl (h_tstep t (h_tloop d t)).1) p = 1 ∨ p_fate (h_pl (h_tstep t (h_tloop d t)).1) p = 2
    rw [h_tstep_f]
    generalize h_tloop d t = s at ih ⊢
    by_cases e : p = zn32 (p_turn (h_pl s.1) t)
    · rw [← e, pk_us]; exact h_fate_012 _ _
    · rw [pk_un e]; exact ih
/-- what becomes of the plan that is watched -/
def WW (P P2 : PD) (m m2 : MD) (hr : Int32) : Prop :=
  (p_wat P = -1 → m_wat m = -6 → p_wat P2 = -1 ∧ p_wf P2 = p_wf P ∧ m_wat m2 = -6 ∧ m_wh m2 = m_wh m) ∧
  (∀ p, p < zn32 (p_num P) → p_wat P = nI p → m_wat m = nI p → p_wf P = 0 →
    (∃ q, q < zn32 (p_num P2) ∧ p_wat P2 = nI q ∧ m_wat m2 = nI q ∧ p_wf P2 = 0 ∧ m_wh m2 = m_wh m) ∨ (p_wf P2 = 1 ∧ p_wat P2 = -1 ∧ m_wat m2 = -6 ∧ m_wh m2 = hr) ∨ (p_wf P2 = 2 ∧ p_wat P2 = -1 ∧ m_wat m2 = -6 ∧ m_wh m2 = m_wh m))
theorem nI_ne1 {n : Nat} (h : n < 2 ^ 31) : ¬ nI n = -1 := by
  intro e
  have := congrArg Int32.toInt e
  rw [nI_toInt h, show (-1 : Int32).toInt = -1 by decide] at this
  omega
theorem HP_r {c B : Nat} {P : PD} {r r2 : RW} (h : HP c B P r) (e : ∀ j, j = 13 ∨ (334 ≤ j ∧ j < 454) → r2 j = r j) : HP c B P r2 := ⟨HPc_r2 h.1 e, h.2⟩
theorem HP_mono {c B c2 B2 : Nat} {P : PD} {r : RW} (h : HP c B P r) (hc : c ≤ c2) (hB : B ≤ B2) : HP c2 B2 P r := ⟨HPc_mono h.1 hc hB, h.2⟩
theorem HH_take {B : Nat} {d : HD} {m : MD} (hB : B + 3000 < 2 ^ 30) (h : HH B d (m_row m)) (hx : MX m) :
    m_dgood 30 m ∧ HH B (h_take d) (m_row (m_doPlans m)) ∧ MX (m_doPlans m) ∧ m_kk m (m_doPlans m) ∧ (∀ j, 454 ≤ j → m_row (m_doPlans m) j = m_row m j) ∧ h_kk d (h_take d) ∧ WW (h_pl d) (h_pl (h_take d)) m (m_doPlans m) (h_hour d) := by
  obtain ⟨hA, hS, hZ, hL, hW, hP⟩ := h
  have h30 := hP.1.1.2.2
  have hc8 := hA.2.2.2.2.2.2
  obtain ⟨N, hN⟩ : ∃ N, N = zn32 (p_num (h_pl d)) := ⟨_, rfl⟩
  have H : PB (zn32 (h_cnt d)) (B + 2000) d m := ⟨hP.1, hP.2.2, ⟨hA.2.1.1, zok_mono hA.2.1.2 (by omega)⟩, hA.1 5 (by decide), hc8, by omega⟩
  have P0 : PT (zn32 (h_cnt d)) 0 d m (h_tloop d 0).1 (h_tloop d 0).2 m := by
    refine ⟨hS, ⟨h_kk.rf d, p_kk.rf _⟩, ⟨fun _ _ => rfl, fun _ _ _ _ _ => rfl⟩, fun j hj => ⟨fun _ => ?_, fun z => absurd z (Nat.not_lt_zero _)⟩, fun _ _ => ⟨rfl, rfl⟩, fun _ j hj => ?_, m_kk.rf m, rfl, fun p hp _ hf => ?_, fun _ _ _ _ => rfl, fun _ => rfl⟩
    · have hT := (hP.2.2.1 j hj).2
      exact ⟨hP.2.1 _ hT, hx _ (by show zn32 (p_turn (h_pl d) j) < 30; omega)⟩
    · exact hP.2.1 _ (hP.2.2.1 j hj).2
    · have h0 : p_fate (h_pl d) p = 0 := hP.2.1 p hp
      exact absurd (h0.symm.trans hf) (by decide)
  have L := PT_loop H N 0 30 m (by omega) (by omega) P0
  rw [Nat.zero_add] at L
  have hfates := h_tloop_012 (d := d) (N := N) (fun p hp => hP.2.1 p (by omega)) N
  have eTake : h_take d = (if (h_tloop d N).2 then h_spl (h_tloop d N).1 (p_rem (h_pl (h_tloop d N).1)) else (h_tloop d N).1) := by rw [hN]; rfl
  have eDo : m_doPlans m = m_clear (m_dploop 30 m) := rfl
  rw [eTake, eDo]
  obtain ⟨LP, LG⟩ := L
  generalize h_tloop d N = s at LP hfates ⊢
  generalize m_dploop 30 m = M at LP ⊢
  obtain ⟨pS1, ⟨pk1, pk2⟩, ⟨pr1, pr2⟩, pF, pg, pE, pm, pw, pW⟩ := LP
  rw [← hN] at pF pg pE pW
  have hMP : HPc (zn32 (h_cnt d)) (B + 2000) (h_pl s.1) (m_row M) := HPc_kk (HPc_r hP.1 (fun j hj => pr1 j (by omega))) pk2
  have eNum : zn32 (p_num (h_pl s.1)) = N := by rw [pk2.1, hN]
  have hgf : ∀ p, p < N → (m_gone M p = 0 ↔ p_fate (h_pl s.1) p = 0) := by
    intro p hp
    obtain ⟨j, hj, hjp⟩ := hP.2.2.2.2 p (by omega)
    have hz : zn32 (p_turn (h_pl d) j) = p := by rw [hjp]; exact zn_nI (by omega)
    have := ((pF j (by omega)).2 (by omega)).2
    rw [show (fun j => zn32 (p_turn (h_pl d) j)) j = p from hz] at this
    exact this
  have hMn : zn64 (m_row M 13) = N := by rw [HPc_n hMP, eNum]
  have S := m_clear_spec M hMn (by omega)
  obtain ⟨t1, t2, t3, t4, t5, t6, t7, t8⟩ := S
  have hrow : ∀ j, (j < 14 ∨ 134 ≤ j) → j ≠ 13 → (j < 334 ∨ 454 ≤ j) → m_row (m_clear M) j = m_row m j := fun j h1 h2 h3 => (t3 j h3 h2).trans (pr1 j h1)
  have hS2 : HS s.1 (m_row (m_clear M)) := HS_r pS1 (fun j hj => t3 j (by omega) (by omega))
  have hMX : MX (m_clear M) := by
    intro p hp
    have h1 := t4 p
    by_cases g : p < N
    · rw [if_pos g, if_pos g] at h1; exact h1
    · rw [if_neg g, if_neg g] at h1
      have h2 := pg p (by omega)
      have h3 := hx p hp
      exact ⟨h1.1.trans (h2.1.trans h3.1), h1.2.trans (h2.2.trans h3.2)⟩
  have hMid : ∀ (d2 : HD), h_kk d d2 → HS d2 (m_row (m_clear M)) → HP (zn32 (h_cnt d)) (B + 2000) (h_pl d2) (m_row (m_clear M)) → HH B d2 (m_row (m_clear M)) := by
    intro d2 k2 hs2 hp2
    obtain ⟨k21, k22, k23, k24, k25, k26⟩ := k2
    refine ⟨HA_d (HA_r hA (fun j hj => hrow j (by omega) (by omega) (by omega))) k21 k22 k23 k24 k25, hs2, ?_, ?_, ?_, ?_⟩
    · rw [k25]; intro s2 k hs hs8 hk
      rw [t3 _ (by omega) (by omega), pr2 s2 k hs hs8 hk]; exact hZ s2 k hs hs8 hk
    · rw [k25, k26]; exact HL_r hL (fun j hj => hrow j (by omega) (by omega) (by omega))
    · unfold HW; rw [k26, k23]; exact hW
    · rw [k25]; exact hp2
  have hHr : (m_row m 8).toInt32 = h_hour d := by rw [hA.2.1.1]; exact q_i _
  refine ⟨LG, ?_, hMX, pm.tr t5, fun j hj => hrow j (by omega) (by omega) (by omega), ?_, ?_⟩
  · by_cases he : s.2 = true
    · rw [if_pos he]
      exact hMid _ pk1 (HS_spl hS2) (HP_rem hMP (fun p hp => hgf p (by omega)))
    · rw [if_neg he]
      have hf0 : ∀ p, p < N → p_fate (h_pl s.1) p = 0 := by
        intro p hp
        obtain ⟨j, hj, hjp⟩ := hP.2.2.2.2 p (by omega)
        have hz : zn32 (p_turn (h_pl d) j) = p := by rw [hjp]; exact zn_nI (by omega)
        have := pE (Bool.eq_false_iff.mpr he) j (by omega)
        rw [hz] at this; exact this
      refine hMid _ pk1 hS2 (HP_same hMP (fun p hp => hf0 p (by omega)) ?_ (fun p hp => (hgf p (by omega)).mpr (hf0 p (by omega))))
      rw [pk2.2.2.2.2.2.1, eNum, hN]
      exact pS_of pk2.2.2.2.2.1 pk2.2.2.1 hP.2.2
  · split
    · exact pk1
    · exact pk1
  · have kw1 : p_wat (h_pl s.1) = p_wat (h_pl d) := pk2.2.2.2.2.2.2.1
    have kw2 : p_wf (h_pl s.1) = p_wf (h_pl d) := pk2.2.2.2.2.2.2.2
    have hd1 : p_ok (h_pl s.1) := hMP.1.2
    have R := p_rem_w hd1
    rw [eNum] at R
    refine ⟨fun hw1 hw2 => ?_, fun p hp hw1 hw2 hw3 => ?_⟩
    · have hwm : m_wat (m_clear M) = -6 := by
        rw [t8 (fun p hp => by rw [pw, hw2]; exact fun z => nI_ne6 (by omega) z.symm), pw]; exact hw2
      have hwh : m_wh (m_clear M) = m_wh m := by
        rw [t6]; exact pW.2.2 (fun p hp => by rw [hw2]; exact fun z => nI_ne6 (by omega) z.symm)
      split
      · have := R.2 (fun p hp => by rw [kw1, hw1]; exact fun z => nI_ne1 (by omega) z.symm)
        exact ⟨this.2.trans (kw1.trans hw1), this.1.trans kw2, hwm, hwh⟩
      · exact ⟨kw1.trans hw1, kw2, hwm, hwh⟩
    · have hpN : p < N := by omega
      have hct : z_ct (m_keep M) p = z_ct (p_keep (h_pl s.1)) p := z_ct_c (fun q hq => by unfold m_keep p_keep; exact decide_eq_decide.mpr (hgf q (by omega)))
      have e7 := t7 p hpN (pw.trans hw2)
      by_cases he : s.2 = true
      · rw [if_pos he]
        show (∃ q, q < zn32 (p_num (p_rem (h_pl s.1))) ∧ p_wat (p_rem (h_pl s.1)) = nI q ∧ m_wat (m_clear M) = nI q ∧ p_wf (p_rem (h_pl s.1)) = 0 ∧ m_wh (m_clear M) = m_wh m) ∨ (p_wf (p_rem (h_pl s.1)) = 1 ∧ p_wat (p_rem (h_pl s.1)) = -1 ∧ m_wat (m_clear M) = -6 ∧ m_wh (m_clear M) = h_hour d) ∨ (p_wf (p_rem (h_pl s.1)) = 2 ∧ p_wat (p_rem (h_pl s.1)) = -1 ∧ m_wat (m_clear M) = -6 ∧ m_wh (m_clear M) = m_wh m)
        have R1 := R.1 p hpN (kw1.trans hw1)
        rw [R1.1, R1.2, e7, t6]
        rcases hfates p hpN with f | f | f
        · refine Or.inl ⟨z_ct (p_keep (h_pl s.1)) p, ?_, ?_, ?_, f, pW.2.1 p hpN hw2 (by rw [f]; decide)⟩
          · rw [p_rem_num _ hd1, eNum]
            exact z_ct_lt hpN (decide_eq_true f)
          · rw [if_pos f]
          · rw [if_pos ((hgf p hpN).mpr f), hct]
        · refine Or.inr (Or.inl ⟨f, ?_, ?_, ?_⟩)
          · rw [f, if_neg (by decide)]
          · rw [if_neg (fun z => by have := (hgf p hpN).mp z; rw [f] at this; exact absurd this (by decide))]
          · rw [pW.1 p hpN hw2 f, hHr]
        · refine Or.inr (Or.inr ⟨f, ?_, ?_, pW.2.1 p hpN hw2 (by rw [f]; decide)⟩)
          · rw [f, if_neg (by decide)]
          · rw [if_neg (fun z => by have := (hgf p hpN).mp z; rw [f] at this; exact absurd this (by decide))]
      · rw [if_neg he]
        have hf0 : ∀ p, p < N → p_fate (h_pl s.1) p = 0 := by
          intro p hp
          obtain ⟨j, hj, hjp⟩ := hP.2.2.2.2 p (by omega)
          have hz : zn32 (p_turn (h_pl d) j) = p := by rw [hjp]; exact zn_nI (by omega)
          have := pE (Bool.eq_false_iff.mpr he) j (by omega)
          rw [hz] at this; exact this
        have hk : ∀ q, q < p → m_keep M q = true := fun q hq => decide_eq_true ((hgf q (by omega)).mpr (hf0 q (by omega)))
        refine Or.inl ⟨p, by rw [eNum]; exact hpN, kw1.trans hw1, ?_, kw2.trans hw3, ?_⟩
        · rw [e7, if_pos ((hgf p hpN).mpr (hf0 p hpN)), z_ct_all hk]
        · rw [t6]; exact pW.2.1 p hpN hw2 (by rw [hf0 p hpN]; decide)
theorem m_hr1_f (m : MD) : m_row (m_hr1 m) = r_add (m_row m) 8 1 ∧ m_gone (m_hr1 m) = m_gone m ∧ m_seen (m_hr1 m) = m_seen m ∧ m_wat (m_hr1 m) = m_wat m ∧ m_wh (m_hr1 m) = m_wh m ∧ m_kk m (m_hr1 m) := ⟨rfl, rfl, rfl, rfl, rfl, m_kk.row m _⟩
theorem h_hr1_f (d : HD) : h_set (h_hr1 d) = h_set d ∧ h_hour (h_hr1 d) = h_hour d + 1 ∧ h_win (h_hr1 d) = h_win d ∧ h_ws (h_hr1 d) = h_ws d ∧ h_cnt (h_hr1 d) = h_cnt d ∧ h_lo (h_hr1 d) = h_lo d ∧ h_pl (h_hr1 d) = h_pl d := ⟨rfl, rfl, rfl, rfl, rfl, rfl, rfl⟩
theorem HS_hr1 {d : HD} {r : RW} (h : HS d r) : HS (h_hr1 d) r := h
theorem HH_hour {B i : Nat} {d : HD} {m : MD} (hB : B + 3100 < 2 ^ 30) (h : HH B d (m_row m)) (hx : MX m) :
    m_hgood m ∧ HH (B + 1) (h_hstep i d) (m_row (m_hour m)) ∧ MX (m_hour m) ∧ m_kk m (m_hour m) ∧ (∀ j, 454 ≤ j → m_row (m_hour m) j = m_row m j) ∧ (h_hour (h_hstep i d) = h_hour d + 1 ∧ h_cnt (h_hstep i d) = h_cnt d) ∧ WW (h_pl d) (h_pl (h_hstep i d)) m (m_hour m) (h_hour d + 1) := by
  obtain ⟨hA, hS, hZ, hL, hW, hP⟩ := h
  have F := m_hr1_f m
  have G := h_hr1_f d
  have hh := q_s_lt hA.2.1.2 (by omega)
  have hw := q_s_lt hA.2.2.1.2 (by omega)
  have hS1 := HS_hr1 hS
  have ro : ∀ j, j ≠ 8 → r_add (m_row m) 8 1 j = m_row m j := fun j hj => pk_uLn hj
  have r8 : r_add (m_row m) 8 1 8 = (h_hour d + 1).toInt64 := by
    show vp_updL (m_row m) 8 (m_row m 8 + 1) 8 = _
    rw [pk_uLs, hA.2.1.1, hh.2.2.1]
  unfold m_hgood
  have eH : h_hstep i d = (if h_hour (h_hr1 d) - h_ws (h_hr1 d) < h_set (h_hr1 d) 0 then h_take (h_hr1 d) else h_take (h_due (h_begin (h_hr1 d)))) := rfl
  have eM : m_hour m = (if m_row (m_hr1 m) 8 - m_row (m_hr1 m) 10 < m_row (m_hr1 m) 0 then m_doPlans (m_hr1 m) else m_doPlans (m_srow (m_hr1 m) (r_begin (m_row (m_hr1 m))))) := rfl
  rw [eH, eM]
  generalize m_hr1 m = m1 at F ⊢
  generalize h_hr1 d = d1 at G hS1 ⊢
  obtain ⟨f1, f2, f3, f4, f5, f6⟩ := F
  obtain ⟨g1, g2, g3, g4, g5, g6, g7⟩ := G
  have A1 : HA (B + 1) d1 (m_row m1) := by
    rw [f1]
    refine ⟨fun k hk => by rw [ro k (by omega), g1]; exact hA.1 k hk, by rw [r8, g2]; exact ⟨rfl, hh.2.1⟩, by rw [ro 9 (by decide), g3]; exact ⟨hA.2.2.1.1, zok_mono hA.2.2.1.2 (by omega)⟩, by rw [ro 10 (by decide), g4]; exact ⟨hA.2.2.2.1.1, zok_mono hA.2.2.2.1.2 (by omega)⟩, by rw [ro 11 (by decide), g5]; exact hA.2.2.2.2⟩
  have S1 : HS d1 (m_row m1) := by rw [f1]; exact HS_r hS1 (fun j hj => ro j (by omega))
  have Z1 : HZ (zn32 (h_cnt d1)) (m_row m1) := by
    rw [f1, g5]; intro s k hs hs8 hk
    rw [ro _ (by omega)]; exact hZ s k hs hs8 hk
  have L1 : HL (zn32 (h_cnt d1)) (B + 1 + 10) (h_lo d1) (m_row m1) := by
    rw [f1, g5, g6]; exact HL_mono (HL_r hL (fun j hj => ro j (by omega))) (Nat.le_refl _) (by omega)
  have W1 : HW d1 := by unfold HW; rw [g6, g3]; exact hW
  have P1 : HP (zn32 (h_cnt d1)) (B + 1 + 2000) (h_pl d1) (m_row m1) := by
    rw [f1, g5, g7]; exact HP_mono (HP_r hP (fun j hj => ro j (by omega))) (Nat.le_refl _) (by omega)
  have X1 : MX m1 := by intro p hp; rw [f2, f3]; exact hx p hp
  have R1 : ∀ j, 454 ≤ j → m_row m1 j = m_row m j := fun j hj => by rw [f1]; exact ro j (by omega)
  have hcond : (m_row m1 8 - m_row m1 10 < m_row m1 0) ↔ (h_hour d1 - h_ws d1 < h_set d1 0) := by
    rw [A1.2.1.1, A1.2.2.2.1.1, (A1.1 0 (by decide)).1]
    exact q_late A1.2.1.2 A1.2.2.2.1.2 (by omega)
  by_cases hc : h_hour d1 - h_ws d1 < h_set d1 0
  · have hcm := hcond.mpr hc
    rw [if_pos hc, if_pos hcm]
    have T := HH_take (B := B + 1) (by omega) ⟨A1, S1, Z1, L1, W1, P1⟩ X1
    obtain ⟨u1, u2, u3, u4, u5, u6, u7⟩ := T
    refine ⟨⟨fun _ => u1, fun z => absurd hcm z⟩, u2, u3, f6.tr u4, fun j hj => (u5 j hj).trans (R1 j hj), ⟨u6.2.1.trans g2, u6.2.2.2.2.1.trans g5⟩, ?_⟩
    rw [g7, g2] at u7
    refine ⟨fun h1 h2 => ?_, fun p hp h1 h2 h3 => ?_⟩
    · have := u7.1 h1 (f4.trans h2); rw [f5] at this; exact this
    · have := u7.2 p hp h1 (f4.trans h2) h3; rw [f5] at this; exact this
  · have hcm : ¬ (m_row m1 8 - m_row m1 10 < m_row m1 0) := fun z => hc (hcond.mp z)
    rw [if_neg hc, if_neg hcm]
    have Bg := HH_begin (B := B + 1) (d := d1) (r := m_row m1) (by omega) A1 (by rw [g3]; exact hw.2.1) (by rw [g3, f1, ro 9 (by decide), hA.2.2.1.1]; exact hw.2.2.1) S1 Z1 L1 W1
    obtain ⟨b1, b2, b3, b4, b5, b6, ⟨b7, b8, b9, b10⟩, b11, b12⟩ := Bg
    generalize h_due (h_begin d1) = d2 at b2 b3 b5 b6 b7 b8 b9 b10 ⊢
    have Q := m_srow_f m1 (r_begin (m_row m1))
    have K := m_kk.row m1 (r_begin (m_row m1))
    generalize hm2 : m_srow m1 (r_begin (m_row m1)) = m2 at Q K ⊢
    obtain ⟨q1, q2, q3, q4, q5⟩ := Q
    have T := HH_take (B := B + 1) (d := d2) (m := m2) (by omega) ⟨by rw [q1]; exact b2, by rw [q1]; exact b3, by rw [q1, b9]; exact b4, by rw [q1, b9]; exact b5, b6, by rw [q1, b9, b10]; exact HP_r P1 (fun j hj => by rcases hj with rfl | hj; exact b12; exact b11 j (by omega))⟩ (by intro p hp; rw [q2, q3]; exact X1 p hp)
    obtain ⟨u1, u2, u3, u4, u5, u6, u7⟩ := T
    refine ⟨⟨fun z => absurd z hcm, fun _ => ⟨b1, u1⟩⟩, u2, u3, (f6.tr K).tr u4, fun j hj => by rw [u5 j hj, q1, b11 j (by omega)]; exact R1 j hj, ⟨u6.2.1.trans (b8.trans g2), u6.2.2.2.2.1.trans (b9.trans g5)⟩, ?_⟩
    rw [b10, g7, b8, g2] at u7
    refine ⟨fun h1 h2 => ?_, fun p hp h1 h2 h3 => ?_⟩
    · have := u7.1 h1 (q4.trans (f4.trans h2)); rw [q5, f5] at this; exact this
    · have := u7.2 p hp h1 (q4.trans (f4.trans h2)) h3; rw [q5, f5] at this; exact this
