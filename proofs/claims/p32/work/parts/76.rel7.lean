
/-! THE RELATION: the plans of an hour. -/
def h_kk (a b : HD) : Prop := h_set b = h_set a ∧ h_hour b = h_hour a ∧ h_win b = h_win a ∧ h_ws b = h_ws a ∧ h_cnt b = h_cnt a ∧ h_lo b = h_lo a
theorem h_kk.rf (a : HD) : h_kk a a := ⟨rfl, rfl, rfl, rfl, rfl, rfl⟩
theorem h_kk.tr {a b c : HD} (h : h_kk a b) (k : h_kk b c) : h_kk a c := by
  obtain ⟨h1, h2, h3, h4, h5, h6⟩ := h
  obtain ⟨k1, k2, k3, k4, k5, k6⟩ := k
  exact ⟨k1.trans h1, k2.trans h2, k3.trans h3, k4.trans h4, k5.trans h5, k6.trans h6⟩
def p_kk (a b : PD) : Prop := p_num b = p_num a ∧ p_srv b = p_srv a ∧ p_hr b = p_hr a ∧ p_sz b = p_sz a ∧ p_pri b = p_pri a ∧ p_turn b = p_turn a ∧ p_wat b = p_wat a ∧ p_wf b = p_wf a
theorem p_kk.rf (a : PD) : p_kk a a := ⟨rfl, rfl, rfl, rfl, rfl, rfl, rfl, rfl⟩
theorem p_kk.tr {a b c : PD} (h : p_kk a b) (k : p_kk b c) : p_kk a c := by
  obtain ⟨h1, h2, h3, h4, h5, h6, h7, h8⟩ := h
  obtain ⟨k1, k2, k3, k4, k5, k6, k7, k8⟩ := k
  exact ⟨k1.trans h1, k2.trans h2, k3.trans h3, k4.trans h4, k5.trans h5, k6.trans h6, k7.trans h7, k8.trans h8⟩
theorem HPc_kk {c B : Nat} {P Q : PD} {r : RW} (h : HPc c B P r) (k : p_kk P Q) : HPc c B Q r := by
  obtain ⟨k1, k2, k3, k4, k5, k6, k7, k8⟩ := k
  unfold HPc
  rw [k1]
  refine ⟨h.1, fun p hp j hj => ?_⟩
  have h0 := h.2 p hp j hj
  match j, hj with
  | 0, _ => rw [show p_at Q 0 p = p_at P 0 p from congrFun k2 p]; exact h0
  | 1, _ => rw [show p_at Q 1 p = p_at P 1 p from congrFun k3 p]; exact h0
  | 2, _ => rw [show p_at Q 2 p = p_at P 2 p from congrFun k4 p]; exact h0
  | 3, _ => rw [show p_at Q 3 p = p_at P 3 p from congrFun k5 p]; exact h0
def HD_due (d : HD) (p : Nat) : Prop := ¬ h_hour d - p_hr (h_pl d) p < 0
def PW (N : Nat) (f : Nat → Int32) (m0 m : MD) : Prop :=
  (∀ p, p < N → m_wat m0 = nI p → f p = 1 → m_wh m = (m_row m0 8).toInt32) ∧ (∀ p, p < N → m_wat m0 = nI p → ¬ f p = 1 → m_wh m = m_wh m0) ∧ ((∀ p, p < N → ¬ m_wat m0 = nI p) → m_wh m = m_wh m0)
def PF (N t : Nat) (T : Nat → Nat) (due : Nat → Prop) (f g s : Nat → Int32) : Prop := ∀ j, j < N → (t ≤ j → f (T j) = 0 ∧ g (T j) = 0 ∧ s (T j) = 0) ∧ (j < t → (due (T j) → ¬ s (T j) = 0) ∧ (g (T j) = 0 ↔ f (T j) = 0))
def PT (c t : Nat) (d0 : HD) (m0 : MD) (D : HD) (e : Bool) (m : MD) : Prop :=
  HS D (m_row m) ∧ (h_kk d0 D ∧ p_kk (h_pl d0) (h_pl D)) ∧ ((∀ j, j < 14 ∨ 134 ≤ j → m_row m j = m_row m0 j) ∧ (∀ s k, c ≤ s → s < 8 → k < 15 → m_row m (14 + 15 * s + k) = m_row m0 (14 + 15 * s + k))) ∧
  PF (zn32 (p_num (h_pl d0))) t (fun j => zn32 (p_turn (h_pl d0) j)) (HD_due d0) (p_fate (h_pl D)) (m_gone m) (m_seen m) ∧
  (∀ p, zn32 (p_num (h_pl d0)) ≤ p → m_gone m p = m_gone m0 p ∧ m_seen m p = m_seen m0 p) ∧ (e = false → ∀ j, j < zn32 (p_num (h_pl d0)) → p_fate (h_pl D) (zn32 (p_turn (h_pl d0) j)) = 0) ∧
  m_kk m0 m ∧ m_wat m = m_wat m0 ∧ PW (zn32 (p_num (h_pl d0))) (p_fate (h_pl D)) m0 m
/-- the turn t is taken: f0, g0, s0 are what is noted of its plan -/
theorem PF_step {N t : Nat} {T : Nat → Nat} {due : Nat → Prop} {f g s : Nat → Int32} {f0 g0 s0 : Int32} (h : PF N t T due f g s) (ht : t < N) (hinj : ∀ i j, i < N → j < N → T i = T j → i = j) (hd : due (T t) → ¬ s0 = 0) (hg : g0 = 0 ↔ f0 = 0) : PF N (t + 1) T due (upd f (T t) f0) (upd g (T t) g0) (upd s (T t) s0) := by
  intro j hj
  by_cases e : j = t
  · subst e
    refine ⟨fun z => by omega, fun _ => ?_⟩
    rw [pk_us, pk_us, pk_us]; exact ⟨hd, hg⟩
  · have hne : T j ≠ T t := fun z => e (hinj j t hj ht z)
    rw [pk_un hne, pk_un hne, pk_un hne]
    exact ⟨fun z => (h j hj).1 (by omega), fun z => (h j hj).2 (by omega)⟩
theorem PF_wait {N t : Nat} {T : Nat → Nat} {due : Nat → Prop} {f g s : Nat → Int32} (h : PF N t T due f g s) (ht : t < N) (hinj : ∀ i j, i < N → j < N → T i = T j → i = j) (hd : ¬ due (T t)) : PF N (t + 1) T due (upd f (T t) 0) g s := by
  intro j hj
  by_cases e : j = t
  · subst e
    refine ⟨fun z => by omega, fun _ => ?_⟩
    have h0 := (h j hj).1 (Nat.le_refl _)
    rw [pk_us]; exact ⟨fun z => absurd z hd, ⟨fun _ => rfl, fun _ => h0.2.1⟩⟩
  · have hne : T j ≠ T t := fun z => e (hinj j t hj ht z)
    rw [pk_un hne]
    exact ⟨fun z => (h j hj).1 (by omega), fun z => (h j hj).2 (by omega)⟩
theorem PW_upd {N p : Nat} {f : Nat → Int32} {m0 m m2 : MD} {f0 : Int32} (h : PW N f m0 m) (hp : p < N) (hN : N < 2 ^ 31) (hf : f p = 0) (h1 : f0 = 1 → m_wat m0 = nI p → m_wh m2 = (m_row m0 8).toInt32) (h2 : ¬ (f0 = 1 ∧ m_wat m0 = nI p) → m_wh m2 = m_wh m) : PW N (upd f p f0) m0 m2 := by
  obtain ⟨a, b, c⟩ := h
  refine ⟨fun q hq hw hfq => ?_, fun q hq hw hfq => ?_, fun hw => ?_⟩
  · by_cases e : q = p
    · subst e; rw [pk_us] at hfq; exact h1 hfq hw
    · rw [pk_un e] at hfq
      rw [h2 (fun z => e ((nI_eq (by omega) (by omega)).mp (hw.symm.trans z.2)))]; exact a q hq hw hfq
  · by_cases e : q = p
    · subst e; rw [pk_us] at hfq
      rw [h2 (fun z => hfq z.1)]; exact b q hq hw (by rw [hf]; decide)
    · rw [pk_un e] at hfq
      rw [h2 (fun z => e ((nI_eq (by omega) (by omega)).mp (hw.symm.trans z.2)))]; exact b q hq hw hfq
  · rw [h2 (fun z => hw p hp z.2)]; exact c hw
theorem h_t1_f (D : HD) (p : Nat) (f : Int32) : h_kk D (h_spl D (p_sfate (h_pl D) (upd (p_fate (h_pl D)) p f))) ∧ p_kk (h_pl D) (h_pl (h_spl D (p_sfate (h_pl D) (upd (p_fate (h_pl D)) p f)))) ∧ p_fate (h_pl (h_spl D (p_sfate (h_pl D) (upd (p_fate (h_pl D)) p f)))) = upd (p_fate (h_pl D)) p f := ⟨⟨rfl, rfl, rfl, rfl, rfl, rfl⟩, ⟨rfl, rfl, rfl, rfl, rfl, rfl, rfl, rfl⟩, rfl⟩
theorem HS_spl {d : HD} {v : PD} {r : RW} (h : HS d r) : HS (h_spl d v) r := h
theorem h_dorel_w (d : HD) (s z : Int32) : h_kk d (h_dorel d s z) ∧ h_pl (h_dorel d s z) = h_pl d := by
  unfold h_dorel
  have k := h_book_w (h_srel d (upd (h_rel d) (zn32 s) (h_rel d (zn32 s) + 1))) s 4 z.toInt64
  exact ⟨⟨k.1, k.2.1, k.2.2.1, k.2.2.2.1, k.2.2.2.2.1, k.2.2.2.2.2.1⟩, k.2.2.2.2.2.2.1⟩
theorem h_sdrp_w (d : HD) (v : Nat → Int32) : h_kk d (h_sdrp d v) ∧ h_pl (h_sdrp d v) = h_pl d := ⟨⟨rfl, rfl, rfl, rfl, rfl, rfl⟩, rfl⟩
theorem m_see_f (m : MD) (p : Nat) (v : Int32) : m_row (m_go (m_see m p) p v) = m_row m ∧ m_gone (m_go (m_see m p) p v) = upd (m_gone m) p v ∧ m_seen (m_go (m_see m p) p v) = upd (m_seen m) p 1 ∧ m_wat (m_go (m_see m p) p v) = m_wat m ∧ m_wh (m_go (m_see m p) p v) = m_wh m ∧ m_kk m (m_go (m_see m p) p v) := ⟨rfl, rfl, rfl, rfl, rfl, rfl, rfl, rfl, rfl, rfl, rfl, rfl, rfl⟩
theorem m_wh1_f (m : MD) (p : Nat) : m_row (m_wh1 m p) = m_row m ∧ m_gone (m_wh1 m p) = m_gone m ∧ m_seen (m_wh1 m p) = m_seen m ∧ m_wat (m_wh1 m p) = m_wat m ∧ m_wh (m_wh1 m p) = (if nI p = m_wat m then (m_row m 8).toInt32 else m_wh m) ∧ m_kk m (m_wh1 m p) := by
  unfold m_wh1; split <;> exact ⟨rfl, rfl, rfl, rfl, rfl, rfl, rfl, rfl, rfl, rfl, rfl, rfl, rfl⟩
theorem r_spend_x {r : RW} {s j : Nat} {z : Int64} (h : j < 14 + 15 * s ∨ 14 + 15 * s + 15 ≤ j) : r_spend r s z j = r j := by
  unfold r_spend; rw [r_change_x (by omega), r_add_o (by omega), r_add_o (by omega)]
theorem pS_inj {d : PD} {t : Nat → Int32} {n : Nat} (hn : n < 2 ^ 31) (h : pS d t n) : ∀ i j, i < n → j < n → zn32 (t i) = zn32 (t j) → i = j := by
  intro i j hi hj e
  have h1 := (h.1 i hi).2
  have h2 := (h.1 j hj).2
  rcases Nat.lt_trichotomy i j with q | q | q
  · exact absurd e (pb_ne (by omega) (h.2.1 i j q hj))
  · exact q
  · exact absurd e.symm (pb_ne (by omega) (h.2.1 j i q hi))
/-- what holds of house and reference at the beginning of the plans of an hour -/
def PB (c B : Nat) (d0 : HD) (m0 : MD) : Prop := HPc c B (h_pl d0) (m_row m0) ∧ pS (h_pl d0) (p_turn (h_pl d0)) (zn32 (p_num (h_pl d0))) ∧ (m_row m0 8 = (h_hour d0).toInt64 ∧ zok (h_hour d0) B) ∧ (m_row m0 5 = (h_set d0 5).toInt64 ∧ zok (h_set d0 5) 300) ∧ c ≤ 8 ∧ B < 2 ^ 30
theorem q_late {a b s : Int32} {B : Nat} (ha : zok a B) (hb : zok b B) (hB : B < 2 ^ 30) : a.toInt64 - b.toInt64 < s.toInt64 ↔ a - b < s := by
  rw [← q_sub ha hb hB hB, q_lt]
theorem q_due {a b : Int32} {B : Nat} (ha : zok a B) (hb : zok b B) (hB : B < 2 ^ 30) : b.toInt64 ≤ a.toInt64 ↔ ¬ a - b < 0 := by
  have h1 := ha.2; have h2 := hb.2
  rw [q_le, Int32.lt_iff_toInt_lt, Int32.le_iff_toInt_le, ha.1, hb.1, pk_sub_toInt (by omega) (by omega), nI_toInt (by omega), nI_toInt (by omega)]
  rw [show (0 : Int32).toInt = 0 by decide]; omega
theorem PT_step {c B t : Nat} {d0 : HD} {m0 : MD} {D : HD} {e : Bool} {m : MD} (H : PB c B d0 m0) (h : PT c t d0 m0 D e m) (ht : t < zn32 (p_num (h_pl d0))) :
    (¬ HD_due d0 (zn32 (p_turn (h_pl d0) t)) → PT c (t + 1) d0 m0 (h_tstep t (D, e)).1 (h_tstep t (D, e)).2 m) ∧
    (HD_due d0 (zn32 (p_turn (h_pl d0) t)) → m_nextP m = nI (zn32 (p_turn (h_pl d0) t)) ∧ PT c (t + 1) d0 m0 (h_tstep t (D, e)).1 (h_tstep t (D, e)).2 (m_dpstep m (zn32 (p_turn (h_pl d0) t))) ∧ zinl (m_row m (334 + 4 * zn32 (p_turn (h_pl d0) t) + 0)) 8) := by
  obtain ⟨hP, hSo, h8, h5, hc8, hB⟩ := H
  obtain ⟨hS, ⟨hk, pk⟩, ⟨hr1, hr2⟩, hF, hgs, hE, hmk, hwat, hW⟩ := h
  have h30 := hP.1.2.2
  have hinj := pS_inj (by omega) hSo
  have hPm : HPc c B (h_pl d0) (m_row m) := HPc_r hP (fun j hj => hr1 j (by omega))
  obtain ⟨p, hpd⟩ : ∃ p, p = zn32 (p_turn (h_pl d0) t) := ⟨_, rfl⟩
  have hpt := hSo.1 t ht
  have hpN : p < zn32 (p_num (h_pl d0)) := by rw [hpd]; exact hpt.2
  have eT : zn32 (p_turn (h_pl D) t) = p := by rw [pk.2.2.2.2.2.1, hpd]
  have hF0 : p_fate (h_pl D) p = 0 ∧ m_gone m p = 0 ∧ m_seen m p = 0 := by rw [hpd]; exact (hF t ht).1 (Nat.le_refl _)
  have hHr := hP.2 p hpN 1 (by decide)
  have hSr := hP.2 p hpN 0 (by decide)
  have hSz := hP.2 p hpN 2 (by decide)
  have eHr : m_row m (334 + 4 * p + 1) = (p_hr (h_pl d0) p).toInt64 := (hPm.2 p hpN 1 (by decide)).1
  have kHr : zok (p_hr (h_pl d0) p) B := hHr.2
  have e8 : m_row m 8 = (h_hour d0).toInt64 := (hr1 8 (by omega)).trans h8.1
  have e5 : m_row m 5 = (h_set d0 5).toInt64 := (hr1 5 (by omega)).trans h5.1
  have hsrv : zlt (p_srv (h_pl d0) p) c := hSr.2
  have hdue : ∀ q, q < zn32 (p_num (h_pl d0)) → (m_row m (334 + 4 * q + 1) ≤ m_row m 8 ↔ HD_due d0 q) := by
    intro q hq
    have k1 := hPm.2 q hq 1 (by decide)
    have k2 : m_row m (334 + 4 * q + 1) = (p_hr (h_pl d0) q).toInt64 := k1.1
    have k3 : zok (p_hr (h_pl d0) q) B := k1.2
    rw [k2, e8]; exact q_due h8.2 k3 hB
  have eFate : h_fate D p = (if h_hour d0 - p_hr (h_pl d0) p < 0 then 0 else if h_isf D (p_srv (h_pl d0) p) then (if h_hour d0 - p_hr (h_pl d0) p < h_set d0 5 then 0 else 2) else 1) := by
    unfold h_fate
    rw [hk.2.1, hk.1, pk.2.2.1, pk.2.1]
  have hTs : h_tstep t (D, e) = (if h_fate D p = 1 then h_dorel (h_t1 D p) (p_srv (h_pl (h_t1 D p)) p) (p_sz (h_pl (h_t1 D p)) p) else if h_fate D p = 2 then h_sdrp (h_t1 D p) (upd (h_drp (h_t1 D p)) (zn32 (p_srv (h_pl (h_t1 D p)) p)) (h_drp (h_t1 D p) (zn32 (p_srv (h_pl (h_t1 D p)) p)) + 1)) else h_t1 D p, if e then true else if h_fate D p = 0 then false else true) := by
    rw [← eT]; rfl
  rw [hTs, ← hpd]
  obtain ⟨f, hf⟩ : ∃ f, f = h_fate D p := ⟨_, rfl⟩
  have hT1 : h_t1 D p = h_spl D (p_sfate (h_pl D) (upd (p_fate (h_pl D)) p f)) := by unfold h_t1; rw [← hf]
  have X := h_t1_f D p f
  have hS1 : HS (h_t1 D p) (m_row m) := by rw [hT1]; exact HS_spl hS
  rw [← hT1] at X
  rw [← hf] at eFate ⊢
  generalize h_t1 D p = D1 at X hS1 ⊢
  obtain ⟨x1, x2, x3⟩ := X
  have hk1 := hk.tr x1
  have pk1 := pk.tr x2
  have eS1 : p_srv (h_pl D1) p = nI (zn32 (p_srv (h_pl d0) p)) := by rw [pk1.2.1]; exact hsrv.1
  have eZ1 : p_sz (h_pl D1) p = p_sz (h_pl d0) p := by rw [pk1.2.2.2.1]
  obtain ⟨s, hs⟩ : ∃ s, s = zn32 (p_srv (h_pl d0) p) := ⟨_, rfl⟩
  have hs8 : s < 8 := by have := hsrv.2; omega
  have hsc : s < c := by rw [hs]; exact hsrv.2
  rw [← hs] at eS1
  have eS0 : p_srv (h_pl d0) p = nI s := by rw [hs]; exact hsrv.1
  have eE : ∀ (e2 : Bool), (e2 = false → e = false ∧ f = 0) → (e2 = false → ∀ j, j < zn32 (p_num (h_pl d0)) → upd (p_fate (h_pl D)) p f (zn32 (p_turn (h_pl d0) j)) = 0) := by
    intro e2 h2 hz j hj
    by_cases g : zn32 (p_turn (h_pl d0) j) = p
    · rw [g, pk_us]; exact (h2 hz).2
    · rw [pk_un g]; exact hE (h2 hz).1 j hj
  have eE2 : (if e then true else if f = 0 then false else true) = false → e = false ∧ f = 0 := by
    intro z
    cases e with
    | true => cases z
    | false =>
      by_cases g : f = 0
      · exact ⟨rfl, g⟩
      · rw [if_neg (by decide), if_neg g] at z; cases z
  constructor
  · intro hnd
    have hlt : h_hour d0 - p_hr (h_pl d0) p < 0 := Classical.byContradiction hnd
    rw [if_pos hlt] at eFate
    rw [eFate, if_neg (show ¬ (0 : Int32) = 1 by decide), if_neg (show ¬ (0 : Int32) = 2 by decide)]
    rw [eFate] at x3 eE eE2
    refine ⟨hS1, ⟨hk1, pk1⟩, ⟨hr1, hr2⟩, ?_, hgs, ?_, hmk, hwat, ?_⟩
    · rw [x3, hpd]; exact PF_wait hF ht hinj (by rw [← hpd]; exact hnd)
    · rw [x3]; exact eE _ eE2
    · rw [x3]; exact PW_upd hW hpN (by omega) hF0.1 (fun z => absurd z (by decide)) (fun _ => rfl)
  · intro hd
    have hnlt : ¬ h_hour d0 - p_hr (h_pl d0) p < 0 := hd
    rw [if_neg hnlt] at eFate
    have hmay : m_pmay m p := ⟨hF0.2.2, (hdue p hpN).mpr hd⟩
    have hnext : m_nextP m = nI p := by
      unfold m_nextP
      rw [HPc_n hPm]
      refine (m_np_best hPm hpN hmay _ (Nat.le_refl _) (fun q hq hqm hqp => ?_)).1 hpN
      obtain ⟨j, hj, hjq⟩ := hSo.2.2 q hq
      have hzq : zn32 (p_turn (h_pl d0) j) = q := by rw [hjq]; exact zn_nI (by omega)
      rcases Nat.lt_trichotomy j t with g | g | g
      · have := ((hF j hj).2 g).1 (by show HD_due d0 (zn32 (p_turn (h_pl d0) j)); rw [hzq]; exact (hdue q hq).mp hqm.2)
        rw [show (fun j => zn32 (p_turn (h_pl d0) j)) j = q from hzq] at this
        exact absurd hqm.1 this
      · subst g; exact absurd (hzq.symm.trans hpd.symm) hqp
      · have := hSo.2.1 t j g hj
        rw [← hpd, hzq] at this; exact this
    have hz0 : zinl (m_row m (334 + 4 * p + 0)) 8 := by
      rw [(hPm.2 p hpN 0 (by decide)).1]; exact (q_inl (zlt_mono hsrv hc8) (by decide)).1
    refine ⟨hnext, ?_, hz0⟩
    have eps : m_ps m p = s := by
      unfold m_ps
      rw [(hPm.2 p hpN 0 (by decide)).1, q_i]; exact hs.symm
    have efz : h_isf D (p_srv (h_pl d0) p) = r_frz (m_row m) s := by rw [eS0]; exact HS_isf hS hs8
    rw [efz] at eFate
    have elate : (m_row m 8 - m_row m (334 + 4 * p + 1) < m_row m 5) ↔ (h_hour d0 - p_hr (h_pl d0) p < h_set d0 5) := by
      rw [e8, eHr, e5]; exact q_late h8.2 kHr hB
    unfold m_dpstep
    rw [eps]
    by_cases hfz : r_frz (m_row m) s = true
    · rw [if_pos hfz] at eFate
      rw [if_pos hfz]
      by_cases hl : h_hour d0 - p_hr (h_pl d0) p < h_set d0 5
      · rw [if_pos hl] at eFate
        have em : m_late m p = false := if_pos (elate.mpr hl)
        rw [em, if_neg Bool.false_ne_true, eFate, if_neg (show ¬ (0 : Int32) = 1 by decide), if_neg (show ¬ (0 : Int32) = 2 by decide)]
        rw [eFate] at x3 eE eE2
        have M := m_see_f m p 0
        generalize m_go (m_see m p) p 0 = m2 at M ⊢
        obtain ⟨y1, y2, y3, y4, y5, y6⟩ := M
        refine ⟨by rw [y1]; exact hS1, ⟨hk1, pk1⟩, ⟨by rw [y1]; exact hr1, by rw [y1]; exact hr2⟩, ?_, fun q hq => ?_, ?_, hmk.tr y6, by rw [y4]; exact hwat, ?_⟩
        · rw [x3, y2, y3, hpd]; exact PF_step hF ht hinj (fun _ => by decide) ⟨fun _ => rfl, fun _ => rfl⟩
        · rw [y2, y3, pk_un (by omega), pk_un (by omega)]; exact hgs q hq
        · rw [x3]; exact eE _ eE2
        · rw [x3]; exact PW_upd hW hpN (by omega) hF0.1 (fun z => absurd z (by decide)) (fun _ => y5)
      · rw [if_neg hl] at eFate
        have em : m_late m p = true := if_neg (fun z => hl (elate.mp z))
        rw [if_pos em, eFate, if_neg (show ¬ (2 : Int32) = 1 by decide), if_pos rfl]
        rw [eFate] at x3 eE eE2
        have M := m_see_f m p 1
        generalize m_go (m_see m p) p 1 = m2 at M ⊢
        obtain ⟨y1, y2, y3, y4, y5, y6⟩ := M
        have G := m_srow_f m2 (r_add (m_row m) (14 + 15 * s + 5) 1)
        have K := m_kk.row m2 (r_add (m_row m) (14 + 15 * s + 5) 1)
        generalize m_srow m2 (r_add (m_row m) (14 + 15 * s + 5) 1) = m3 at G K ⊢
        obtain ⟨z1, z2, z3, z4, z5⟩ := G
        have w := h_sdrp_w D1 (upd (h_drp D1) (zn32 (p_srv (h_pl D1) p)) (h_drp D1 (zn32 (p_srv (h_pl D1) p)) + 1))
        have hSd : HS (h_sdrp D1 (upd (h_drp D1) (zn32 (p_srv (h_pl D1) p)) (h_drp D1 (zn32 (p_srv (h_pl D1) p)) + 1))) (m_row m3) := by
          rw [z1, eS1, zn_nI (by omega)]
          exact HS_drp hS1 hs8 (by rw [Int64.toInt32_add, ← (hS1.2.2 s hs8).2.2.2.2.2.1]; rfl)
        generalize h_sdrp D1 (upd (h_drp D1) (zn32 (p_srv (h_pl D1) p)) (h_drp D1 (zn32 (p_srv (h_pl D1) p)) + 1)) = D2 at w hSd ⊢
        refine ⟨hSd, ⟨hk1.tr w.1, by rw [w.2]; exact pk1⟩, ⟨fun j hj => ?_, fun s2 k hcs hs2 hk2 => ?_⟩, ?_, fun q hq => ?_, ?_, (hmk.tr y6).tr K, by rw [z4, y4]; exact hwat, ?_⟩
        · rw [z1, r_add_o (by omega)]; exact hr1 j hj
        · rw [z1, r_add_o (by omega)]; exact hr2 s2 k hcs hs2 hk2
        · rw [w.2, x3, z2, z3, y2, y3, hpd]; exact PF_step hF ht hinj (fun _ => by decide) ⟨fun z => absurd z (by decide), fun z => absurd z (by decide)⟩
        · rw [z2, z3, y2, y3, pk_un (by omega), pk_un (by omega)]; exact hgs q hq
        · rw [w.2, x3]; exact eE _ eE2
        · rw [w.2, x3]; exact PW_upd hW hpN (by omega) hF0.1 (fun z => absurd z (by decide)) (fun _ => z5.trans y5)
    · rw [if_neg hfz] at eFate
      rw [if_neg hfz, eFate, if_pos rfl]
      rw [eFate] at x3 eE eE2
      have M := m_see_f m p 1
      generalize m_go (m_see m p) p 1 = m2 at M ⊢
      obtain ⟨y1, y2, y3, y4, y5, y6⟩ := M
      have N := m_wh1_f m2 p
      generalize m_wh1 m2 p = m4 at N ⊢
      obtain ⟨n1, n2, n3, n4, n5, n6⟩ := N
      have G := m_srow_f m4 (r_spend (m_row m) s (m_row m (334 + 4 * p + 2)))
      have K := m_kk.row m4 (r_spend (m_row m) s (m_row m (334 + 4 * p + 2)))
      generalize m_srow m4 (r_spend (m_row m) s (m_row m (334 + 4 * p + 2))) = m3 at G K ⊢
      obtain ⟨z1, z2, z3, z4, z5⟩ := G
      have w := h_dorel_w D1 (p_srv (h_pl D1) p) (p_sz (h_pl D1) p)
      have hSd : HS (h_dorel D1 (p_srv (h_pl D1) p) (p_sz (h_pl D1) p)) (m_row m3) := by
        rw [z1, eS1, eZ1, (hPm.2 p hpN 2 (by decide)).1]
        exact HS_dorel hS1 hs8
      generalize h_dorel D1 (p_srv (h_pl D1) p) (p_sz (h_pl D1) p) = D2 at w hSd ⊢
      refine ⟨hSd, ⟨hk1.tr w.1, by rw [w.2]; exact pk1⟩, ⟨fun j hj => ?_, fun s2 k hcs hs2 hk2 => ?_⟩, ?_, fun q hq => ?_, ?_, ((hmk.tr y6).tr n6).tr K, by rw [z4, n4, y4]; exact hwat, ?_⟩
      · rw [z1, r_spend_x (by omega)]; exact hr1 j hj
      · rw [z1, r_spend_x (by omega)]; exact hr2 s2 k hcs hs2 hk2
      · rw [w.2, x3, z2, z3, n2, n3, y2, y3, hpd]; exact PF_step hF ht hinj (fun _ => by decide) ⟨fun z => absurd z (by decide), fun z => absurd z (by decide)⟩
      · rw [z2, z3, n2, n3, y2, y3, pk_un (by omega), pk_un (by omega)]; exact hgs q hq
      · rw [w.2, x3]; exact eE _ eE2
      · rw [w.2, x3]
        refine PW_upd hW hpN (by omega) hF0.1 (fun _ hw => ?_) (fun hn => ?_)
        · rw [z5, n5, y4, hwat, if_pos hw.symm, y1, hr1 8 (by omega)]
        · rw [z5, n5, y4, hwat, if_neg (fun z => hn ⟨rfl, z.symm⟩), y5]
theorem PT_loop {c B : Nat} {d0 : HD} {m0 : MD} (H : PB c B d0 m0) : ∀ (n t k : Nat) (m : MD), t + n = zn32 (p_num (h_pl d0)) → n ≤ k → PT c t d0 m0 (h_tloop d0 t).1 (h_tloop d0 t).2 m → PT c (t + n) d0 m0 (h_tloop d0 (t + n)).1 (h_tloop d0 (t + n)).2 (m_dploop k m) ∧ m_dgood k m
  | 0, t, k, m, ht, hk, h => by
    obtain ⟨hP, hSo, h8, h5, hc8, hB⟩ := H
    obtain ⟨hS, ⟨hkk, pk⟩, ⟨hr1, hr2⟩, hF, hgs, hE, hmk, hwat, hW⟩ := id h
    have h30 := hP.1.2.2
    have hPm : HPc c B (h_pl d0) (m_row m) := HPc_r hP (fun j hj => hr1 j (by omega))
    have hok : zokl (m_row m 13) 30 := by rw [hPm.1.1]; exact (q_okl hPm.1.2 (by decide)).1
    have hnone : m_nextP m = -6 := by
      unfold m_nextP
      rw [HPc_n hPm]
      refine m_np_none (fun q hq hqm => ?_)
      obtain ⟨j, hj, hjq⟩ := hSo.2.2 q hq
      have hzq : zn32 (p_turn (h_pl d0) j) = q := by rw [hjq]; exact zn_nI (by omega)
      have k1 := hPm.2 q hq 1 (by decide)
      have k2 : m_row m (334 + 4 * q + 1) = (p_hr (h_pl d0) q).toInt64 := k1.1
      have k3 : zok (p_hr (h_pl d0) q) B := k1.2
      have hd : HD_due d0 q := by
        have := hqm.2
        rw [k2, (hr1 8 (by omega)).trans h8.1] at this
        exact (q_due h8.2 k3 hB).mp this
      have := ((hF j hj).2 (by omega)).1 (by show HD_due d0 (zn32 (p_turn (h_pl d0) j)); rw [hzq]; exact hd)
      rw [show (fun j => zn32 (p_turn (h_pl d0) j)) j = q from hzq] at this
      exact this hqm.1
    have e : m_dploop k m = m := by
      cases k with
      | zero => rfl
      | succ k => exact if_pos hnone
    rw [e]
    refine ⟨h, ?_⟩
    cases k with
    | zero => exact ⟨hok, hnone⟩
    | succ k => exact ⟨hok, fun z => absurd hnone z⟩
  | n + 1, t, k, m, ht, hk, h => by
    have St := PT_step H h (by omega)
    have e1 : h_tloop d0 (t + 1) = h_tstep t ((h_tloop d0 t).1, (h_tloop d0 t).2) := rfl
    rw [show t + (n + 1) = t + 1 + n by omega]
    by_cases hd : HD_due d0 (zn32 (p_turn (h_pl d0) t))
    · obtain ⟨k, rfl⟩ : ∃ k2, k = k2 + 1 := ⟨k - 1, by omega⟩
      obtain ⟨s1, s2, s3⟩ := St.2 hd
      have h30 := H.1.1.2.2
      have hpt := (H.2.1.1 t (by omega)).2
      have ih := PT_loop H n (t + 1) k _ (by omega) (by omega) (by rw [e1]; exact s2)
      have hne : ¬ m_nextP m = -6 := by rw [s1]; exact nI_ne6 (by omega)
      have hz : zn32 (m_nextP m) = zn32 (p_turn (h_pl d0) t) := by rw [s1]; exact zn_nI (by omega)
      have e : m_dploop (k + 1) m = m_dploop k (m_dpstep m (zn32 (p_turn (h_pl d0) t))) := by
        rw [show m_dploop (k + 1) m = m_dploop k (m_dpstep m (zn32 (m_nextP m))) from if_neg hne, hz]
      rw [e]
      have hPm : HPc c B (h_pl d0) (m_row m) := HPc_r H.1 (fun j hj => h.2.2.1.1 j (by omega))
      refine ⟨ih.1, by rw [hPm.1.1]; exact (q_okl hPm.1.2 (by decide)).1, fun _ => ?_⟩
      rw [hz]; exact ⟨s3, ih.2⟩
    · exact PT_loop H n (t + 1) k m (by omega) (by omega) (by rw [e1]; exact St.1 hd)
