
/-! THE STATE OVER A ROW; forecasts. -/
def QS (B : Nat) (r : RW) (e : ED) : Prop := (∃ m, RR B e m ∧ ∀ j, j < 454 → m_row m j = r j) ∧ a_len (e_pad e) = 0 ∧ e_sav e 0 = 0
theorem QS.ok {B : Nat} {r : RW} {e : ED} (h : QS B r e) : e_ok e := h.1.choose_spec.1.1
theorem QS.hh {B : Nat} {r : RW} {e : ED} (h : QS B r e) : HH B (e_now e) r := by
  obtain ⟨⟨m, h1, h2⟩, -⟩ := h
  exact HH_r h1.2.1.1 (fun j hj => (h2 j hj).symm)
theorem QS.mono {B B2 : Nat} {r : RW} {e : ED} (h : QS B r e) (hB : B ≤ B2) : QS B2 r e := by
  obtain ⟨⟨m, h1, h2⟩, h3⟩ := h
  exact ⟨⟨m, RR_mono h1 hB, h2⟩, h3⟩
theorem QS.kt {B : Nat} {r : RW} {e e2 : ED} (h : QS B r e) (hok : e_ok e2) (k : e_kt e e2) : QS B r e2 := by
  obtain ⟨⟨m, h1, h2⟩, h3⟩ := h
  exact ⟨⟨m, RR_kt h1 hok k, h2⟩, by rw [k.2.2.2.2.1]; exact h3.1, by rw [k.2.2.2.1]; exact h3.2⟩
theorem QS.all {B B2 : Nat} {r : RW} {e e2 : ED} (h : QS B r e) (h2 : QS B2 r e2) : allF e2 = allF e := by
  obtain ⟨o1, o2, o3, o4, o5, -⟩ := OBS h.hh h2.hh (h2.2.1.trans h.2.1.symm)
  have c3 : e_count e2 3 = e_count e 3 := congrFun o5 3
  have c5 : e_count e2 5 = e_count e 5 := congrFun o5 5
  have c6 : e_count e2 6 = e_count e 6 := congrFun o5 6
  unfold allF al_3 al_2 al_s al_1
  rw [o1, o2, o3, o4, o5, c3, c5, c6]
theorem QS.sp {B c F : Nat} {r : RW} {e : ED} {E : Int32 × ED} (hB : B + 4100 < 2 ^ 30) (hF : F + 80000 < 1000000000) (h : QS B r e) (iv : IV c F r) (ac : AC e E) : SP B c F e E := by
  obtain ⟨⟨m, h1, h2⟩, -⟩ := h
  have iv2 : IV c F (m_row m) := IV_r iv h2
  rcases ac with ⟨b, rfl⟩ | ⟨s, b, rfl⟩ | ⟨s, v, rfl⟩ | ⟨s, i, w, rfl⟩ | ⟨s, z, x, rfl⟩ | ⟨a, b, i, w, rfl⟩ | ⟨l, rfl⟩ | ⟨s, t, z, y, rfl⟩ | ⟨p, rfl⟩ | ⟨k, rfl⟩
  · exact SP_service h1 iv2 b
  · exact SP_budget h1 iv2 s b
  · exact SP_set h1 iv2 s v
  · exact SP_outage hF h1 iv2 s i w
  · exact SP_release hF h1 iv2 s z x
  · exact SP_lend (by omega) hF h1 iv2 a b i w
  · exact SP_repay hF h1 iv2 l
  · exact SP_plan (by omega) hF h1 iv2 s t z y
  · exact SP_drop h1 iv2 p
  · exact SP_hours hB hF h1 iv2 k
theorem QS.neg {B c F : Nat} {r : RW} {e : ED} {E : Int32 × ED} (h : QS B r e) (sp : SP B c F e E) (hE : E.1 < 0) : QS (B + 1000) r E.2 := by
  obtain ⟨ho, m2, c2, -, h2, -⟩ := sp
  have hn : e_now E.2 = e_now e := by
    rcases ho with ⟨g, -⟩ | ⟨-, g, -⟩
    · exact absurd hE g
    · exact g
  obtain ⟨m3, r1, r2⟩ := RR_rep h2 (r := r) (by rw [hn]; exact HH_mono h.hh (by omega))
  exact ⟨⟨m3, r1, r2⟩, by rw [OP_pad ho]; exact h.2.1, by rw [OP_sav ho]; exact h.2.2⟩
theorem QS.und {B c F : Nat} {r : RW} {e : ED} {E : Int32 × ED} (h : QS B r e) (sp : SP B c F e E) (hE : ¬ E.1 < 0) : ¬ (e_undo E.2).1 < 0 ∧ QS (B + 1000) r (e_undo E.2).2 := by
  obtain ⟨⟨m, h1, h2⟩, h3⟩ := h
  obtain ⟨ho, m2, c2, -, h4, -⟩ := sp
  obtain ⟨u1, m4, u2, u3⟩ := UND h1 (by omega) ho hE h4
  exact ⟨u1, ⟨m4, u2, fun j hj => (u3 j hj).trans (h2 j hj)⟩, by rw [e_undo_pad, OP_pad ho]; exact h3.1, by rw [e_undo_sav, OP_sav ho]; exact h3.2⟩
theorem QS.new {B c F : Nat} {r : RW} {e : ED} {E : Int32 × ED} (h : QS B r e) (sp : SP B c F e E) : ∃ r2 c2, c ≤ c2 ∧ QS (B + 1000) r2 E.2 ∧ IV c2 (F + 80000) r2 := by
  obtain ⟨ho, m2, c2, hc, h4, h5⟩ := sp
  exact ⟨m_row m2, c2, hc, ⟨⟨m2, h4, fun _ _ => rfl⟩, by rw [OP_pad ho]; exact h.2.1, by rw [OP_sav ho]; exact h.2.2⟩, h5⟩
theorem SP.ok {B c F : Nat} {e : ED} {E : Int32 × ED} (sp : SP B c F e E) : e_ok E.2 := by
  obtain ⟨-, m2, c2, -, h4, -⟩ := sp
  exact h4.1
/-! what if changes nothing -/
theorem kt_leftIn (e : ED) (s k : Int32) : e_kt e (e_leftIn e s k).2 := by
  unfold e_leftIn; repeat' split
  all_goals exact ⟨rfl, rfl, rfl, rfl, rfl, rfl⟩
theorem kt_hl (s : Int32) (b : Bool) : ∀ (k i : Nat) (e : ED), e_kt e (e_hl s b k i e).2
  | 0, i, e => e_kt.rf e
  | k + 1, i, e => by
    rw [e_hl]; split
    · exact e_kt.stri e _
    · exact (e_kt.stri e _).tr (kt_hl s b k (i + 1) (e_tpass e 1))
theorem kt_fin (e : ED) (s : Int32) (b : Bool) : e_kt e (e_fin_ e s b).2 := by
  unfold e_fin_ e_hu
  split
  · split
    · exact e_kt.rf e
    · exact (e_kt.stri e _).tr (kt_hl s b 1000 1 (e_try e))
  · exact e_kt.rf e
theorem kt_dl : ∀ (k : Nat) (e : ED), e_kt e (e_dl k e).2
  | 0, e => e_kt.rf e
  | k + 1, e => by
    rw [e_dl]; split
    · exact e_kt.stri e _
    · split
      · exact e_kt.stri e _
      · exact (e_kt.stri e _).tr (kt_dl k (e_tpass e 1))
theorem kt_doneAt (e : ED) (p : Int32) : e_kt e (e_doneAt e p).2 := by
  unfold e_doneAt; split
  · exact (e_kt.stri e _).tr ((e_kt.stri (e_try e) _).tr (kt_dl 1000 (e_twat (e_try e) p)))
  · exact e_kt.rf e
theorem QS.leftIn {B : Nat} {r : RW} {e : ED} (h : QS B r e) (s k : Int32) : QS B r (e_leftIn e s k).2 := h.kt (e_leftIn_ok h.ok) (kt_leftIn e s k)
theorem QS.fin {B : Nat} {r : RW} {e : ED} (h : QS B r e) (s : Int32) (b : Bool) : QS B r (e_fin_ e s b).2 := h.kt (e_hu_ok h.ok) (kt_fin e s b)
theorem QS.done {B : Nat} {r : RW} {e : ED} (h : QS B r e) (p : Int32) : QS B r (e_doneAt e p).2 := h.kt (e_doneAt_ok h.ok) (kt_doneAt e p)
/-! hours to come, over the row alone -/
def Mr (r : RW) : MD := (r, 0, fun _ => 0, 0, fun _ => 0, 0, -6, 0, fun _ => 0, fun _ => 0, 0, fun _ => 0, 0)
def Rr (r : RW) (n : Nat) : RW := m_row (m_hrs (Mr r) n)
theorem Mr_x (r : RW) : MX (Mr r) := fun _ _ => ⟨rfl, rfl⟩
theorem Rr_0 (r : RW) : Rr r 0 = r := rfl
theorem Rr_iv {c F : Nat} {r : RW} (iv : IV c F r) (n : Nat) (hF : F + 80 * n < 1000000000) : IV c (F + 80 * n) (Rr r n) ∧ (Rr r n 8).toInt = (r 8).toInt + n := by
  have k := IV_hrs (m := Mr r) iv (Or.inl rfl) n hF
  exact ⟨k.1, k.2.1⟩
/-- two runs of hours over one house -/
theorem TWO {B : Nat} {d : HD} {M M2 : MD} (h : HH B d (m_row M)) (h2 : HH B d (m_row M2)) (x : MX M) (x2 : MX M2) {n a : Nat} (hB : B + n + 3100 < 2 ^ 30) (ha : a < 8) : r_left (m_row (m_hrs M n)) a = r_left (m_row (m_hrs M2 n)) a ∧ r_frz (m_row (m_hrs M n)) a = r_frz (m_row (m_hrs M2 n)) a := by
  have k := (HH_hrs n hB h x).1
  have k2 := (HH_hrs n hB h2 x2).1
  exact ⟨(HS_mo k.2.1 ha).symm.trans (HS_mo k2.2.1 ha), (HS_isf k.2.1 ha).symm.trans (HS_isf k2.2.1 ha)⟩
theorem zin_k {k : Nat} (h1 : 1 ≤ k) (h2 : k ≤ 1000) : z_in (nI k) 1 1000 = true ∧ z_inl (nI k).toInt64 1 1000 = true := by
  have e : z_in (nI k) 1 1000 = true := by
    unfold z_in
    rw [if_neg (show ¬ nI k < 1 from nI_nlt (b := 1) h1 (by omega)), if_pos (show nI k ≤ 1000 from (nI_leI (b := 1000) (by omega) (by decide)).mpr h2)]
  exact ⟨e, (show z_inl (nI k).toInt64 1 1000 = z_in (nI k) 1 1000 from z_in_l (nI k) 1 1000).trans e⟩
theorem e_hours_now {e : ED} {k : Nat} (h1 : 1 ≤ k) (h2 : k ≤ 1000) : e_now (e_hours e (nI k)).2 = h_hrs (e_now e) k ∧ (e_hours e (nI k)).1 = h_hour (h_hrs (e_now e) k) := by
  have z := (zin_k h1 h2).1
  have zk : zn32 (nI k) = k := zn_nI (by omega)
  have f := e_fin_f (e_hrsi (e_prep e) (nI k))
  have e1 : e_hours e (nI k) = e_fin (e_hrsi (e_prep e) (nI k)) := rfl
  rw [e1, f.2.1, f.1]
  have p := (e_prep_f e).1
  constructor
  · show h_pass (e_now (e_prep e)) (nI k) = _
    unfold h_pass; rw [if_pos z, zk, p]
  · show h_passr (e_now (e_prep e)) (nI k) = _
    unfold h_passr; rw [if_pos z, zk, p]
/-- hours that pass: what is told then -/
theorem QS.hrs {B k : Nat} {r : RW} {e : ED} {M : MD} (hB : B + 4100 < 2 ^ 30) (h : QS B r e) (h1 : 1 ≤ k) (h2 : k ≤ 1000) (hx : MX M) (hr : ∀ j, j < 454 → m_row M j = r j) : HH (B + k) (e_now (e_hours e (nI k)).2) (m_row (m_hrs M k)) ∧ (e_hours e (nI k)).1 = (m_row (m_hrs M k) 8).toInt32 := by
  have n := e_hours_now (e := e) h1 h2
  have K := (HH_hrs k (by omega) (HH_r h.hh hr) hx).1
  rw [n.1, n.2]
  exact ⟨K, by rw [K.1.2.1.1, q_i]⟩
theorem frz_t {r : RW} {a F : Nat} (h : IVs F (gA r a)) : (r (14 + 15 * a + 3)).toInt32 = (if r_frz r a then 1 else 0) := by
  have f := r_frz_g h.2.2.1
  rcases h.2.2.1 with y | y
  · rw [f.2.mpr y, if_neg Bool.false_ne_true, show r (14 + 15 * a + 3) = 0 from t_eq (y.trans (by decide))]; rfl
  · rw [f.1.mpr y, if_pos rfl, show r (14 + 15 * a + 3) = 1 from t_eq (y.trans (by decide))]; rfl
theorem FT_hrs {B c F k : Nat} {r : RW} {e : ED} (hB : B + 4100 < 2 ^ 30) (hF : F + 80000 < 1000000000) (h : QS B r e) (iv : IV c F r) (h1 : 1 ≤ k) (h2 : k ≤ 1000) : ¬ (e_hours e (nI k)).1 < 0 ∧ ∀ a, a < c → e_account (e_hours e (nI k)).2 (nI a) 8 = r_left (Rr r k) a ∧ e_ofService (e_hours e (nI k)).2 (nI a) 1 = (if r_frz (Rr r k) a then 1 else 0) := by
  obtain ⟨q1, q2⟩ := h.hrs (M := Mr r) hB h1 h2 (Mr_x r) (fun _ _ => rfl)
  obtain ⟨v1, v2⟩ := Rr_iv iv k (by omega)
  have m := iv.2.2.2.2.2
  obtain ⟨n, n1, n2, n3⟩ := t_i32 (v := Rr r k 8) ⟨by have := m.2.1; omega, by have := m.2.2.1; omega⟩
  have h8 := iv.1
  refine ⟨?_, fun a ha => ⟨sn_left (r := Rr r k) q1 v1 ha, ?_⟩⟩
  · rw [q2, show (m_row (m_hrs (Mr r) k) 8).toInt32 = nI n from n3]
    exact nI_pos (by have := m.2.2.1; omega)
  · rw [(sn_srv (r := Rr r k) q1 v1 ha).1]
    exact frz_t (v1.2.2.1.1 a (by omega))
theorem FT_left {B c F k a : Nat} {r : RW} {e : ED} (hB : B + 4100 < 2 ^ 30) (h : QS B r e) (iv : IV c F r) (ha : a < c) (h1 : 1 ≤ k) (h2 : k ≤ 1000) : (e_leftIn e (nI a) (nI k)).1 = r_left (Rr r k) a := by
  have h8 := iv.1
  have hh := h.hh
  obtain ⟨⟨m, r1, r2⟩, -⟩ := h
  rw [((S_leftIn hB r1 (nI a) (nI k)).1).1]
  have his : r_isS (m_row m) (nI a) = true := sn_has r1.2.1.1 (IV_r iv r2) ha
  unfold m_leftIn
  rw [if_pos his, if_pos (zin_k h1 h2).2]
  have t3 := (RN_try r1).2.2
  have e1 : (m_pass (m_try m) (nI k)).2 = m_hrs (m_try m) (zn32 (nI k)) := rfl
  show r_left (m_row (m_pass (m_try m) (nI k)).2) (zn32 (nI a)) = _
  rw [e1, zn_nI (by omega), zn_nI (by omega)]
  exact (TWO (M := m_try m) (M2 := Mr r) (MT_try r1.2.1).2.1 hh t3.2.2.1 (Mr_x r) (by omega) (by omega)).1
theorem htl_spec {a : Nat} {b : Bool} : ∀ (k i : Nat) (M : MD), (∃ j, j ≤ k ∧ m_htl a b k i M = (i + j, m_hrs M j) ∧ r_frz (m_row (m_hrs M j)) a = b ∧ ∀ t, t < j → ¬ r_frz (m_row (m_hrs M t)) a = b) ∨ (¬ r_frz (m_row (m_htl a b k i M).2) a = b ∧ ¬ r_frz (m_row M) a = b)
  | 0, i, M => by
    by_cases g : r_frz (m_row M) a = b
    · exact Or.inl ⟨0, Nat.le_refl _, rfl, g, fun t ht => absurd ht (Nat.not_lt_zero _)⟩
    · exact Or.inr ⟨g, g⟩
  | k + 1, i, M => by
    by_cases g : r_frz (m_row M) a = b
    · have e : m_htl a b (k + 1) i M = (i, M) := if_pos (by rw [g])
      exact Or.inl ⟨0, by omega, by rw [e]; rfl, g, fun t ht => absurd ht (Nat.not_lt_zero _)⟩
    · have e : m_htl a b (k + 1) i M = m_htl a b k (i + 1) (m_hour M) := if_neg (fun z => g (zB_inj.mp z))
      rw [e]
      rcases htl_spec k (i + 1) (m_hour M) with ⟨j, j1, j2, j3, j4⟩ | ⟨g2, g3⟩
      · rw [m_hrs_s M j] at j2 j3
        refine Or.inl ⟨j + 1, by omega, by rw [j2, show i + 1 + j = i + (j + 1) by omega], j3, fun t ht => ?_⟩
        cases t with
        | zero => exact g
        | succ t => rw [← m_hrs_s M t]; exact j4 t (by omega)
      · exact Or.inr ⟨g2, g⟩
theorem FT_fin {B c F a : Nat} {r : RW} {e : ED} (b : Bool) (hB : B + 4100 < 2 ^ 30) (h : QS B r e) (iv : IV c F r) (ha : a < c) : (r_frz r a = b ∧ (e_fin_ e (nI a) b).1 = 0) ∨ (¬ r_frz r a = b ∧ ((e_fin_ e (nI a) b).1 = -6 ∨ ∃ j, 1 ≤ j ∧ j ≤ 1000 ∧ (e_fin_ e (nI a) b).1 = nI j ∧ r_frz (Rr r j) a = b ∧ ∀ t, t < j → ¬ r_frz (Rr r t) a = b)) := by
  have h8 := iv.1
  have hh := h.hh
  obtain ⟨⟨m, r1, r2⟩, -⟩ := h
  have his : r_isS (m_row m) (nI a) = true := sn_has r1.2.1.1 (IV_r iv r2) ha
  have eT : (e_fin_ e (nI a) b).1 = m_found (m_htl a b 1000 0 (m_try m)) a b := by
    rw [((S_fin_ hB r1 (nI a) b).1).1]
    unfold m_fin_
    rw [if_pos his]
    unfold m_hoursTo
    rw [zn_nI (show a < 2 ^ 31 by omega)]
  have t3 := (RN_try r1).2.2
  have tw : ∀ n, n ≤ 1000 → r_frz (m_row (m_hrs (m_try m) n)) a = r_frz (Rr r n) a := fun n hn => (TWO (M := m_try m) (M2 := Mr r) (MT_try r1.2.1).2.1 hh t3.2.2.1 (Mr_x r) (by omega) (by omega)).2
  have tw0 : r_frz (m_row (m_try m)) a = r_frz r a := tw 0 (by omega)
  rw [eT]
  have H := htl_spec (a := a) (b := b) 1000 0 (m_try m)
  generalize m_htl a b 1000 0 (m_try m) = P at H ⊢
  rcases H with ⟨j, j1, j2, j3, j4⟩ | ⟨g2, g3⟩
  · have ef : m_found P a b = nI j := by
      rw [j2]
      unfold m_found
      rw [if_pos (by rw [j3]), Nat.zero_add]
    rw [ef]
    rw [tw j j1] at j3
    rcases Nat.eq_zero_or_pos j with z | z
    · subst z
      rw [Rr_0] at j3
      exact Or.inl ⟨j3, rfl⟩
    · refine Or.inr ⟨?_, Or.inr ⟨j, z, j1, rfl, j3, fun t ht => ?_⟩⟩
      · have := j4 0 z
        rw [show m_hrs (m_try m) 0 = m_try m from rfl, tw0] at this; exact this
      · have := j4 t ht
        rw [tw t (by omega)] at this; exact this
  · have ef : m_found P a b = -6 := by
      unfold m_found; rw [if_neg (fun z => g2 (zB_inj.mp z))]
    rw [ef]
    rw [tw0] at g3
    exact Or.inr ⟨g3, Or.inl rfl⟩
theorem sn_hasP {B c F : Nat} {r : RW} {d : HD} (hH : HH B d r) (iv : IV c F r) {p : Nat} (hp : p < zn64 (r 13)) : r_isP r (nI p) = true := by
  obtain ⟨k, k1, k2, -⟩ := iv.2.2.2.2.1
  have hk : zn64 (r 13) = k := zn64_e k2 (by omega)
  unfold r_isP z_inl
  rw [nI_l (by omega), k2]
  have h0 : ¬ lN p < 0 := fun z => by have := t_lt.mp z; rw [lN_toInt (by omega), show (0 : Int64).toInt = 0 by decide] at this; omega
  have h1 : lN p ≤ lN k - 1 := Int64.le_iff_toInt_le.mpr (by rw [lN_toInt (by omega), lN_pred (by omega)]; omega)
  rw [if_neg h0, if_pos h1]
theorem IV_hrs2 {c F w : Nat} {t : Int64} {M : MD} (h : IV c F (m_row M)) (hw : WA w t M) (hw8 : w < 8) : ∀ n, F + 80 * n < 1000000000 → IV c (F + 80 * n) (m_row (m_hrs M n)) := by
  have key : ∀ n, F + 80 * n < 1000000000 → IV c (F + 80 * n) (m_row (m_hrs M n)) ∧ WA w t (m_hrs M n) := by
    intro n
    induction n with
    | zero => intro _; exact ⟨h, hw⟩
    | succ n ih =>
      intro hn
      obtain ⟨i1, i2⟩ := ih (by omega)
      have e : m_hrs M (n + 1) = m_hour (m_hrs M n) := rfl
      rw [e]
      generalize m_hrs M n = x at i1 i2 ⊢
      have k := IV_hour (w := w) (t := t) (R := gA (m_row x) w 4) (w0 := m_wh x) (by omega) i1 i2 (Int.le_refl _) rfl hw8
      exact ⟨by rw [show F + 80 * (n + 1) = F + 80 * n + 80 by omega]; exact k.1, k.2.2.1⟩
  exact fun n hn => (key n hn).1
theorem FT_done {B c F p : Nat} {r : RW} {e : ED} (hB : B + 4100 < 2 ^ 30) (hF : F + 80000 < 1000000000) (h : QS B r e) (iv : IV c F r) (hp : p < zn64 (r 13)) : ∃ w, w < c ∧ e_ofPlan e (nI p) 0 = nI w ∧ (¬ (e_doneAt e (nI p)).1 ≤ 0 →
    ∀ e2, QS B r e2 → ∃ n, 1 ≤ n ∧ n ≤ 1000 ∧ ¬ (e_doneAt e (nI p)).1 ≤ e_count e2 0 ∧ ¬ (e_doneAt e (nI p)).1 < e_ofPlan e2 (nI p) 1 ∧ (e_doneAt e (nI p)).1 - e_count e2 0 = nI n ∧ (e_hours e2 (nI n)).1 = (e_doneAt e (nI p)).1 ∧ ¬ e_ofService (e_hours e2 (nI n)).2 (nI w) 8 ≤ e_ofService e2 (nI w) 8) := by
  have h8 := iv.1
  have hh := h.hh
  obtain ⟨k, k1, k2, k3⟩ := iv.2.2.2.2.1
  have hk : zn64 (r 13) = k := zn64_e k2 (by omega)
  obtain ⟨⟨w, hw, ew⟩, -⟩ := k3 p (by omega)
  have hisP := sn_hasP hh iv hp
  have oP : ∀ (e2 : ED) (B2 : Nat) (x : Nat), HH B2 (e_now e2) r → x < 2 → e_ofPlan e2 (nI p) (nI x) = (r (334 + 4 * p + x)).toInt32 := fun e2 B2 x hH2 hx => by
    rw [O_ofPlan (m := mO r e2) hH2]
    unfold m_ofPlan
    have h1 : r_isP (m_row (mO r e2)) (nI p) = true := hisP
    have hz : ∀ x, x < 2 → z_inl (nI x).toInt64 0 3 = true := by decide +kernel
    rw [if_pos h1, if_pos (hz x hx), zn_nI (by omega), zn_nI (by omega)]
    rfl
  refine ⟨w, hw, ?_, fun hv e2 h2 => ?_⟩
  · show e_ofPlan e (nI p) (nI 0) = _
    rw [oP e B 0 hh (by decide), ew, lN_i]
  · obtain ⟨⟨m, r1, r2⟩, -⟩ := h
    have hS := (S_doneAt hB r1 (nI p)).1.1
    have iv2 := IV_r iv r2
    have hisPm : r_isP (m_row m) (nI p) = true := by rw [HH_isP r1.2.1.1, ← HH_isP hh]; exact hisP
    have hp31 : p < 2 ^ 31 := by omega
    obtain ⟨d1, d2, d3, d4, d5, d6⟩ := m_da0_f m (nI p)
    obtain ⟨t1, t2, t3⟩ := RN_try r1
    have hx : MX (m_da0 m (nI p)) := fun q hq => by rw [d2, d3]; exact t3.2.2.1 q hq
    have hlo : ∀ j, j < 454 → m_row (m_da0 m (nI p)) j = r j := fun j hj => by rw [d1]; unfold m_try; rw [m_cp_row, r_cp_out (by omega)]; exact r2 j hj
    have hV : (e_doneAt e (nI p)).1 = (if m_wh (m_dal 1000 (m_da0 m (nI p))) = 0 then -6 else m_wh (m_dal 1000 (m_da0 m (nI p)))) := by
      rw [hS]
      unfold m_doneAt
      rw [if_pos hisPm, m_da1_wh]
      split <;> rfl
    generalize m_da0 m (nI p) = M at d4 d5 hx hlo hV
    have hne : ¬ m_wh (m_dal 1000 M) = m_wh M := by
      rw [d5]; intro z
      rw [if_pos z] at hV
      rw [hV] at hv; exact hv (by decide)
    rw [d5] at hne
    rw [if_neg hne] at hV
    have ivM : IV c F (m_row M) := IV_r iv hlo
    have eR : gA (m_row M) w 4 = gA r w 4 := gA_r (hlo _ (by omega))
    have D := IV_dal (w := w) (t := r (334 + 4 * p + 1)) (R := gA r w 4) (h0 := (r 8).toInt) (by omega) 1000 0 F M (by omega) ivM (Or.inr ⟨p, by rw [hlo 13 (by decide)]; exact hp, d4, by rw [hlo _ (by omega)]; exact ew, hlo _ (by omega)⟩) (by rw [eR]; exact Int.le_refl _) (by rw [hlo 8 (by decide)]; omega) (by rw [d5]; exact hne)
    obtain ⟨n, n1, n2, n3, n4, n5, n6⟩ := D
    have m6 := iv.2.2.2.2.2
    have m61 := m6.2.1
    have m62 := m6.2.2.1
    obtain ⟨u, u1, u2, u3⟩ := t_i32 (v := r 8) ⟨m61, by omega⟩
    have e8 : m_row (m_hrs M n) 8 = lN (u + n) := t_eq (by rw [n4, lN_toInt (by omega), u1]; omega)
    have ev : (e_doneAt e (nI p)).1 = nI (u + n) := by rw [hV, n3, e8, lN_i]
    have e0 : e_count e2 0 = nI u := by
      rw [O_count (m := mO r e2) h2.hh rfl rfl rfl]; exact u3
    obtain ⟨q1, q2⟩ := h2.hrs (M := M) hB n2 n1 hx hlo
    have ivn := (IV_hrs (m := Mr r) iv (Or.inl rfl) n (by omega)).1
    refine ⟨n, n2, n1, ?_, ?_, ?_, ?_, ?_⟩
    · rw [ev, e0]
      intro z
      have := (nI_leI (by omega) (by omega)).mp z
      omega
    · have x1 := oP e2 B 1 h2.hh (by decide)
      rw [show (1 : Int32) = nI 1 from rfl, x1, ev]
      have hpr := hh.2.2.2.2.2.1.2 p (by rw [← HPc_n hh.2.2.2.2.2.1]; exact hp) 1 (by decide)
      have hzk : zok (p_at (h_pl (e_now e)) 1 p) (B + 2000) := hpr.2
      have ep : (r (334 + 4 * p + 1)).toInt = (zn32 (p_at (h_pl (e_now e)) 1 p) : Int) := by rw [hpr.1]; exact zok_t hzk (by omega)
      rw [hpr.1, q_i, hzk.1]
      have hle := Int64.le_iff_toInt_le.mp n5
      rw [ep, n4, u1] at hle
      exact nI_nlt (by omega) (by omega)
    · rw [ev, e0]
      rw [show nI (u + n) = nI n + nI u by rw [nI_add, Nat.add_comm]]
      exact Int32.add_sub_cancel _ _
    · rw [q2, ev, e8, lN_i]
    · have sr := (sn_srv h2.hh iv hw).2.2.2.2.2.2.2.1
      have hrel : e_ofService (e_hours e2 (nI n)).2 (nI w) 8 = (m_row (m_hrs M n) (14 + 15 * w + 4)).toInt32 := by
        have K := IV_hrs2 (M := M) ivM (Or.inr ⟨p, by rw [hlo 13 (by decide)]; exact hp, d4, by rw [hlo _ (by omega)]; exact ew, hlo _ (by omega)⟩) (by omega) n (by omega)
        exact (sn_srv q1 K hw).2.2.2.2.2.2.2.1
      rw [hrel, sr]
      have g4 := (iv.2.2.1.1 w (by omega)).2.2.2.1
      have K := IV_hrs2 (M := M) ivM (Or.inr ⟨p, by rw [hlo 13 (by decide)]; exact hp, d4, by rw [hlo _ (by omega)]; exact ew, hlo _ (by omega)⟩) (show w < 8 by omega) n (by omega)
      have g4n := (K.2.2.1.1 w (by omega)).2.2.2.1
      obtain ⟨x, x1, x2, x3⟩ := t_i32 (v := r (14 + 15 * w + 4)) ⟨g4.1, by have := g4.2; unfold gA at this; omega⟩
      obtain ⟨y, y1, y2, y3⟩ := t_i32 (v := m_row (m_hrs M n) (14 + 15 * w + 4)) ⟨g4n.1, by have := g4n.2; unfold gA at this; omega⟩
      have hx4 := g4.2
      have hy4 := g4n.2
      rw [x3, y3]
      unfold gA at n6 hx4 hy4
      intro z
      have := (nI_leI (by omega) (by omega)).mp z
      omega
