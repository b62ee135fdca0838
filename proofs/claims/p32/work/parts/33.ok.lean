
/-! What the house's functions keep: the ranges that the walks ask for. -/
theorem z_acc {s w : Int32} (hs : vp_in s 8) (hw : vp_in w 9) : vp_in (s * 9 + w) 72 := by
  obtain ⟨a, ha, rfl⟩ := vp_in_of hs (by decide)
  obtain ⟨b, hb, rfl⟩ := vp_in_of hw (by decide)
  rw [show (9 : Int32) = nI 9 from rfl, pk_mul, nI_add]
  exact vp_in_nI (by omega) (by decide)
def z_ct (P : Nat → Bool) : Nat → Nat
  | 0 => 0
  | n + 1 => if P n then z_ct P n + 1 else z_ct P n
theorem z_ct_s {P : Nat → Bool} {n : Nat} (h : P n = true) : z_ct P (n + 1) = z_ct P n + 1 := if_pos h
theorem z_ct_n {P : Nat → Bool} {n : Nat} (h : ¬ P n = true) : z_ct P (n + 1) = z_ct P n := if_neg h
theorem z_ct_le (P : Nat → Bool) : ∀ n, z_ct P n ≤ n
  | 0 => Nat.le_refl _
  | n + 1 => by
    have := z_ct_le P n
    by_cases h : P n = true
    · rw [z_ct_s h]; omega
    · rw [z_ct_n h]; omega
theorem z_ct_mono (P : Nat → Bool) {m n : Nat} (h : m ≤ n) : z_ct P m ≤ z_ct P n := by
  induction n with
  | zero => have : m = 0 := by omega
            subst this; exact Nat.le_refl _
  | succ n ih =>
    rcases Nat.lt_or_ge m (n + 1) with q | q
    · have := ih (by omega)
      by_cases h : P n = true
      · rw [z_ct_s h]; omega
      · rw [z_ct_n h]; omega
    · have : m = n + 1 := by omega
      subst this; exact Nat.le_refl _
theorem z_ct_lt {P : Nat → Bool} {m n : Nat} (h : m < n) (hp : P m = true) : z_ct P m < z_ct P n := by
  have := z_ct_mono P (show m + 1 ≤ n from h)
  rw [z_ct_s hp] at this; omega
theorem z_ct_sur {P : Nat → Bool} {j : Nat} : ∀ {n : Nat}, j < z_ct P n → ∃ m, m < n ∧ P m = true ∧ z_ct P m = j
  | 0, h => absurd h (Nat.not_lt_zero _)
  | n + 1, h => by
    by_cases hp : P n = true
    · rw [z_ct_s hp] at h
      rcases Nat.lt_or_ge j (z_ct P n) with q | q
      · obtain ⟨m, h1, h2, h3⟩ := z_ct_sur q
        exact ⟨m, by omega, h2, h3⟩
      · exact ⟨n, by omega, hp, by omega⟩
    · rw [z_ct_n hp] at h
      obtain ⟨m, h1, h2, h3⟩ := z_ct_sur h
      exact ⟨m, by omega, h2, h3⟩
-- loans that are taken out
def l_at (d : LD) : Nat → (Nat → Int32)
  | 0 => l_len d
  | 1 => l_bor d
  | 2 => l_min d
  | 3 => l_owe d
  | _ => l_due d
theorem l_at_put (s : LD) (i j : Nat) : ∀ c, l_at (l_put s j (l_len s i) (l_bor s i) (l_min s i) (l_owe s i) (l_due s i)) c = upd (l_at s c) j (l_at s c i)
  | 0 => rfl
  | 1 => rfl
  | 2 => rfl
  | 3 => rfl
  | _ + 4 => rfl
def l_keep (d : LD) (m : Nat) : Bool := !decide (l_owe d m ≤ 0)
theorem l_rloop_spec (d : LD) : ∀ i : Nat, (l_rloop d i).2 = z_ct (l_keep d) i ∧ (∀ m c, m < i → l_keep d m = true → l_at (l_rloop d i).1 c (z_ct (l_keep d) m) = l_at d c m) ∧ (∀ m c, i ≤ m → l_at (l_rloop d i).1 c m = l_at d c m)
  | 0 => ⟨rfl, fun m c h => absurd h (Nat.not_lt_zero _), fun _ _ _ => rfl⟩
  | i + 1 => by
    obtain ⟨h1, h2, h3⟩ := l_rloop_spec d i
    have hle := z_ct_le (l_keep d) i
    have e0 : l_owe (l_rloop d i).1 i = l_owe d i := h3 i 3 (Nat.le_refl _)
    by_cases h : l_owe d i ≤ 0
    · have hk : ¬ l_keep d i = true := by simp [l_keep, h]
      have e : l_rloop d (i + 1) = l_rloop d i := if_pos (show l_owe (l_rloop d i).1 i ≤ 0 by rw [e0]; exact h)
      rw [e, z_ct_n hk]
      refine ⟨h1, fun m c hm hp => ?_, fun m c hm => h3 m c (by omega)⟩
      rcases Nat.lt_or_ge m i with q | q
      · exact h2 m c q hp
      · have : m = i := by omega
        subst this; exact absurd hp hk
    · have hk : l_keep d i = true := by simp [l_keep, h]
      have e : l_rloop d (i + 1) = (l_put (l_rloop d i).1 (l_rloop d i).2 (l_len (l_rloop d i).1 i) (l_bor (l_rloop d i).1 i) (l_min (l_rloop d i).1 i) (l_owe (l_rloop d i).1 i) (l_due (l_rloop d i).1 i), (l_rloop d i).2 + 1) := if_neg (show ¬ l_owe (l_rloop d i).1 i ≤ 0 by rw [e0]; exact h)
      rw [e, z_ct_s hk]
      refine ⟨by rw [h1], fun m c hm hp => ?_, fun m c hm => ?_⟩
      · show l_at (l_put _ _ _ _ _ _ _) c _ = _
        rw [l_at_put, h1]
        rcases Nat.lt_or_ge m i with q | q
        · rw [pk_un (Nat.ne_of_lt (z_ct_lt q hp))]; exact h2 m c q hp
        · have : m = i := by omega
          subst this; rw [pk_us]; exact h3 m c (Nat.le_refl _)
      · show l_at (l_put _ _ _ _ _ _ _) c _ = _
        rw [l_at_put, h1, pk_un (by omega)]; exact h3 m c (by omega)
theorem l_rem_num (d : LD) (hd : l_ok d) : zn32 (l_num (l_rem d)) = z_ct (l_keep d) (zn32 (l_num d)) := by
  show (nI (l_rloop d (zn32 (l_num d))).2).toNatClampNeg = _
  have := z_ct_le (l_keep d) (zn32 (l_num d))
  have := hd.2
  rw [(l_rloop_spec d _).1, nI_clamp (by omega)]
theorem l_rem_at (d : LD) (m c : Nat) (hm : m < zn32 (l_num d)) (hp : l_keep d m = true) : l_at (l_rem d) c (z_ct (l_keep d) m) = l_at d c m := by
  have e : l_at (l_rem d) c = l_at (l_rloop d (zn32 (l_num d))).1 c := by
    rcases c with _ | _ | _ | _ | c <;> rfl
  rw [e]; exact (l_rloop_spec d _).2.1 m c hm hp
theorem l_rem_ok (d : LD) (hd : l_ok d) : l_ok (l_rem d) := zok_nI (by rw [(l_rloop_spec d _).1]; exact Nat.le_trans (z_ct_le _ _) hd.2) (by decide)
theorem l_rem_all {d : LD} (hd : l_ok d) {c : Nat} {Q : Int32 → Prop} (h : ∀ i, i < zn32 (l_num d) → Q (l_at d c i)) : ∀ i, i < zn32 (l_num (l_rem d)) → Q (l_at (l_rem d) c i) := by
  intro i hi
  rw [l_rem_num d hd] at hi
  obtain ⟨m, h1, h2, rfl⟩ := z_ct_sur hi
  rw [l_rem_at d m c h1 h2]; exact h m h1
-- plans that are taken out
def p_at (d : PD) : Nat → (Nat → Int32)
  | 0 => p_srv d
  | 1 => p_hr d
  | 2 => p_sz d
  | 3 => p_pri d
  | _ => p_fate d
theorem p_at_move (s : PD) (i j : Nat) : ∀ c, p_at (p_move s i j) c = upd (p_at s c) j (p_at s c i)
  | 0 => rfl
  | 1 => rfl
  | 2 => rfl
  | 3 => rfl
  | _ + 4 => rfl
def p_keep (d : PD) (m : Nat) : Bool := decide (p_fate d m = 0)
theorem p_at_r1 (fo : Int32) (i : Nat) (s : PD × Nat) (c : Nat) : p_at (p_r1 fo i s) c = p_at s.1 c := by
  unfold p_r1
  split
  · split <;> (rcases c with _ | _ | _ | _ | c <;> rfl)
  · rfl
theorem p_rloop_spec (d : PD) : ∀ i : Nat, (p_rloop d i).2 = z_ct (p_keep d) i ∧ (∀ m c, m < i → p_keep d m = true → p_at (p_rloop d i).1 c (z_ct (p_keep d) m) = p_at d c m) ∧ (∀ m c, i ≤ m → p_at (p_rloop d i).1 c m = p_at d c m)
  | 0 => ⟨rfl, fun m c h => absurd h (Nat.not_lt_zero _), fun _ _ _ => rfl⟩
  | i + 1 => by
    obtain ⟨h1, h2, h3⟩ := p_rloop_spec d i
    have hle := z_ct_le (p_keep d) i
    have e0 : p_fate (p_rloop d i).1 i = p_fate d i := h3 i 4 (Nat.le_refl _)
    by_cases h : p_fate d i = 0
    · have hk : p_keep d i = true := by simp [p_keep, h]
      have e : p_rloop d (i + 1) = (p_move (p_r1 (p_wat d) i (p_rloop d i)) i (p_rloop d i).2, (p_rloop d i).2 + 1) := if_pos (show p_fate (p_rloop d i).1 i = 0 by rw [e0]; exact h)
      rw [e, z_ct_s hk]
      refine ⟨by rw [h1], fun m c hm hp => ?_, fun m c hm => ?_⟩
      · show p_at (p_move _ _ _) c _ = _
        rw [p_at_move, p_at_r1, h1]
        rcases Nat.lt_or_ge m i with q | q
        · rw [pk_un (Nat.ne_of_lt (z_ct_lt q hp))]; exact h2 m c q hp
        · have : m = i := by omega
          subst this; rw [pk_us]; exact h3 m c (Nat.le_refl _)
      · show p_at (p_move _ _ _) c _ = _
        rw [p_at_move, p_at_r1, h1, pk_un (by omega)]; exact h3 m c (by omega)
    · have hk : ¬ p_keep d i = true := by simp [p_keep, h]
      have e : p_rloop d (i + 1) = (p_r1 (p_wat d) i (p_rloop d i), (p_rloop d i).2) := if_neg (show ¬ p_fate (p_rloop d i).1 i = 0 by rw [e0]; exact h)
      rw [e, z_ct_n hk]
      refine ⟨h1, fun m c hm hp => ?_, fun m c hm => by show p_at (p_r1 _ _ _) c m = _; rw [p_at_r1]; exact h3 m c (by omega)⟩
      show p_at (p_r1 _ _ _) c _ = _
      rw [p_at_r1]
      rcases Nat.lt_or_ge m i with q | q
      · exact h2 m c q hp
      · have : m = i := by omega
        subst this; exact absurd hp hk
theorem p_ain_in (d : PD) (i N : Nat) (hi : i < N) (hN : N < 2 ^ 31) : ∀ (k : Nat) (t : Nat → Int32), k ≤ i → (∀ j, j ≤ i → j ≠ k → vp_in (t j) N) → ∀ j, j ≤ i → vp_in (p_ain d i k t j) N
  | 0, t, _, h, j, hj => by
    show vp_in (upd t 0 (nI i) j) N
    by_cases e : j = 0
    · subst e; rw [pk_us]; exact vp_in_nI hi hN
    · rw [pk_un e]; exact h j hj e
  | k + 1, t, hk, h, j, hj => by
    show vp_in ((if p_bef d (nI i) (t k) then p_ain d i k (upd t (k + 1) (t k)) else upd t (k + 1) (nI i)) j) N
    split
    · refine p_ain_in d i N hi hN k _ (by omega) (fun j2 h2 n2 => ?_) j hj
      by_cases e : j2 = k + 1
      · subst e; rw [pk_us]; exact h k (by omega) (by omega)
      · rw [pk_un e]; exact h j2 h2 e
    · by_cases e : j = k + 1
      · subst e; rw [pk_us]; exact vp_in_nI hi hN
      · rw [pk_un e]; exact h j hj e
theorem p_arr_at (d : PD) (c : Nat) : p_at (p_arr d) c = p_at d c ∧ p_num (p_arr d) = p_num d ∧ p_wat (p_arr d) = p_wat d ∧ p_wf (p_arr d) = p_wf d := by
  have key : ∀ i : Nat, p_at (zit p_astep d i) c = p_at d c ∧ p_num (zit p_astep d i) = p_num d ∧ p_wat (zit p_astep d i) = p_wat d ∧ p_wf (zit p_astep d i) = p_wf d := by
    intro i
    induction i with
    | zero => exact ⟨rfl, rfl, rfl, rfl⟩
    | succ i ih => exact ⟨(by rw [← ih.1]; rcases c with _ | _ | _ | _ | c <;> rfl), ih.2.1, ih.2.2.1, ih.2.2.2⟩
  exact key _
theorem p_arr_turn (d : PD) (hd : p_ok d) : ∀ j, j < zn32 (p_num d) → vp_in (p_turn (p_arr d) j) (zn32 (p_num d)) := by
  have h30 := hd.2
  have key : ∀ i : Nat, i ≤ zn32 (p_num d) → ∀ j, j < i → vp_in (p_turn (zit p_astep d i) j) (zn32 (p_num d)) := by
    intro i
    induction i with
    | zero => exact fun _ j h => absurd h (Nat.not_lt_zero _)
    | succ i ih => exact fun hi j hj => p_ain_in _ i _ (by omega) (by omega) i _ (Nat.le_refl _) (fun j2 h2 n2 => ih (by omega) j2 (by omega)) j (by omega)
  exact key _ (Nat.le_refl _)
/-- what is kept between calls -/
def p_ok2 (d : PD) : Prop := p_ok d ∧ (∀ i, i < zn32 (p_num d) → vp_in (p_srv d i) 8 ∧ vp_in (p_turn d i) (zn32 (p_num d)))
def l_ok2 (d : LD) : Prop := l_ok d ∧ (∀ i, i < zn32 (l_num d) → vp_in (l_len d i) 8 ∧ vp_in (l_bor d i) 8)
def h_ok (d : HD) : Prop := zok (h_cnt d) 8 ∧ l_ok2 (h_lo d) ∧ p_ok2 (h_pl d)
theorem l_rem_ok2 {d : LD} (h : l_ok2 d) : l_ok2 (l_rem d) := by
  refine ⟨l_rem_ok d h.1, fun i hi => ?_⟩
  exact ⟨l_rem_all h.1 (c := 0) (Q := fun v => vp_in v 8) (fun i hi => (h.2 i hi).1) i hi, l_rem_all h.1 (c := 1) (Q := fun v => vp_in v 8) (fun i hi => (h.2 i hi).2) i hi⟩
theorem p_rem_num (d : PD) (hd : p_ok d) : zn32 (p_num (p_rem d)) = z_ct (p_keep d) (zn32 (p_num d)) := by
  rw [show p_num (p_rem d) = _ from (p_arr_at _ 0).2.1]
  show (nI (p_rloop d (zn32 (p_num d))).2).toNatClampNeg = _
  have := z_ct_le (p_keep d) (zn32 (p_num d))
  have := hd.2
  rw [(p_rloop_spec d _).1, nI_clamp (by omega)]
theorem p_rem_at (d : PD) (m c : Nat) (hm : m < zn32 (p_num d)) (hp : p_keep d m = true) : p_at (p_rem d) c (z_ct (p_keep d) m) = p_at d c m := by
  have e : p_at (p_rem d) c = p_at (p_rloop d (zn32 (p_num d))).1 c := by
    rw [show p_at (p_rem d) c = _ from (p_arr_at _ c).1]
    rcases c with _ | _ | _ | _ | c <;> rfl
  rw [e]; exact (p_rloop_spec d _).2.1 m c hm hp
theorem p_rem_ok1 (d : PD) (hd : p_ok d) : p_ok (p_rem d) := by
  unfold p_ok
  rw [show p_num (p_rem d) = _ from (p_arr_at _ 0).2.1]
  exact p_rem_ok hd
theorem p_rem_ok2 {d : PD} (hd : p_ok d) (hs : ∀ i, i < zn32 (p_num d) → vp_in (p_srv d i) 8) : p_ok2 (p_rem d) := by
  refine ⟨p_rem_ok1 d hd, fun i hi => ⟨?_, ?_⟩⟩
  · have hi2 := hi
    rw [p_rem_num d hd] at hi2
    obtain ⟨m, h1, h2, rfl⟩ := z_ct_sur hi2
    have := p_rem_at d m 0 h1 h2
    show vp_in (p_at (p_rem d) 0 _) 8
    rw [this]; exact hs m h1
  · have hk : p_ok (p_snum (p_rloop d (zn32 (p_num d))).1 (nI (p_rloop d (zn32 (p_num d))).2)) := p_rem_ok hd
    have e : p_num (p_rem d) = nI (p_rloop d (zn32 (p_num d))).2 := (p_arr_at _ 0).2.1
    rw [e] at hi ⊢
    exact p_arr_turn _ hk i hi
theorem h_enter_k (d : HD) (s w : Int32) (m : Int64) : h_lo (h_enter d s w m) = h_lo d ∧ h_pl (h_enter d s w m) = h_pl d ∧ h_cnt (h_enter d s w m) = h_cnt d ∧ h_win (h_enter d s w m) = h_win d ∧ h_set (h_enter d s w m) = h_set d ∧ h_hour (h_enter d s w m) = h_hour d ∧ h_bud (h_enter d s w m) = h_bud d ∧ h_ws (h_enter d s w m) = h_ws d := by
  unfold h_enter; split <;> exact ⟨rfl, rfl, rfl, rfl, rfl, rfl, rfl, rfl⟩
theorem h_sett_k (d : HD) (s : Int32) : h_lo (h_sett d s) = h_lo d ∧ h_pl (h_sett d s) = h_pl d ∧ h_cnt (h_sett d s) = h_cnt d ∧ h_win (h_sett d s) = h_win d ∧ h_set (h_sett d s) = h_set d ∧ h_hour (h_sett d s) = h_hour d ∧ h_bud (h_sett d s) = h_bud d ∧ h_ws (h_sett d s) = h_ws d := by
  unfold h_sett; split
  · split <;> exact ⟨rfl, rfl, rfl, rfl, rfl, rfl, rfl, rfl⟩
  · split <;> exact ⟨rfl, rfl, rfl, rfl, rfl, rfl, rfl, rfl⟩
theorem h_book_k (d : HD) (s w : Int32) (m : Int64) : h_lo (h_book d s w m) = h_lo d ∧ h_pl (h_book d s w m) = h_pl d ∧ h_cnt (h_book d s w m) = h_cnt d ∧ h_win (h_book d s w m) = h_win d ∧ h_set (h_book d s w m) = h_set d ∧ h_hour (h_book d s w m) = h_hour d ∧ h_bud (h_book d s w m) = h_bud d ∧ h_ws (h_book d s w m) = h_ws d := by
  obtain ⟨a1, a2, a3, a4, a5, a6, a7, a8⟩ := h_sett_k (h_enter d s w m) s
  obtain ⟨b1, b2, b3, b4, b5, b6, b7, b8⟩ := h_enter_k d s w m
  exact ⟨a1.trans b1, a2.trans b2, a3.trans b3, a4.trans b4, a5.trans b5, a6.trans b6, a7.trans b7, a8.trans b8⟩
/-- what a house needs, of its parts -/
theorem h_ok_of {d e : HD} (h : h_ok d) (h1 : h_cnt e = h_cnt d) (h2 : l_ok2 (h_lo e)) (h3 : p_ok2 (h_pl e)) : h_ok e := ⟨by rw [h1]; exact h.1, h2, h3⟩
theorem h_ok_eq {d e : HD} (h : h_ok d) (h1 : h_cnt e = h_cnt d) (h2 : h_lo e = h_lo d) (h3 : h_pl e = h_pl d) : h_ok e := ⟨by rw [h1]; exact h.1, by rw [h2]; exact h.2.1, by rw [h3]; exact h.2.2⟩
theorem h_book_ok {d : HD} {s w : Int32} {m : Int64} (h : h_ok d) : h_ok (h_book d s w m) := h_ok_eq h (h_book_k d s w m).2.2.1 (h_book_k d s w m).1 (h_book_k d s w m).2.1
theorem l_ok2_sowe {d : LD} {v : Nat → Int32} (h : l_ok2 d) : l_ok2 (l_sowe d v) := h
theorem l_ok2_sdue {d : LD} {v : Nat → Int32} (h : l_ok2 d) : l_ok2 (l_sdue d v) := h
theorem h_pay_k (d : HD) (l : Nat) : h_cnt (h_pay d l) = h_cnt d ∧ h_pl (h_pay d l) = h_pl d ∧ l_num (h_lo (h_pay d l)) = l_num (h_lo d) ∧ l_len (h_lo (h_pay d l)) = l_len (h_lo d) ∧ l_bor (h_lo (h_pay d l)) = l_bor (h_lo d) ∧ l_due (h_lo (h_pay d l)) = l_due (h_lo d) ∧ h_win (h_pay d l) = h_win d ∧ h_set (h_pay d l) = h_set d := by
  unfold h_pay
  split
  · exact ⟨rfl, rfl, rfl, rfl, rfl, rfl, rfl, rfl⟩
  · unfold h_pay1
    obtain ⟨a1, a2, a3, a4, a5, -⟩ := h_book_k (h_book (h_pay2 d l (h_paid d l)) (l_bor (h_lo d) l) 6 (h_paid d l)) (l_len (h_lo (h_book (h_pay2 d l (h_paid d l)) (l_bor (h_lo d) l) 6 (h_paid d l))) l) 2 (h_paid d l)
    obtain ⟨b1, b2, b3, b4, b5, -⟩ := h_book_k (h_pay2 d l (h_paid d l)) (l_bor (h_lo d) l) 6 (h_paid d l)
    rw [a1, a2, a3, a4, a5, b1, b2, b3, b4, b5]
    exact ⟨rfl, rfl, rfl, rfl, rfl, rfl, rfl, rfl⟩
theorem h_pay_ok {d : HD} {l : Nat} (h : h_ok d) : h_ok (h_pay d l) := by
  obtain ⟨a1, a2, a3, a4, a5, -⟩ := h_pay_k d l
  refine h_ok_of h a1 ?_ (by rw [a2]; exact h.2.2)
  unfold l_ok2 l_ok
  rw [a3, a4, a5]; exact h.2.1
theorem h_gr1_k (d : HD) (i : Nat) : h_lo (h_gr1 d i) = h_lo d ∧ h_pl (h_gr1 d i) = h_pl d ∧ h_cnt (h_gr1 d i) = h_cnt d := by
  obtain ⟨a, b, c, -⟩ := h_enter_k d (nI i) 7 (h_left0 d (nI i) - h_carry d i (h_left0 d (nI i)))
  exact ⟨a, b, c⟩
theorem h_gr2_k (d : HD) (i : Nat) : h_lo (h_gr2 d i) = h_lo d ∧ h_pl (h_gr2 d i) = h_pl d ∧ h_cnt (h_gr2 d i) = h_cnt d := by
  obtain ⟨a, b, c, -⟩ := h_book_k d (nI i) 0 (h_bud d i).toInt64
  exact ⟨a, b, c⟩
theorem h_gr3_k (d : HD) (i : Nat) : h_lo (h_gr3 d i) = h_lo d ∧ h_pl (h_gr3 d i) = h_pl d ∧ h_cnt (h_gr3 d i) = h_cnt d := ⟨rfl, rfl, rfl⟩
theorem h_gstep_k (i : Nat) (d : HD) : h_lo (h_gstep i d) = h_lo d ∧ h_pl (h_gstep i d) = h_pl d ∧ h_cnt (h_gstep i d) = h_cnt d := by
  unfold h_gstep
  obtain ⟨a1, a2, a3⟩ := h_gr3_k (h_gr2 (h_gr1 d i) i) i
  obtain ⟨b1, b2, b3⟩ := h_gr2_k (h_gr1 d i) i
  obtain ⟨c1, c2, c3⟩ := h_gr1_k d i
  exact ⟨a1.trans (b1.trans c1), a2.trans (b2.trans c2), a3.trans (b3.trans c3)⟩
theorem h_begin_k (d : HD) : ∀ i, h_lo (zit h_gstep (h_beg0 d) i) = h_lo d ∧ h_pl (zit h_gstep (h_beg0 d) i) = h_pl d ∧ h_cnt (zit h_gstep (h_beg0 d) i) = h_cnt d
  | 0 => ⟨rfl, rfl, rfl⟩
  | i + 1 => by
    have a := h_gstep_k i (zit h_gstep (h_beg0 d) i)
    have b := h_begin_k d i
    exact ⟨a.1.trans b.1, a.2.1.trans b.2.1, a.2.2.trans b.2.2⟩
theorem h_begin_ok {d : HD} (h : h_ok d) : h_ok (h_begin d) := h_ok_eq h (h_begin_k d _).2.2 (h_begin_k d _).1 (h_begin_k d _).2.1
theorem h_due1_k (d : HD) (l : Nat) : h_cnt (h_due1 d l) = h_cnt d ∧ h_pl (h_due1 d l) = h_pl d ∧ l_num (h_lo (h_due1 d l)) = l_num (h_lo d) ∧ l_len (h_lo (h_due1 d l)) = l_len (h_lo d) ∧ l_bor (h_lo (h_due1 d l)) = l_bor (h_lo d) ∧ l_due (h_lo (h_due1 d l)) = l_due (h_lo d) := ⟨rfl, rfl, rfl, rfl, rfl, rfl⟩
theorem h_due2_k (d : HD) (l : Nat) : h_cnt (h_due2 d l) = h_cnt d ∧ h_pl (h_due2 d l) = h_pl d ∧ l_num (h_lo (h_due2 d l)) = l_num (h_lo d) ∧ l_len (h_lo (h_due2 d l)) = l_len (h_lo d) ∧ l_bor (h_lo (h_due2 d l)) = l_bor (h_lo d) ∧ l_owe (h_lo (h_due2 d l)) = l_owe (h_lo d) := ⟨rfl, rfl, rfl, rfl, rfl, rfl⟩
theorem h_ok_l {d e : HD} (h : h_ok d) (h1 : h_cnt e = h_cnt d) (h2 : h_pl e = h_pl d) (h3 : l_num (h_lo e) = l_num (h_lo d)) (h4 : l_len (h_lo e) = l_len (h_lo d)) (h5 : l_bor (h_lo e) = l_bor (h_lo d)) : h_ok e := by
  refine h_ok_of h h1 ?_ (by rw [h2]; exact h.2.2)
  unfold l_ok2 l_ok
  rw [h3, h4, h5]; exact h.2.1
theorem h_dstep_k (l : Nat) (d : HD) : h_cnt (h_dstep l d) = h_cnt d ∧ h_pl (h_dstep l d) = h_pl d ∧ l_num (h_lo (h_dstep l d)) = l_num (h_lo d) ∧ l_len (h_lo (h_dstep l d)) = l_len (h_lo d) ∧ l_bor (h_lo (h_dstep l d)) = l_bor (h_lo d) := by
  unfold h_dstep; split
  · obtain ⟨a1, a2, a3, a4, a5, -⟩ := h_due2_k (h_due1 (h_pay d l) l) l
    obtain ⟨b1, b2, b3, b4, b5, -⟩ := h_due1_k (h_pay d l) l
    obtain ⟨c1, c2, c3, c4, c5, -⟩ := h_pay_k d l
    exact ⟨a1.trans (b1.trans c1), a2.trans (b2.trans c2), a3.trans (b3.trans c3), a4.trans (b4.trans c4), a5.trans (b5.trans c5)⟩
  · exact ⟨rfl, rfl, rfl, rfl, rfl⟩
theorem h_dstep_ok {d : HD} {l : Nat} (h : h_ok d) : h_ok (h_dstep l d) := by
  obtain ⟨a1, a2, a3, a4, a5⟩ := h_dstep_k l d
  exact h_ok_l h a1 a2 a3 a4 a5
theorem h_dloop_ok {d : HD} (h : h_ok d) (i : Nat) : h_ok (h_dloop d i) ∧ l_num (h_lo (h_dloop d i)) = l_num (h_lo d) := by
  induction i with
  | zero => exact ⟨h, rfl⟩
  | succ i ih => exact ⟨h_dstep_ok ih.1, (h_dstep_k i (h_dloop d i)).2.2.1.trans ih.2⟩
theorem h_slo_k (d : HD) (v : LD) : h_cnt (h_slo d v) = h_cnt d ∧ h_pl (h_slo d v) = h_pl d ∧ h_lo (h_slo d v) = v := ⟨rfl, rfl, rfl⟩
theorem h_spl_k (d : HD) (v : PD) : h_cnt (h_spl d v) = h_cnt d ∧ h_lo (h_spl d v) = h_lo d ∧ h_pl (h_spl d v) = v := ⟨rfl, rfl, rfl⟩
theorem h_due_ok {d : HD} (h : h_ok d) : h_ok (h_due d) := by
  have k := (h_dloop_ok h (zn32 (l_num (h_lo d)))).1
  unfold h_due
  obtain ⟨a1, a2, a3⟩ := h_slo_k (h_dloop d (zn32 (l_num (h_lo d)))) (l_rem (h_lo (h_dloop d (zn32 (l_num (h_lo d))))))
  exact h_ok_of k a1 (by rw [a3]; exact l_rem_ok2 k.2.1) (by rw [a2]; exact k.2.2)
theorem h_dorel_k (d : HD) (s z : Int32) : h_lo (h_dorel d s z) = h_lo d ∧ h_pl (h_dorel d s z) = h_pl d ∧ h_cnt (h_dorel d s z) = h_cnt d := by
  have a := h_book_k (h_srel d (upd (h_rel d) (zn32 s) (h_rel d (zn32 s) + 1))) s 4 z.toInt64
  exact ⟨a.1, a.2.1, a.2.2.1⟩
theorem h_tstep_k (i : Nat) (s : HD × Bool) : h_lo (h_tstep i s).1 = h_lo s.1 ∧ h_cnt (h_tstep i s).1 = h_cnt s.1 ∧ p_num (h_pl (h_tstep i s).1) = p_num (h_pl s.1) ∧ p_srv (h_pl (h_tstep i s).1) = p_srv (h_pl s.1) ∧ p_turn (h_pl (h_tstep i s).1) = p_turn (h_pl s.1) := by
  unfold h_tstep
  dsimp only
  split
  · obtain ⟨a1, a2, a3⟩ := h_dorel_k (h_t1 s.1 (zn32 (p_turn (h_pl s.1) i))) (p_srv (h_pl (h_t1 s.1 (zn32 (p_turn (h_pl s.1) i)))) (zn32 (p_turn (h_pl s.1) i))) (p_sz (h_pl (h_t1 s.1 (zn32 (p_turn (h_pl s.1) i)))) (zn32 (p_turn (h_pl s.1) i)))
    rw [a1, a2, a3]; exact ⟨rfl, rfl, rfl, rfl, rfl⟩
  · split <;> exact ⟨rfl, rfl, rfl, rfl, rfl⟩
theorem h_tloop_k (d : HD) : ∀ i, h_lo (h_tloop d i).1 = h_lo d ∧ h_cnt (h_tloop d i).1 = h_cnt d ∧ p_num (h_pl (h_tloop d i).1) = p_num (h_pl d) ∧ p_srv (h_pl (h_tloop d i).1) = p_srv (h_pl d) ∧ p_turn (h_pl (h_tloop d i).1) = p_turn (h_pl d)
  | 0 => ⟨rfl, rfl, rfl, rfl, rfl⟩
  | i + 1 => by
    obtain ⟨a1, a2, a3, a4, a5⟩ := h_tstep_k i (h_tloop d i)
    obtain ⟨b1, b2, b3, b4, b5⟩ := h_tloop_k d i
    exact ⟨a1.trans b1, a2.trans b2, a3.trans b3, a4.trans b4, a5.trans b5⟩
theorem h_tloop_ok {d : HD} (h : h_ok d) (i : Nat) : h_ok (h_tloop d i).1 := by
  obtain ⟨b1, b2, b3, b4, b5⟩ := h_tloop_k d i
  refine h_ok_of h b2 (by rw [b1]; exact h.2.1) ?_
  unfold p_ok2 p_ok
  rw [b3, b4, b5]; exact h.2.2
theorem h_take_ok {d : HD} (h : h_ok d) : h_ok (h_take d) := by
  unfold h_take; split
  · have k := h_tloop_ok h (zn32 (p_num (h_pl d)))
    obtain ⟨a1, a2, a3⟩ := h_spl_k (h_tloop d (zn32 (p_num (h_pl d)))).1 (p_rem (h_pl (h_tloop d (zn32 (p_num (h_pl d)))).1))
    exact h_ok_of k a1 (by rw [a2]; exact k.2.1) (by rw [a3]; exact p_rem_ok2 k.2.2.1 (fun i hi => (k.2.2.2 i hi).1))
  · exact h_tloop_ok h _
theorem h_hstep_ok {d : HD} {i : Nat} (h : h_ok d) : h_ok (h_hstep i d) := by
  have h1 : h_ok (h_hr1 d) := h
  unfold h_hstep; split
  · exact h_take_ok h1
  · exact h_take_ok (h_due_ok (h_begin_ok h1))
theorem h_hrs_ok {d : HD} (h : h_ok d) : ∀ n, h_ok (h_hrs d n)
  | 0 => h
  | n + 1 => h_hstep_ok (i := n) (h_hrs_ok h n)
theorem z_in_ok {k : Int32} (h : z_in k 1 1000 = true) : zok k 1000 := by
  unfold z_in at h
  split at h
  · cases h
  · rename_i h1
    split at h
    · rename_i h2
      have h3 : ¬ k < 0 := fun q => h1 (Int32.lt_trans q (by decide))
      obtain ⟨j, hj, rfl⟩ := nI_of2 (M := 1000) (n := 1000) (by decide) h3 h2
      exact zok_nI hj (by decide)
    · cases h
theorem h_pass_ok {d : HD} {k : Int32} (h : h_ok d) : h_ok (h_pass d k) := by
  unfold h_pass; split
  · exact h_hrs_ok h _
  · exact h
