
/-! THE RELATION: the pad is read. -/
def PA (d : AD) (m : MD) : Prop := a_ok d ∧ m_pok m ∧ a_len d = m_len m ∧ a_at d = m_at m ∧ (∀ i, i < zn32 (a_len d) → m_pad m i = a_sig d i)
theorem PA_on {d d2 : AD} {m m2 : MD} (h : PA d m) (h1 : a_ok d2) (h2 : a_len d2 = a_len d ∧ a_sig d2 = a_sig d) (h3 : m_pok m2) (h4 : m_rdk m m2) (h5 : a_at d2 = m_at m2) : PA d2 m2 := by
  refine ⟨h1, h3, ?_, h5, fun i hi => ?_⟩
  · rw [h2.1, h4.2.2.2.2.2.1]; exact h.2.2.1
  · rw [h2.1] at hi
    rw [h2.2, h4.2.2.2.2.1]; exact h.2.2.2.2 i hi
theorem PA_here {d : AD} {m : MD} (h : PA d m) : m_code m = a_here d := by
  unfold m_code a_here
  rw [h.2.2.1, h.2.2.2.1]
  by_cases g : m_at m < m_len m
  · rw [if_pos g, if_pos g]
    exact h.2.2.2.2 _ (by rw [h.2.2.1]; exact (m_code_in h.2.1 g).2)
  · rw [if_neg g, if_neg g]
theorem PA_adv {d : AD} {m : MD} (h : PA d m) (hc : ¬ m_code m = 0) : PA (a_adv d) (m_adv m) ∧ zn32 (m_at m) < zn32 (m_at (m_adv m)) := by
  have k := m_adv_ok h.2.1 hc
  have k2 := a_adv_ok h.1 (by rw [← PA_here h]; exact hc)
  refine ⟨PA_on h k2 ⟨rfl, rfl⟩ k.1 k.2.1.1 ?_, k.2.2⟩
  show a_at d + 1 = m_at m + 1
  rw [h.2.2.2.1]
theorem pr_sign {d : AD} {m : MD} {c : Int32} (h : PA d m) (hc : ¬ c = 0) : (a_sign d c).1 = (m_reads m c).1 ∧ PA (a_sign d c).2 (m_reads m c).2 ∧ a_same d (a_sign d c).2 ∧ m_num (m_reads m c).2 = m_num m := by
  have k := (a_sign_ok h.1 hc).2
  have e := PA_here h
  unfold a_sign at k ⊢
  unfold m_reads
  rw [e]
  by_cases g : a_here d = c
  · rw [if_pos g] at k ⊢
    rw [if_pos g]
    exact ⟨rfl, (PA_adv h (by rw [e, g]; exact hc)).1, k, rfl⟩
  · rw [if_neg g] at k ⊢
    rw [if_neg g]; exact ⟨rfl, h, k, rfl⟩
theorem q_dig {c : Int32} {k : Nat} (hk : k < 100) : z_inl c.toInt64 48 (48 + nI k : Int32).toInt64 = z_in c 48 (48 + nI k) := z_in_l c 48 (48 + nI k)
/-- a value is read: what both sides have then -/
def VAL (d : AD) (m : MD) (A : Int32 × AD) (M : Bool × MD) : Prop := PA A.2 M.2 ∧ a_same d A.2 ∧ m_rdk m M.2 ∧ (M.1 = false → A.1 < 0) ∧
  (M.1 = true → (∃ w, w < 10000 ∧ A.1 = nI w ∧ m_num M.2 = upd (m_num m) (zn32 (m_nm m)) (nI w)) ∧ m_nm M.2 = m_nm m + 1 ∧ zn32 (m_at m) < zn32 (m_at M.2))
theorem pr_digit {d : AD} {m : MD} {k : Nat} (hk : k < 10) (h : PA d m) : VAL d m (a_digit d (nI (48 + k))) (m_rdig m (nI k)) := by
  have e := PA_here h
  have e48 : (48 : Int32) + nI k = nI (48 + k) := nI_add 48 k
  have hs := (a_digit_ok (m := nI (48 + k)) h.1).2
  unfold a_digit at hs ⊢
  unfold m_rdig
  rw [q_dig (by omega), e, e48]
  unfold z_in
  by_cases g1 : a_here d < 48
  · rw [if_pos g1] at hs ⊢
    rw [if_pos g1, if_neg Bool.false_ne_true]
    exact ⟨h, hs, m_rdk.rf m, fun _ => (by decide : (-1 : Int32) < 0), fun z => (by cases z)⟩
  · rw [if_neg g1] at hs ⊢
    rw [if_neg g1]
    by_cases g2 : a_here d ≤ nI (48 + k)
    · rw [if_pos g2] at hs ⊢
      rw [if_pos g2, if_pos rfl]
      have hz : z_inl (m_code m).toInt64 (lN 48) (lN (48 + k)) = true := by
        rw [e, show lN 48 = (nI 48).toInt64 from rfl, ← nI_l (n := 48 + k) (by omega)]
        rw [z_in_l]; unfold z_in
        rw [if_neg (show ¬ a_here d < nI 48 from g1), if_pos g2]
      obtain ⟨h0, w, hw, e1, e2⟩ := m_dig_n hz (by omega)
      rw [e] at h0 e1
      have P1 : PA d (m_push m (nI w)) := ⟨h.1, m_push_pok h.2.1, h.2.2.1, h.2.2.2.1, h.2.2.2.2⟩
      rw [e1]
      have A := PA_adv P1 (by rw [m_code_push, e]; exact h0)
      refine ⟨A.1, hs, (m_rdk.push m _).tr (m_rdk.adv _), fun z => (by cases z), fun _ => ⟨⟨w, by omega, rfl, ?_⟩, ?_, ?_⟩⟩
      · rw [m_adv_num, m_push_num]
      · rw [m_adv_nm, m_push_nm]
      · exact A.2
    · rw [if_neg g2] at hs ⊢
      rw [if_neg g2, if_neg Bool.false_ne_true]
      exact ⟨h, hs, m_rdk.rf m, fun _ => (by decide : (-1 : Int32) < 0), fun z => (by cases z)⟩
def aN : Nat → AD → Int32 → Int32 × AD
  | 0 => fun d v => (v, d)
  | j + 1 => a_nl (aN j)
theorem a_num_N (d : AD) : a_num d = aN 3 (a_digit d 57).2 (a_digit d 57).1 := rfl
theorem q_isDig {d : AD} {m : MD} (h : PA d m) : (m_isDig m = true → ∃ w, w ≤ 9 ∧ a_digit d 57 = (nI w, a_adv d) ∧ m_code m = nI (48 + w) ∧ ¬ m_code m = 0) ∧ (¬ m_isDig m = true → a_digit d 57 = (-1, d)) := by
  have e := PA_here h
  have hI : m_isDig m = z_in (a_here d) 48 57 := by unfold m_isDig; rw [e]; exact z_in_l _ 48 57
  refine ⟨fun z => ?_, fun z => ?_⟩
  · obtain ⟨h0, w, hw, e1, e2⟩ := m_dig_n (c := m_code m) (k := 9) z (by decide)
    refine ⟨w, hw, ?_, e2, h0⟩
    rw [hI] at z
    unfold z_in at z
    unfold a_digit
    by_cases g1 : a_here d < 48
    · rw [if_pos g1] at z; cases z
    · rw [if_neg g1] at z ⊢
      by_cases g2 : a_here d ≤ 57
      · rw [if_pos g2, ← e, e1]
      · rw [if_neg g2] at z; cases z
  · rw [hI] at z
    unfold z_in at z
    unfold a_digit
    by_cases g1 : a_here d < 48
    · rw [if_pos g1]
    · rw [if_neg g1] at z ⊢
      by_cases g2 : a_here d ≤ 57
      · rw [if_pos g2] at z; exact absurd rfl z
      · rw [if_neg g2]
theorem pr_nl : ∀ (j : Nat) (d : AD) (m : MD) (n : Nat), j ≤ 3 → PA d m → (n = 0 ∨ 10 ^ (3 - j) ≤ n) → n < 10 ^ (4 - j) →
    PA (aN j d (nI n)).2 (m_rnl (j + 1) (nI n) m).2 ∧ a_same d (aN j d (nI n)).2 ∧ m_rdk m (m_rnl (j + 1) (nI n) m).2 ∧ m_num (m_rnl (j + 1) (nI n) m).2 = m_num m ∧ zn32 (m_at m) ≤ zn32 (m_at (m_rnl (j + 1) (nI n) m).2) ∧ ∃ w, w < 10000 ∧ (aN j d (nI n)).1 = nI w ∧ (m_rnl (j + 1) (nI n) m).1 = nI w
  | 0, d, m, n, _, h, h0, h1 => by
    have e : m_rnl 1 (nI n) m = (nI n, m) := by
      show (if nI n ≤ 0 then (nI n, m) else if nI n < 1000 then (if m_isDig m then m_rnl 0 (10 * nI n + m_code m - 48) (m_adv m) else (nI n, m)) else (nI n, m)) = _
      rcases h0 with z | z
      · rw [z, if_pos (by decide)]
      · rw [if_neg (nI_nle (by omega) (by omega)), if_neg (show ¬ nI n < 1000 from nI_nlt (b := 1000) z (by omega))]
    show PA d (m_rnl 1 (nI n) m).2 ∧ _
    rw [e]
    exact ⟨h, a_same.rf d, m_rdk.rf m, rfl, Nat.le_refl _, n, by omega, rfl, rfl⟩
  | j + 1, d, m, n, hj, h, h0, h1 => by
    have p1 : 10 ^ (4 - (j + 1)) ≤ 1000 := by
      have : 10 ^ (4 - (j + 1)) ≤ 10 ^ 3 := Nat.pow_le_pow_right (by decide) (by omega)
      exact this
    show PA (a_nl (aN j) d (nI n)).2 _ ∧ a_same d (a_nl (aN j) d (nI n)).2 ∧ _ ∧ _ ∧ _ ∧ ∃ w, _ ∧ (a_nl (aN j) d (nI n)).1 = _ ∧ _
    have eM : m_rnl (j + 1 + 1) (nI n) m = (if nI n ≤ 0 then (nI n, m) else if nI n < 1000 then (if m_isDig m then m_rnl (j + 1) (10 * nI n + m_code m - 48) (m_adv m) else (nI n, m)) else (nI n, m)) := rfl
    rw [eM]
    unfold a_nl
    rcases Nat.eq_zero_or_pos n with z | z
    · rw [z, if_pos (by decide), if_pos (by decide)]
      exact ⟨h, a_same.rf d, m_rdk.rf m, rfl, Nat.le_refl _, 0, by decide, rfl, rfl⟩
    · rw [if_neg (nI_nle z (by omega)), if_neg (nI_nle z (by omega)), if_pos (show nI n < 1000 from nI_lt (b := 1000) (by omega) (by decide))]
      have Q := q_isDig h
      by_cases g : m_isDig m = true
      · obtain ⟨w, hw, e1, e2, h00⟩ := Q.1 g
        rw [if_pos g, e1, if_neg (nI_pos (by omega))]
        have e3 : 10 * nI n + m_code m - 48 = nI (10 * n + w) := by
          rw [e2, show (10 : Int32) = nI 10 from rfl, show (48 : Int32) = nI 48 from rfl, pk_mul, nI_add, pk_sub (by omega)]
          congr 1; omega
        have e4 : nI n * 10 + nI w = nI (10 * n + w) := by
          rw [show (10 : Int32) = nI 10 from rfl, pk_mul, nI_add, Nat.mul_comm]
        rw [e3, e4]
        have A := PA_adv h h00
        have hn0 : 10 ^ (3 - (j + 1)) ≤ n := h0.elim (fun y => by omega) id
        have p3 : 10 ^ (3 - j) = 10 * 10 ^ (3 - (j + 1)) := by rw [show 3 - j = (3 - (j + 1)) + 1 by omega, Nat.pow_succ, Nat.mul_comm]
        have p4 : 10 ^ (4 - j) = 10 * 10 ^ (4 - (j + 1)) := by rw [show 4 - j = (4 - (j + 1)) + 1 by omega, Nat.pow_succ, Nat.mul_comm]
        have ih := pr_nl j (a_adv d) (m_adv m) (10 * n + w) (by omega) A.1 (Or.inr (by omega)) (by omega)
        exact ⟨ih.1, a_same.tr (show a_same d (a_adv d) from a_adv_k d) ih.2.1, (m_rdk.adv m).tr ih.2.2.1, ih.2.2.2.1, by have := A.2; have := ih.2.2.2.2.1; omega, ih.2.2.2.2.2⟩
      · rw [if_neg g, Q.2 g, if_pos (show (-1 : Int32) < 0 by decide)]
        exact ⟨h, a_same.rf d, m_rdk.rf m, rfl, Nat.le_refl _, n, by omega, rfl, rfl⟩
theorem pr_num {d : AD} {m : MD} (h : PA d m) : VAL d m (a_num d) (m_rnum m) := by
  have Q := q_isDig h
  rw [a_num_N]
  unfold m_rnum
  by_cases g : m_isDig m = true
  · obtain ⟨w, hw, e1, e2, h00⟩ := Q.1 g
    have e3 : m_code m - 48 = nI w := by
      rw [e2, show (48 : Int32) = nI 48 from rfl, pk_sub (by omega)]; congr 1; omega
    rw [if_pos g, e1, e3]
    have A := PA_adv h h00
    have K := pr_nl 3 (a_adv d) (m_adv m) w (by decide) A.1 (by omega) (by omega)
    obtain ⟨k1, k2, k3, k4, k5, v, hv, k6, k7⟩ := K
    have hnm := (m_rnl_ok 4 (nI w) (m_adv m) A.1.2.1).2.2
    show VAL d m (aN 3 (a_adv d) (nI w)) (true, m_push (m_rnl 4 (nI w) (m_adv m)).2 (m_rnl 4 (nI w) (m_adv m)).1)
    generalize m_rnl 4 (nI w) (m_adv m) = R at k1 k3 k4 k5 k7 hnm ⊢
    refine ⟨⟨k1.1, m_push_pok k1.2.1, k1.2.2.1, k1.2.2.2.1, k1.2.2.2.2⟩, a_same.tr (show a_same d (a_adv d) from a_adv_k d) k2, ((m_rdk.adv m).tr k3).tr (m_rdk.push R.2 _), fun z => (by cases z), fun _ => ⟨⟨v, hv, k6, ?_⟩, ?_, ?_⟩⟩
    · show m_num (m_push R.2 R.1) = _
      rw [m_push_num, hnm, k4, k7, m_adv_num, m_adv_nm]
    · show m_nm (m_push R.2 R.1) = _
      rw [m_push_nm, hnm, m_adv_nm]
    · show _ < zn32 (m_at (m_push R.2 R.1))
      rw [m_push_at]
      have := A.2; omega
  · rw [if_neg g, Q.2 g]
    exact ⟨h, a_same.rf d, m_rdk.rf m, fun _ => (by decide : (-1 : Int32) < 0), fun z => (by cases z)⟩
def corr (c t : Int32) : Bool := (c == 115 && t == 1) || (c == 100 && t == 2) || (c == 110 && t == 3)
def corS (c t : Int32) : Bool := c == t && !(c == 0) && !(c == 1) && !(c == 2) && !(c == 3) && !(c == 33) && !(c == 100) && !(c == 110) && !(c == 115)
theorem pr_val {d : AD} {m : MD} {c t : Int32} (h : PA d m) (hc : corr c t = true) : VAL d m (a_part d c) (m_rpart m t) ∧ a_isv c = true := by
  unfold corr at hc
  simp only [Bool.or_eq_true, Bool.and_eq_true, beq_iff_eq] at hc
  rcases hc with (⟨rfl, rfl⟩ | ⟨rfl, rfl⟩) | ⟨rfl, rfl⟩
  · have e1 : a_part d 115 = a_digit d 55 := by
      unfold a_part
      rw [if_neg (show ¬ (115 : Int32) = 33 by decide), if_neg (show ¬ (115 : Int32) = 100 by decide), if_neg (show ¬ (115 : Int32) = 110 by decide), if_pos rfl]
    have e2 : m_rpart m 1 = m_rdig m 7 := by unfold m_rpart; rw [if_pos rfl]
    rw [e1, e2]
    exact ⟨pr_digit (k := 7) (by decide) h, by decide⟩
  · have e1 : a_part d 100 = a_digit d 57 := by
      unfold a_part
      rw [if_neg (show ¬ (100 : Int32) = 33 by decide), if_pos rfl]
    have e2 : m_rpart m 2 = m_rdig m 9 := by unfold m_rpart; rw [if_neg (show ¬ (2 : Int32) = 1 by decide), if_pos rfl]
    rw [e1, e2]
    exact ⟨pr_digit (k := 9) (by decide) h, by decide⟩
  · have e1 : a_part d 110 = a_num d := by
      unfold a_part
      rw [if_neg (show ¬ (110 : Int32) = 33 by decide), if_neg (show ¬ (110 : Int32) = 100 by decide), if_pos rfl]
    have e2 : m_rpart m 3 = m_rnum m := by unfold m_rpart; rw [if_neg (show ¬ (3 : Int32) = 1 by decide), if_neg (show ¬ (3 : Int32) = 2 by decide), if_pos rfl]
    rw [e1, e2]
    exact ⟨pr_num h, by decide⟩
theorem pr_sgn {d : AD} {m : MD} {c t : Int32} (h : PA d m) (hc : corS c t = true) : a_isv c = false ∧ PA (a_part d c).2 (m_rpart m t).2 ∧ a_same d (a_part d c).2 ∧ m_rdk m (m_rpart m t).2 ∧ ((m_rpart m t).1 = false → (a_part d c).1 < 0) ∧
    ((m_rpart m t).1 = true → ¬ (a_part d c).1 < 0 ∧ m_num (m_rpart m t).2 = m_num m ∧ m_nm (m_rpart m t).2 = m_nm m ∧ zn32 (m_at m) < zn32 (m_at (m_rpart m t).2)) := by
  unfold corS at hc
  simp only [Bool.and_eq_true, beq_iff_eq, Bool.not_eq_true', beq_eq_false_iff_ne, ne_eq] at hc
  obtain ⟨⟨⟨⟨⟨⟨⟨⟨rfl, n0⟩, n1⟩, n2⟩, n3⟩, n33⟩, n100⟩, n110⟩, n115⟩ := hc
  have S := pr_sign h n0
  have R := m_reads_ok h.2.1 n0
  unfold a_isv a_part m_rpart
  rw [if_neg n115, if_neg n100, if_neg n110, if_neg n33, if_neg n33, if_neg n100, if_neg n110, if_neg n115, if_neg n1, if_neg n2, if_neg n3, if_neg n0, S.1]
  by_cases g : (m_reads m c).1 = true
  · rw [if_pos g, if_pos g]
    exact ⟨rfl, S.2.1, S.2.2.1, R.2.1.1, fun z => (by cases z), fun _ => ⟨(by decide : ¬ (0 : Int32) < 0), S.2.2.2, R.2.2.1, R.2.2.2 g⟩⟩
  · rw [if_neg g, if_neg g]
    exact ⟨rfl, S.2.1, S.2.2.1, R.2.1.1, fun _ => (by decide : (-1 : Int32) < 0), fun z => (by cases z)⟩
def qL (j : Nat) : Nat := ([5, 3, 7, 7, 1, 1] : List Nat).getD j 0
def qSh (j : Nat) : Nat := ([0, 1, 2, 3, 4, 4] : List Nat).getD j 0
def qCh (j : Nat) : Int32 := ([111, 114, 108, 112, 120, 104] : List Int32).getD j 0
theorem q_parts : ∀ j, j < 6 → ∀ k, k < qL j → (corr (zsC (qSh j) k) (m_fpart j k) = true ∧ m_fcnt j (k + 1) = m_fcnt j k + 1 ∧ m_fcnt j k < 4) ∨ (corS (zsC (qSh j) k) (m_fpart j k) = true ∧ m_fcnt j (k + 1) = m_fcnt j k) := by decide +kernel
theorem q_zero : ∀ j, j < 6 → ∀ k, k < 7 → qL j ≤ k → m_fpart j k = 0 := by decide +kernel
theorem q_cntL : ∀ j, j < 6 → m_fcnt j (qL j) = (if j = 1 then 2 else m_fcnt j 7) ∧ m_fcnt j (qL j) ≤ 4 ∧ qL j ≤ 7 ∧ zSlen.getD (qSh j) 0 = qL j + (if j = 1 then 1 else 0) ∧ 1 ≤ qL j ∧ ¬ qSh j = 5 := by decide +kernel
/-- the values of the order o that have been read -/
def PVs (o : Nat) (d : AD) (m : MD) (p : Nat) : Prop := m_nm m = nI p ∧ ∀ q, q < p → a_val d (4 * o + q) = m_num m q
def a_keep (o : Nat) (d e : AD) : Prop := a_len e = a_len d ∧ a_sig e = a_sig d ∧ a_kin e = a_kin d ∧ a_ord e = a_ord d ∧ (∀ q, q < 4 * o ∨ 4 * o + 4 ≤ q → a_val e q = a_val d q)
theorem a_keep.rf (o : Nat) (d : AD) : a_keep o d d := ⟨rfl, rfl, rfl, rfl, fun _ _ => rfl⟩
theorem a_keep.tr {o : Nat} {a b c : AD} (h : a_keep o a b) (k : a_keep o b c) : a_keep o a c := ⟨k.1.trans h.1, k.2.1.trans h.2.1, k.2.2.1.trans h.2.2.1, k.2.2.2.1.trans h.2.2.2.1, fun q hq => (k.2.2.2.2 q hq).trans (h.2.2.2.2 q hq)⟩
theorem a_same.keep {o : Nat} {d e : AD} (h : a_same d e) : a_keep o d e := ⟨h.1, h.2.1, h.2.2.1, h.2.2.2.1, fun q _ => by rw [h.2.2.2.2]⟩
theorem a_store_f {d : AD} {o p : Nat} {v : Int32} (ho : a_ord d = nI o) (ho2 : o ≤ 27) (hp : p < 4) : a_keep o d (a_store d p v) ∧ a_at (a_store d p v) = a_at d ∧ a_val (a_store d p v) = upd (a_val d) (4 * o + p) v ∧ (a_ok d → a_ok (a_store d p v)) := by
  have e : zn32 (a_ord d * 4 + nI p) = 4 * o + p := by
    rw [ho, show (4 : Int32) = nI 4 from rfl, pk_mul, nI_add, zn_nI (by omega)]; omega
  have ev : a_val (a_store d p v) = upd (a_val d) (zn32 (a_ord d * 4 + nI p)) v := rfl
  rw [e] at ev
  refine ⟨⟨rfl, rfl, rfl, rfl, fun q hq => ?_⟩, rfl, ev, fun h => h⟩
  rw [ev, pk_un (by omega)]
theorem rl_rel {j o : Nat} (hj : j < 6) (ho2 : o ≤ 27) : ∀ (n k : Nat) (d : AD) (m : MD), k + n = qL j → PA d m → a_ord d = nI o → PVs o d m (m_fcnt j k) → ∀ x y : Nat,
    (∃ d2 m2, a_rl (qSh j) (n + x) k (m_fcnt j k) d = a_rl (qSh j) x (qL j) (m_fcnt j (qL j)) d2 ∧ m_rol (nI j) (n + y) k true m = m_rol (nI j) y (qL j) true m2 ∧ PA d2 m2 ∧ PVs o d2 m2 (m_fcnt j (qL j)) ∧ a_keep o d d2 ∧ m_rdk m m2 ∧ zn32 (m_at m) + n ≤ zn32 (m_at m2)) ∨
    ((a_rl (qSh j) (n + x) k (m_fcnt j k) d).1 = false ∧ (m_rol (nI j) (n + y) k true m).1 = false ∧ PA (a_rl (qSh j) (n + x) k (m_fcnt j k) d).2 (m_rol (nI j) (n + y) k true m).2 ∧ a_keep o d (a_rl (qSh j) (n + x) k (m_fcnt j k) d).2 ∧ m_rdk m (m_rol (nI j) (n + y) k true m).2)
  | 0, k, d, m, hk, h, ho, hv, x, y => by
    have : k = qL j := by omega
    subst this
    rw [Nat.zero_add, Nat.zero_add]
    exact Or.inl ⟨d, m, rfl, rfl, h, hv, a_keep.rf o d, m_rdk.rf m, by omega⟩
  | n + 1, k, d, m, hk, h, ho, hv, x, y => by
    have h7 := (q_cntL j hj).2.2.1
    have eA : ∀ p, a_rl (qSh j) (n + 1 + x) k p d = (if (a_part d (zsC (qSh j) k)).1 < 0 then (false, (a_part d (zsC (qSh j) k)).2) else if a_isv (zsC (qSh j) k) then (if nI p < 4 then a_rl (qSh j) (n + x) (k + 1) (p + 1) (a_store (a_part d (zsC (qSh j) k)).2 p (a_part d (zsC (qSh j) k)).1) else a_rl (qSh j) (n + x) (k + 1) p (a_part d (zsC (qSh j) k)).2) else a_rl (qSh j) (n + x) (k + 1) p (a_part d (zsC (qSh j) k)).2) := by
      intro p; rw [show n + 1 + x = (n + x) + 1 by omega]; rfl
    have eM : m_rol (nI j) (n + 1 + y) k true m = m_rol (nI j) (n + y) (k + 1) (m_rpart m (m_fpart j k)).1 (m_rpart m (m_fpart j k)).2 := by
      rw [show n + 1 + y = (n + y) + 1 by omega, m_rol, if_pos rfl, (m_ix7 hj (show k < 7 by omega)).2]; rfl
    rw [eA, eM]
    rcases q_parts j hj k (by omega) with ⟨hc, hcnt, hlt⟩ | ⟨hc, hcnt⟩
    · obtain ⟨⟨v1, v2, v3, v4, v5⟩, v6⟩ := pr_val h hc
      by_cases g : (m_rpart m (m_fpart j k)).1 = true
      · obtain ⟨⟨w, hw, w1, w2⟩, w3, w4⟩ := v5 g
        rw [w1, if_neg (nI_pos (by omega)), if_pos v6, if_pos (show nI (m_fcnt j k) < 4 from nI_lt (b := 4) hlt (by decide)), g]
        generalize a_part d (zsC (qSh j) k) = A at v1 v2 w1 ⊢
        generalize m_rpart m (m_fpart j k) = M at v1 v3 w2 w3 w4 ⊢
        have ho3 : a_ord A.2 = nI o := v2.2.2.2.1.trans ho
        obtain ⟨s1, s2, s3, s4⟩ := a_store_f (v := nI w) ho3 ho2 hlt
        have hP : PA (a_store A.2 (m_fcnt j k) (nI w)) M.2 := ⟨s4 v1.1, v1.2.1, s1.1.trans v1.2.2.1, s2.trans v1.2.2.2.1, fun i hi => by rw [s1.2.1]; exact v1.2.2.2.2 i (by rw [← s1.1]; exact hi)⟩
        have hcz : zn32 (m_nm m) = m_fcnt j k := by rw [hv.1]; exact zn_nI (by omega)
        have hV : PVs o (a_store A.2 (m_fcnt j k) (nI w)) M.2 (m_fcnt j (k + 1)) := by
          rw [hcnt]
          refine ⟨by rw [w3, hv.1]; exact nI_1 _, fun q hq => ?_⟩
          rw [s3, w2, hcz]
          by_cases e : q = m_fcnt j k
          · subst e; rw [pk_us, pk_us]
          · rw [pk_un (by omega), pk_un e, v2.2.2.2.2]; exact hv.2 q (by omega)
        have ih := rl_rel hj ho2 n (k + 1) _ M.2 (by omega) hP (s1.2.2.2.1.trans ho3) hV x y
        rw [hcnt] at ih
        have K1 := (v2.keep (o := o)).tr s1
        rcases ih with ⟨d2, m2, i1, i2, i3, i4, i5, i6, i7⟩ | ⟨i1, i2, i3, i4, i5⟩
        · exact Or.inl ⟨d2, m2, i1, i2, i3, i4, K1.tr i5, v3.tr i6, by omega⟩
        · exact Or.inr ⟨i1, i2, i3, K1.tr i4, v3.tr i5⟩
      · have gf := Bool.eq_false_iff.mpr g
        have hn := v4 gf
        rw [if_pos hn, gf, m_rol_f]
        exact Or.inr ⟨rfl, rfl, v1, v2.keep, v3⟩
    · obtain ⟨v6, v1, v2, v3, v4, v5⟩ := pr_sgn h hc
      by_cases g : (m_rpart m (m_fpart j k)).1 = true
      · obtain ⟨w1, w2, w3, w4⟩ := v5 g
        rw [if_neg w1, v6, if_neg Bool.false_ne_true, g]
        generalize a_part d (zsC (qSh j) k) = A at v1 v2 w1 ⊢
        generalize m_rpart m (m_fpart j k) = M at v1 v3 w2 w3 w4 ⊢
        have hV : PVs o A.2 M.2 (m_fcnt j (k + 1)) := by
          rw [hcnt]
          refine ⟨w3.trans hv.1, fun q hq => ?_⟩
          rw [v2.2.2.2.2, w2]; exact hv.2 q hq
        have ih := rl_rel hj ho2 n (k + 1) _ M.2 (by omega) v1 (v2.2.2.2.1.trans ho) hV x y
        rw [hcnt] at ih
        rcases ih with ⟨d2, m2, i1, i2, i3, i4, i5, i6, i7⟩ | ⟨i1, i2, i3, i4, i5⟩
        · exact Or.inl ⟨d2, m2, i1, i2, i3, i4, v2.keep.tr i5, v3.tr i6, by omega⟩
        · exact Or.inr ⟨i1, i2, i3, v2.keep.tr i4, v3.tr i5⟩
      · have gf := Bool.eq_false_iff.mpr g
        have hn := v4 gf
        rw [if_pos hn, gf, m_rol_f]
        exact Or.inr ⟨rfl, rfl, v1, v2.keep, v3⟩
theorem m_rol_z {j : Nat} (hj : j < 6) : ∀ (y k : Nat) (m : MD), k + y = 7 → qL j ≤ k → m_rol (nI j) y k true m = (true, m)
  | 0, _, _, _, _ => rfl
  | y + 1, k, m, hk, hl => by
    have e : m_forms (7 * j + k) = 0 := q_zero j hj k (by omega) hl
    have e2 : m_rpart m 0 = (true, m) := rfl
    rw [m_rol, if_pos rfl, (m_ix7 hj (show k < 7 by omega)).2, e, e2]
    exact m_rol_z hj y (k + 1) m (by omega) (by omega)
theorem q_shape (c : Int32) : (a_shape c = 5 ∧ m_ord c = -6) ∨ ∃ j, j < 6 ∧ c = qCh j ∧ a_shape c = qSh j ∧ m_ord c = nI j := by
  by_cases g0 : c = 111
  · exact Or.inr ⟨0, by decide, g0, by rw [g0]; decide, by rw [g0]; decide⟩
  · by_cases g1 : c = 114
    · exact Or.inr ⟨1, by decide, g1, by rw [g1]; decide, by rw [g1]; decide⟩
    · by_cases g2 : c = 108
      · exact Or.inr ⟨2, by decide, g2, by rw [g2]; decide, by rw [g2]; decide⟩
      · by_cases g3 : c = 112
        · exact Or.inr ⟨3, by decide, g3, by rw [g3]; decide, by rw [g3]; decide⟩
        · by_cases g4 : c = 120
          · exact Or.inr ⟨4, by decide, g4, by rw [g4]; decide, by rw [g4]; decide⟩
          · by_cases g5 : c = 104
            · exact Or.inr ⟨5, by decide, g5, by rw [g5]; decide, by rw [g5]; decide⟩
            · left
              unfold a_shape m_ord
              rw [if_neg g5, if_neg g2, if_neg g0, if_neg g3, if_neg g1, if_neg g4, if_neg g0, if_neg g1, if_neg g2, if_neg g3, if_neg g4, if_neg g5]
              exact ⟨rfl, rfl⟩
def qN (j : Nat) : Nat := ([3, 3, 4, 4, 1, 1] : List Nat).getD j 0
theorem q_N : ∀ j, j < 6 → qN j = (if j = 1 then 3 else m_fcnt j (qL j)) := by decide +kernel
/-- an order is read -/
def a_kp (o : Nat) (d e : AD) : Prop := a_len e = a_len d ∧ a_sig e = a_sig d ∧ a_ord e = a_ord d ∧ (∀ q, ¬ q = o → a_kin e q = a_kin d q) ∧ (∀ q, q < 4 * o ∨ 4 * o + 4 ≤ q → a_val e q = a_val d q)
theorem ord_rel {d : AD} {m : MD} {o : Nat} (h : PA d m) (ho : a_ord d = nI o) (ho2 : o ≤ 26) : PA (a_order d).2 (m_ro m).2 ∧ a_kp o d (a_order d).2 ∧ m_rdk m (m_ro m).2 ∧
    (((a_order d).1 = false ∧ (m_ro m).1 = -6) ∨ ((a_order d).1 = true ∧ ∃ j, j < 6 ∧ (m_ro m).1 = nI j ∧ a_kin (a_order d).2 o = qCh j ∧ PVs o (a_order d).2 (m_ro m).2 (qN j) ∧ zn32 (m_at m) + 2 ≤ zn32 (m_at (m_ro m).2))) := by
  have e := PA_here h
  have hc := q_shape (a_here d)
  unfold a_order
  rcases hc with ⟨c1, c2⟩ | ⟨j, hj, c1, c2, c3⟩
  · rw [if_pos (decide_eq_true c1), m_ro_6 (by rw [e]; exact c2)]
    have e2 : m_ro1 m (-6) = m_snm m 0 := rfl
    rw [e2]
    exact ⟨⟨h.1, h.2.1, h.2.2.1, h.2.2.2.1, h.2.2.2.2⟩, ⟨rfl, rfl, rfl, fun _ _ => rfl, fun _ _ => rfl⟩, m_rdk.snm m 0, Or.inl ⟨rfl, rfl⟩⟩
  · obtain ⟨z1, z2, z3, z4, z5, z6⟩ := q_cntL j hj
    have hne : ¬ a_shape (a_here d) = 5 := by rw [c2]; exact z6
    have hkd : m_ord (m_code m) = nI j := by rw [e]; exact c3
    have hn6 : ¬ m_ord (m_code m) = -6 := by rw [hkd]; exact nI_ne6 (by omega)
    have h0 := (m_ord_6 hn6).1
    rw [if_neg (by rw [decide_eq_true_iff]; exact hne), m_ro_j hkd hn6, c2, z4]
    have e1 : m_ro1 m (nI j) = m_snm (m_adv m) 0 := if_neg (nI_ne6 (by omega))
    rw [e1]
    have A := PA_adv h h0
    have hk1 : PA (a_kind d) (m_snm (m_adv m) 0) := ⟨a_kind_ok h.1 (by rw [← e]; exact h0), A.1.2.1, A.1.2.2.1, A.1.2.2.2.1, A.1.2.2.2.2⟩
    have F : a_len (a_kind d) = a_len d ∧ a_sig (a_kind d) = a_sig d ∧ a_ord (a_kind d) = a_ord d ∧ a_kin (a_kind d) = upd (a_kin d) (zn32 (a_ord d)) (a_here d) ∧ a_val (a_kind d) = a_val d := ⟨rfl, rfl, rfl, rfl, rfl⟩
    have G : m_nm (m_snm (m_adv m) 0) = 0 ∧ m_rdk m (m_snm (m_adv m) 0) ∧ m_at (m_snm (m_adv m) 0) = m_at (m_adv m) := ⟨rfl, (m_rdk.adv m).tr (m_rdk.snm _ 0), rfl⟩
    generalize a_kind d = d1 at hk1 F ⊢
    generalize m_snm (m_adv m) 0 = m1 at hk1 G ⊢
    obtain ⟨f1, f2, f3, f4, f5⟩ := F
    obtain ⟨g1, g2, g3⟩ := G
    have hz : zn32 (a_ord d) = o := by rw [ho]; exact zn_nI (by omega)
    have hcnt0 : m_fcnt j 0 = 0 := rfl
    have R := rl_rel hj (show o ≤ 27 by omega) (qL j) 0 d1 m1 (by omega) hk1 (f3.trans ho) ⟨by rw [g1]; rfl, fun q hq => absurd hq (Nat.not_lt_zero _)⟩ (if j = 1 then 1 else 0) (7 - qL j)
    rw [hcnt0, show qL j + (7 - qL j) = 7 by omega] at R
    have KP : ∀ d2, a_keep o d1 d2 → a_kp o d d2 := fun d2 k => ⟨k.1.trans f1, k.2.1.trans f2, k.2.2.2.1.trans f3, fun q hq => by rw [k.2.2.1, f4, hz]; exact pk_un hq, fun q hq => by rw [k.2.2.2.2 q hq, f5]⟩
    have KN : ∀ d2, a_keep o d1 d2 → a_kin d2 o = qCh j := fun d2 k => by rw [k.2.2.1, f4, hz, pk_us]; exact c1
    rcases R with ⟨d2, m2, i1, i2, i3, i4, i5, i6, i7⟩ | ⟨i1, i2, i3, i4, i5⟩
    · rw [i1, i2, m_rol_z hj (7 - qL j) (qL j) m2 (by omega) (Nat.le_refl _)]
      have hat : zn32 (m_at m) + 2 ≤ zn32 (m_at m2) := by have := A.2; rw [← g3] at this; omega
      by_cases gj : j = 1
      · subst gj
        rw [if_pos rfl]
        have S := pr_sign (c := 33) i3 (by decide)
        have R2 := m_reads_ok (c := 33) i3.2.1 (by decide)
        have e33 : zsC (qSh 1) (qL 1) = 33 := by decide
        have eA : a_rl (qSh 1) 1 (qL 1) (m_fcnt 1 (qL 1)) d2 = (if (a_part d2 33).1 < 0 then (false, (a_part d2 33).2) else if a_isv 33 then (if nI (m_fcnt 1 (qL 1)) < 4 then (true, a_store (a_part d2 33).2 (m_fcnt 1 (qL 1)) (a_part d2 33).1) else (true, (a_part d2 33).2)) else (true, (a_part d2 33).2)) := by
          rw [← e33]; rfl
        have e2 : m_fcnt 1 (qL 1) = 2 := by decide
        have eP : a_part d2 33 = (zB (m_reads m2 33).1, (a_sign d2 33).2) := by
          unfold a_part
          rw [if_pos rfl, S.1]
          cases (m_reads m2 33).1 <;> rfl
        have eX : m_rox (nI 1) (true, m2) = (nI 1, m_push (m_reads m2 33).2 (zB (m_reads m2 33).1)) := rfl
        rw [eA, eP, eX, e2]
        have hnn : ¬ zB (m_reads m2 33).1 < 0 := by cases (m_reads m2 33).1 <;> decide
        rw [if_neg hnn, if_pos (by decide), if_pos (by decide)]
        rw [e2] at i4
        have ho3 : a_ord (a_sign d2 33).2 = nI o := S.2.2.1.2.2.2.1.trans (i5.2.2.2.1.trans (f3.trans ho))
        obtain ⟨s1, s2, s3, s4⟩ := a_store_f (p := 2) (v := zB (m_reads m2 33).1) ho3 (show o ≤ 27 by omega) (by decide)
        have kk : a_keep o d1 (a_store (a_sign d2 33).2 2 (zB (m_reads m2 33).1)) := (i5.tr S.2.2.1.keep).tr s1
        have S2 := S.2.1
        have Snum := S.2.2.2
        have Sval := S.2.2.1.2.2.2.2
        generalize m_reads m2 33 = M at S2 R2 Snum s1 s2 s3 s4 kk ⊢
        generalize (a_sign d2 33).2 = A2 at S2 Sval s1 s2 s3 s4 kk ⊢
        refine ⟨⟨s4 S2.1, m_push_pok S2.2.1, s1.1.trans S2.2.2.1, s2.trans S2.2.2.2.1, fun i hi => by rw [s1.2.1]; exact S2.2.2.2.2 i (by rw [← s1.1]; exact hi)⟩, KP _ kk, ((g2.tr i6).tr R2.2.1.1).tr (m_rdk.push M.2 _), Or.inr ⟨rfl, 1, by decide, rfl, KN _ kk, ⟨?_, fun q hq => ?_⟩, ?_⟩⟩
        · show m_nm (m_push M.2 (zB M.1)) = nI 3
          rw [m_push_nm, R2.2.2.1, i4.1]; rfl
        · show a_val _ _ = m_num (m_push M.2 (zB M.1)) q
          have hq3 : q < 3 := hq
          rw [s3, m_push_num, R2.2.2.1, i4.1, Snum, show zn32 (nI 2) = 2 by decide]
          by_cases e5 : q = 2
          · subst e5; rw [pk_us, pk_us]
          · rw [pk_un (by omega), pk_un e5, Sval]; exact i4.2 q (by omega)
        · show _ ≤ zn32 (m_at (m_push M.2 (zB M.1)))
          rw [m_push_at]; have := R2.2.1.2; omega
      · rw [if_neg gj]
        have eA : a_rl (qSh j) 0 (qL j) (m_fcnt j (qL j)) d2 = (true, d2) := rfl
        have eX : m_rox (nI j) (true, m2) = (nI j, m2) := by
          unfold m_rox
          rw [if_pos rfl, if_neg (show ¬ nI j = 1 from fun z => gj ((nI_eq (b := 1) (by omega) (by decide)).mp z))]
        rw [eA, eX]
        have eN := q_N j hj
        rw [if_neg gj] at eN
        exact ⟨i3, KP _ i5, g2.tr i6, Or.inr ⟨rfl, j, hj, rfl, KN _ i5, by rw [eN]; exact i4, hat⟩⟩
    · have eX : m_rox (nI j) (m_rol (nI j) 7 0 true m1) = (-6, (m_rol (nI j) 7 0 true m1).2) := by
        unfold m_rox; rw [i2, if_neg Bool.false_ne_true]
      rw [eX]
      exact ⟨i3, KP _ i4, g2.tr i5, Or.inl ⟨i1, rfl⟩⟩
