
/-! THE RELATION: the fault; orders carried out. -/
def m_ff (f : Nat) (m : MD) : Int32 × MD := if (m_ro m).1 = -6 then (m_at (m_ro m).2, (m_ro m).2) else if (m_fl f (m_ro m).2).1 then (-6, (m_fl f (m_ro m).2).2) else (m_at (m_fl f (m_ro m).2).2, (m_fl f (m_ro m).2).2)
theorem m_fault_ff (m : MD) : m_fault m = m_ff 81 (m_sat m 0) := rfl
def CH (fin : AD) : Nat → Nat → AD → Prop
  | 0, _, _ => False
  | N + 1, o, d => a_ord d = nI o ∧ (a_order d).1 = true ∧ a_kin fin o = a_kin (a_order d).2 o ∧ (∀ q, q < 4 → a_val fin (4 * o + q) = a_val (a_order d).2 (4 * o + q)) ∧
    ((N = 0 ∧ ¬ a_at (a_order d).2 < a_len (a_order d).2) ∨ ((a_sign (a_next (a_order d).2) 59).1 = true ∧ CH fin N (o + 1) (a_sign (a_next (a_order d).2) 59).2))
theorem a_next_f (d : AD) : a_ord (a_next d) = a_ord d + 1 ∧ a_len (a_next d) = a_len d ∧ a_sig (a_next d) = a_sig d ∧ a_kin (a_next d) = a_kin d ∧ a_val (a_next d) = a_val d ∧ a_at (a_next d) = a_at d := ⟨rfl, rfl, rfl, rfl, rfl, rfl⟩
theorem oloop_rel : ∀ (k o f : Nat) (d : AD) (m : MD), o + k = 27 → k ≤ f → PA d m → a_ord d = nI o → 3 * o ≤ zn32 (m_at m) →
    (a_oloop k d).1 = (m_ff f m).1 ∧ PA (a_oloop k d).2 (m_ff f m).2 ∧ m_rdk m (m_ff f m).2 ∧ (a_len (a_oloop k d).2 = a_len d ∧ a_sig (a_oloop k d).2 = a_sig d) ∧ (∀ q, q < o → a_kin (a_oloop k d).2 q = a_kin d q) ∧ (∀ q, q < 4 * o → a_val (a_oloop k d).2 q = a_val d q) ∧
    ((a_oloop k d).1 = -6 → ∃ N, N ≤ k ∧ CH (a_oloop k d).2 N o d ∧ a_ord (a_oloop k d).2 = nI (o + N))
  | 0, o, f, d, m, ho, _, h, _, h3 => by
    have h1 := h.2.1.1.2; have h2 := h.2.1.2.2
    omega
  | k + 1, o, f, d, m, ho, hf, h, hod, h3 => by
    obtain ⟨f, rfl⟩ : ∃ g, f = g + 1 := ⟨f - 1, by omega⟩
    have O := ord_rel h hod (by omega)
    have eA : a_oloop (k + 1) d = (if (a_order d).1 then (if a_at (a_next (a_order d).2) < a_len (a_next (a_order d).2) then (if (a_sign (a_next (a_order d).2) 59).1 then a_oloop k (a_sign (a_next (a_order d).2) 59).2 else (a_at (a_sign (a_next (a_order d).2) 59).2, (a_sign (a_next (a_order d).2) 59).2)) else (-6, a_next (a_order d).2)) else (a_at (a_order d).2, (a_order d).2)) := rfl
    have eF : ∀ M : MD, m_fl (f + 1) M = (if m_at M < m_len M then (if (m_reads M 59).1 then (if (m_ro (m_reads M 59).2).1 = -6 then (false, (m_ro (m_reads M 59).2).2) else m_fl f (m_ro (m_reads M 59).2).2) else (false, (m_reads M 59).2)) else (true, M)) := fun M => rfl
    obtain ⟨O1, O2, O3, O4⟩ := O
    have hatpos : ∀ (x : AD) (y : MD), PA x y → ¬ a_at x = -6 := by
      intro x y hxy z
      have h1 := hxy.2.1.2; have h2 := hxy.2.1.1.2; have h4 := h1.2
      rw [hxy.2.2.2.1, h1.1] at z
      exact nI_ne6 (by omega) z
    rcases O4 with ⟨c1, c2⟩ | ⟨c1, j, hj, c2, c3, c4, c5⟩
    · have e1 : a_oloop (k + 1) d = (a_at (a_order d).2, (a_order d).2) := by rw [eA, if_neg (by rw [c1]; exact Bool.false_ne_true)]
      have e2 : m_ff (f + 1) m = (m_at (m_ro m).2, (m_ro m).2) := if_pos c2
      rw [e1, e2]
      exact ⟨O1.2.2.2.1, O1, O3, ⟨O2.1, O2.2.1⟩, fun q hq => O2.2.2.2.1 q (by omega), fun q hq => O2.2.2.2.2 q (by omega), fun z => absurd z (hatpos _ _ O1)⟩
    · have hn6 : ¬ (m_ro m).1 = -6 := by rw [c2]; exact nI_ne6 (by omega)
      have e2 : m_ff (f + 1) m = (if (m_fl (f + 1) (m_ro m).2).1 then (-6, (m_fl (f + 1) (m_ro m).2).2) else (m_at (m_fl (f + 1) (m_ro m).2).2, (m_fl (f + 1) (m_ro m).2).2)) := if_neg hn6
      rw [eA, if_pos c1, e2, eF]
      have hCH : ∀ (fin : AD) (N : Nat), a_kin fin o = a_kin (a_order d).2 o → (∀ q, q < 4 → a_val fin (4 * o + q) = a_val (a_order d).2 (4 * o + q)) → ((N = 0 ∧ ¬ a_at (a_order d).2 < a_len (a_order d).2) ∨ ((a_sign (a_next (a_order d).2) 59).1 = true ∧ CH fin N (o + 1) (a_sign (a_next (a_order d).2) 59).2)) → CH fin (N + 1) o d := fun fin N a b c => ⟨hod, c1, a, b, c⟩
      have X := a_next_f (a_order d).2
      have hnk := a_next_ok O1.1 (by rw [O2.2.2.1, hod, zn_nI (by omega)]; omega)
      have P2 : PA (a_next (a_order d).2) (m_ro m).2 := ⟨hnk, O1.2.1, X.2.1.trans O1.2.2.1, X.2.2.2.2.2.trans O1.2.2.2.1, fun i hi => by rw [X.2.2.1]; exact O1.2.2.2.2 i (by rw [← X.2.1]; exact hi)⟩
      have hord2 : a_ord (a_next (a_order d).2) = nI (o + 1) := by rw [X.1, O2.2.2.1, hod]; exact nI_1 o
      have S := pr_sign (c := 59) P2 (by decide)
      have R := m_reads_ok (c := 59) P2.2.1 (by decide)
      have eat : a_at (a_next (a_order d).2) = m_at (m_ro m).2 := P2.2.2.2.1
      have elen : a_len (a_next (a_order d).2) = m_len (m_ro m).2 := P2.2.2.1
      generalize hD1 : (a_order d).2 = d1 at O1 O2 hCH X P2 hord2 S eat elen c3 ⊢
      generalize m_ro m = M1 at O3 c5 hn6 P2 S R eat elen ⊢
      rw [eat, elen]
      generalize a_next d1 = d2 at X P2 hord2 S hCH ⊢
      obtain ⟨x1, x2, x3, x4, x5, x6⟩ := X
      by_cases g : m_at M1.2 < m_len M1.2
      · rw [if_pos g, if_pos g]
        by_cases g2 : (m_reads M1.2 59).1 = true
        · rw [if_pos (S.1.trans g2), if_pos g2]
          have hS1 : (a_sign d2 59).1 = true := S.1.trans g2
          have R4 := R.2.2.2 g2
          have Sk := S.2.2.1
          have S2 := S.2.1
          have Rr := R.2.1
          generalize (a_sign d2 59).2 = d3 at S2 Sk hCH ⊢
          generalize (m_reads M1.2 59).2 = M3 at S2 R4 Rr ⊢
          have ih := oloop_rel k (o + 1) f d3 M3 (by omega) (by omega) S2 (Sk.2.2.2.1.trans hord2) (by omega)
          have eFF : (if (if (m_ro M3).1 = -6 then (false, (m_ro M3).2) else m_fl f (m_ro M3).2).1 then (-6, (if (m_ro M3).1 = -6 then (false, (m_ro M3).2) else m_fl f (m_ro M3).2).2) else (m_at (if (m_ro M3).1 = -6 then (false, (m_ro M3).2) else m_fl f (m_ro M3).2).2, (if (m_ro M3).1 = -6 then (false, (m_ro M3).2) else m_fl f (m_ro M3).2).2)) = m_ff f M3 := by
            unfold m_ff
            by_cases g3 : (m_ro M3).1 = -6
            · rw [if_pos g3, if_pos g3, if_neg Bool.false_ne_true]
            · rw [if_neg g3, if_neg g3]
          rw [eFF]
          obtain ⟨i1, i2, i3, i4, i5, i6, i7⟩ := ih
          refine ⟨i1, i2, (O3.tr Rr.1).tr i3, ⟨i4.1.trans (Sk.1.trans (x2.trans O2.1)), i4.2.trans (Sk.2.1.trans (x3.trans O2.2.1))⟩, fun q hq => ?_, fun q hq => ?_, fun z => ?_⟩
          · rw [i5 q (by omega), Sk.2.2.1, x4]; exact O2.2.2.2.1 q (by omega)
          · rw [i6 q (by omega), Sk.2.2.2.2, x5]; exact O2.2.2.2.2 q (by omega)
          · obtain ⟨N, n1, n2, n3⟩ := i7 z
            refine ⟨N + 1, by omega, hCH _ N ?_ (fun q hq => ?_) (Or.inr ⟨hS1, n2⟩), by rw [n3]; congr 1; omega⟩
            · rw [i5 o (by omega), Sk.2.2.1, x4]
            · rw [i6 _ (by omega), Sk.2.2.2.2, x5]
        · rw [if_neg (by rw [S.1]; exact g2), if_neg g2, if_neg Bool.false_ne_true]
          have Sk := S.2.2.1
          refine ⟨S.2.1.2.2.2.1, S.2.1, O3.tr R.2.1.1, ⟨Sk.1.trans (x2.trans O2.1), Sk.2.1.trans (x3.trans O2.2.1)⟩, fun q hq => ?_, fun q hq => ?_, fun z => absurd z (hatpos _ _ S.2.1)⟩
          · show a_kin (a_sign d2 59).2 q = _
            rw [Sk.2.2.1, x4]; exact O2.2.2.2.1 q (by omega)
          · show a_val (a_sign d2 59).2 q = _
            rw [Sk.2.2.2.2, x5]; exact O2.2.2.2.2 q (by omega)
      · rw [if_neg g, if_neg g, if_pos rfl]
        refine ⟨rfl, P2, O3, ⟨x2.trans O2.1, x3.trans O2.2.1⟩, fun q hq => ?_, fun q hq => ?_, fun _ => ⟨1, by omega, hCH _ 0 ?_ (fun q hq => ?_) (Or.inl ⟨rfl, ?_⟩), hord2⟩⟩
        · show a_kin d2 q = _
          rw [x4]; exact O2.2.2.2.1 q (by omega)
        · show a_val d2 q = _
          rw [x5]; exact O2.2.2.2.2 q (by omega)
        · show a_kin d2 o = _
          rw [x4]
        · show a_val d2 _ = _
          rw [x5]
        · rw [← x6, ← x2, P2.2.2.2.1, P2.2.2.1]; exact g
theorem m_rdk.kq {a b : MD} (h : m_rdk a b) : m_kq a b := ⟨h.1, h.2.1, h.2.2.1, h.2.2.2.1, h.2.2.2.2.2.2.1, h.2.2.2.2.2.2.2.2.1, h.2.2.2.2.2.2.2.2.2⟩
theorem PA_start {B : Nat} {e : ED} {m : MD} (h : RR B e m) : PA (a_sord (a_sat (e_pad e) 0) 0) (m_sat m 0) :=
  ⟨a_start_ok h.1.2.2.2.2.2, m_sat0_ok (RR_len h), h.2.2.2.2.2.1.symm, rfl, h.2.2.2.2.2.2⟩
theorem fault_rel {B : Nat} {e : ED} {m : MD} (h : RR B e m) : (a_orders (e_pad e)).1 = (m_fault m).1 ∧ m_rdk m (m_fault m).2 ∧ (a_len (a_orders (e_pad e)).2 = a_len (e_pad e) ∧ a_sig (a_orders (e_pad e)).2 = a_sig (e_pad e)) ∧ ((a_orders (e_pad e)).1 = -6 → ∃ N, N ≤ 27 ∧ CH (a_orders (e_pad e)).2 N 0 (a_sord (a_sat (e_pad e) 0) 0) ∧ a_ord (a_orders (e_pad e)).2 = nI N) := by
  have K := oloop_rel 27 0 81 _ _ (by decide) (by decide) (PA_start h) rfl (by omega)
  obtain ⟨k1, k2, k3, k4, k5, k6, k7⟩ := K
  rw [m_fault_ff]
  refine ⟨k1, (m_rdk.sat m 0).tr k3, ⟨k4.1, k4.2⟩, fun z => ?_⟩
  obtain ⟨N, n1, n2, n3⟩ := k7 z
  exact ⟨N, n1, n2, by rw [Nat.zero_add] at n3; exact n3⟩
theorem RR_read {B : Nat} {e : ED} {m : MD} (h : RR B e m) : RR B (e_read e) (m_fault m).2 := by
  obtain ⟨k1, k2, k3, k4⟩ := fault_rel h
  have hP := h.2.2.2.2.2
  exact RR_pad h (e_read_ok h.1) rfl k2.kq ⟨by rw [k2.2.2.2.2.2.1, k3.1]; exact hP.1, fun i hi => by rw [k2.2.2.2.2.1, k3.2]; exact hP.2 i (by rw [← k3.1]; exact hi)⟩
theorem S_fault {B : Nat} {e : ED} {m : MD} (h : RR B e m) : (e_fault e).1 = (m_fault m).1 ∧ RR B (e_fault e).2 (m_fault m).2 := ⟨(fault_rel h).1, RR_read h⟩


theorem e_v_fin {e : ED} {i q : Nat} (hi : i ≤ 27) (hq : q < 4) : e_v e i q = a_val (e_pad e) (4 * i + q) := by
  unfold e_v
  rw [show (4 : Int32) = nI 4 from rfl, pk_mul, nI_add, zn_nI (by omega), Nat.mul_comm]
theorem m_does_0 (M : MD) : m_does M (nI 0) = (if m_noOut M (m_num M 0) (m_num M 1) (m_num M 2) = 0 then (true, (m_doOut M (m_num M 0) (m_num M 1) (m_num M 2)).2) else (false, M)) := by
  unfold m_does
  rw [if_pos (show nI 0 = 0 by decide)]
theorem m_does_1 (M : MD) : m_does M (nI 1) = (if (m_noRel M (m_num M 0) (m_num M 1) (m_num M 2)).1 = 0 then (true, (m_doRel (m_noRel M (m_num M 0) (m_num M 1) (m_num M 2)).2 (m_num M 0) (m_num M 1)).2) else (false, (m_noRel M (m_num M 0) (m_num M 1) (m_num M 2)).2)) := by
  unfold m_does
  rw [if_neg (show ¬ nI 1 = 0 by decide), if_pos (show nI 1 = 1 by decide)]
theorem m_does_2 (M : MD) : m_does M (nI 2) = (if (m_noLend M (m_num M 0) (m_num M 1) (m_num M 2) (m_num M 3)).1 = 0 then (true, (m_doLend (m_noLend M (m_num M 0) (m_num M 1) (m_num M 2) (m_num M 3)).2 (m_num M 0) (m_num M 1) (m_num M 2) (m_num M 3)).2) else (false, (m_noLend M (m_num M 0) (m_num M 1) (m_num M 2) (m_num M 3)).2)) := by
  unfold m_does
  rw [if_neg (show ¬ nI 2 = 0 by decide), if_neg (show ¬ nI 2 = 1 by decide), if_pos (show nI 2 = 2 by decide)]
theorem m_does_3 (M : MD) : m_does M (nI 3) = (if m_noPlan M (m_num M 0) ((m_row M 8).toInt32 + m_num M 1) (m_num M 2) (m_num M 3) = 0 then (true, (m_doPlan M (m_num M 0) ((m_row M 8).toInt32 + m_num M 1) (m_num M 2) (m_num M 3)).2) else (false, M)) := by
  unfold m_does
  rw [if_neg (show ¬ nI 3 = 0 by decide), if_neg (show ¬ nI 3 = 1 by decide), if_neg (show ¬ nI 3 = 2 by decide), if_pos (show nI 3 = 3 by decide)]
theorem m_does_4 (M : MD) : m_does M (nI 4) = (if r_isP (m_row M) (m_num M 0) then (true, (m_doDrop M (m_num M 0)).2) else (false, M)) := by
  unfold m_does
  rw [if_neg (show ¬ nI 4 = 0 by decide), if_neg (show ¬ nI 4 = 1 by decide), if_neg (show ¬ nI 4 = 2 by decide), if_neg (show ¬ nI 4 = 3 by decide), if_pos (show nI 4 = 4 by decide)]
theorem m_does_5 (M : MD) : m_does M (nI 5) = (if z_inl (m_num M 0).toInt64 1 1000 then (true, (m_pass M (m_num M 0)).2) else (false, M)) := by
  unfold m_does
  rw [if_neg (show ¬ nI 5 = 0 by decide), if_neg (show ¬ nI 5 = 1 by decide), if_neg (show ¬ nI 5 = 2 by decide), if_neg (show ¬ nI 5 = 3 by decide), if_neg (show ¬ nI 5 = 4 by decide)]
theorem e_obey_0 {e : ED} {i : Nat} (hk : a_kin (e_pad e) i = 111) : e_obey e i = e_outi e (e_v e i 0) (e_v e i 1) (e_v e i 2) := by
  unfold e_obey
  rw [hk, if_neg (show ¬ (111 : Int32) = 104 by decide), if_neg (show ¬ (111 : Int32) = 108 by decide), if_pos (show (111 : Int32) = 111 by decide)]
theorem e_obey_1 {e : ED} {i : Nat} (hk : a_kin (e_pad e) i = 114) : e_obey e i = e_reli e (e_v e i 0) (e_v e i 1) (e_v e i 2) := by
  unfold e_obey
  rw [hk, if_neg (show ¬ (114 : Int32) = 104 by decide), if_neg (show ¬ (114 : Int32) = 108 by decide), if_neg (show ¬ (114 : Int32) = 111 by decide), if_neg (show ¬ (114 : Int32) = 112 by decide), if_pos (show (114 : Int32) = 114 by decide)]
theorem e_obey_2 {e : ED} {i : Nat} (hk : a_kin (e_pad e) i = 108) : e_obey e i = e_leni e (e_v e i 0) (e_v e i 1) (e_v e i 2) (e_v e i 3) := by
  unfold e_obey
  rw [hk, if_neg (show ¬ (108 : Int32) = 104 by decide), if_pos (show (108 : Int32) = 108 by decide)]
theorem e_obey_3 {e : ED} {i : Nat} (hk : a_kin (e_pad e) i = 112) : e_obey e i = e_plani e (e_v e i 0) (h_hour (e_now e) + e_v e i 1) (e_v e i 2) (e_v e i 3) := by
  unfold e_obey
  rw [hk, if_neg (show ¬ (112 : Int32) = 104 by decide), if_neg (show ¬ (112 : Int32) = 108 by decide), if_neg (show ¬ (112 : Int32) = 111 by decide), if_pos (show (112 : Int32) = 112 by decide)]
theorem e_obey_4 {e : ED} {i : Nat} (hk : a_kin (e_pad e) i = 120) : e_obey e i = e_dropi e (e_v e i 0) := by
  unfold e_obey
  rw [hk, if_neg (show ¬ (120 : Int32) = 104 by decide), if_neg (show ¬ (120 : Int32) = 108 by decide), if_neg (show ¬ (120 : Int32) = 111 by decide), if_neg (show ¬ (120 : Int32) = 112 by decide), if_neg (show ¬ (120 : Int32) = 114 by decide), if_pos (show (120 : Int32) = 120 by decide)]
theorem e_obey_5 {e : ED} {i : Nat} (hk : a_kin (e_pad e) i = 104) : e_obey e i = e_hrsi e (e_v e i 0) := by
  unfold e_obey
  rw [hk, if_pos (show (104 : Int32) = 104 by decide)]
theorem drop_eq (M : MD) (p : Int32) : (if r_isP (m_row M) p then (true, (m_doDrop M p).2) else (false, M)) = (if m_noDrop M p = 0 then (true, (m_doDrop M p).2) else (false, M)) := by
  unfold m_noDrop
  by_cases g : r_isP (m_row M) p = true
  · rw [if_pos g, if_pos g, if_pos rfl]
  · rw [if_neg g, if_neg g, if_neg (show ¬ (-1 : Int32) = 0 by decide)]
theorem hrs_eq (M : MD) (p : Int32) : (if z_inl p.toInt64 1 1000 then (true, (m_pass M p).2) else (false, M)) = (if m_noHrs p = 0 then (true, (m_pass M p).2) else (false, M)) := by
  unfold m_noHrs
  by_cases g : z_inl p.toInt64 1 1000 = true
  · rw [if_pos g, if_pos g, if_pos rfl]
  · rw [if_neg g, if_neg g, if_neg (show ¬ (-2 : Int32) = 0 by decide)]
theorem obey_k {B B' : Nat} {e : ED} {M : MD} {i j : Nat} {r : Int32 × ED} {q : Bool × MD} {no : Int32} {mno : MD} {D : Int32 × MD} (h1 : e_obey e i = r) (h2 : m_does M (nI j) = q) (h3 : IN B e M r no mno D) (h4 : q = (if no = 0 then (true, D.2) else (false, mno))) (hB : B ≤ B') : ∃ no mno D, IN B' e M (e_obey e i) no mno D ∧ m_does M (nI j) = (if no = 0 then (true, D.2) else (false, mno)) := ⟨no, mno, D, by rw [h1]; exact IN_mono h3 hB, h2.trans h4⟩
theorem IN_z {B : Nat} {e : ED} {m : MD} {E : Int32 × ED} {no : Int32} {mno : MD} {D : Int32 × MD} (h : IN B e m E no mno D) (z : no = 0) : mno = m := by
  rcases h with ⟨_, _, _, _, h, _⟩ | ⟨h1, h2, _⟩
  · exact h
  · rw [h2, z] at h1; exact absurd h1 (by decide)
theorem IN_q {B : Nat} {e : ED} {m : MD} {E : Int32 × ED} {no : Int32} {mno : MD} {F : MD → Int32 × MD} (h : IN B e m E no mno (F m)) : (if no = 0 then (true, (F mno).2) else (false, mno)) = (if no = 0 then (true, (F m).2) else (false, mno)) := by
  by_cases g : no = 0
  · rw [if_pos g, if_pos g, IN_z h g]
  · rw [if_neg g, if_neg g]
/-- one order is obeyed -/
theorem obey_rel {B : Nat} {e : ED} {M : MD} {i j : Nat} (hB : B + 4200 < 2 ^ 30) (h : RN B (e_now e) M) (hi : i ≤ 27) (hj : j < 6) (hk : a_kin (e_pad e) i = qCh j) (hv : ∀ q, q < qN j → e_v e i q = m_num M q) :
    (∃ no mno D, IN (B + 1000) e M (e_obey e i) no mno D ∧ m_does M (nI j) = (if no = 0 then (true, D.2) else (false, mno))) ∧ m_pgood M := by
  refine ⟨?_, (in_hrs (B := B) (e := e) (by omega) h (m_num M 0)).2⟩
  have hh : h_hour (e_now e) = (m_row M 8).toInt32 := by rw [h.1.1.2.1.1, q_i]
  match j, hj with
  | 0, _ =>
    have E := e_obey_0 (hk.trans (show qCh 0 = 111 by decide))
    rw [hv 0 (by decide), hv 1 (by decide), hv 2 (by decide)] at E
    exact obey_k E (m_does_0 M) (in_out h _ _ _) rfl (by omega)
  | 1, _ =>
    have E := e_obey_1 (hk.trans (show qCh 1 = 114 by decide))
    rw [hv 0 (by decide), hv 1 (by decide), hv 2 (by decide)] at E
    have I := in_rel h (m_num M 0) (m_num M 1) (m_num M 2)
    exact obey_k E (m_does_1 M) I (IN_q (F := fun x => m_doRel x (m_num M 0) (m_num M 1)) I) (by omega)
  | 2, _ =>
    have E := e_obey_2 (hk.trans (show qCh 2 = 108 by decide))
    rw [hv 0 (by decide), hv 1 (by decide), hv 2 (by decide), hv 3 (by decide)] at E
    have I := in_len (by omega) h (m_num M 0) (m_num M 1) (m_num M 2) (m_num M 3)
    exact obey_k E (m_does_2 M) I (IN_q (F := fun x => m_doLend x (m_num M 0) (m_num M 1) (m_num M 2) (m_num M 3)) I) (by omega)
  | 3, _ =>
    have E := e_obey_3 (hk.trans (show qCh 3 = 112 by decide))
    rw [hv 0 (by decide), hv 1 (by decide), hv 2 (by decide), hv 3 (by decide), hh] at E
    exact obey_k E (m_does_3 M) (in_plan (by omega) h _ _ _ _) rfl (by omega)
  | 4, _ =>
    have E := e_obey_4 (hk.trans (show qCh 4 = 120 by decide))
    rw [hv 0 (by decide)] at E
    exact obey_k E (m_does_4 M) (in_drop h _) (drop_eq M _) (by omega)
  | 5, _ =>
    have E := e_obey_5 (hk.trans (show qCh 5 = 104 by decide))
    rw [hv 0 (by decide)] at E
    exact obey_k E (m_does_5 M) (in_hrs (by omega) h _).1 (hrs_eq M _) (by omega)
theorem RN_rdk {B : Nat} {d : HD} {m m2 : MD} (h : RN B d m) (k : m_rdk m m2) : RN B d m2 := by
  obtain ⟨k1, k2, k3, k4, k5, k6, k7⟩ := k.kq
  exact ⟨by rw [k1]; exact h.1, h.2.1, fun p hp => by rw [k6, k7]; exact h.2.2.1 p hp, k5.trans h.2.2.2⟩
theorem m_cgood_end : ∀ (f : Nat) (M : MD), ¬ m_at M < m_len M → m_cgood f M
  | 0, _, h => h
  | _ + 1, _, h => fun z => absurd z h
theorem m_cl_end (f i : Nat) (M : MD) (h : ¬ m_at M < m_len M) : m_cl f i M = (i, M) := by
  cases f with
  | zero => rfl
  | succ f => exact if_neg h
/-- what stays while orders are carried out -/
def KC (e e2 : ED) (M M2 : MD) : Prop := (e_his e2 = e_his e ∧ e_sl e2 = e_sl e ∧ e_sav e2 = e_sav e ∧ e_pad e2 = e_pad e) ∧ (m_sts M2 = m_sts M ∧ m_sav M2 = m_sav M ∧ m_pad M2 = m_pad M ∧ m_len M2 = m_len M) ∧ (m_rea M = e_rea e → m_rea M2 = e_rea e2) ∧ (∀ j, 454 ≤ j → m_row M2 j = m_row M j)
theorem KC.tr {e e2 e3 : ED} {M M2 M3 : MD} (h : KC e e2 M M2) (k : KC e2 e3 M2 M3) : KC e e3 M M3 := by
  obtain ⟨⟨h1, h2, h3, h4⟩, ⟨h5, h6, h7, h8⟩, h9, h10⟩ := h
  obtain ⟨⟨k1, k2, k3, k4⟩, ⟨k5, k6, k7, k8⟩, k9, k10⟩ := k
  exact ⟨⟨k1.trans h1, k2.trans h2, k3.trans h3, k4.trans h4⟩, ⟨k5.trans h5, k6.trans h6, k7.trans h7, k8.trans h8⟩, fun z => k9 (h9 z), fun j hj => (k10 j hj).trans (h10 j hj)⟩
theorem KC_rdk {e : ED} {M M2 : MD} (h : m_rdk M M2) : KC e e M M2 := ⟨⟨rfl, rfl, rfl, rfl⟩, ⟨h.2.1, h.2.2.1, h.2.2.2.2.1, h.2.2.2.2.2.1⟩, fun z => h.2.2.2.1.trans z, fun j _ => by rw [h.1]⟩
theorem cl_rel {fin : AD} : ∀ (N i B f : Nat) (d : AD) (e : ED) (M : MD), CH fin N i d → i + N ≤ 27 → e_pad e = fin → e_ok e → RN B (e_now e) M → PA d M → N < f → B + 1000 * N + 4200 < 2 ^ 30 →
    (e_cl N i e).1 = (m_cl f i M).1 ∧ e_ok (e_cl N i e).2 ∧ RN (B + 1000 * N) (e_now (e_cl N i e).2) (m_cl f i M).2 ∧ KC e (e_cl N i e).2 M (m_cl f i M).2 ∧ m_cgood f M
  | 0, _, _, _, _, _, _, h, _, _, _, _, _, _, _ => absurd h (fun z => z)
  | N + 1, i, B, f, d, e, M, h, hi, hpad, hok, hR, hP, hf, hB => by
    obtain ⟨f, rfl⟩ : ∃ g, f = g + 1 := ⟨f - 1, by omega⟩
    obtain ⟨c1, c2, c3, c4, c5⟩ := h
    have O := ord_rel hP c1 (by omega)
    obtain ⟨O1, O2, O3, O4⟩ := O
    rcases O4 with ⟨z, -⟩ | ⟨-, j, hj, o2, o3, o4, o5⟩
    · rw [c2] at z; cases z
    · have hlt : m_at M < m_len M := by
        have a1 := O1.2.1.1; have a2 := O1.2.1.2
        have b1 := hP.2.1.1; have b2 := hP.2.1.2
        have := a2.2
        have elen : m_len (m_ro M).2 = m_len M := O3.2.2.2.2.2.1
        rw [elen] at this
        have b3 := b1.2
        rw [b2.1, b1.1]; exact nI_lt (by omega) (by omega)
      have hRo := RN_rdk hR O3
      have hval : ∀ q, q < qN j → e_v e i q = m_num (m_ro M).2 q := by
        intro q hq
        have hq4 : qN j ≤ 4 := (show ∀ j, j < 6 → qN j ≤ 4 by decide) j hj
        rw [e_v_fin (by omega) (by omega), hpad, c4 q (by omega)]
        exact o4.2 q hq
      have Q := obey_rel (B := B) (by omega) hRo (show i ≤ 27 by omega) hj (by rw [hpad, c3]; exact o3) hval
      obtain ⟨⟨no, mno, D, q1, q2⟩, q3⟩ := Q
      have eStep : m_step M = (if no = 0 then (true, D.2) else (false, mno)) := by
        show m_does (m_ro M).2 (m_ro M).1 = _
        rw [o2]; exact q2
      have eM : m_cl (f + 1) i M = (if (m_step M).1 then m_cl f (i + 1) (m_adv (m_step M).2) else (i, (m_step M).2)) := if_pos hlt
      have eE : e_cl (N + 1) i e = (if (e_obey e i).1 < 0 then (i, (e_obey e i).2) else e_cl N (i + 1) (e_obey e i).2) := rfl
      have hoko := e_obey_ok (i := i) hok
      have hpo := e_obey_pad (e := e) (i := i)
      have hcg : m_cgood (f + 1) M = (m_at M < m_len M → (m_pok M ∧ r_ok (m_row M) ∧ m_pgood (m_ro M).2 ∧ ((m_step M).1 = true → m_cgood f (m_adv (m_step M).2)))) := rfl
      rw [eM, eE, hcg, eStep]
      have hpok := hP.2.1
      have hrok := HH_ok hR.1
      have k0 := KC_rdk (e := e) O3
      rcases q1 with ⟨d2, a1, a2, a3, a4, a5, a6, a7, a8⟩ | ⟨a1, a2, a3⟩
      · rw [if_neg a1, if_pos a3, if_pos rfl]
        have s := e_snow_f e d2
        have hR2 : RN (B + 1000) (e_now (e_obey e i).2) D.2 := by rw [a2, s.1]; exact a6
        obtain ⟨b1, b2, b3, b4, b5, b6, b7, b8⟩ := a7
        have kA : KC e (e_obey e i).2 M D.2 := k0.tr ⟨⟨by rw [a2]; exact s.2.1, by rw [a2]; exact s.2.2.1, by rw [a2]; exact s.2.2.2.1, by rw [a2]; exact s.2.2.2.2.1⟩, ⟨b1, b2, b4, b5⟩, fun z => by rw [a2, s.2.2.2.2.2, b3]; exact z, a8⟩
        have kB : KC (e_obey e i).2 (e_obey e i).2 D.2 (m_adv D.2) := KC_rdk (m_rdk.adv D.2)
        have hR3 : RN (B + 1000) (e_now (e_obey e i).2) (m_adv D.2) := RN_rdk hR2 (m_rdk.adv D.2)
        have eat : m_at (m_adv D.2) = m_at (m_ro M).2 + 1 := by rw [← b6]; rfl
        have elen : m_len (m_adv D.2) = m_len (m_ro M).2 := by rw [← b5]; rfl
        have epad : m_pad (m_adv D.2) = m_pad (m_ro M).2 := by rw [← b4]; rfl
        generalize e_obey e i = E at a1 hoko hpo hR3 kA kB ⊢
        generalize m_adv D.2 = M2 at hR3 kB eat elen epad ⊢
        have kAB := kA.tr kB
        rcases c5 with ⟨n0, n1⟩ | ⟨n1, n2⟩
        · subst n0
          have hend : ¬ m_at M2 < m_len M2 := by
            have p1 := O1.2.1.1; have p2 := O1.2.1.2
            have p3 := p1.2; have p4 := p2.2
            rw [O1.2.2.2.1, O1.2.2.1] at n1
            have e1 := (m_at_s O1.2.1).2
            rw [eat, elen, e1, p1.1]
            have n2 : ¬ zn32 (m_at (m_ro M).2) < zn32 (m_len (m_ro M).2) := fun z => n1 (by rw [p2.1, p1.1]; exact nI_lt z (by omega))
            exact nI_nlt (by omega) (by omega)
          rw [m_cl_end f (i + 1) M2 hend]
          exact ⟨rfl, hoko, RN_mono hR3 (by omega), kAB, fun _ => ⟨hpok, hrok, q3, fun _ => m_cgood_end f M2 hend⟩⟩
        · have hPn : PA (a_sign (a_next (a_order d).2) 59).2 M2 := by
            have X := a_next_f (a_order d).2
            have hnk := a_next_ok O1.1 (by rw [O2.2.2.1, c1, zn_nI (by omega)]; omega)
            have Sk := a_sign_ok (c := 59) hnk (by decide)
            have hsat : a_at (a_sign (a_next (a_order d).2) 59).2 = a_at (a_next (a_order d).2) + 1 := by
              unfold a_sign at n1 ⊢
              by_cases g : a_here (a_next (a_order d).2) = 59
              · rw [if_pos g]; rfl
              · rw [if_neg g] at n1; cases n1
            have hl : a_len (a_sign (a_next (a_order d).2) 59).2 = m_len (m_ro M).2 := Sk.2.1.trans (X.2.1.trans O1.2.2.1)
            have hsg : a_sig (a_sign (a_next (a_order d).2) 59).2 = a_sig (a_order d).2 := Sk.2.2.1.trans X.2.2.1
            refine ⟨Sk.1, ⟨by rw [elen]; exact O1.2.1.1, ?_⟩, by rw [elen]; exact hl, by rw [hsat, X.2.2.2.2.2, eat, O1.2.2.2.1], fun q hq => by rw [epad, hsg]; exact O1.2.2.2.2 q (by rw [O1.2.2.1, ← hl]; exact hq)⟩
            have k1 := Sk.1.2.1
            rw [hsat, X.2.2.2.2.2, O1.2.2.2.1, hl] at k1
            rw [eat, elen]; exact k1
          have ih := cl_rel N (i + 1) (B + 1000) f _ E.2 M2 n2 (by omega) (hpo.trans hpad) hoko hR3 hPn (by omega) (by omega)
          obtain ⟨i1, i2, i3, i4, i5⟩ := ih
          exact ⟨i1, i2, by rw [show B + 1000 * (N + 1) = B + 1000 + 1000 * N by omega]; exact i3, kAB.tr i4, fun _ => ⟨hpok, hrok, q3, fun _ => i5⟩⟩
      · have hne : ¬ no = 0 := by rw [← a2]; intro z; rw [z] at a1; exact absurd a1 (by decide)
        rw [if_pos a1, if_neg hne, if_neg Bool.false_ne_true]
        have hbad : m_pok M ∧ r_ok (m_row M) ∧ m_pgood (m_ro M).2 ∧ ((false, mno).1 = true → m_cgood f (m_adv (false, mno).2)) := ⟨hpok, hrok, q3, fun z => by cases z⟩
        rcases a3 with ⟨d1, d2⟩ | ⟨w, d1, d2⟩
        · refine ⟨rfl, hoko, ?_, ?_, fun _ => hbad⟩
          · show RN _ (e_now (e_obey e i).2) mno
            rw [d1, d2]; exact RN_mono hRo (by omega)
          · show KC e (e_obey e i).2 M mno
            rw [d1, d2]; exact k0
        · have s := e_srea_f e w
          have t := m_srea_f (m_ro M).2 w
          refine ⟨rfl, hoko, ?_, ?_, fun _ => hbad⟩
          · show RN _ (e_now (e_obey e i).2) mno
            rw [d1, d2, s.1]
            exact RN_mono ⟨by rw [t.1]; exact hRo.1, hRo.2.1, fun p hp => by rw [t.2.2.2.2.2.2.2.1, t.2.2.2.2.2.2.2.2]; exact hRo.2.2.1 p hp, t.2.2.2.2.2.2.1.trans hRo.2.2.2⟩ (by omega)
          · show KC e (e_obey e i).2 M mno
            rw [d1, d2]
            exact k0.tr ⟨⟨s.2.1, s.2.2.1, s.2.2.2.1, s.2.2.2.2.1⟩, ⟨t.2.1, t.2.2.1, t.2.2.2.2.1, t.2.2.2.2.2.1⟩, fun _ => by rw [s.2.2.2.2.2]; exact t.2.2.2.1, fun j _ => by rw [t.1]⟩
theorem m_slen_f (m : MD) (v : Int32) : m_row (m_slen m v) = m_row m ∧ m_sts (m_slen m v) = m_sts m ∧ m_sav (m_slen m v) = m_sav m ∧ m_rea (m_slen m v) = m_rea m ∧ m_wat (m_slen m v) = m_wat m ∧ m_gone (m_slen m v) = m_gone m ∧ m_seen (m_slen m v) = m_seen m ∧ m_len (m_slen m v) = v := ⟨rfl, rfl, rfl, rfl, rfl, rfl, rfl, rfl⟩
theorem e_clear_f (e : ED) : e_now (e_clear e) = e_now e ∧ e_his (e_clear e) = e_his e ∧ e_sl (e_clear e) = e_sl e ∧ e_sav (e_clear e) = e_sav e ∧ e_rea (e_clear e) = e_rea e ∧ e_pad (e_clear e) = a_slen (e_pad e) 0 := ⟨rfl, rfl, rfl, rfl, rfl, rfl⟩
theorem m_sat_c (x : MD) (v : Int32) : m_at (m_sat x v) = v ∧ m_len (m_sat x v) = m_len x ∧ m_pad (m_sat x v) = m_pad x ∧ m_rdk x (m_sat x v) := ⟨rfl, rfl, rfl, m_rdk.sat x v⟩
theorem c0_e (m : MD) : m_c0 m = m_sat (m_rec (m_fault m).2) 0 := rfl
theorem c0_f (m : MD) : m_at (m_c0 m) = 0 ∧ m_len (m_c0 m) = m_len (m_rec (m_fault m).2) ∧ m_pad (m_c0 m) = m_pad (m_rec (m_fault m).2) ∧ m_rdk (m_rec (m_fault m).2) (m_c0 m) := by
  rw [c0_e]
  exact m_sat_c _ _
theorem S_carry {B : Nat} {e : ED} {m : MD} (hB : B + 32000 < 2 ^ 30) (h : RR B e m) : ((e_carry e).1 = (m_carry m).1 ∧ RR (B + 27000) (e_carry e).2 (m_carry m).2) ∧ ((m_fault m).1 = -6 → m_cgood 82 (m_c0 m)) := by
  obtain ⟨k1, k2, k3, k4⟩ := fault_rel h
  have hr := RR_read h
  have hokc := e_carry_ok h.1
  unfold e_carry at hokc ⊢
  unfold m_carry
  rw [k1] at hokc k4 ⊢
  by_cases g : (m_fault m).1 = -6
  · rw [if_pos g] at hokc ⊢
    rw [if_pos g]
    obtain ⟨N, n1, n2, n3⟩ := k4 g
    have p := e_prep_f (e_read e)
    have epd : e_pad (e_prep (e_read e)) = (a_orders (e_pad e)).2 := p.2.2.2.2.1
    have hR0 : RN B (e_now (e_prep (e_read e))) (m_c0 m) := by
      rw [p.1]; exact RN_rdk (RN_rec hr.2.1) (c0_f m).2.2.2
    obtain ⟨kr, -, -⟩ := m_rec_f (m_fault m).2
    have C0 := c0_f m
    have hl80 := RR_len hr
    have hP0 : PA (a_sord (a_sat (e_pad e) 0) 0) (m_c0 m) := by
      have hs := PA_start h
      refine ⟨hs.1, ⟨by rw [C0.2.1, kr.2.2.2.1]; exact hl80, by rw [C0.1]; exact zok_0 _⟩, ?_, C0.1.symm, fun i hi => ?_⟩
      · rw [C0.2.1, kr.2.2.2.1, k2.2.2.2.2.2.1]; exact hs.2.2.1
      · rw [C0.2.2.1, kr.2.2.1, k2.2.2.2.2.1]; exact hs.2.2.2.2 i hi
    have hz : zn32 (a_ord (e_pad (e_prep (e_read e)))) = N := by rw [epd, n3]; exact zn_nI (by omega)
    rw [hz] at hokc ⊢
    have CR := cl_rel N 0 B 82 _ (e_prep (e_read e)) (m_c0 m) n2 (by omega) epd (e_prep_ok hr.1) hR0 hP0 (by omega) (by omega)
    obtain ⟨r1, r2, r3, r4, r5⟩ := CR
    refine ⟨?_, fun _ => r5⟩
    rw [r1] at hokc ⊢
    generalize e_cl N 0 (e_prep (e_read e)) = X at r2 r3 r4 hokc ⊢
    have hle : (m_cl 82 0 (m_c0 m)).1 ≤ 82 := by
      have : ∀ (f i : Nat) (M : MD), (m_cl f i M).1 ≤ i + f := by
        intro f
        induction f with
        | zero => exact fun i M => Nat.le_refl _
        | succ f ih =>
          intro i M
          show (if m_at M < m_len M then (if (m_step M).1 then m_cl f (i + 1) (m_adv (m_step M).2) else (i, (m_step M).2)) else (i, M)).1 ≤ _
          split
          · split
            · have := ih (i + 1) (m_adv (m_step M).2); omega
            · show i ≤ _; omega
          · show i ≤ _; omega
      have := this 82 0 (m_c0 m); omega
    generalize m_cl 82 0 (m_c0 m) = Y at r3 r4 hle hokc ⊢
    obtain ⟨⟨u1, u2, u3, u4⟩, ⟨u5, u6, u7, u8⟩, u9, u10⟩ := r4
    have T := m_slen_f Y.2 0
    have V := e_clear_f X.2
    refine ⟨rfl, RR_fin (a := a_slen (e_pad X.2) 0) (d2 := e_now X.2) (v := nI Y.1) hr (nI_pos (by omega)) rfl ⟨V.1, V.2.1.trans (u1.trans p.2.1), V.2.2.1.trans (u2.trans p.2.2.1), V.2.2.2.1.trans (u3.trans p.2.2.2.1), V.2.2.2.2.2⟩ ?_ hokc ?_ (by omega) ?_ ?_ ?_ (fun j hj => ?_)⟩
    · show m_rea (m_slen Y.2 0) = e_rea (e_clear X.2)
      rw [T.2.2.2.1, V.2.2.2.2.1]
      refine u9 ?_
      rw [C0.2.2.2.2.2.2.1, kr.2.1, p.2.2.2.2.2]; exact hr.2.2.2.2.1
    · refine RN_mono ?_ (show B + 1000 * N ≤ B + 27000 by omega)
      show RN _ (e_now X.2) (m_slen Y.2 0)
      exact ⟨by rw [T.1]; exact r3.1, r3.2.1, fun q hq => by rw [T.2.2.2.2.2.1, T.2.2.2.2.2.2.1]; exact r3.2.2.1 q hq, T.2.2.2.2.1.trans r3.2.2.2⟩
    · show m_sts (m_slen Y.2 0) = _
      rw [T.2.1, u5, C0.2.2.2.2.1]
    · show m_sav (m_slen Y.2 0) = _
      rw [T.2.2.1, u6, C0.2.2.2.2.2.1, kr.1]
    · exact ⟨T.2.2.2.2.2.2.2, fun i hi => absurd hi (by show ¬ i < zn32 0; exact Nat.not_lt_zero _)⟩
    · show m_row (m_slen Y.2 0) j = _
      rw [T.1, u10 j hj, C0.2.2.2.1]
  · rw [if_neg g, if_neg g]
    exact ⟨⟨rfl, RR_mono hr (by omega)⟩, fun z => absurd z g⟩
