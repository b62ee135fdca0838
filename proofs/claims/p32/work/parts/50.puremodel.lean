
/-! The reference, as functions: r_ on its row, m_ on its whole state. -/
abbrev RW : Type := Nat → Int64
def zn64 (v : Int64) : Nat := v.toInt.toNat
theorem zn64_lN {n : Nat} (h : n < 2 ^ 31) : zn64 (lN n) = n := by unfold zn64; rw [lN_toInt h]; rfl
def zokl (v : Int64) (n : Nat) : Prop := v = lN (zn64 v) ∧ zn64 v ≤ n
def zinl (v : Int64) (n : Nat) : Prop := v = lN (zn64 v) ∧ zn64 v < n
theorem zokl_lN {k n : Nat} (h : k ≤ n) (hn : n < 2 ^ 31) : zokl (lN k) n := by
  have e := zn64_lN (n := k) (by omega)
  exact ⟨by rw [e], by rw [e]; exact h⟩
theorem zinl_lN {k n : Nat} (h : k < n) (hn : n < 2 ^ 31) : zinl (lN k) n := by
  have e := zn64_lN (n := k) (by omega)
  exact ⟨by rw [e], by rw [e]; exact h⟩
theorem zlpl_in {v : Int64} {n i : Nat} (h : zokl v n) (hn : n < 2 ^ 31) (hi : i < zn64 v) : (nI i).toInt64 < v := by
  have := h.2
  rw [nI_l (by omega), h.1]; exact (lN_lt (by omega) (by omega)).mpr hi
theorem zlpl_out {v : Int64} {n i : Nat} (h : zokl v n) (hn : n < 2 ^ 31) (hi : i = zn64 v) : ¬ (nI i).toInt64 < v := by
  have := h.2
  rw [nI_l (by omega), hi, ← h.1]; exact Int64.lt_irrefl
theorem zinl_i {v : Int64} {n : Nat} (h : zinl v n) (hn : n < 2 ^ 31) : v.toInt32 = nI (zn64 v) ∧ vp_in v.toInt32 n ∧ zn32 v.toInt32 = zn64 v := by
  have e : v.toInt32 = nI (zn64 v) := (congrArg Int64.toInt32 h.1).trans (lN_i _)
  have h2 := h.2
  refine ⟨e, by rw [e]; exact vp_in_nI h2 hn, ?_⟩
  show v.toInt32.toNatClampNeg = _
  rw [e, nI_clamp (by omega)]
def z_inl (v a b : Int64) : Bool := if v < a then false else if v ≤ b then true else false
def r_cpn (r : RW) (a b n : Nat) : RW := fun j => if b ≤ j ∧ j < b + n then r (a + (j - b)) else r j
def r_cp (r : RW) (a b : Nat) : RW := r_cpn r a b 454
def r_isS (r : RW) (s : Int32) : Bool := z_inl s.toInt64 0 (r 11 - 1)
def r_isL (r : RW) (l : Int32) : Bool := z_inl l.toInt64 0 (r 12 - 1)
def r_isP (r : RW) (p : Int32) : Bool := z_inl p.toInt64 0 (r 13 - 1)
def r_left (r : RW) (s : Nat) : Int64 := r (14 + 15 * s + 1)
def r_frz (r : RW) (s : Nat) : Bool := if r (14 + 15 * s + 3) = 1 then true else false
def r_thw (r : RW) (s : Nat) : Int64 := r (14 + 15 * s + 0) * r 3 / 100
def r_add (r : RW) (i : Nat) (v : Int64) : RW := vp_updL r i (r i + v)
def r_sett (r : RW) (s : Nat) : RW :=
  if r_left r s ≤ 0 then (if r_frz r s then vp_updL (r_add r (14 + 15 * s + 6) 0) (14 + 15 * s + 3) 1 else vp_updL (r_add r (14 + 15 * s + 6) 1) (14 + 15 * s + 3) 1)
  else if r_left r s ≤ r_thw r s then r else vp_updL r (14 + 15 * s + 3) 0
def r_change (r : RW) (s : Nat) (b : Int64) : RW := r_sett (r_add r (14 + 15 * s + 1) b) s
def r_spend (r : RW) (s : Nat) (z : Int64) : RW := r_change (r_add (r_add r (14 + 15 * s + 7 + 4) z) (14 + 15 * s + 4) 1) s (-z)
def r_lcnt (r : RW) (k : Nat) (s : Int32) : Nat → Int32
  | 0 => 0
  | n + 1 => if r (134 + 5 * n + k) = s.toInt64 then r_lcnt r k s n + 1 else r_lcnt r k s n + 0
def r_lsum (r : RW) (k : Nat) (s : Int32) : Nat → Int32
  | 0 => 0
  | n + 1 => if r (134 + 5 * n + k) = s.toInt64 then r_lsum r k s n + (r (134 + 5 * n + 3)).toInt32 else r_lsum r k s n + 0
def r_pcnt (r : RW) (s : Int32) : Nat → Int32
  | 0 => 0
  | n + 1 => if r (334 + 4 * n + 0) = s.toInt64 then r_pcnt r s n + 1 else r_pcnt r s n + 0
def r_why (r : RW) (a b m : Int32) : Int32 :=
  if r_frz r (zn32 a) then 2 else if r_left r (zn32 a) - m.toInt64 ≤ r_thw r (zn32 a) then 3 else if (r_lcnt r 1 b (zn64 (r 12))).toInt64 < r 6 then 0 else 4
def r_can (r : RW) (s : Nat) : Int64 := if r_left r s ≤ 0 then 0 else r_left r s
def r_lp (r : RW) (l k : Nat) : Nat := zn32 (r (134 + 5 * l + k)).toInt32
def r_paid (r : RW) (l : Nat) : Int64 := if r (134 + 5 * l + 3) < r_can r (r_lp r l 1) then r (134 + 5 * l + 3) else r_can r (r_lp r l 1)
def r_pay3 (r : RW) (l a b : Nat) (v : Int64) : RW := r_add (r_add (vp_updL r (134 + 5 * l + 3) (r (134 + 5 * l + 3) - v)) (14 + 15 * b + 7 + 6) v) (14 + 15 * a + 7 + 2) v
def r_pay4 (r : RW) (a b : Nat) (v : Int64) : RW := if v ≤ 0 then r else r_change (r_change r b (-v)) a v
def r_pay (r : RW) (l : Nat) : RW := r_pay4 (r_pay3 r l (r_lp r l 0) (r_lp r l 1) (r_paid r l)) (r_lp r l 0) (r_lp r l 1) (r_paid r l)
def r_mv1 (r : RW) (i j : Nat) : RW := vp_updL r j (r i)
def r_mv5 (r : RW) (i j : Nat) : RW := r_mv1 (r_mv1 (r_mv1 (r_mv1 (r_mv1 r (134 + 5 * i + 0) (134 + 5 * j + 0)) (134 + 5 * i + 1) (134 + 5 * j + 1)) (134 + 5 * i + 2) (134 + 5 * j + 2)) (134 + 5 * i + 3) (134 + 5 * j + 3)) (134 + 5 * i + 4) (134 + 5 * j + 4)
def r_mv4 (r : RW) (i j : Nat) : RW := r_mv1 (r_mv1 (r_mv1 (r_mv1 r (334 + 4 * i + 0) (334 + 4 * j + 0)) (334 + 4 * i + 1) (334 + 4 * j + 1)) (334 + 4 * i + 2) (334 + 4 * j + 2)) (334 + 4 * i + 3) (334 + 4 * j + 3)
def r_cstep (i : Nat) (s : RW × Nat) : RW × Nat := if s.1 (134 + 5 * i + 3) ≤ 0 then s else (r_mv5 s.1 i s.2, s.2 + 1)
def r_cloop (r : RW) (n : Nat) : RW × Nat := zit r_cstep (r, 0) n
def r_clear (r : RW) : RW := vp_updL (r_cloop r (zn64 (r 12))).1 12 (nI (r_cloop r (zn64 (r 12))).2).toInt64
def r_ex (r : RW) (s : Nat) : RW := vp_updL r (14 + 15 * s + 2) (r 7)
def r_ln3 (r : RW) (l : Nat) (a b m : Int32) : RW := vp_updL (vp_updL (vp_updL r (134 + 5 * l + 0) a.toInt64) (134 + 5 * l + 1) b.toInt64) (134 + 5 * l + 2) m.toInt64
def r_ln4 (r : RW) (l : Nat) (m : Int32) : RW := vp_updL r (134 + 5 * l + 3) (m.toInt64 + m.toInt64 * r 2 / 100)
def r_ln5 (r : RW) (l : Nat) (w : Int32) : RW := vp_updL r (134 + 5 * l + 4) (r 9 + w.toInt64)
def r_ln6 (r : RW) (a b m : Int32) : RW := r_add (r_add (r_add r 12 1) (14 + 15 * zn32 a + 7 + 5) m.toInt64) (14 + 15 * zn32 b + 7 + 1) m.toInt64
def r_lend (r : RW) (l : Nat) (a b m w : Int32) : RW :=
  r_change (r_change (r_ln6 (r_ln5 (r_ln4 (r_ln3 r l a b m) l m) l w) a b m) (zn32 a) (-m).toInt64) (zn32 b) m.toInt64
def r_sv2 (r : RW) (s : Nat) (b : Int64) : RW := vp_updL (vp_updL r (14 + 15 * s + 0) b) (14 + 15 * s + 1) b
def r_serv (r : RW) (s : Nat) (b : Int64) : RW := r_add (vp_updL (r_ex (r_sv2 r s b) s) (14 + 15 * s + 7 + 0) b) 11 1
def r_doPlan (r : RW) (p : Nat) (s t z y : Int32) : RW := r_add (vp_updL (vp_updL (vp_updL (vp_updL r (334 + 4 * p + 0) s.toInt64) (334 + 4 * p + 1) t.toInt64) (334 + 4 * p + 2) z.toInt64) (334 + 4 * p + 3) y.toInt64) 13 1
def r_some (r : RW) (s : Nat) : Int64 := if r_left r s < r (14 + 15 * s + 0) then r_left r s else r (14 + 15 * s + 0)
def r_laps (r : RW) (s : Nat) : Int64 := if r_left r s ≤ 0 then 0 else r_left r s - r_some r s * r 1 / 100
def r_grant2 (r : RW) (s : Nat) (b v : Int64) : RW := r_change (r_ex (r_add (r_add r (14 + 15 * s + 7 + 7) v) (14 + 15 * s + 7 + 0) b) s) s (b - v)
def r_grant (r : RW) (s : Nat) : RW := r_grant2 r s (r (14 + 15 * s + 0)) (r_laps r s)
def r_nlstep (r : RW) (i : Nat) (b : Int32) : Int32 :=
  if r (134 + 5 * i + 3) ≤ 0 then b else if r (134 + 5 * i + 4) ≤ r 9 then (if b = -6 then nI i else if r (134 + 5 * i + 4) < r (134 + 5 * zn32 b + 4) then nI i else b) else b
def r_nextL (r : RW) : Int32 := zit (r_nlstep r) (-6) (zn64 (r 12))
def r_grown (r : RW) (l : Nat) : Int64 := r (134 + 5 * l + 3) + r (134 + 5 * l + 3) * r 4 / 100
def r_wl1 (r : RW) (l : Nat) : RW := vp_updL r (134 + 5 * l + 3) (if r_grown r l < 10000000 then r_grown r l else 10000000)
def r_wl2 (r : RW) (l : Nat) : RW := vp_updL r (134 + 5 * l + 4) (r 9 + 1)
def r_wlstep (r : RW) (l : Nat) : RW := r_wl2 (r_wl1 (r_pay r l) l) l
def r_wloop : Nat → RW → RW
  | 0, r => r
  | k + 1, r => if r_nextL r = -6 then r else r_wloop k (r_wlstep r (zn32 (r_nextL r)))
def r_bw0 (r : RW) : RW := vp_updL (r_add r 9 1) 10 ((r_add r 9 1) 8)
def r_bwg (r : RW) (n : Nat) : RW := zit (fun s r => r_grant r s) (r_bw0 r) n
def r_begin (r : RW) : RW := r_clear (r_wloop 40 (r_bwg r (zn64 (r 11))))
def r_ahead (r : RW) (p q : Nat) : Bool :=
  if r (334 + 4 * p + 3) - r (334 + 4 * q + 3) ≤ 0 then (if r (334 + 4 * p + 3) - r (334 + 4 * q + 3) = 0 then (if r (334 + 4 * p + 1) < r (334 + 4 * q + 1) then true else false) else false) else true
-- plans
def m_npstep (m : MD) (i : Nat) (b : Int32) : Int32 :=
  if m_seen m i = 0 then (if m_row m (334 + 4 * i + 1) ≤ m_row m 8 then (if b = -6 then nI i else if r_ahead (m_row m) i (zn32 b) then nI i else b) else b) else b
def m_nextP (m : MD) : Int32 := zit (m_npstep m) (-6) (zn64 (m_row m 13))
def m_c1 (was : Int32) (i : Nat) (s : MD × Nat) : MD := if nI i = was then (if m_gone s.1 i = 0 then m_swat s.1 (nI s.2) else m_swat s.1 (-6)) else s.1
def m_c2 (m : MD) (i : Nat) : MD := m_sseen (m_sgone m (upd (m_gone m) i 0)) (upd (m_seen m) i 0)
def m_cstep (was : Int32) (i : Nat) (s : MD × Nat) : MD × Nat :=
  if m_gone (m_c1 was i s) i = 0 then (m_c2 (m_srow (m_c1 was i s) (r_mv4 (m_row (m_c1 was i s)) i s.2)) i, s.2 + 1) else (m_c2 (m_c1 was i s) i, s.2)
def m_cloop (m : MD) (n : Nat) : MD × Nat := zit (m_cstep (m_wat m)) (m, 0) n
def m_clear (m : MD) : MD := m_srow (m_cloop m (zn64 (m_row m 13))).1 (vp_updL (m_row (m_cloop m (zn64 (m_row m 13))).1) 13 (nI (m_cloop m (zn64 (m_row m 13))).2).toInt64)
def m_ps (m : MD) (p : Nat) : Nat := zn32 (m_row m (334 + 4 * p + 0)).toInt32
def m_late (m : MD) (p : Nat) : Bool := if m_row m 8 - m_row m (334 + 4 * p + 1) < m_row m 5 then false else true
def m_see (m : MD) (p : Nat) : MD := m_sseen m (upd (m_seen m) p 1)
def m_go (m : MD) (p : Nat) (v : Int32) : MD := m_sgone m (upd (m_gone m) p v)
def m_wh1 (m : MD) (p : Nat) : MD := if nI p = m_wat m then m_swh m (m_row m 8).toInt32 else m_swh m (m_wh m)
def m_dpstep (m : MD) (p : Nat) : MD :=
  if r_frz (m_row m) (m_ps m p) then
    (if m_late m p then m_srow (m_go (m_see m p) p 1) (r_add (m_row m) (14 + 15 * m_ps m p + 5) 1) else m_go (m_see m p) p 0)
  else m_srow (m_wh1 (m_go (m_see m p) p 1) p) (r_spend (m_row m) (m_ps m p) (m_row m (334 + 4 * p + 2)))
def m_dploop : Nat → MD → MD
  | 0, m => m
  | k + 1, m => if m_nextP m = -6 then m else m_dploop k (m_dpstep m (zn32 (m_nextP m)))
def m_doPlans (m : MD) : MD := m_clear (m_dploop 30 m)
def m_r (m : MD) (f : RW → RW) : MD := m_srow m (f (m_row m))
def m_hr1 (m : MD) : MD := m_srow m (r_add (m_row m) 8 1)
def m_hour (m : MD) : MD := if m_row (m_hr1 m) 8 - m_row (m_hr1 m) 10 < m_row (m_hr1 m) 0 then m_doPlans (m_hr1 m) else m_doPlans (m_srow (m_hr1 m) (r_begin (m_row (m_hr1 m))))
def m_hrs (m : MD) (n : Nat) : MD := zit (fun _ m => m_hour m) m n
-- states
def m_cp (m : MD) (a b : Nat) : MD := m_srow m (r_cp (m_row m) a b)
def m_shift (m : MD) : MD := m_cp (m_cp (m_cp (m_cp (m_cp m 908 454) 1362 908) 1816 1362) 2270 1816) 2724 2270
def m_rec1 (m : MD) : MD := if m_sts m = 6 then m_ssts (m_shift m) (m_sts (m_shift m) - 1) else m
def m_rec2 (m : MD) : MD := m_cp m 0 (454 + 454 * zn32 (m_sts m))
def m_rec (m : MD) : MD := m_ssts (m_rec2 (m_rec1 m)) (m_sts (m_rec2 (m_rec1 m)) + 1)
def m_undo (m : MD) : Int32 × MD := if m_sts m = 0 then (-6, m) else (m_sts (m_cp (m_ssts m (m_sts m - 1)) (454 + 454 * zn32 (m_sts (m_ssts m (m_sts m - 1)))) 0), m_cp (m_ssts m (m_sts m - 1)) (454 + 454 * zn32 (m_sts (m_ssts m (m_sts m - 1)))) 0)
def m_sv1 (m : MD) (i : Nat) : MD := m_ssav (m_cp m 0 (3178 + 454 * i)) (upd (m_sav m) i 1)
def m_save (m : MD) (i : Int32) : Int32 × MD := if z_inl i.toInt64 0 1 then ((m_row (m_sv1 m (zn32 i)) 8).toInt32, m_sv1 m (zn32 i)) else (-1, m)
def m_res1 (m : MD) (i : Nat) : MD := m_cp m (3178 + 454 * i) 0
def m_restore (m : MD) (i : Int32) : Int32 × MD := if z_inl i.toInt64 0 1 then (if m_sav m (zn32 i) = 0 then (-1, m) else ((m_row (m_res1 (m_rec m) (zn32 i)) 8).toInt32, m_res1 (m_rec m) (zn32 i))) else (-1, m)
def z_isSet (s v : Int32) : Bool := if s = 0 then z_inl v.toInt64 12 720 else if s = 5 then z_inl v.toInt64 0 300 else if s = 6 then z_inl v.toInt64 0 10 else if s = 7 then z_inl v.toInt64 0 9 else if z_inl s.toInt64 1 4 then (if z_inl v.toInt64 0 100 then true else false) else false
def m_set (m : MD) (s v : Int32) : Int32 × MD := if z_isSet s v then ((m_row (m_rec m) (zn32 s)).toInt32, m_srow (m_rec m) (vp_updL (m_row (m_rec m)) (zn32 s) v.toInt64)) else (-2, m)
def m_service (m : MD) (b : Int32) : Int32 × MD := if z_inl b.toInt64 10 10000 then (if m_row m 11 = 8 then (-4, m) else ((m_row (m_rec m) 11).toInt32, m_srow (m_rec m) (r_serv (m_row (m_rec m)) (zn32 (m_row (m_rec m) 11).toInt32) b.toInt64))) else (-2, m)
def m_budget (m : MD) (s b : Int32) : Int32 × MD := if r_isS (m_row m) s then (if z_inl b.toInt64 10 10000 then ((m_row (m_rec m) (14 + 15 * zn32 s + 0)).toInt32, m_srow (m_rec m) (vp_updL (m_row (m_rec m)) (14 + 15 * zn32 s + 0) b.toInt64)) else (-2, m)) else (-1, m)
def m_out1 (m : MD) (s : Nat) (v : Int32) : MD := m_srow m (r_change (r_add (m_row m) (14 + 15 * s + 7 + 3) v.toInt64) s (-v).toInt64)
def m_doOut (m : MD) (s i h : Int32) : Int32 × MD := if r_frz (m_row (m_out1 m (zn32 s) ((i * h + 99) / 100))) (zn32 s) then (1, m_out1 m (zn32 s) ((i * h + 99) / 100)) else (0, m_out1 m (zn32 s) ((i * h + 99) / 100))
def m_noOut (m : MD) (s i h : Int32) : Int32 := if r_isS (m_row m) s then (if z_inl i.toInt64 1 600 then (if z_inl h.toInt64 1 100 then 0 else -2) else -2) else -1
def m_outage (m : MD) (s i h : Int32) : Int32 × MD := if m_noOut m s i h = 0 then m_doOut (m_rec m) s i h else (m_noOut m s i h, m)
def m_used (m : MD) (s : Nat) : Int32 := if r_frz (m_row m) s then 1 else 0
def m_rl1 (m : MD) (s : Nat) (u : Int32) : MD := m_srow m (vp_updL (m_row m) (14 + 15 * s + 2) (m_row m (14 + 15 * s + 2) - u.toInt64))
def m_doRel (m : MD) (s z : Int32) : Int32 × MD := (m_used m (zn32 s), m_srow (m_rl1 m (zn32 s) (m_used m (zn32 s))) (r_spend (m_row (m_rl1 m (zn32 s) (m_used m (zn32 s)))) (zn32 s) z.toInt64))
def m_noRel (m : MD) (s z x : Int32) : Int32 × MD :=
  if r_isS (m_row m) s then (if z_inl z.toInt64 1 200 then (if z_inl x.toInt64 0 1 then
    (if r_frz (m_row m) (zn32 s) then (if x = 0 then (-5, m_srea m 1) else if m_row m (14 + 15 * zn32 s + 2) = 0 then (-5, m_srea m 1) else (0, m)) else (0, m))
    else (-2, m)) else (-2, m)) else (-1, m)
def m_release (m : MD) (s z x : Int32) : Int32 × MD := if (m_noRel m s z x).1 = 0 then m_doRel (m_rec (m_noRel m s z x).2) s z else m_noRel m s z x
def m_noLend (m : MD) (a b i w : Int32) : Int32 × MD :=
  if r_isS (m_row m) a then (if r_isS (m_row m) b then (if a = b then (-1, m) else if z_inl i.toInt64 1 5000 then (if z_inl w.toInt64 1 9 then (if m_row m 12 = 40 then (-4, m) else
    if r_why (m_row m) a b i = 0 then (0, m) else (-5, m_srea m (r_why (m_row m) a b i))) else (-2, m)) else (-2, m)) else (-1, m)) else (-1, m)
def m_doLend (m : MD) (a b i w : Int32) : Int32 × MD := ((m_row m 12).toInt32, m_srow m (r_lend (m_row m) (zn32 (m_row m 12).toInt32) a b i w))
def m_lend (m : MD) (a b i w : Int32) : Int32 × MD := if (m_noLend m a b i w).1 = 0 then m_doLend (m_rec (m_noLend m a b i w).2) a b i w else m_noLend m a b i w
def m_repay (m : MD) (l : Int32) : Int32 × MD := if r_isL (m_row m) l then ((r_pay (m_row (m_rec m)) (zn32 l) (134 + 5 * zn32 l + 3)).toInt32, m_srow (m_rec m) (r_clear (r_pay (m_row (m_rec m)) (zn32 l)))) else (-1, m)
def m_noPlan (m : MD) (s t z y : Int32) : Int32 :=
  if r_isS (m_row m) s then (if z_inl t.toInt64 (m_row m 8 + 1) (m_row m 8 + 2000) then (if z_inl z.toInt64 1 200 then (if z_inl y.toInt64 0 9 then (if m_row m 13 = 30 then -4 else 0) else -2) else -2) else -2) else -1
def m_doPlan (m : MD) (s t z y : Int32) : Int32 × MD := ((m_row m 13).toInt32, m_srow m (r_doPlan (m_row m) (zn32 (m_row m 13).toInt32) s t z y))
def m_plan (m : MD) (s t z y : Int32) : Int32 × MD := if m_noPlan m s t z y = 0 then m_doPlan (m_rec m) s t z y else (m_noPlan m s t z y, m)
def m_doDrop (m : MD) (p : Int32) : Int32 × MD := ((m_row (m_clear (m_go m (zn32 p) 1)) 13).toInt32, m_clear (m_go m (zn32 p) 1))
def m_drop (m : MD) (p : Int32) : Int32 × MD := if r_isP (m_row m) p then m_doDrop (m_rec m) p else (-1, m)
def m_pass (m : MD) (k : Int32) : Int32 × MD := ((m_row (m_hrs m (zn32 k)) 8).toInt32, m_hrs m (zn32 k))
def m_hours (m : MD) (k : Int32) : Int32 × MD := if z_inl k.toInt64 1 1000 then m_pass (m_rec m) k else (-2, m)
def m_ofService (m : MD) (s w : Int32) : Int32 :=
  if r_isS (m_row m) s then (if w = 0 then (m_row m (14 + 15 * zn32 s + 0)).toInt32 else if w = 1 then (m_row m (14 + 15 * zn32 s + 3)).toInt32 else if w = 2 then (m_row m (14 + 15 * zn32 s + 2)).toInt32
    else if w = 3 then r_lcnt (m_row m) 1 s (zn64 (m_row m 12)) else if w = 4 then r_lcnt (m_row m) 0 s (zn64 (m_row m 12)) else if w = 5 then r_lsum (m_row m) 1 s (zn64 (m_row m 12)) else if w = 6 then r_lsum (m_row m) 0 s (zn64 (m_row m 12))
    else if w = 7 then r_pcnt (m_row m) s (zn64 (m_row m 13)) else if w = 8 then (m_row m (14 + 15 * zn32 s + 4)).toInt32 else if w = 9 then (m_row m (14 + 15 * zn32 s + 5)).toInt32 else if w = 10 then (m_row m (14 + 15 * zn32 s + 6)).toInt32 else -2) else -1
def m_account (m : MD) (s w : Int32) : Int64 := if r_isS (m_row m) s then (if z_inl w.toInt64 0 7 then m_row m (14 + 15 * zn32 s + 7 + zn32 w) else if w = 8 then r_left (m_row m) (zn32 s) else -2) else -1
def m_ofLoan (m : MD) (l w : Int32) : Int32 := if r_isL (m_row m) l then (if z_inl w.toInt64 0 4 then (m_row m (134 + 5 * zn32 l + zn32 w)).toInt32 else -2) else -1
def m_ofPlan (m : MD) (p w : Int32) : Int32 := if r_isP (m_row m) p then (if z_inl w.toInt64 0 3 then (m_row m (334 + 4 * zn32 p + zn32 w)).toInt32 else -2) else -1
def r_fset (r : RW) : Nat → Int32
  | 0 => 0
  | n + 1 => if r_frz r n then r_fset r n ||| (1 <<< (nI n &&& 31)) else r_fset r n ||| 0
def m_count (m : MD) (w : Int32) : Int32 :=
  if w = 0 then (m_row m (zn32 (8 + w))).toInt32 else if w = 1 then (m_row m (zn32 (8 + w))).toInt32 else if w = 2 then (m_row m (zn32 (8 + w))).toInt32 else if w = 3 then (m_row m (zn32 (8 + w))).toInt32 else if w = 4 then r_fset (m_row m) (zn64 (m_row m 11)) else if w = 5 then (m_row m 12).toInt32 else if w = 6 then (m_row m 13).toInt32 else if w = 7 then m_rea m else if w = 8 then m_len m else if w = 9 then m_sts m
  else if z_inl w.toInt64 10 17 then (m_row m (zn32 (w - 10))).toInt32 else -2
def m_back (m : MD) : MD := m_cp m 4086 0
def m_try (m : MD) : MD := m_cp m 0 4086
def m_leftIn (m : MD) (s k : Int32) : Int64 × MD := if r_isS (m_row m) s then (if z_inl k.toInt64 1 1000 then (r_left (m_row (m_pass (m_try m) k).2) (zn32 s), m_back (m_pass (m_try m) k).2) else (-2, m)) else (-1, m)
def m_htl (s : Nat) (b : Bool) : Nat → Nat → MD → Nat × MD
  | 0, i, m => (i, m)
  | k + 1, i, m => if zB (r_frz (m_row m) s) = zB b then (i, m) else m_htl s b k (i + 1) (m_hour m)
def m_found (p : Nat × MD) (s : Nat) (b : Bool) : Int32 := if zB (r_frz (m_row p.2) s) = zB b then nI p.1 else -6
def m_hoursTo (m : MD) (s : Int32) (b : Bool) : Int32 × MD := (m_found (m_htl (zn32 s) b 1000 0 (m_try m)) (zn32 s) b, m_back (m_htl (zn32 s) b 1000 0 (m_try m)).2)
def m_fin_ (m : MD) (s : Int32) (b : Bool) : Int32 × MD := if r_isS (m_row m) s then m_hoursTo m s b else (-1, m)
def m_dal : Nat → MD → MD
  | 0, m => m
  | k + 1, m => if m_wat m = -6 then m else m_dal k (m_hour m)
def m_da0 (m : MD) (p : Int32) : MD := m_swh (m_swat (m_try m) p) 0
def m_da1 (m : MD) : MD := m_back (m_swat m (-6))
def m_doneAt (m : MD) (p : Int32) : Int32 × MD := if r_isP (m_row m) p then (if m_wh (m_da1 (m_dal 1000 (m_da0 m p))) = 0 then (-6, m_da1 (m_dal 1000 (m_da0 m p))) else (m_wh (m_da1 (m_dal 1000 (m_da0 m p))), m_da1 (m_dal 1000 (m_da0 m p)))) else (-1, m)
def r_blstep (r : RW) (b i : Int32) (s : Nat) (x : Int32) : Int32 :=
  if nI s = b then x else if r 12 < 40 then (if r_why r (nI s) b i = 0 then (if x = -6 then nI s else if r_left r (zn32 (nI s)) ≤ r_left r (zn32 x) then x else nI s) else x) else x
def m_best (m : MD) (b i : Int32) : Int32 := if r_isS (m_row m) b then (if z_inl i.toInt64 1 5000 then zit (r_blstep (m_row m) b i) (-6) (zn64 (m_row m 11)) else -2) else -1
def r_lst (r : RW) (s : Nat) : Int64 := r_thw r s - r_left r s + 1
def m_least (m : MD) (s : Int32) : Int64 := if r_isS (m_row m) s then (if r_frz (m_row m) (zn32 s) then (if r_lst (m_row m) (zn32 s) ≤ 1 then 1 else r_lst (m_row m) (zn32 s)) else 0) else -1
def m_safe (m : MD) (s : Int32) : Int32 := if r_isS (m_row m) s then (if r_frz (m_row m) (zn32 s) then -6 else if r_left (m_row m) (zn32 s) - 1 < 1 then -6 else if r_left (m_row m) (zn32 s) - 1 < 200 then (r_left (m_row m) (zn32 s) - 1).toInt32 else 200) else -1
/-! the ranges that the walks ask for -/
def r_ok (r : RW) : Prop := zokl (r 11) 8 ∧ zokl (r 12) 40 ∧ (∀ l, l < zn64 (r 12) → zinl (r (134 + 5 * l + 0)) 8 ∧ zinl (r (134 + 5 * l + 1)) 8) ∧ zokl (r 13) 30 ∧ (∀ p, p < zn64 (r 13) → zinl (r (334 + 4 * p + 0)) 8)
