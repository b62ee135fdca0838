/-! The reference: the walks, first part. -/
def rW (g : zG) (q : Nat → Nat) (m : MD) (r : RW) : va_W := mW g q (m_srow m r)
theorem rW_g0 {g : zG} {q : Nat → Nat} {m : MD} {r : RW} : (rW g q m r)[0]? = some (q 0, .inr (6, [.ref (q 1), .int (m_sts m), .ref (q 2), .int (m_rea m), .ref (q 3), .int (m_len m), .int (m_wat m), .int (m_wh m), .ref (q 4), .ref (q 5), .ref (q 6), .int (m_at m), .ref (q 7), .int (m_nm m)])) := rfl
theorem rW_s0_1 {g : zG} {q : Nat → Nat} {m : MD} {r : RW} {v : Int32} : (rW g q m r).set 0 (q 0, .inr (6, ([.ref (q 1), .int (m_sts m), .ref (q 2), .int (m_rea m), .ref (q 3), .int (m_len m), .int (m_wat m), .int (m_wh m), .ref (q 4), .ref (q 5), .ref (q 6), .int (m_at m), .ref (q 7), .int (m_nm m)] : List Value).set 1 (.int v))) = rW g q (m_ssts m v) r := rfl
theorem rW_s0_3 {g : zG} {q : Nat → Nat} {m : MD} {r : RW} {v : Int32} : (rW g q m r).set 0 (q 0, .inr (6, ([.ref (q 1), .int (m_sts m), .ref (q 2), .int (m_rea m), .ref (q 3), .int (m_len m), .int (m_wat m), .int (m_wh m), .ref (q 4), .ref (q 5), .ref (q 6), .int (m_at m), .ref (q 7), .int (m_nm m)] : List Value).set 3 (.int v))) = rW g q (m_srea m v) r := rfl
theorem rW_s0_5 {g : zG} {q : Nat → Nat} {m : MD} {r : RW} {v : Int32} : (rW g q m r).set 0 (q 0, .inr (6, ([.ref (q 1), .int (m_sts m), .ref (q 2), .int (m_rea m), .ref (q 3), .int (m_len m), .int (m_wat m), .int (m_wh m), .ref (q 4), .ref (q 5), .ref (q 6), .int (m_at m), .ref (q 7), .int (m_nm m)] : List Value).set 5 (.int v))) = rW g q (m_slen m v) r := rfl
theorem rW_s0_6 {g : zG} {q : Nat → Nat} {m : MD} {r : RW} {v : Int32} : (rW g q m r).set 0 (q 0, .inr (6, ([.ref (q 1), .int (m_sts m), .ref (q 2), .int (m_rea m), .ref (q 3), .int (m_len m), .int (m_wat m), .int (m_wh m), .ref (q 4), .ref (q 5), .ref (q 6), .int (m_at m), .ref (q 7), .int (m_nm m)] : List Value).set 6 (.int v))) = rW g q (m_swat m v) r := rfl
theorem rW_s0_7 {g : zG} {q : Nat → Nat} {m : MD} {r : RW} {v : Int32} : (rW g q m r).set 0 (q 0, .inr (6, ([.ref (q 1), .int (m_sts m), .ref (q 2), .int (m_rea m), .ref (q 3), .int (m_len m), .int (m_wat m), .int (m_wh m), .ref (q 4), .ref (q 5), .ref (q 6), .int (m_at m), .ref (q 7), .int (m_nm m)] : List Value).set 7 (.int v))) = rW g q (m_swh m v) r := rfl
theorem rW_s0_11 {g : zG} {q : Nat → Nat} {m : MD} {r : RW} {v : Int32} : (rW g q m r).set 0 (q 0, .inr (6, ([.ref (q 1), .int (m_sts m), .ref (q 2), .int (m_rea m), .ref (q 3), .int (m_len m), .int (m_wat m), .int (m_wh m), .ref (q 4), .ref (q 5), .ref (q 6), .int (m_at m), .ref (q 7), .int (m_nm m)] : List Value).set 11 (.int v))) = rW g q (m_sat m v) r := rfl
theorem rW_s0_13 {g : zG} {q : Nat → Nat} {m : MD} {r : RW} {v : Int32} : (rW g q m r).set 0 (q 0, .inr (6, ([.ref (q 1), .int (m_sts m), .ref (q 2), .int (m_rea m), .ref (q 3), .int (m_len m), .int (m_wat m), .int (m_wh m), .ref (q 4), .ref (q 5), .ref (q 6), .int (m_at m), .ref (q 7), .int (m_nm m)] : List Value).set 13 (.int v))) = rW g q (m_snm m v) r := rfl
theorem rW_g1 {g : zG} {q : Nat → Nat} {m : MD} {r : RW} : (rW g q m r)[1]? = some (q 1, .inl (g.2.1 1, 4540, .inr (.inl r))) := rfl
theorem rW_s1 {g : zG} {q : Nat → Nat} {m : MD} {r : RW} {v : RW} : (rW g q m r).set 1 (q 1, .inl (g.2.1 1, 4540, .inr (.inl v))) = rW g q m v := rfl
theorem rW_g2 {g : zG} {q : Nat → Nat} {m : MD} {r : RW} : (rW g q m r)[2]? = some (q 2, .inl (g.2.1 2, 2, .inl (m_sav m))) := rfl
theorem rW_s2 {g : zG} {q : Nat → Nat} {m : MD} {r : RW} {v : Nat → Int32} : (rW g q m r).set 2 (q 2, .inl (g.2.1 2, 2, .inl v)) = rW g q (m_ssav m v) r := rfl
theorem rW_g3 {g : zG} {q : Nat → Nat} {m : MD} {r : RW} : (rW g q m r)[3]? = some (q 3, .inl (g.2.1 0, 80, .inl (m_pad m))) := rfl
theorem rW_s3 {g : zG} {q : Nat → Nat} {m : MD} {r : RW} {v : Nat → Int32} : (rW g q m r).set 3 (q 3, .inl (g.2.1 0, 80, .inl v)) = rW g q (m_spad m v) r := rfl
theorem rW_g4 {g : zG} {q : Nat → Nat} {m : MD} {r : RW} : (rW g q m r)[4]? = some (q 4, .inl (g.2.1 2, 30, .inl (m_gone m))) := rfl
theorem rW_s4 {g : zG} {q : Nat → Nat} {m : MD} {r : RW} {v : Nat → Int32} : (rW g q m r).set 4 (q 4, .inl (g.2.1 2, 30, .inl v)) = rW g q (m_sgone m v) r := rfl
theorem rW_g5 {g : zG} {q : Nat → Nat} {m : MD} {r : RW} : (rW g q m r)[5]? = some (q 5, .inl (g.2.1 2, 30, .inl (m_seen m))) := rfl
theorem rW_s5 {g : zG} {q : Nat → Nat} {m : MD} {r : RW} {v : Nat → Int32} : (rW g q m r).set 5 (q 5, .inl (g.2.1 2, 30, .inl v)) = rW g q (m_sseen m v) r := rfl
theorem rW_g6 {g : zG} {q : Nat → Nat} {m : MD} {r : RW} : (rW g q m r)[6]? = some (q 6, .inl (g.2.1 0, 42, .inl m_forms)) := rfl
theorem rW_g7 {g : zG} {q : Nat → Nat} {m : MD} {r : RW} : (rW g q m r)[7]? = some (q 7, .inl (g.2.1 0, 4, .inl (m_num m))) := rfl
theorem rW_s7 {g : zG} {q : Nat → Nat} {m : MD} {r : RW} {v : Nat → Int32} : (rW g q m r).set 7 (q 7, .inl (g.2.1 0, 4, .inl v)) = rW g q (m_snum m v) r := rfl
theorem rW_f {g : zG} {q : Nat → Nat} {m : MD} {r : RW} {m2 : MD} {r2 : RW} : (rW g q m2 r2).map Prod.fst = (rW g q m r).map Prod.fst := rfl
theorem rW_c {g : zG} {q : Nat → Nat} {m : MD} {r : RW} : ([0, 1, 2, 3, 4, 5, 6, 7] : List Nat).map (fun i => (rW g q m r)[i]?) = (rW g q m r).map some := zget_a rfl
theorem rW_r {g : zG} {q : Nat → Nat} {m : MD} {r : RW} {m2 : MD} {r2 : RW} : zrep (rW g q m r) [0, 1, 2, 3, 4, 5, 6, 7] (rW g q m2 r2) = rW g q m2 r2 := zrep_a rfl rfl
theorem rW_cm {g : zG} {q : Nat → Nat} {m : MD} {r : RW} : ([0, 1, 2, 3, 4, 5, 6, 7] : List Nat).map (fun i => (rW g q m r)[i]?) = (mW g q (m_srow m r)).map some := zget_a rfl
theorem rW_rm {g : zG} {q : Nat → Nat} {m : MD} {r : RW} {m2 : MD} : zrep (rW g q m r) [0, 1, 2, 3, 4, 5, 6, 7] (mW g q m2) = mW g q m2 := zrep_a rfl rfl
theorem rW_n : va_nd [0, 1, 2, 3, 4, 5, 6, 7] = true := by decide

theorem m_ix1 {s : Int32} {w a b n : Nat} (hs : vp_in s n) (hn : n < 2 ^ 31) : nI a + nI b * s + nI w = nI (a + b * zn32 s + w) := by
  rw [show s = nI (zn32 s) from (vp_nI hs hn).1, pk_mul, nI_add, nI_add, ← (vp_nI hs hn).1]
theorem m_ix2 {s : Int32} {w a b c n : Nat} (hs : vp_in s n) (hn : n < 2 ^ 31) : nI a + nI b * s + nI c + nI w = nI (a + b * zn32 s + c + w) := by
  rw [m_ix1 hs hn, nI_add]
theorem vp_lt {s : Int32} {n : Nat} (hs : vp_in s n) (hn : n < 2 ^ 31) : zn32 s < n := (vp_nI hs hn).2
theorem z_inl_t {v a b : Int64} (h : z_inl v a b = true) : ¬ v < a ∧ v ≤ b := by
  unfold z_inl at h
  split at h
  · cases h
  · split at h
    · rename_i h1 h2; exact ⟨h1, h2⟩
    · cases h
theorem i64_le {a b : Int64} : a ≤ b ↔ a.toInt ≤ b.toInt := Int64.le_iff_toInt_le
theorem i64_lt {a b : Int64} : a < b ↔ a.toInt < b.toInt := Int64.lt_iff_toInt_lt
theorem i32_64 (s : Int32) : s.toInt64.toInt = s.toInt := Int32.toInt_toInt64 s
theorem lN_pred {n : Nat} (hn : n < 2 ^ 31) : (lN n - 1).toInt = (n : Int) - 1 := by
  rcases n with _ | n
  · decide
  · rw [show lN (n + 1) - 1 = lN n by rw [show (1 : Int64) = lN 1 from rfl, lN_sub (by omega)]; rfl, lN_toInt (by omega)]; omega
theorem z_has_l {v : Int64} {s : Int32} {n : Nat} (hv : zokl v n) (hn : n < 2 ^ 31) (h : z_inl s.toInt64 0 (v - 1) = true) : vp_in s n ∧ zn32 s < zn64 v ∧ s = nI (zn32 s) := by
  obtain ⟨h1, h2⟩ := z_inl_t h
  rw [i64_lt, i32_64] at h1
  rw [i64_le, i32_64, hv.1, lN_pred (by have := hv.2; omega)] at h2
  have h0 : ¬ s < 0 := by rw [Int32.lt_iff_toInt_lt]; exact h1
  obtain ⟨j, hj, rfl⟩ := nI_of h0
  rw [nI_toInt hj] at h2
  have e : zn32 (nI j) = j := nI_clamp hj
  rw [e]
  have := hv.2
  exact ⟨vp_in_nI (by omega) hn, by omega, rfl⟩
theorem r_isS_in {r : RW} {s : Int32} (h : r_isS r s = true) (hr : r_ok r) : vp_in s 8 ∧ zn32 s < zn64 (r 11) ∧ s = nI (zn32 s) := z_has_l hr.1 (by decide) h
theorem r_isL_in {r : RW} {s : Int32} (h : r_isL r s = true) (hr : r_ok r) : vp_in s 40 ∧ zn32 s < zn64 (r 12) ∧ s = nI (zn32 s) := z_has_l hr.2.1 (by decide) h
theorem r_isP_in {r : RW} {s : Int32} (h : r_isP r s = true) (hr : r_ok r) : vp_in s 30 ∧ zn32 s < zn64 (r 13) ∧ s = nI (zn32 s) := z_has_l hr.2.2.2.1 (by decide) h

set_option maxHeartbeats 400000 in
set_option maxRecDepth 100000 in
theorem c_X6_in {l : Launch} {g : zG} (v : Int64) (a : Int64) (b : Int64)  : zM l g yX6_in cX6_in 6 (some .boolean) 0 0 0 [.long v, .long a, .long b] [] (zE (some (.int (zB (z_inl v a b)))) []) := by
  refine zM_of (by decide +kernel) (Nat.le_of_ble_eq_true rfl) (fun x hl hn _ _ _ C => ?_)
  subst hl
  show zR x g _ (0, 0) 0 [(0, .long v), (2, .long a), (4, .long b)] [] _
  refine zR_lload_n C eX6_in_0 0 rfl rfl ?_
  refine zR_lload_n C eX6_in_1 1 rfl rfl ?_
  refine zR_ciflt C eX6_in_2 eX6_in_3 (fun h2 => ?_) (fun h2 => ?_)
  · skip
    refine zR_iconst (v := 0) C eX6_in_17 (by decide) ?_
    exact zR_iret C rfl rfl eX6_in_18 (Nat.zero_le _) (Nat.zero_le _) ⟨(by first | (unfold z_inl; rw [if_pos h2]; first | done | rfl) | rfl | (simp only [z_inl, if_pos h2]; first | done | rfl)), (by first | (unfold z_inl; rw [if_pos h2]; first | done | rfl) | rfl | (simp only [z_inl, if_pos h2]; first | done | rfl))⟩
  · skip
    refine zR_lload_n C eX6_in_6 0 rfl rfl ?_
    refine zR_lload C eX6_in_7 2 rfl ?_
    refine zR_cifgt C eX6_in_9 eX6_in_10 (fun h9 => ?_) (fun h9 => ?_)
    · skip
      refine zR_iconst (v := 0) C eX6_in_17 (by decide) ?_
      exact zR_iret C rfl rfl eX6_in_18 (Nat.zero_le _) (Nat.zero_le _) ⟨(by first | (unfold z_inl; rw [if_neg h2, if_neg h9]; first | done | rfl) | rfl | (simp only [z_inl, if_neg h2, if_neg h9]; first | done | rfl)), (by first | (unfold z_inl; rw [if_neg h2, if_neg h9]; first | done | rfl) | rfl | (simp only [z_inl, if_neg h2, if_neg h9]; first | done | rfl))⟩
    · skip
      refine zR_iconst (v := 1) C eX6_in_13 (by decide) ?_
      refine zR_goto C eX6_in_14 ?_
      exact zR_iret C rfl rfl eX6_in_18 (Nat.zero_le _) (Nat.zero_le _) ⟨(by first | (unfold z_inl; rw [if_neg h2, if_pos h9]; first | done | rfl) | rfl | (simp only [z_inl, if_neg h2, if_pos h9]; first | done | rfl)), (by first | (unfold z_inl; rw [if_neg h2, if_pos h9]; first | done | rfl) | rfl | (simp only [z_inl, if_neg h2, if_pos h9]; first | done | rfl))⟩
set_option maxHeartbeats 400000 in
set_option maxRecDepth 100000 in
theorem c_X6_of {l : Launch} {g : zG} (s : Int32) (w : Nat) (hs : vp_in s 8) (hw : w < 15) : zM l g yX6_of cX6_of 2 (some .int) 0 0 0 [.int s, .int (nI w)] [] (zE (some (.int (nI (14 + 15 * zn32 s + w)))) []) := by
  refine zM_of (by decide +kernel) (Nat.le_of_ble_eq_true rfl) (fun x hl hn _ _ _ C => ?_)
  subst hl
  show zR x g _ (0, 0) 0 [(0, .int s), (1, .int (nI w))] [] _
  refine zR_bipush (v := 14) C eX6_of_0 (by decide) ?_
  refine zR_bipush (v := 15) C eX6_of_2 (by decide) ?_
  refine zR_iload_n C eX6_of_4 0 rfl rfl ?_
  refine zR_imul C eX6_of_5 ?_
  refine zR_iadd C eX6_of_6 ?_
  refine zR_iload_n C eX6_of_7 1 rfl rfl ?_
  refine zR_iadd C eX6_of_8 ?_
  refine zR_topi (b := nI (14 + 15 * zn32 s + w)) (m_ix1 (a := 14) (b := 15) hs (by decide)) ?_
  exact zR_iret C rfl rfl eX6_of_9 (Nat.zero_le _) (Nat.zero_le _) ⟨rfl, rfl⟩
set_option maxHeartbeats 400000 in
set_option maxRecDepth 100000 in
theorem c_X6_accountOf {l : Launch} {g : zG} (s : Int32) (w : Nat) (hs : vp_in s 8) (hw : w < 15) : zM l g yX6_accountOf cX6_accountOf 2 (some .int) 0 0 0 [.int s, .int (nI w)] [] (zE (some (.int (nI (14 + 15 * zn32 s + 7 + w)))) []) := by
  refine zM_of (by decide +kernel) (Nat.le_of_ble_eq_true rfl) (fun x hl hn _ _ _ C => ?_)
  subst hl
  show zR x g _ (0, 0) 0 [(0, .int s), (1, .int (nI w))] [] _
  refine zR_bipush (v := 14) C eX6_accountOf_0 (by decide) ?_
  refine zR_bipush (v := 15) C eX6_accountOf_2 (by decide) ?_
  refine zR_iload_n C eX6_accountOf_4 0 rfl rfl ?_
  refine zR_imul C eX6_accountOf_5 ?_
  refine zR_iadd C eX6_accountOf_6 ?_
  refine zR_bipush (v := 7) C eX6_accountOf_7 (by decide) ?_
  refine zR_iadd C eX6_accountOf_9 ?_
  refine zR_iload_n C eX6_accountOf_10 1 rfl rfl ?_
  refine zR_iadd C eX6_accountOf_11 ?_
  refine zR_topi (b := nI (14 + 15 * zn32 s + 7 + w)) (m_ix2 (a := 14) (b := 15) (c := 7) hs (by decide)) ?_
  exact zR_iret C rfl rfl eX6_accountOf_12 (Nat.zero_le _) (Nat.zero_le _) ⟨rfl, rfl⟩
set_option maxHeartbeats 400000 in
set_option maxRecDepth 100000 in
theorem c_X6_ofLoanAt {l : Launch} {g : zG} (s : Int32) (w : Nat) (hs : vp_in s 40) (hw : w < 15) : zM l g yX6_ofLoanAt cX6_ofLoanAt 2 (some .int) 0 0 0 [.int s, .int (nI w)] [] (zE (some (.int (nI (134 + 5 * zn32 s + w)))) []) := by
  refine zM_of (by decide +kernel) (Nat.le_of_ble_eq_true rfl) (fun x hl hn _ _ _ C => ?_)
  subst hl
  show zR x g _ (0, 0) 0 [(0, .int s), (1, .int (nI w))] [] _
  refine zR_sipush (v := 134) C eX6_ofLoanAt_0 (by decide) ?_
  refine zR_iconst (v := 5) C eX6_ofLoanAt_3 (by decide) ?_
  refine zR_iload_n C eX6_ofLoanAt_4 0 rfl rfl ?_
  refine zR_imul C eX6_ofLoanAt_5 ?_
  refine zR_iadd C eX6_ofLoanAt_6 ?_
  refine zR_iload_n C eX6_ofLoanAt_7 1 rfl rfl ?_
  refine zR_iadd C eX6_ofLoanAt_8 ?_
  refine zR_topi (b := nI (134 + 5 * zn32 s + w)) (m_ix1 (a := 134) (b := 5) hs (by decide)) ?_
  exact zR_iret C rfl rfl eX6_ofLoanAt_9 (Nat.zero_le _) (Nat.zero_le _) ⟨rfl, rfl⟩
set_option maxHeartbeats 400000 in
set_option maxRecDepth 100000 in
theorem c_X6_ofPlanAt {l : Launch} {g : zG} (s : Int32) (w : Nat) (hs : vp_in s 30) (hw : w < 15) : zM l g yX6_ofPlanAt cX6_ofPlanAt 2 (some .int) 0 0 0 [.int s, .int (nI w)] [] (zE (some (.int (nI (334 + 4 * zn32 s + w)))) []) := by
  refine zM_of (by decide +kernel) (Nat.le_of_ble_eq_true rfl) (fun x hl hn _ _ _ C => ?_)
  subst hl
  show zR x g _ (0, 0) 0 [(0, .int s), (1, .int (nI w))] [] _
  refine zR_sipush (v := 334) C eX6_ofPlanAt_0 (by decide) ?_
  refine zR_iconst (v := 4) C eX6_ofPlanAt_3 (by decide) ?_
  refine zR_iload_n C eX6_ofPlanAt_4 0 rfl rfl ?_
  refine zR_imul C eX6_ofPlanAt_5 ?_
  refine zR_iadd C eX6_ofPlanAt_6 ?_
  refine zR_iload_n C eX6_ofPlanAt_7 1 rfl rfl ?_
  refine zR_iadd C eX6_ofPlanAt_8 ?_
  refine zR_topi (b := nI (334 + 4 * zn32 s + w)) (m_ix1 (a := 334) (b := 4) hs (by decide)) ?_
  exact zR_iret C rfl rfl eX6_ofPlanAt_9 (Nat.zero_le _) (Nat.zero_le _) ⟨rfl, rfl⟩
set_option maxHeartbeats 1000000 in
set_option maxRecDepth 100000 in
theorem c_X6_number {l : Launch} {g : zG} (q : Nat → Nat) (m : MD) (r : RW) (p : Nat) (hp : p < 4540) : zM l g yX6_number cX6_number 2 (some .int) 0 0 0 [.ref (q 0), .int (nI p)] (rW g q m r) (zE (some (.int (r p).toInt32)) (rW g q m r)) := by
  refine zM_of (by decide +kernel) (Nat.le_of_ble_eq_true rfl) (fun x hl hn _ _ _ C => ?_)
  subst hl
  show zR x g _ (0, 0) 0 [(0, .ref (q 0)), (1, .int (nI p))] [] _
  refine zR_aload_n C eX6_number_0 0 rfl rfl ?_
  refine zR_get C fX6_7 eX6_number_1 0 rW_g0 rfl ?_
  refine zR_iload_n C eX6_number_4 1 rfl rfl ?_
  refine zR_laldN C eX6_number_5 1 rW_g1 ⟨by omega, by decide⟩ ?_
  refine zR_l2i C eX6_number_6 rfl ?_
  exact zR_iret C rfl rfl eX6_number_7 (Nat.zero_le _) (Nat.zero_le _) ⟨rfl, rfl⟩
set_option maxHeartbeats 1000000 in
set_option maxRecDepth 100000 in
theorem c_X6_isService {l : Launch} {g : zG} (q : Nat → Nat) (m : MD) (r : RW) (s : Int32)  : zM l g yX6_isService cX6_isService 2 (some .boolean) 1 0 0 [.ref (q 0), .int s] (rW g q m r) (zE (some (.int (zB (r_isS r s)))) (rW g q m r)) := by
  refine zM_of (by decide +kernel) (Nat.le_of_ble_eq_true rfl) (fun x hl hn _ _ _ C => ?_)
  subst hl
  show zR x g _ (0, 0) 0 [(0, .ref (q 0)), (1, .int s)] [] _
  refine zR_iload_n C eX6_isService_0 1 rfl rfl ?_
  refine zR_i2l C eX6_isService_1 ?_
  refine zR_lconst (v := 0) C eX6_isService_2 (by decide) ?_
  refine zR_aload_n C eX6_isService_3 0 rfl rfl ?_
  refine zR_get C fX6_7 eX6_isService_4 0 rW_g0 rfl ?_
  refine zR_bipush (v := 11) C eX6_isService_7 (by decide) ?_
  refine zR_laldK C eX6_isService_9 1 rW_g1 11 rfl (vp_in_iff.mpr (by decide)) ?_
  refine zR_lconst (v := 1) C eX6_isService_10 (by decide) ?_
  refine zR_lsub C eX6_isService_11 ?_
  refine zR_callS1 C kX6_56 eX6_isService_12 (c_X6_in _ _ _ ) rfl rfl (by decide) (by decide) (Nat.le_of_ble_eq_true rfl) (Nat.zero_le _) (Nat.zero_le _) ?_
  exact zR_iret C rfl (zB_nar _) eX6_isService_15 (Nat.zero_le _) (Nat.zero_le _) ⟨rfl, rfl⟩
set_option maxHeartbeats 1000000 in
set_option maxRecDepth 100000 in
theorem c_X6_isLoan {l : Launch} {g : zG} (q : Nat → Nat) (m : MD) (r : RW) (s : Int32)  : zM l g yX6_isLoan cX6_isLoan 2 (some .boolean) 1 0 0 [.ref (q 0), .int s] (rW g q m r) (zE (some (.int (zB (r_isL r s)))) (rW g q m r)) := by
  refine zM_of (by decide +kernel) (Nat.le_of_ble_eq_true rfl) (fun x hl hn _ _ _ C => ?_)
  subst hl
  show zR x g _ (0, 0) 0 [(0, .ref (q 0)), (1, .int s)] [] _
  refine zR_iload_n C eX6_isLoan_0 1 rfl rfl ?_
  refine zR_i2l C eX6_isLoan_1 ?_
  refine zR_lconst (v := 0) C eX6_isLoan_2 (by decide) ?_
  refine zR_aload_n C eX6_isLoan_3 0 rfl rfl ?_
  refine zR_get C fX6_7 eX6_isLoan_4 0 rW_g0 rfl ?_
  refine zR_bipush (v := 12) C eX6_isLoan_7 (by decide) ?_
  refine zR_laldK C eX6_isLoan_9 1 rW_g1 12 rfl (vp_in_iff.mpr (by decide)) ?_
  refine zR_lconst (v := 1) C eX6_isLoan_10 (by decide) ?_
  refine zR_lsub C eX6_isLoan_11 ?_
  refine zR_callS1 C kX6_56 eX6_isLoan_12 (c_X6_in _ _ _ ) rfl rfl (by decide) (by decide) (Nat.le_of_ble_eq_true rfl) (Nat.zero_le _) (Nat.zero_le _) ?_
  exact zR_iret C rfl (zB_nar _) eX6_isLoan_15 (Nat.zero_le _) (Nat.zero_le _) ⟨rfl, rfl⟩
set_option maxHeartbeats 1000000 in
set_option maxRecDepth 100000 in
theorem c_X6_isPlan {l : Launch} {g : zG} (q : Nat → Nat) (m : MD) (r : RW) (s : Int32)  : zM l g yX6_isPlan cX6_isPlan 2 (some .boolean) 1 0 0 [.ref (q 0), .int s] (rW g q m r) (zE (some (.int (zB (r_isP r s)))) (rW g q m r)) := by
  refine zM_of (by decide +kernel) (Nat.le_of_ble_eq_true rfl) (fun x hl hn _ _ _ C => ?_)
  subst hl
  show zR x g _ (0, 0) 0 [(0, .ref (q 0)), (1, .int s)] [] _
  refine zR_iload_n C eX6_isPlan_0 1 rfl rfl ?_
  refine zR_i2l C eX6_isPlan_1 ?_
  refine zR_lconst (v := 0) C eX6_isPlan_2 (by decide) ?_
  refine zR_aload_n C eX6_isPlan_3 0 rfl rfl ?_
  refine zR_get C fX6_7 eX6_isPlan_4 0 rW_g0 rfl ?_
  refine zR_bipush (v := 13) C eX6_isPlan_7 (by decide) ?_
  refine zR_laldK C eX6_isPlan_9 1 rW_g1 13 rfl (vp_in_iff.mpr (by decide)) ?_
  refine zR_lconst (v := 1) C eX6_isPlan_10 (by decide) ?_
  refine zR_lsub C eX6_isPlan_11 ?_
  refine zR_callS1 C kX6_56 eX6_isPlan_12 (c_X6_in _ _ _ ) rfl rfl (by decide) (by decide) (Nat.le_of_ble_eq_true rfl) (Nat.zero_le _) (Nat.zero_le _) ?_
  exact zR_iret C rfl (zB_nar _) eX6_isPlan_15 (Nat.zero_le _) (Nat.zero_le _) ⟨rfl, rfl⟩
set_option maxHeartbeats 1000000 in
set_option maxRecDepth 100000 in
theorem c_X6_left {l : Launch} {g : zG} (q : Nat → Nat) (m : MD) (r : RW) (s : Int32) (hs : vp_in s 8) : zM l g yX6_left cX6_left 2 (some .long) 1 0 0 [.ref (q 0), .int s] (rW g q m r) (zE (some (.long (r_left r (zn32 s)))) (rW g q m r)) := by
  refine zM_of (by decide +kernel) (Nat.le_of_ble_eq_true rfl) (fun x hl hn _ _ _ C => ?_)
  subst hl
  show zR x g _ (0, 0) 0 [(0, .ref (q 0)), (1, .int s)] [] _
  have hz := vp_lt hs (by decide)
  refine zR_aload_n C eX6_left_0 0 rfl rfl ?_
  refine zR_get C fX6_7 eX6_left_1 0 rW_g0 rfl ?_
  refine zR_iload_n C eX6_left_4 1 rfl rfl ?_
  refine zR_iconst (v := 1) C eX6_left_5 (by decide) ?_
  refine zR_callS1 C kX6_86 eX6_left_6 (c_X6_of _ 1 (by assumption) (by decide)) rfl rfl (by decide) (by decide) (Nat.le_of_ble_eq_true rfl) (Nat.zero_le _) (Nat.zero_le _) ?_
  refine zR_laldN C eX6_left_9 1 rW_g1 ⟨by omega, by decide⟩ ?_
  exact zR_lret C rfl eX6_left_10 (Nat.zero_le _) (Nat.zero_le _) ⟨rfl, rfl⟩
set_option maxHeartbeats 1000000 in
set_option maxRecDepth 100000 in
theorem c_X6_isFrozen {l : Launch} {g : zG} (q : Nat → Nat) (m : MD) (r : RW) (s : Int32) (hs : vp_in s 8) : zM l g yX6_isFrozen cX6_isFrozen 2 (some .boolean) 1 0 0 [.ref (q 0), .int s] (rW g q m r) (zE (some (.int (zB (r_frz r (zn32 s))))) (rW g q m r)) := by
  refine zM_of (by decide +kernel) (Nat.le_of_ble_eq_true rfl) (fun x hl hn _ _ _ C => ?_)
  subst hl
  show zR x g _ (0, 0) 0 [(0, .ref (q 0)), (1, .int s)] [] _
  have hz := vp_lt hs (by decide)
  refine zR_aload_n C eX6_isFrozen_0 0 rfl rfl ?_
  refine zR_get C fX6_7 eX6_isFrozen_1 0 rW_g0 rfl ?_
  refine zR_iload_n C eX6_isFrozen_4 1 rfl rfl ?_
  refine zR_iconst (v := 3) C eX6_isFrozen_5 (by decide) ?_
  refine zR_callS1 C kX6_86 eX6_isFrozen_6 (c_X6_of _ 3 (by assumption) (by decide)) rfl rfl (by decide) (by decide) (Nat.le_of_ble_eq_true rfl) (Nat.zero_le _) (Nat.zero_le _) ?_
  refine zR_laldN C eX6_isFrozen_9 1 rW_g1 ⟨by omega, by decide⟩ ?_
  refine zR_lconst (v := 1) C eX6_isFrozen_10 (by decide) ?_
  refine zR_cifne C eX6_isFrozen_11 eX6_isFrozen_12 (fun h11 => ?_) (fun h11 => ?_)
  · skip
    refine zR_iconst (v := 0) C eX6_isFrozen_19 (by decide) ?_
    exact zR_iret C rfl rfl eX6_isFrozen_20 (Nat.zero_le _) (Nat.zero_le _) ⟨(by first | (unfold r_frz; rw [if_neg h11]; first | done | rfl) | rfl | (simp only [r_frz, if_neg h11]; first | done | rfl)), (by first | (unfold r_frz; rw [if_neg h11]; first | done | rfl) | rfl | (simp only [r_frz, if_neg h11]; first | done | rfl))⟩
  · skip
    refine zR_iconst (v := 1) C eX6_isFrozen_15 (by decide) ?_
    refine zR_goto C eX6_isFrozen_16 ?_
    exact zR_iret C rfl rfl eX6_isFrozen_20 (Nat.zero_le _) (Nat.zero_le _) ⟨(by first | (unfold r_frz; rw [if_pos h11]; first | done | rfl) | rfl | (simp only [r_frz, if_pos h11]; first | done | rfl)), (by first | (unfold r_frz; rw [if_pos h11]; first | done | rfl) | rfl | (simp only [r_frz, if_pos h11]; first | done | rfl))⟩
set_option maxHeartbeats 1000000 in
set_option maxRecDepth 100000 in
theorem c_X6_thawing {l : Launch} {g : zG} (q : Nat → Nat) (m : MD) (r : RW) (s : Int32) (hs : vp_in s 8) : zM l g yX6_thawing cX6_thawing 2 (some .long) 1 0 0 [.ref (q 0), .int s] (rW g q m r) (zE (some (.long (r_thw r (zn32 s)))) (rW g q m r)) := by
  refine zM_of (by decide +kernel) (Nat.le_of_ble_eq_true rfl) (fun x hl hn _ _ _ C => ?_)
  subst hl
  show zR x g _ (0, 0) 0 [(0, .ref (q 0)), (1, .int s)] [] _
  have hz := vp_lt hs (by decide)
  refine zR_aload_n C eX6_thawing_0 0 rfl rfl ?_
  refine zR_get C fX6_7 eX6_thawing_1 0 rW_g0 rfl ?_
  refine zR_iload_n C eX6_thawing_4 1 rfl rfl ?_
  refine zR_iconst (v := 0) C eX6_thawing_5 (by decide) ?_
  refine zR_callS1 C kX6_86 eX6_thawing_6 (c_X6_of _ 0 (by assumption) (by decide)) rfl rfl (by decide) (by decide) (Nat.le_of_ble_eq_true rfl) (Nat.zero_le _) (Nat.zero_le _) ?_
  refine zR_laldN C eX6_thawing_9 1 rW_g1 ⟨by omega, by decide⟩ ?_
  refine zR_aload_n C eX6_thawing_10 0 rfl rfl ?_
  refine zR_get C fX6_7 eX6_thawing_11 0 rW_g0 rfl ?_
  refine zR_iconst (v := 3) C eX6_thawing_14 (by decide) ?_
  refine zR_laldK C eX6_thawing_15 1 rW_g1 3 rfl (vp_in_iff.mpr (by decide)) ?_
  refine zR_lmul C eX6_thawing_16 ?_
  refine zR_ldc2 C qX6_80 eX6_thawing_17 ?_
  refine zR_ldiv C eX6_thawing_20 (by decide) ?_
  exact zR_lret C rfl eX6_thawing_21 (Nat.zero_le _) (Nat.zero_le _) ⟨rfl, rfl⟩
set_option maxHeartbeats 1000000 in
set_option maxRecDepth 100000 in
theorem c_X6_refuse {l : Launch} {g : zG} (q : Nat → Nat) (m : MD) (r : RW) (w : Int32)  : zM l g yX6_refuse cX6_refuse 2 (some .int) 0 0 0 [.ref (q 0), .int w] (rW g q m r) (zE (some (.int (-5))) (rW g q (m_srea m w) r)) := by
  refine zM_of (by decide +kernel) (Nat.le_of_ble_eq_true rfl) (fun x hl hn _ _ _ C => ?_)
  subst hl
  show zR x g _ (0, 0) 0 [(0, .ref (q 0)), (1, .int w)] [] _
  refine zR_aload_n C eX6_refuse_0 0 rfl rfl ?_
  refine zR_iload_n C eX6_refuse_1 1 rfl rfl ?_
  refine zR_put C pX6_67 eX6_refuse_2 0 rW_g0 (Nat.le_of_ble_eq_true rfl) rW_s0_3 ?_
  refine zR_bipush (v := -5) C eX6_refuse_5 (by decide) ?_
  exact zR_iret C rfl rfl eX6_refuse_7 (Nat.zero_le _) (Nat.zero_le _) ⟨rfl, rfl⟩
set_option maxHeartbeats 1000000 in
set_option maxRecDepth 100000 in
theorem c_X6_change {l : Launch} {g : zG} (q : Nat → Nat) (m : MD) (r : RW) (s : Int32) (b : Int64) (hs : vp_in s 8) : zM l g yX6_change cX6_change 4 none 2 0 0 [.ref (q 0), .int s, .long b] (rW g q m r) (zE none (rW g q m (r_change r (zn32 s) b))) := by
  refine zM_of (by decide +kernel) (Nat.le_of_ble_eq_true rfl) (fun x hl hn _ _ _ C => ?_)
  subst hl
  show zR x g _ (0, 0) 0 [(0, .ref (q 0)), (1, .int s), (2, .long b)] [] _
  have hz := vp_lt hs (by decide)
  refine zR_aload_n C eX6_change_0 0 rfl rfl ?_
  refine zR_get C fX6_7 eX6_change_1 0 rW_g0 rfl ?_
  refine zR_iload_n C eX6_change_4 1 rfl rfl ?_
  refine zR_iconst (v := 1) C eX6_change_5 (by decide) ?_
  refine zR_callS1 C kX6_86 eX6_change_6 (c_X6_of _ 1 (by assumption) (by decide)) rfl rfl (by decide) (by decide) (Nat.le_of_ble_eq_true rfl) (Nat.zero_le _) (Nat.zero_le _) ?_
  refine zR_dup2 C eX6_change_9 rfl rfl ?_
  refine zR_laldN C eX6_change_10 1 rW_g1 ⟨by omega, by decide⟩ ?_
  refine zR_lload_n C eX6_change_11 2 rfl rfl ?_
  refine zR_ladd C eX6_change_12 ?_
  refine zR_lastN C eX6_change_13 1 rW_g1 ⟨by omega, by decide⟩ rW_s1 ?_
  refine zR_ws (rW g q m (r_add r (14 + 15 * zn32 s + 1) b)) rfl ?_
  refine zR_aload_n C eX6_change_14 0 rfl rfl ?_
  refine zR_iload_n C eX6_change_15 1 rfl rfl ?_
  refine zR_callV1 C kX6_90 eX6_change_16 (c_X6_left q _ _ _ (by assumption)) rfl 0 6 rW_g0 rfl rfl _ rW_c rW_n rfl (by decide) (by decide) (Nat.le_of_ble_eq_true rfl) (Nat.zero_le _) (Nat.zero_le _) rW_f rW_r ?_
  refine zR_lconst (v := 0) C eX6_change_19 (by decide) ?_
  refine zR_cifgt C eX6_change_20 eX6_change_21 (fun h20 => ?_) (fun h20 => ?_)
  · skip
    refine zR_aload_n C eX6_change_65 0 rfl rfl ?_
    refine zR_iload_n C eX6_change_66 1 rfl rfl ?_
    refine zR_callV1 C kX6_90 eX6_change_67 (c_X6_left q _ _ _ (by assumption)) rfl 0 6 rW_g0 rfl rfl _ rW_c rW_n rfl (by decide) (by decide) (Nat.le_of_ble_eq_true rfl) (Nat.zero_le _) (Nat.zero_le _) rW_f rW_r ?_
    refine zR_aload_n C eX6_change_70 0 rfl rfl ?_
    refine zR_iload_n C eX6_change_71 1 rfl rfl ?_
    refine zR_callV1 C kX6_98 eX6_change_72 (c_X6_thawing q _ _ _ (by assumption)) rfl 0 6 rW_g0 rfl rfl _ rW_c rW_n rfl (by decide) (by decide) (Nat.le_of_ble_eq_true rfl) (Nat.zero_le _) (Nat.zero_le _) rW_f rW_r ?_
    refine zR_cifle C eX6_change_75 eX6_change_76 (fun h75 => ?_) (fun h75 => ?_)
    · skip
      exact zR_vret C rfl eX6_change_90 (Nat.zero_le _) (Nat.zero_le _) ⟨rfl, (by first | (unfold r_change r_sett; rw [if_neg h20, if_pos h75]; first | done | rfl) | rfl | (simp only [r_change, r_sett, if_neg h20, if_pos h75]; first | done | rfl))⟩
    · skip
      refine zR_aload_n C eX6_change_79 0 rfl rfl ?_
      refine zR_get C fX6_7 eX6_change_80 0 rW_g0 rfl ?_
      refine zR_iload_n C eX6_change_83 1 rfl rfl ?_
      refine zR_iconst (v := 3) C eX6_change_84 (by decide) ?_
      refine zR_callS1 C kX6_86 eX6_change_85 (c_X6_of _ 3 (by assumption) (by decide)) rfl rfl (by decide) (by decide) (Nat.le_of_ble_eq_true rfl) (Nat.zero_le _) (Nat.zero_le _) ?_
      refine zR_lconst (v := 0) C eX6_change_88 (by decide) ?_
      refine zR_lastN C eX6_change_89 1 rW_g1 ⟨by omega, by decide⟩ rW_s1 ?_
      exact zR_vret C rfl eX6_change_90 (Nat.zero_le _) (Nat.zero_le _) ⟨rfl, (by first | (unfold r_change r_sett; rw [if_neg h20, if_neg h75]; first | done | rfl) | rfl | (simp only [r_change, r_sett, if_neg h20, if_neg h75]; first | done | rfl))⟩
  · skip
    refine zR_aload_n C eX6_change_24 0 rfl rfl ?_
    refine zR_get C fX6_7 eX6_change_25 0 rW_g0 rfl ?_
    refine zR_iload_n C eX6_change_28 1 rfl rfl ?_
    refine zR_bipush (v := 6) C eX6_change_29 (by decide) ?_
    refine zR_callS1 C kX6_86 eX6_change_31 (c_X6_of _ 6 (by assumption) (by decide)) rfl rfl (by decide) (by decide) (Nat.le_of_ble_eq_true rfl) (Nat.zero_le _) (Nat.zero_le _) ?_
    refine zR_dup2 C eX6_change_34 rfl rfl ?_
    refine zR_laldN C eX6_change_35 1 rW_g1 ⟨by omega, by decide⟩ ?_
    refine zR_aload_n C eX6_change_36 0 rfl rfl ?_
    refine zR_iload_n C eX6_change_37 1 rfl rfl ?_
    refine zR_callV1 C kX6_94 eX6_change_38 (c_X6_isFrozen q _ _ _ (by assumption)) rfl 0 6 rW_g0 rfl rfl _ rW_c rW_n rfl (by decide) (by decide) (Nat.le_of_ble_eq_true rfl) (Nat.zero_le _) (Nat.zero_le _) rW_f rW_r ?_
    refine zR_bfeq C eX6_change_41 (fun h41 => ?_) (fun h41 => ?_)
    · skip
      refine zR_lconst (v := 1) C eX6_change_48 (by decide) ?_
      refine zR_ladd C eX6_change_49 ?_
      refine zR_lastN C eX6_change_50 1 rW_g1 ⟨by omega, by decide⟩ rW_s1 ?_
      refine zR_ws (rW g q m (r_add (r_add r (14 + 15 * zn32 s + 1) b) (14 + 15 * zn32 s + 6) _)) rfl ?_
      refine zR_aload_n C eX6_change_51 0 rfl rfl ?_
      refine zR_get C fX6_7 eX6_change_52 0 rW_g0 rfl ?_
      refine zR_iload_n C eX6_change_55 1 rfl rfl ?_
      refine zR_iconst (v := 3) C eX6_change_56 (by decide) ?_
      refine zR_callS1 C kX6_86 eX6_change_57 (c_X6_of _ 3 (by assumption) (by decide)) rfl rfl (by decide) (by decide) (Nat.le_of_ble_eq_true rfl) (Nat.zero_le _) (Nat.zero_le _) ?_
      refine zR_lconst (v := 1) C eX6_change_60 (by decide) ?_
      refine zR_lastN C eX6_change_61 1 rW_g1 ⟨by omega, by decide⟩ rW_s1 ?_
      refine zR_goto C eX6_change_62 ?_
      exact zR_vret C rfl eX6_change_90 (Nat.zero_le _) (Nat.zero_le _) ⟨rfl, (by first | (unfold r_change r_sett; rw [if_pos h20, if_neg h41]; first | done | rfl) | rfl | (simp only [r_change, r_sett, if_pos h20, if_neg h41]; first | done | rfl))⟩
    · skip
      refine zR_lconst (v := 0) C eX6_change_44 (by decide) ?_
      refine zR_goto C eX6_change_45 ?_
      refine zR_ladd C eX6_change_49 ?_
      refine zR_lastN C eX6_change_50 1 rW_g1 ⟨by omega, by decide⟩ rW_s1 ?_
      refine zR_ws (rW g q m (r_add (r_add r (14 + 15 * zn32 s + 1) b) (14 + 15 * zn32 s + 6) _)) rfl ?_
      refine zR_aload_n C eX6_change_51 0 rfl rfl ?_
      refine zR_get C fX6_7 eX6_change_52 0 rW_g0 rfl ?_
      refine zR_iload_n C eX6_change_55 1 rfl rfl ?_
      refine zR_iconst (v := 3) C eX6_change_56 (by decide) ?_
      refine zR_callS1 C kX6_86 eX6_change_57 (c_X6_of _ 3 (by assumption) (by decide)) rfl rfl (by decide) (by decide) (Nat.le_of_ble_eq_true rfl) (Nat.zero_le _) (Nat.zero_le _) ?_
      refine zR_lconst (v := 1) C eX6_change_60 (by decide) ?_
      refine zR_lastN C eX6_change_61 1 rW_g1 ⟨by omega, by decide⟩ rW_s1 ?_
      refine zR_goto C eX6_change_62 ?_
      exact zR_vret C rfl eX6_change_90 (Nat.zero_le _) (Nat.zero_le _) ⟨rfl, (by first | (unfold r_change r_sett; rw [if_pos h20, if_pos h41]; first | done | rfl) | rfl | (simp only [r_change, r_sett, if_pos h20, if_pos h41]; first | done | rfl))⟩
set_option maxHeartbeats 1000000 in
set_option maxRecDepth 100000 in
theorem c_X6_spend {l : Launch} {g : zG} (q : Nat → Nat) (m : MD) (r : RW) (s : Int32) (z : Int64) (hs : vp_in s 8) : zM l g yX6_spend cX6_spend 4 none 3 0 0 [.ref (q 0), .int s, .long z] (rW g q m r) (zE none (rW g q m (r_spend r (zn32 s) z))) := by
  refine zM_of (by decide +kernel) (Nat.le_of_ble_eq_true rfl) (fun x hl hn _ _ _ C => ?_)
  subst hl
  show zR x g _ (0, 0) 0 [(0, .ref (q 0)), (1, .int s), (2, .long z)] [] _
  have hz := vp_lt hs (by decide)
  refine zR_aload_n C eX6_spend_0 0 rfl rfl ?_
  refine zR_get C fX6_7 eX6_spend_1 0 rW_g0 rfl ?_
  refine zR_iload_n C eX6_spend_4 1 rfl rfl ?_
  refine zR_iconst (v := 4) C eX6_spend_5 (by decide) ?_
  refine zR_callS1 C kX6_105 eX6_spend_6 (c_X6_accountOf _ 4 (by assumption) (by decide)) rfl rfl (by decide) (by decide) (Nat.le_of_ble_eq_true rfl) (Nat.zero_le _) (Nat.zero_le _) ?_
  refine zR_dup2 C eX6_spend_9 rfl rfl ?_
  refine zR_laldN C eX6_spend_10 1 rW_g1 ⟨by omega, by decide⟩ ?_
  refine zR_lload_n C eX6_spend_11 2 rfl rfl ?_
  refine zR_ladd C eX6_spend_12 ?_
  refine zR_lastN C eX6_spend_13 1 rW_g1 ⟨by omega, by decide⟩ rW_s1 ?_
  refine zR_aload_n C eX6_spend_14 0 rfl rfl ?_
  refine zR_get C fX6_7 eX6_spend_15 0 rW_g0 rfl ?_
  refine zR_iload_n C eX6_spend_18 1 rfl rfl ?_
  refine zR_iconst (v := 4) C eX6_spend_19 (by decide) ?_
  refine zR_callS1 C kX6_86 eX6_spend_20 (c_X6_of _ 4 (by assumption) (by decide)) rfl rfl (by decide) (by decide) (Nat.le_of_ble_eq_true rfl) (Nat.zero_le _) (Nat.zero_le _) ?_
  refine zR_dup2 C eX6_spend_23 rfl rfl ?_
  refine zR_laldN C eX6_spend_24 1 rW_g1 ⟨by omega, by decide⟩ ?_
  refine zR_lconst (v := 1) C eX6_spend_25 (by decide) ?_
  refine zR_ladd C eX6_spend_26 ?_
  refine zR_lastN C eX6_spend_27 1 rW_g1 ⟨by omega, by decide⟩ rW_s1 ?_
  refine zR_aload_n C eX6_spend_28 0 rfl rfl ?_
  refine zR_iload_n C eX6_spend_29 1 rfl rfl ?_
  refine zR_lload_n C eX6_spend_30 2 rfl rfl ?_
  refine zR_lneg C eX6_spend_31 ?_
  refine zR_callVv C kX6_111 eX6_spend_32 (c_X6_change q _ _ _ _ (by assumption)) rfl 0 6 rW_g0 rfl rfl _ rW_c rW_n rfl (by decide) (by decide) (Nat.le_of_ble_eq_true rfl) (Nat.zero_le _) (Nat.zero_le _) rW_f rW_r ?_
  exact zR_vret C rfl eX6_spend_35 (Nat.zero_le _) (Nat.zero_le _) ⟨rfl, rfl⟩
