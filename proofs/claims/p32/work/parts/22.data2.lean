/-! Two objects of a kind side by side (copyFrom). -/
theorem zrep_app : ∀ (i1 : List Nat) (w1 : va_W) (i2 : List Nat) (w2 ws : va_W), i1.length = w1.length → zrep ws (i1 ++ i2) (w1 ++ w2) = zrep (zrep ws i1 w1) i2 w2
  | [], [], i2, w2, ws, _ => rfl
  | [], _ :: _, i2, w2, ws, h => by simp at h
  | _ :: _, [], i2, w2, ws, h => by simp at h
  | i :: i1, e :: w1, i2, w2, ws, h => zrep_app i1 w1 i2 w2 (ws.set i e) (by simpa using h)
theorem zget_2 {ws : va_W} {i1 i2 : List Nat} {w1 w2 : va_W} (h1 : i1.map (fun i => ws[i]?) = w1.map some) (h2 : i2.map (fun i => ws[i]?) = w2.map some) : (i1 ++ i2).map (fun i => ws[i]?) = (w1 ++ w2).map some := by
  rw [List.map_append, List.map_append, h1, h2]

def llW (g : zG) (q : Nat → Nat) (d : LD) (r : Nat → Nat) (u : LD) : va_W := lW g q d ++ lW g r u
theorem llW_g0 {g : zG} {q r : Nat → Nat} {d u : LD} : (llW g q d r u)[0]? = some (q 0, .inr (2, [.int (l_num d), .ref (q 1), .ref (q 2), .ref (q 3), .ref (q 4), .ref (q 5)])) := rfl
theorem llW_s0_0 {g : zG} {q r : Nat → Nat} {d u : LD} {v : Int32} : (llW g q d r u).set 0 (q 0, .inr (2, ([.int (l_num d), .ref (q 1), .ref (q 2), .ref (q 3), .ref (q 4), .ref (q 5)] : List Value).set 0 (.int v))) = llW g q (l_snum d v) r u := rfl
theorem llW_g1 {g : zG} {q r : Nat → Nat} {d u : LD} : (llW g q d r u)[1]? = some (q 1, .inl (g.2.1 0, 40, .inl (l_len d))) := rfl
theorem llW_s1 {g : zG} {q r : Nat → Nat} {d u : LD} {v : Nat → Int32} : (llW g q d r u).set 1 (q 1, .inl (g.2.1 0, 40, .inl v)) = llW g q (l_slen d v) r u := rfl
theorem llW_g2 {g : zG} {q r : Nat → Nat} {d u : LD} : (llW g q d r u)[2]? = some (q 2, .inl (g.2.1 0, 40, .inl (l_bor d))) := rfl
theorem llW_s2 {g : zG} {q r : Nat → Nat} {d u : LD} {v : Nat → Int32} : (llW g q d r u).set 2 (q 2, .inl (g.2.1 0, 40, .inl v)) = llW g q (l_sbor d v) r u := rfl
theorem llW_g3 {g : zG} {q r : Nat → Nat} {d u : LD} : (llW g q d r u)[3]? = some (q 3, .inl (g.2.1 0, 40, .inl (l_min d))) := rfl
theorem llW_s3 {g : zG} {q r : Nat → Nat} {d u : LD} {v : Nat → Int32} : (llW g q d r u).set 3 (q 3, .inl (g.2.1 0, 40, .inl v)) = llW g q (l_smin d v) r u := rfl
theorem llW_g4 {g : zG} {q r : Nat → Nat} {d u : LD} : (llW g q d r u)[4]? = some (q 4, .inl (g.2.1 0, 40, .inl (l_owe d))) := rfl
theorem llW_s4 {g : zG} {q r : Nat → Nat} {d u : LD} {v : Nat → Int32} : (llW g q d r u).set 4 (q 4, .inl (g.2.1 0, 40, .inl v)) = llW g q (l_sowe d v) r u := rfl
theorem llW_g5 {g : zG} {q r : Nat → Nat} {d u : LD} : (llW g q d r u)[5]? = some (q 5, .inl (g.2.1 0, 40, .inl (l_due d))) := rfl
theorem llW_s5 {g : zG} {q r : Nat → Nat} {d u : LD} {v : Nat → Int32} : (llW g q d r u).set 5 (q 5, .inl (g.2.1 0, 40, .inl v)) = llW g q (l_sdue d v) r u := rfl
theorem llW_g6 {g : zG} {q r : Nat → Nat} {d u : LD} : (llW g q d r u)[6]? = some (r 0, .inr (2, [.int (l_num u), .ref (r 1), .ref (r 2), .ref (r 3), .ref (r 4), .ref (r 5)])) := rfl
theorem llW_g7 {g : zG} {q r : Nat → Nat} {d u : LD} : (llW g q d r u)[7]? = some (r 1, .inl (g.2.1 0, 40, .inl (l_len u))) := rfl
theorem llW_g8 {g : zG} {q r : Nat → Nat} {d u : LD} : (llW g q d r u)[8]? = some (r 2, .inl (g.2.1 0, 40, .inl (l_bor u))) := rfl
theorem llW_g9 {g : zG} {q r : Nat → Nat} {d u : LD} : (llW g q d r u)[9]? = some (r 3, .inl (g.2.1 0, 40, .inl (l_min u))) := rfl
theorem llW_g10 {g : zG} {q r : Nat → Nat} {d u : LD} : (llW g q d r u)[10]? = some (r 4, .inl (g.2.1 0, 40, .inl (l_owe u))) := rfl
theorem llW_g11 {g : zG} {q r : Nat → Nat} {d u : LD} : (llW g q d r u)[11]? = some (r 5, .inl (g.2.1 0, 40, .inl (l_due u))) := rfl
theorem llW_f {g : zG} {q r : Nat → Nat} {d u : LD} {d2 : LD} : (llW g q d2 r u).map Prod.fst = (llW g q d r u).map Prod.fst := rfl
theorem llW_c {g : zG} {q r : Nat → Nat} {d u : LD} : ([0, 1, 2, 3, 4, 5, 6, 7, 8, 9, 10, 11] : List Nat).map (fun i => (llW g q d r u)[i]?) = (llW g q d r u).map some := zget_a rfl
theorem llW_r {g : zG} {q r : Nat → Nat} {d u : LD} {d2 : LD} : zrep (llW g q d r u) [0, 1, 2, 3, 4, 5, 6, 7, 8, 9, 10, 11] (llW g q d2 r u) = llW g q d2 r u := zrep_a rfl rfl
theorem llW_n : va_nd [0, 1, 2, 3, 4, 5, 6, 7, 8, 9, 10, 11] = true := by decide
def ppW (g : zG) (q : Nat → Nat) (d : PD) (r : Nat → Nat) (u : PD) : va_W := pW g q d ++ pW g r u
theorem ppW_g0 {g : zG} {q r : Nat → Nat} {d u : PD} : (ppW g q d r u)[0]? = some (q 0, .inr (4, [.int (p_num d), .ref (q 1), .ref (q 2), .ref (q 3), .ref (q 4), .ref (q 5), .ref (q 6), .int (p_wat d), .int (p_wf d)])) := rfl
theorem ppW_s0_0 {g : zG} {q r : Nat → Nat} {d u : PD} {v : Int32} : (ppW g q d r u).set 0 (q 0, .inr (4, ([.int (p_num d), .ref (q 1), .ref (q 2), .ref (q 3), .ref (q 4), .ref (q 5), .ref (q 6), .int (p_wat d), .int (p_wf d)] : List Value).set 0 (.int v))) = ppW g q (p_snum d v) r u := rfl
theorem ppW_s0_7 {g : zG} {q r : Nat → Nat} {d u : PD} {v : Int32} : (ppW g q d r u).set 0 (q 0, .inr (4, ([.int (p_num d), .ref (q 1), .ref (q 2), .ref (q 3), .ref (q 4), .ref (q 5), .ref (q 6), .int (p_wat d), .int (p_wf d)] : List Value).set 7 (.int v))) = ppW g q (p_swat d v) r u := rfl
theorem ppW_s0_8 {g : zG} {q r : Nat → Nat} {d u : PD} {v : Int32} : (ppW g q d r u).set 0 (q 0, .inr (4, ([.int (p_num d), .ref (q 1), .ref (q 2), .ref (q 3), .ref (q 4), .ref (q 5), .ref (q 6), .int (p_wat d), .int (p_wf d)] : List Value).set 8 (.int v))) = ppW g q (p_swf d v) r u := rfl
theorem ppW_g1 {g : zG} {q r : Nat → Nat} {d u : PD} : (ppW g q d r u)[1]? = some (q 1, .inl (g.2.1 0, 30, .inl (p_srv d))) := rfl
theorem ppW_s1 {g : zG} {q r : Nat → Nat} {d u : PD} {v : Nat → Int32} : (ppW g q d r u).set 1 (q 1, .inl (g.2.1 0, 30, .inl v)) = ppW g q (p_ssrv d v) r u := rfl
theorem ppW_g2 {g : zG} {q r : Nat → Nat} {d u : PD} : (ppW g q d r u)[2]? = some (q 2, .inl (g.2.1 0, 30, .inl (p_hr d))) := rfl
theorem ppW_s2 {g : zG} {q r : Nat → Nat} {d u : PD} {v : Nat → Int32} : (ppW g q d r u).set 2 (q 2, .inl (g.2.1 0, 30, .inl v)) = ppW g q (p_shr d v) r u := rfl
theorem ppW_g3 {g : zG} {q r : Nat → Nat} {d u : PD} : (ppW g q d r u)[3]? = some (q 3, .inl (g.2.1 0, 30, .inl (p_sz d))) := rfl
theorem ppW_s3 {g : zG} {q r : Nat → Nat} {d u : PD} {v : Nat → Int32} : (ppW g q d r u).set 3 (q 3, .inl (g.2.1 0, 30, .inl v)) = ppW g q (p_ssz d v) r u := rfl
theorem ppW_g4 {g : zG} {q r : Nat → Nat} {d u : PD} : (ppW g q d r u)[4]? = some (q 4, .inl (g.2.1 0, 30, .inl (p_pri d))) := rfl
theorem ppW_s4 {g : zG} {q r : Nat → Nat} {d u : PD} {v : Nat → Int32} : (ppW g q d r u).set 4 (q 4, .inl (g.2.1 0, 30, .inl v)) = ppW g q (p_spri d v) r u := rfl
theorem ppW_g5 {g : zG} {q r : Nat → Nat} {d u : PD} : (ppW g q d r u)[5]? = some (q 5, .inl (g.2.1 0, 30, .inl (p_fate d))) := rfl
theorem ppW_s5 {g : zG} {q r : Nat → Nat} {d u : PD} {v : Nat → Int32} : (ppW g q d r u).set 5 (q 5, .inl (g.2.1 0, 30, .inl v)) = ppW g q (p_sfate d v) r u := rfl
theorem ppW_g6 {g : zG} {q r : Nat → Nat} {d u : PD} : (ppW g q d r u)[6]? = some (q 6, .inl (g.2.1 0, 30, .inl (p_turn d))) := rfl
theorem ppW_s6 {g : zG} {q r : Nat → Nat} {d u : PD} {v : Nat → Int32} : (ppW g q d r u).set 6 (q 6, .inl (g.2.1 0, 30, .inl v)) = ppW g q (p_sturn d v) r u := rfl
theorem ppW_g7 {g : zG} {q r : Nat → Nat} {d u : PD} : (ppW g q d r u)[7]? = some (r 0, .inr (4, [.int (p_num u), .ref (r 1), .ref (r 2), .ref (r 3), .ref (r 4), .ref (r 5), .ref (r 6), .int (p_wat u), .int (p_wf u)])) := rfl
theorem ppW_g8 {g : zG} {q r : Nat → Nat} {d u : PD} : (ppW g q d r u)[8]? = some (r 1, .inl (g.2.1 0, 30, .inl (p_srv u))) := rfl
theorem ppW_g9 {g : zG} {q r : Nat → Nat} {d u : PD} : (ppW g q d r u)[9]? = some (r 2, .inl (g.2.1 0, 30, .inl (p_hr u))) := rfl
theorem ppW_g10 {g : zG} {q r : Nat → Nat} {d u : PD} : (ppW g q d r u)[10]? = some (r 3, .inl (g.2.1 0, 30, .inl (p_sz u))) := rfl
theorem ppW_g11 {g : zG} {q r : Nat → Nat} {d u : PD} : (ppW g q d r u)[11]? = some (r 4, .inl (g.2.1 0, 30, .inl (p_pri u))) := rfl
theorem ppW_g12 {g : zG} {q r : Nat → Nat} {d u : PD} : (ppW g q d r u)[12]? = some (r 5, .inl (g.2.1 0, 30, .inl (p_fate u))) := rfl
theorem ppW_g13 {g : zG} {q r : Nat → Nat} {d u : PD} : (ppW g q d r u)[13]? = some (r 6, .inl (g.2.1 0, 30, .inl (p_turn u))) := rfl
theorem ppW_f {g : zG} {q r : Nat → Nat} {d u : PD} {d2 : PD} : (ppW g q d2 r u).map Prod.fst = (ppW g q d r u).map Prod.fst := rfl
theorem ppW_c {g : zG} {q r : Nat → Nat} {d u : PD} : ([0, 1, 2, 3, 4, 5, 6, 7, 8, 9, 10, 11, 12, 13] : List Nat).map (fun i => (ppW g q d r u)[i]?) = (ppW g q d r u).map some := zget_a rfl
theorem ppW_r {g : zG} {q r : Nat → Nat} {d u : PD} {d2 : PD} : zrep (ppW g q d r u) [0, 1, 2, 3, 4, 5, 6, 7, 8, 9, 10, 11, 12, 13] (ppW g q d2 r u) = ppW g q d2 r u := zrep_a rfl rfl
theorem ppW_n : va_nd [0, 1, 2, 3, 4, 5, 6, 7, 8, 9, 10, 11, 12, 13] = true := by decide
def hhW (g : zG) (q : Nat → Nat) (d : HD) (r : Nat → Nat) (u : HD) : va_W := hW g q d ++ hW g r u
theorem hhW_g0 {g : zG} {q r : Nat → Nat} {d u : HD} : (hhW g q d r u)[0]? = some (q 0, .inr (1, [.ref (q 1), .int (h_hour d), .int (h_win d), .int (h_ws d), .int (h_cnt d), .int (h_frz d), .ref (q 2), .ref (q 3), .ref (q 4), .ref (q 5), .ref (q 6), .ref (q 7), .ref (q 8), .ref (q 14)])) := rfl
theorem hhW_s0_1 {g : zG} {q r : Nat → Nat} {d u : HD} {v : Int32} : (hhW g q d r u).set 0 (q 0, .inr (1, ([.ref (q 1), .int (h_hour d), .int (h_win d), .int (h_ws d), .int (h_cnt d), .int (h_frz d), .ref (q 2), .ref (q 3), .ref (q 4), .ref (q 5), .ref (q 6), .ref (q 7), .ref (q 8), .ref (q 14)] : List Value).set 1 (.int v))) = hhW g q (h_shour d v) r u := rfl
theorem hhW_s0_2 {g : zG} {q r : Nat → Nat} {d u : HD} {v : Int32} : (hhW g q d r u).set 0 (q 0, .inr (1, ([.ref (q 1), .int (h_hour d), .int (h_win d), .int (h_ws d), .int (h_cnt d), .int (h_frz d), .ref (q 2), .ref (q 3), .ref (q 4), .ref (q 5), .ref (q 6), .ref (q 7), .ref (q 8), .ref (q 14)] : List Value).set 2 (.int v))) = hhW g q (h_swin d v) r u := rfl
theorem hhW_s0_3 {g : zG} {q r : Nat → Nat} {d u : HD} {v : Int32} : (hhW g q d r u).set 0 (q 0, .inr (1, ([.ref (q 1), .int (h_hour d), .int (h_win d), .int (h_ws d), .int (h_cnt d), .int (h_frz d), .ref (q 2), .ref (q 3), .ref (q 4), .ref (q 5), .ref (q 6), .ref (q 7), .ref (q 8), .ref (q 14)] : List Value).set 3 (.int v))) = hhW g q (h_sws d v) r u := rfl
theorem hhW_s0_4 {g : zG} {q r : Nat → Nat} {d u : HD} {v : Int32} : (hhW g q d r u).set 0 (q 0, .inr (1, ([.ref (q 1), .int (h_hour d), .int (h_win d), .int (h_ws d), .int (h_cnt d), .int (h_frz d), .ref (q 2), .ref (q 3), .ref (q 4), .ref (q 5), .ref (q 6), .ref (q 7), .ref (q 8), .ref (q 14)] : List Value).set 4 (.int v))) = hhW g q (h_scnt d v) r u := rfl
theorem hhW_s0_5 {g : zG} {q r : Nat → Nat} {d u : HD} {v : Int32} : (hhW g q d r u).set 0 (q 0, .inr (1, ([.ref (q 1), .int (h_hour d), .int (h_win d), .int (h_ws d), .int (h_cnt d), .int (h_frz d), .ref (q 2), .ref (q 3), .ref (q 4), .ref (q 5), .ref (q 6), .ref (q 7), .ref (q 8), .ref (q 14)] : List Value).set 5 (.int v))) = hhW g q (h_sfrz d v) r u := rfl
theorem hhW_g1 {g : zG} {q r : Nat → Nat} {d u : HD} : (hhW g q d r u)[1]? = some (q 1, .inl (g.2.1 0, 8, .inl (h_set d))) := rfl
theorem hhW_s1 {g : zG} {q r : Nat → Nat} {d u : HD} {v : Nat → Int32} : (hhW g q d r u).set 1 (q 1, .inl (g.2.1 0, 8, .inl v)) = hhW g q (h_sset d v) r u := rfl
theorem hhW_g2 {g : zG} {q r : Nat → Nat} {d u : HD} : (hhW g q d r u)[2]? = some (q 2, .inl (g.2.1 0, 8, .inl (h_bud d))) := rfl
theorem hhW_s2 {g : zG} {q r : Nat → Nat} {d u : HD} {v : Nat → Int32} : (hhW g q d r u).set 2 (q 2, .inl (g.2.1 0, 8, .inl v)) = hhW g q (h_sbud d v) r u := rfl
theorem hhW_g3 {g : zG} {q r : Nat → Nat} {d u : HD} : (hhW g q d r u)[3]? = some (q 3, .inl (g.2.1 0, 8, .inl (h_exe d))) := rfl
theorem hhW_s3 {g : zG} {q r : Nat → Nat} {d u : HD} {v : Nat → Int32} : (hhW g q d r u).set 3 (q 3, .inl (g.2.1 0, 8, .inl v)) = hhW g q (h_sexe d v) r u := rfl
theorem hhW_g4 {g : zG} {q r : Nat → Nat} {d u : HD} : (hhW g q d r u)[4]? = some (q 4, .inl (g.2.1 0, 8, .inl (h_rel d))) := rfl
theorem hhW_s4 {g : zG} {q r : Nat → Nat} {d u : HD} {v : Nat → Int32} : (hhW g q d r u).set 4 (q 4, .inl (g.2.1 0, 8, .inl v)) = hhW g q (h_srel d v) r u := rfl
theorem hhW_g5 {g : zG} {q r : Nat → Nat} {d u : HD} : (hhW g q d r u)[5]? = some (q 5, .inl (g.2.1 0, 8, .inl (h_drp d))) := rfl
theorem hhW_s5 {g : zG} {q r : Nat → Nat} {d u : HD} {v : Nat → Int32} : (hhW g q d r u).set 5 (q 5, .inl (g.2.1 0, 8, .inl v)) = hhW g q (h_sdrp d v) r u := rfl
theorem hhW_g6 {g : zG} {q r : Nat → Nat} {d u : HD} : (hhW g q d r u)[6]? = some (q 6, .inl (g.2.1 0, 8, .inl (h_fr d))) := rfl
theorem hhW_s6 {g : zG} {q r : Nat → Nat} {d u : HD} {v : Nat → Int32} : (hhW g q d r u).set 6 (q 6, .inl (g.2.1 0, 8, .inl v)) = hhW g q (h_sfr d v) r u := rfl
theorem hhW_g7 {g : zG} {q r : Nat → Nat} {d u : HD} : (hhW g q d r u)[7]? = some (q 7, .inl (g.2.1 1, 72, .inr (.inl (h_acc d)))) := rfl
theorem hhW_s7 {g : zG} {q r : Nat → Nat} {d u : HD} {v : Nat → Int64} : (hhW g q d r u).set 7 (q 7, .inl (g.2.1 1, 72, .inr (.inl v))) = hhW g q (h_sacc d v) r u := rfl
theorem hhW_g8 {g : zG} {q r : Nat → Nat} {d u : HD} : (hhW g q d r u)[8]? = some (q 8, .inr (2, [.int (l_num (h_lo d)), .ref (q 9), .ref (q 10), .ref (q 11), .ref (q 12), .ref (q 13)])) := rfl
theorem hhW_g14 {g : zG} {q r : Nat → Nat} {d u : HD} : (hhW g q d r u)[14]? = some (q 14, .inr (4, [.int (p_num (h_pl d)), .ref (q 15), .ref (q 16), .ref (q 17), .ref (q 18), .ref (q 19), .ref (q 20), .int (p_wat (h_pl d)), .int (p_wf (h_pl d))])) := rfl
theorem hhW_g21 {g : zG} {q r : Nat → Nat} {d u : HD} : (hhW g q d r u)[21]? = some (r 0, .inr (1, [.ref (r 1), .int (h_hour u), .int (h_win u), .int (h_ws u), .int (h_cnt u), .int (h_frz u), .ref (r 2), .ref (r 3), .ref (r 4), .ref (r 5), .ref (r 6), .ref (r 7), .ref (r 8), .ref (r 14)])) := rfl
theorem hhW_g22 {g : zG} {q r : Nat → Nat} {d u : HD} : (hhW g q d r u)[22]? = some (r 1, .inl (g.2.1 0, 8, .inl (h_set u))) := rfl
theorem hhW_g23 {g : zG} {q r : Nat → Nat} {d u : HD} : (hhW g q d r u)[23]? = some (r 2, .inl (g.2.1 0, 8, .inl (h_bud u))) := rfl
theorem hhW_g24 {g : zG} {q r : Nat → Nat} {d u : HD} : (hhW g q d r u)[24]? = some (r 3, .inl (g.2.1 0, 8, .inl (h_exe u))) := rfl
theorem hhW_g25 {g : zG} {q r : Nat → Nat} {d u : HD} : (hhW g q d r u)[25]? = some (r 4, .inl (g.2.1 0, 8, .inl (h_rel u))) := rfl
theorem hhW_g26 {g : zG} {q r : Nat → Nat} {d u : HD} : (hhW g q d r u)[26]? = some (r 5, .inl (g.2.1 0, 8, .inl (h_drp u))) := rfl
theorem hhW_g27 {g : zG} {q r : Nat → Nat} {d u : HD} : (hhW g q d r u)[27]? = some (r 6, .inl (g.2.1 0, 8, .inl (h_fr u))) := rfl
theorem hhW_g28 {g : zG} {q r : Nat → Nat} {d u : HD} : (hhW g q d r u)[28]? = some (r 7, .inl (g.2.1 1, 72, .inr (.inl (h_acc u)))) := rfl
theorem hhW_g29 {g : zG} {q r : Nat → Nat} {d u : HD} : (hhW g q d r u)[29]? = some (r 8, .inr (2, [.int (l_num (h_lo u)), .ref (r 9), .ref (r 10), .ref (r 11), .ref (r 12), .ref (r 13)])) := rfl
theorem hhW_g35 {g : zG} {q r : Nat → Nat} {d u : HD} : (hhW g q d r u)[35]? = some (r 14, .inr (4, [.int (p_num (h_pl u)), .ref (r 15), .ref (r 16), .ref (r 17), .ref (r 18), .ref (r 19), .ref (r 20), .int (p_wat (h_pl u)), .int (p_wf (h_pl u))])) := rfl
theorem hhW_f {g : zG} {q r : Nat → Nat} {d u : HD} {d2 : HD} : (hhW g q d2 r u).map Prod.fst = (hhW g q d r u).map Prod.fst := rfl
theorem hhW_c {g : zG} {q r : Nat → Nat} {d u : HD} : ([0, 1, 2, 3, 4, 5, 6, 7, 8, 9, 10, 11, 12, 13, 14, 15, 16, 17, 18, 19, 20, 21, 22, 23, 24, 25, 26, 27, 28, 29, 30, 31, 32, 33, 34, 35, 36, 37, 38, 39, 40, 41] : List Nat).map (fun i => (hhW g q d r u)[i]?) = (hhW g q d r u).map some := zget_a rfl
theorem hhW_r {g : zG} {q r : Nat → Nat} {d u : HD} {d2 : HD} : zrep (hhW g q d r u) [0, 1, 2, 3, 4, 5, 6, 7, 8, 9, 10, 11, 12, 13, 14, 15, 16, 17, 18, 19, 20, 21, 22, 23, 24, 25, 26, 27, 28, 29, 30, 31, 32, 33, 34, 35, 36, 37, 38, 39, 40, 41] (hhW g q d2 r u) = hhW g q d2 r u := zrep_a rfl rfl
theorem hhW_n : va_nd [0, 1, 2, 3, 4, 5, 6, 7, 8, 9, 10, 11, 12, 13, 14, 15, 16, 17, 18, 19, 20, 21, 22, 23, 24, 25, 26, 27, 28, 29, 30, 31, 32, 33, 34, 35, 36, 37, 38, 39, 40, 41] = true := by decide
theorem ppW_c0 {g : zG} {q r : Nat → Nat} {d u : PD} : ([0, 1, 2, 3, 4, 5, 6] : List Nat).map (fun i => (ppW g q d r u)[i]?) = (pW g q d).map some := zget_m [] (pW g q d) (pW g r u) rfl rfl
theorem ppW_r0 {g : zG} {q r : Nat → Nat} {d u d2 : PD} : zrep (ppW g q d r u) [0, 1, 2, 3, 4, 5, 6] (pW g q d2) = ppW g q d2 r u := zrep_m [] (pW g q d) (pW g r u) rfl rfl rfl rfl
theorem hhW_c8 {g : zG} {q r : Nat → Nat} {d u : HD} : ([8, 9, 10, 11, 12, 13, 29, 30, 31, 32, 33, 34] : List Nat).map (fun i => (hhW g q d r u)[i]?) = (llW g (fun j => q (8 + j)) (h_lo d) (fun j => r (8 + j)) (h_lo u)).map some := zget_2 (i1 := [8, 9, 10, 11, 12, 13]) (i2 := [29, 30, 31, 32, 33, 34]) (zget_m (hW0 g q d) (lW g (fun j => q (8 + j)) (h_lo d)) (pW g (fun j => q (14 + j)) (h_pl d) ++ hW g r u) (by simp only [hhW, hW, List.append_assoc, List.append_nil]) rfl) (zget_m (hW g q d ++ hW0 g r u) (lW g (fun j => r (8 + j)) (h_lo u)) (pW g (fun j => r (14 + j)) (h_pl u)) (by simp only [hhW, hW, List.append_assoc, List.append_nil]) rfl)
theorem hhW_r8 {g : zG} {q r : Nat → Nat} {d u : HD} {v : LD} : zrep (hhW g q d r u) [8, 9, 10, 11, 12, 13, 29, 30, 31, 32, 33, 34] (llW g (fun j => q (8 + j)) v (fun j => r (8 + j)) (h_lo u)) = hhW g q (h_slo d v) r u := by
  have e1 : zrep (hhW g q d r u) [8, 9, 10, 11, 12, 13] (lW g (fun j => q (8 + j)) v) = hhW g q (h_slo d v) r u := zrep_m (hW0 g q d) (lW g (fun j => q (8 + j)) (h_lo d)) (pW g (fun j => q (14 + j)) (h_pl d) ++ hW g r u) (by simp only [hhW, hW, List.append_assoc, List.append_nil]) rfl rfl (by simp only [hhW, hW, List.append_assoc, List.append_nil] <;> rfl)
  have e2 : zrep (hhW g q (h_slo d v) r u) [29, 30, 31, 32, 33, 34] (lW g (fun j => r (8 + j)) (h_lo u)) = hhW g q (h_slo d v) r u := zrep_m (hW g q (h_slo d v) ++ hW0 g r u) (lW g (fun j => r (8 + j)) (h_lo u)) (pW g (fun j => r (14 + j)) (h_pl u)) (by simp only [hhW, hW, List.append_assoc, List.append_nil]) rfl rfl (by simp only [hhW, hW, List.append_assoc, List.append_nil])
  rw [← e2, ← e1]
  rw [e1, e2]
  show zrep (hhW g q d r u) ([8, 9, 10, 11, 12, 13] ++ [29, 30, 31, 32, 33, 34]) (lW g (fun j => q (8 + j)) v ++ lW g (fun j => r (8 + j)) (h_lo u)) = _
  rw [zrep_app [8, 9, 10, 11, 12, 13] (lW g (fun j => q (8 + j)) v) [29, 30, 31, 32, 33, 34] _ _ rfl, e1, e2]
theorem hhW_n8 : va_nd [8, 9, 10, 11, 12, 13, 29, 30, 31, 32, 33, 34] = true := by decide
theorem hhW_c14 {g : zG} {q r : Nat → Nat} {d u : HD} : ([14, 15, 16, 17, 18, 19, 20, 35, 36, 37, 38, 39, 40, 41] : List Nat).map (fun i => (hhW g q d r u)[i]?) = (ppW g (fun j => q (14 + j)) (h_pl d) (fun j => r (14 + j)) (h_pl u)).map some := zget_2 (i1 := [14, 15, 16, 17, 18, 19, 20]) (i2 := [35, 36, 37, 38, 39, 40, 41]) (zget_m (hW0 g q d ++ lW g (fun j => q (8 + j)) (h_lo d)) (pW g (fun j => q (14 + j)) (h_pl d)) (hW g r u) (by simp only [hhW, hW, List.append_assoc, List.append_nil]) rfl) (zget_m (hW g q d ++ (hW0 g r u ++ lW g (fun j => r (8 + j)) (h_lo u))) (pW g (fun j => r (14 + j)) (h_pl u)) [] (by simp only [hhW, hW, List.append_assoc, List.append_nil]) rfl)
theorem hhW_r14 {g : zG} {q r : Nat → Nat} {d u : HD} {v : PD} : zrep (hhW g q d r u) [14, 15, 16, 17, 18, 19, 20, 35, 36, 37, 38, 39, 40, 41] (ppW g (fun j => q (14 + j)) v (fun j => r (14 + j)) (h_pl u)) = hhW g q (h_spl d v) r u := by
  have e1 : zrep (hhW g q d r u) [14, 15, 16, 17, 18, 19, 20] (pW g (fun j => q (14 + j)) v) = hhW g q (h_spl d v) r u := zrep_m (hW0 g q d ++ lW g (fun j => q (8 + j)) (h_lo d)) (pW g (fun j => q (14 + j)) (h_pl d)) (hW g r u) (by simp only [hhW, hW, List.append_assoc, List.append_nil]) rfl rfl (by simp only [hhW, hW, List.append_assoc, List.append_nil] <;> rfl)
  have e2 : zrep (hhW g q (h_spl d v) r u) [35, 36, 37, 38, 39, 40, 41] (pW g (fun j => r (14 + j)) (h_pl u)) = hhW g q (h_spl d v) r u := zrep_m (hW g q (h_spl d v) ++ (hW0 g r u ++ lW g (fun j => r (8 + j)) (h_lo u))) (pW g (fun j => r (14 + j)) (h_pl u)) [] (by simp only [hhW, hW, List.append_assoc, List.append_nil]) rfl rfl (by simp only [hhW, hW, List.append_assoc, List.append_nil])
  rw [← e2, ← e1]
  rw [e1, e2]
  show zrep (hhW g q d r u) ([14, 15, 16, 17, 18, 19, 20] ++ [35, 36, 37, 38, 39, 40, 41]) (pW g (fun j => q (14 + j)) v ++ pW g (fun j => r (14 + j)) (h_pl u)) = _
  rw [zrep_app [14, 15, 16, 17, 18, 19, 20] (pW g (fun j => q (14 + j)) v) [35, 36, 37, 38, 39, 40, 41] _ _ rfl, e1, e2]
theorem hhW_n14 : va_nd [14, 15, 16, 17, 18, 19, 20, 35, 36, 37, 38, 39, 40, 41] = true := by decide
theorem hW_r8o {g : zG} {q : Nat → Nat} {d : HD} : zrep (hW g q d) [8, 9, 10, 11, 12, 13] (lW g (fun j => q (8 + j)) (h_lo d)) = hW g q d := hW_r8
theorem hW_r14o {g : zG} {q : Nat → Nat} {d : HD} : zrep (hW g q d) [14, 15, 16, 17, 18, 19, 20] (pW g (fun j => q (14 + j)) (h_pl d)) = hW g q d := hW_r14
