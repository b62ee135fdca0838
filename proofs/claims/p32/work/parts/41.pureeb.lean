
/-! The whole object, as functions. -/
def e_prep (e : ED) : ED := e_shis e (y_prep (e_his e) (e_now e))
def e_fin (p : Int32 × ED) : Int32 × ED := (p.1, e_shis p.2 (y_keep (e_his p.2) p.1))
def e_set1 (e : ED) (s v : Int32) : ED := e_snow e (h_sset (e_now e) (upd (h_set (e_now e)) (zn32 s) v))
def e_set (e : ED) (s v : Int32) : Int32 × ED := if s < 0 then (-2, e) else if s < 8 then (if z_in v (zLO (zn32 s)) (zHI (zn32 s)) then e_fin (h_set (e_now (e_prep e)) (zn32 s), e_set1 (e_prep e) s v) else (-2, e)) else (-2, e)
def e_service (e : ED) (b : Int32) : Int32 × ED := if z_in b 10 10000 then (if h_cnt (e_now e) < 8 then e_fin (h_cnt (e_now (e_prep e)), e_snow (e_prep e) (h_add (e_now (e_prep e)) b)) else (-4, e)) else (-2, e)
def e_bud1 (e : ED) (s b : Int32) : ED := e_snow e (h_sbud (e_now e) (upd (h_bud (e_now e)) (zn32 s) b))
def e_budget (e : ED) (s b : Int32) : Int32 × ED := if h_has (e_now e) s then (if z_in b 10 10000 then e_fin (h_bud (e_now (e_prep e)) (zn32 s), e_bud1 (e_prep e) s b) else (-2, e)) else (-1, e)
def e_out1 (e : ED) (s m h : Int32) : ED := e_snow e (h_book (e_now e) s 3 ((m * h + 99) / 100).toInt64)
def e_outi (e : ED) (s m h : Int32) : Int32 × ED := if h_has (e_now e) s then (if z_in m 1 600 then (if z_in h 1 100 then (if h_isf (e_now (e_out1 e s m h)) s then (1, e_out1 e s m h) else (0, e_out1 e s m h)) else (-2, e)) else (-2, e)) else (-1, e)
def e_outage (e : ED) (s m h : Int32) : Int32 × ED := e_fin (e_outi (e_prep e) s m h)
def e_exe1 (e : ED) (s : Int32) : ED := e_snow e (h_sexe (e_now e) (upd (h_exe (e_now e)) (zn32 s) (h_exe (e_now e) (zn32 s) - 1)))
def e_dor (e : ED) (s z : Int32) : ED := e_snow e (h_dorel (e_now e) s z)
def e_reli (e : ED) (s z x : Int32) : Int32 × ED :=
  if h_has (e_now e) s then (if z_in z 1 200 then (if z_in x 0 1 then
    (if h_isf (e_now e) s then (if x = 0 then (-5, e_srea e 1) else if h_exe (e_now e) (zn32 s) = 0 then (-5, e_srea e 1) else (1, e_dor (e_exe1 e s) s z)) else (0, e_dor e s z))
    else (-2, e)) else (-2, e)) else (-1, e)
def e_release (e : ED) (s z x : Int32) : Int32 × ED := e_fin (e_reli (e_prep e) s z x)
def e_leni (e : ED) (a b m w : Int32) : Int32 × ED :=
  if h_has (e_now e) a then (if h_has (e_now e) b then (if a = b then (-1, e) else if z_in m 1 5000 then (if z_in w 1 9 then (if l_num (h_lo (e_now e)) < 40 then
    (if h_refu (e_now e) a b m = 0 then (l_num (h_lo (e_now e)), e_snow e (h_lend (e_now e) a b m w)) else (-5, e_srea e (h_refu (e_now e) a b m)))
    else (-4, e)) else (-2, e)) else (-2, e)) else (-1, e)) else (-1, e)
def e_lend (e : ED) (a b m w : Int32) : Int32 × ED := e_fin (e_leni (e_prep e) a b m w)
def e_pay1 (e : ED) (l : Int32) : ED := e_snow e (h_pay (e_now e) (zn32 l))
def e_rem1 (e : ED) : ED := e_snow e (h_slo (e_now e) (l_rem (h_lo (e_now e))))
def e_repay (e : ED) (l : Int32) : Int32 × ED := if l_has (h_lo (e_now e)) l then e_fin (l_owe (h_lo (e_now (e_pay1 (e_prep e) l))) (zn32 l), e_rem1 (e_pay1 (e_prep e) l)) else (-1, e)
def e_plani (e : ED) (s t z p : Int32) : Int32 × ED :=
  if h_has (e_now e) s then (if z_in t (h_hour (e_now e) + 1) (h_hour (e_now e) + 2000) then (if z_in z 1 200 then (if z_in p 0 9 then (if p_num (h_pl (e_now e)) < 30 then
    (p_num (h_pl (e_now e)), e_snow e (h_spl (e_now e) (p_add (h_pl (e_now e)) s t z p))) else (-4, e)) else (-2, e)) else (-2, e)) else (-2, e)) else (-1, e)
def e_plan (e : ED) (s t z p : Int32) : Int32 × ED := e_fin (e_plani (e_prep e) s t z p)
def e_fate2 (e : ED) (p : Int32) : ED := e_snow e (h_spl (e_now e) (p_sfate (h_pl (e_now e)) (upd (p_fate (h_pl (e_now e))) (zn32 p) 2)))
def e_prem (e : ED) : ED := e_snow e (h_spl (e_now e) (p_rem (h_pl (e_now e))))
def e_dropi (e : ED) (p : Int32) : Int32 × ED := if p_has (h_pl (e_now e)) p then (p_num (h_pl (e_now (e_prem (e_fate2 e p)))), e_prem (e_fate2 e p)) else (-1, e)
def e_drop (e : ED) (p : Int32) : Int32 × ED := e_fin (e_dropi (e_prep e) p)
def e_hrsi (e : ED) (k : Int32) : Int32 × ED := (h_passr (e_now e) k, e_snow e (h_pass (e_now e) k))
def e_hours (e : ED) (k : Int32) : Int32 × ED := e_fin (e_hrsi (e_prep e) k)
def e_v (e : ED) (i p : Nat) : Int32 := a_val (e_pad e) (zn32 (nI i * 4 + nI p))
def e_obey (e : ED) (i : Nat) : Int32 × ED :=
  if a_kin (e_pad e) i = 104 then e_hrsi e (e_v e i 0) else if a_kin (e_pad e) i = 108 then e_leni e (e_v e i 0) (e_v e i 1) (e_v e i 2) (e_v e i 3) else if a_kin (e_pad e) i = 111 then e_outi e (e_v e i 0) (e_v e i 1) (e_v e i 2)
  else if a_kin (e_pad e) i = 112 then e_plani e (e_v e i 0) (h_hour (e_now e) + e_v e i 1) (e_v e i 2) (e_v e i 3) else if a_kin (e_pad e) i = 114 then e_reli e (e_v e i 0) (e_v e i 1) (e_v e i 2) else if a_kin (e_pad e) i = 120 then e_dropi e (e_v e i 0) else (-3, e)
def e_ofService (e : ED) (s w : Int32) : Int32 :=
  if h_has (e_now e) s then (if w = 0 then h_bud (e_now e) (zn32 s) else if w = 1 then (if h_isf (e_now e) s then 1 else 0) else if w = 2 then h_exe (e_now e) (zn32 s)
    else if w = 3 then z_cnt (l_bor (h_lo (e_now e))) s (zn32 (l_num (h_lo (e_now e)))) else if w = 4 then z_cnt (l_len (h_lo (e_now e))) s (zn32 (l_num (h_lo (e_now e))))
    else if w = 5 then z_sum (l_bor (h_lo (e_now e))) (l_owe (h_lo (e_now e))) s (zn32 (l_num (h_lo (e_now e)))) else if w = 6 then z_sum (l_len (h_lo (e_now e))) (l_owe (h_lo (e_now e))) s (zn32 (l_num (h_lo (e_now e))))
    else if w = 7 then z_cnt (p_srv (h_pl (e_now e))) s (zn32 (p_num (h_pl (e_now e)))) else if w = 8 then h_rel (e_now e) (zn32 s) else if w = 9 then h_drp (e_now e) (zn32 s) else if w = 10 then h_fr (e_now e) (zn32 s) else -2) else -1
def e_account (e : ED) (s w : Int32) : Int64 := if h_has (e_now e) s then (if w < 0 then -2 else if w < 9 then h_mo (e_now e) s w else -2) else -1
def e_ofLoan (e : ED) (i w : Int32) : Int32 := if l_has (h_lo (e_now e)) i then (if w = 0 then l_len (h_lo (e_now e)) (zn32 i) else if w = 1 then l_bor (h_lo (e_now e)) (zn32 i) else if w = 2 then l_min (h_lo (e_now e)) (zn32 i) else if w = 3 then l_owe (h_lo (e_now e)) (zn32 i) else if w = 4 then l_due (h_lo (e_now e)) (zn32 i) else -2) else -1
def e_ofPlan (e : ED) (i w : Int32) : Int32 := if p_has (h_pl (e_now e)) i then (if w = 0 then p_srv (h_pl (e_now e)) (zn32 i) else if w = 1 then p_hr (h_pl (e_now e)) (zn32 i) else if w = 2 then p_sz (h_pl (e_now e)) (zn32 i) else if w = 3 then p_pri (h_pl (e_now e)) (zn32 i) else -2) else -1
def e_count (e : ED) (w : Int32) : Int32 :=
  if w = 0 then h_hour (e_now e) else if w = 1 then h_win (e_now e) else if w = 2 then h_ws (e_now e) else if w = 3 then h_cnt (e_now e) else if w = 4 then h_frz (e_now e) else if w = 5 then l_num (h_lo (e_now e)) else if w = 6 then p_num (h_pl (e_now e)) else if w = 7 then e_rea e else if w = 8 then a_len (e_pad e) else if w = 9 then y_kept (e_his e)
  else if w < 10 then -2 else if w - 10 < 8 then h_set (e_now e) (zn32 (w - 10)) else -2
def e_try (e : ED) : ED := e_stri e (h_copy (e_tri e) (e_now e))
def e_tpass (e : ED) (k : Int32) : ED := e_stri e (h_pass (e_tri e) k)
def e_leftIn (e : ED) (s k : Int32) : Int64 × ED := if h_has (e_now e) s then (if h_passr (e_tri (e_try e)) k = -2 then (-2, e_tpass (e_try e) k) else (h_mo (e_tri (e_tpass (e_try e) k)) s 8, e_tpass (e_try e) k)) else (-1, e)
def e_hl (s : Int32) (b : Bool) : Nat → Nat → ED → Int32 × ED
  | 0, _, e => (-6, e)
  | k + 1, i, e => if zB (h_isf (e_tri (e_tpass e 1)) s) = zB b then (nI i, e_tpass e 1) else e_hl s b k (i + 1) (e_tpass e 1)
def e_hu (e : ED) (s : Int32) (b : Bool) : Int32 × ED := if zB (h_isf (e_now e) s) = zB b then (0, e) else e_hl s b 1000 1 (e_try e)
def e_fin_ (e : ED) (s : Int32) (b : Bool) : Int32 × ED := if h_has (e_now e) s then e_hu e s b else (-1, e)
def e_twat (e : ED) (p : Int32) : ED := e_stri e (h_spl (e_tri e) (p_watch (h_pl (e_tri e)) p))
def e_dl : Nat → ED → Int32 × ED
  | 0, e => (-6, e)
  | k + 1, e => if p_wf (h_pl (e_tri (e_tpass e 1))) = 1 then (h_hour (e_tri (e_tpass e 1)), e_tpass e 1) else if p_wf (h_pl (e_tri (e_tpass e 1))) = 2 then (-6, e_tpass e 1) else e_dl k (e_tpass e 1)
def e_doneAt (e : ED) (p : Int32) : Int32 × ED := if p_has (h_pl (e_now e)) p then e_dl 1000 (e_twat (e_try e) p) else (-1, e)
def h_bstep (d : HD) (b m : Int32) (i : Nat) (s : Int32 × Int64) : Int32 × Int64 :=
  if nI i = b then s else if h_refu d (nI i) b m = 0 then (if s.1 = -6 then (nI i, h_mo d (nI i) 8) else if h_mo d (nI i) 8 ≤ s.2 then s else (nI i, h_mo d (nI i) 8)) else s
def h_bloop (d : HD) (b m : Int32) (n : Nat) : Int32 × Int64 := zit (h_bstep d b m) (-6, 0) n
def e_best (e : ED) (b m : Int32) : Int32 := if h_has (e_now e) b then (if z_in m 1 5000 then (if l_num (h_lo (e_now e)) < 40 then (h_bloop (e_now e) b m (zn32 (h_cnt (e_now e)))).1 else -6) else -2) else -1
def e_least (e : ED) (s : Int32) : Int64 := if h_has (e_now e) s then (if h_isf (e_now e) s then (if (h_thw (e_now e) s + 1).toInt64 - h_mo (e_now e) s 8 < 1 then 1 else (h_thw (e_now e) s + 1).toInt64 - h_mo (e_now e) s 8) else 0) else -1
def e_safe (e : ED) (s : Int32) : Int32 := if h_has (e_now e) s then (if h_isf (e_now e) s then -6 else if h_mo (e_now e) s 8 - 1 < 1 then -6 else (if 200 < h_mo (e_now e) s 8 - 1 then 200 else h_mo (e_now e) s 8 - 1).toInt32) else -1
def z_ush (c : Int64) (i : Int32) : Int64 := (c.toUInt64 >>> ((8 * i).toInt64.toUInt64 &&& 63)).toInt64
def z_code (c : Int64) (i : Int32) : Int32 := (z_ush c i).toInt32 &&& 255
def z_ci (c : Int64) : Nat → Nat → Int32
  | 0, _ => 8
  | k + 1, i => if z_code c (nI i) = 0 then (if z_ush c (nI i) = 0 then nI i else -1) else if z_in (z_code c (nI i)) 33 126 then z_ci c k (i + 1) else -1
def z_app (c : Int64) : Nat → AD → AD
  | 0, d => d
  | k + 1, d => z_app c k (a_app d (z_code c (nI k)))
def e_put (e : ED) (c : Int64) : Int32 × ED := if z_ci c 8 0 < 1 then (-2, e) else if a_len (e_pad e) + z_ci c 8 0 ≤ 80 then (a_len (z_app c (zn32 (z_ci c 8 0)) (e_pad e)), e_spad e (z_app c (zn32 (z_ci c 8 0)) (e_pad e))) else (-4, e)
def e_clear (e : ED) : ED := e_spad e (a_slen (e_pad e) 0)
def e_wipe (e : ED) : Int32 × ED := (a_len (e_pad e), e_clear e)
def e_read (e : ED) : ED := e_spad e (a_orders (e_pad e)).2
def e_fault (e : ED) : Int32 × ED := ((a_orders (e_pad e)).1, e_read e)
def e_cl : Nat → Nat → ED → Nat × ED
  | 0, i, e => (i, e)
  | k + 1, i, e => if (e_obey e i).1 < 0 then (i, (e_obey e i).2) else e_cl k (i + 1) (e_obey e i).2
def e_carry (e : ED) : Int32 × ED := if (a_orders (e_pad e)).1 = -6 then e_fin (nI (e_cl (zn32 (a_ord (e_pad (e_prep (e_read e))))) 0 (e_prep (e_read e))).1, e_clear (e_cl (zn32 (a_ord (e_pad (e_prep (e_read e))))) 0 (e_prep (e_read e))).2) else (-3, e_read e)
def e_pop (e : ED) : ED := e_shis e (y_pop (e_his e))
def e_und1 (e : ED) : ED := e_snow e (h_copy (e_now e) (y_st (e_his e) (y_ix (e_his e))))
def e_undo (e : ED) : Int32 × ED := if y_kept (e_his e) = 0 then (-6, e) else (y_kept (e_his (e_und1 (e_pop e))), e_und1 (e_pop e))
def e_sav1 (e : ED) (i : Nat) : ED := e_ssl e (vf_upd (e_sl e) i (h_copy (e_sl e i) (e_now e)))
def e_sav2 (e : ED) (i : Nat) : ED := e_ssav e (upd (e_sav e) i 1)
def e_save (e : ED) (i : Int32) : Int32 × ED := if i < 0 then (-1, e) else if i < 2 then (h_hour (e_now (e_sav2 (e_sav1 e (zn32 i)) (zn32 i))), e_sav2 (e_sav1 e (zn32 i)) (zn32 i)) else (-1, e)
def e_res1 (e : ED) (i : Nat) : ED := e_snow e (h_copy (e_now e) (e_sl e i))
def e_restore (e : ED) (i : Int32) : Int32 × ED := if i < 0 then (-1, e) else if i < 2 then (if e_sav e (zn32 i) = 0 then (-1, e) else e_fin (h_hour (e_now (e_res1 (e_prep e) (zn32 i))), e_res1 (e_prep e) (zn32 i))) else (-1, e)
/-! what is kept -/
def e_ok (e : ED) : Prop := h_ok (e_now e) ∧ h_ok (e_tri e) ∧ y_ok (e_his e) ∧ (∀ i, i < 7 → h_ok (y_st (e_his e) i)) ∧ (∀ i, i < 2 → h_ok (e_sl e i)) ∧ a_ok0 (e_pad e)
theorem va_cpy_lt {α : Type} {f h : Nat → α} {n j : Nat} (hj : j < n) : va_cpy f h 0 0 n j = f j := by
  rw [pk_cpy_in (Nat.zero_le _) (by omega)]; rw [Nat.zero_add, Nat.sub_zero]
theorem l_copy_ok {d u : LD} (h : l_ok2 u) : l_ok2 (l_copy d u) := by
  refine ⟨h.1, fun i hi => ?_⟩
  have hi' : i < zn32 (l_num u) := hi
  have := h.2 i hi'
  exact ⟨by show vp_in (va_cpy (l_len u) (l_len d) 0 0 (zn32 (l_num u)) i) 8; rw [va_cpy_lt hi']; exact this.1, by show vp_in (va_cpy (l_bor u) (l_bor d) 0 0 (zn32 (l_num u)) i) 8; rw [va_cpy_lt hi']; exact this.2⟩
theorem p_copy_ok {d u : PD} (h : p_ok2 u) : p_ok2 (p_copy d u) := by
  refine ⟨h.1, fun i hi => ?_⟩
  have hi' : i < zn32 (p_num u) := hi
  have := h.2 i hi'
  exact ⟨by show vp_in (va_cpy (p_srv u) (p_srv d) 0 0 (zn32 (p_num u)) i) 8; rw [va_cpy_lt hi']; exact this.1, by show vp_in (va_cpy (p_turn u) (p_turn d) 0 0 (zn32 (p_num u)) i) (zn32 (p_num u)); rw [va_cpy_lt hi']; exact this.2⟩
theorem h_copy_ok {d u : HD} (h : h_ok u) : h_ok (h_copy d u) := ⟨h.1, l_copy_ok h.2.1, p_copy_ok h.2.2⟩
theorem e_ok_now {e : ED} {d : HD} (h : e_ok e) (hd : h_ok d) : e_ok (e_snow e d) := ⟨hd, h.2⟩
theorem e_ok_tri {e : ED} {d : HD} (h : e_ok e) (hd : h_ok d) : e_ok (e_stri e d) := ⟨h.1, hd, h.2.2⟩
theorem e_ok_rea {e : ED} {v : Int32} (h : e_ok e) : e_ok (e_srea e v) := h
theorem e_ok_pad {e : ED} {d : AD} (h : e_ok e) (hd : a_ok0 d) : e_ok (e_spad e d) := ⟨h.1, h.2.1, h.2.2.1, h.2.2.2.1, h.2.2.2.2.1, hd⟩
theorem e_ok_his {e : ED} {y : YD} (h : e_ok e) (hy : y_ok y) (hs : ∀ i, i < 7 → h_ok (y_st y i)) : e_ok (e_shis e y) := ⟨h.1, h.2.1, hy, hs, h.2.2.2.2⟩
theorem e_ok_sl {e : ED} {v : Nat → HD} (h : e_ok e) (hs : ∀ i, i < 2 → h_ok (v i)) : e_ok (e_ssl e v) := ⟨h.1, h.2.1, h.2.2.1, h.2.2.2.1, hs, h.2.2.2.2.2⟩
theorem y_keep_st (y : YD) (r : Int32) : y_st (y_keep y r) = y_st y := by
  unfold y_keep; split
  · rfl
  · split <;> rfl
theorem vf_ok {s : Nat → HD} {i n : Nat} {d : HD} (h : ∀ j, j < n → h_ok (s j)) (hd : h_ok d) : ∀ j, j < n → h_ok (vf_upd s i d j) := by
  intro j hj; unfold vf_upd; split
  · exact hd
  · exact h j hj
theorem e_prep_ok {e : ED} (h : e_ok e) : e_ok (e_prep e) := e_ok_his h h.2.2.1 (vf_ok h.2.2.2.1 (h_copy_ok h.1))
theorem e_fin_ok {p : Int32 × ED} (h : e_ok p.2) : e_ok (e_fin p).2 := e_ok_his h (y_keep_ok h.2.2.1 _) (by rw [y_keep_st]; exact h.2.2.2.1)
theorem h_ok_set {d : HD} {v : Nat → Int32} (h : h_ok d) : h_ok (h_sset d v) := h
theorem h_ok_bud {d : HD} {v : Nat → Int32} (h : h_ok d) : h_ok (h_sbud d v) := h
theorem h_ok_exe {d : HD} {v : Nat → Int32} (h : h_ok d) : h_ok (h_sexe d v) := h
theorem h_ok_rel {d : HD} {v : Nat → Int32} (h : h_ok d) : h_ok (h_srel d v) := h
theorem h_ok_cnt {d : HD} {v : Int32} (h : h_ok d) (hv : zok v 8) : h_ok (h_scnt d v) := ⟨hv, h.2⟩
theorem h_add_ok {d : HD} {b : Int32} (h : h_ok d) (hc : zok (h_cnt d) 7) : h_ok (h_add d b) := h_book_ok (h_ok_cnt (h_ok_exe (h_ok_bud h)) (zok_succ hc (by decide)))
theorem h_dorel_ok {d : HD} {s z : Int32} (h : h_ok d) : h_ok (h_dorel d s z) := h_book_ok (h_ok_rel h)
theorem zok_less {v : Int32} {n m : Nat} (h : zok v n) (hm : v < nI (m + 1)) (hn : n < 2 ^ 31) (hm2 : m + 1 < 2 ^ 31) : zok v m := by
  refine ⟨h.1, ?_⟩
  rcases Nat.lt_or_ge m (zn32 v) with z | z
  · rw [h.1] at hm; exact absurd hm (nI_nlt z (Nat.lt_of_le_of_lt h.2 hn))
  · exact z
theorem h_has_in {d : HD} {s : Int32} (h : h_has d s = true) (hc : zok (h_cnt d) 8) : s = nI (zn32 s) ∧ zn32 s < zn32 (h_cnt d) ∧ vp_in s 8 := by
  unfold h_has at h
  split at h
  · cases h
  · rename_i h0
    split at h
    · rename_i h1
      obtain ⟨j, hj, rfl⟩ := nI_of h0
      have e : zn32 (nI j) = j := nI_clamp hj
      have h8 := hc.2
      have hlt : j < zn32 (h_cnt d) := by
        rcases Nat.lt_or_ge j (zn32 (h_cnt d)) with z | z
        · exact z
        · rw [hc.1] at h1; exact absurd h1 (nI_nlt z hj)
      exact ⟨by rw [e], by rw [e]; exact hlt, vp_in_nI (by omega) (by decide)⟩
    · cases h
theorem z_has_in {n s : Int32} {b : Bool} {m : Nat} (hb : b = (if s < 0 then false else if s < n then true else false)) (h : b = true) (hc : zok n m) (hm : m < 2 ^ 31) : s = nI (zn32 s) ∧ zn32 s < zn32 n ∧ zn32 s < m ∧ vp_in s m := by
  rw [hb] at h
  split at h
  · cases h
  · rename_i h0
    split at h
    · rename_i h1
      obtain ⟨j, hj, rfl⟩ := nI_of h0
      have e : zn32 (nI j) = j := nI_clamp hj
      have h8 := hc.2
      have hlt : j < zn32 n := by
        rcases Nat.lt_or_ge j (zn32 n) with z | z
        · exact z
        · rw [hc.1] at h1; exact absurd h1 (nI_nlt z hj)
      exact ⟨by rw [e], by rw [e]; exact hlt, by rw [e]; omega, vp_in_nI (by omega) hm⟩
    · cases h
theorem l_has_in {d : LD} {s : Int32} (h : l_has d s = true) (hc : l_ok d) : s = nI (zn32 s) ∧ zn32 s < zn32 (l_num d) ∧ zn32 s < 40 ∧ vp_in s 40 := z_has_in rfl h hc (by decide)
theorem p_has_in {d : PD} {s : Int32} (h : p_has d s = true) (hc : p_ok d) : s = nI (zn32 s) ∧ zn32 s < zn32 (p_num d) ∧ zn32 s < 30 ∧ vp_in s 30 := z_has_in rfl h hc (by decide)
theorem upd_all {Q : Int32 → Prop} {h : Nat → Int32} {k : Nat} {v : Int32} {n : Nat} (hh : ∀ i, i < n → i ≠ k → Q (h i)) (hv : Q v) : ∀ i, i < n → Q (upd h k v i) := by
  intro i hi
  by_cases e : i = k
  · subst e; rw [pk_us]; exact hv
  · rw [pk_un e]; exact hh i hi e
theorem l_add_ok {d : LD} {a b c e w : Int32} (h : l_ok2 d) (hn : zok (l_num d) 39) (ha : vp_in a 8) (hb : vp_in b 8) : l_ok2 (l_add d a b c e w) := by
  have hs := zok_succ hn (by decide)
  have e2 : zn32 (l_num d + 1) = zn32 (l_num d) + 1 := by
    show (l_num d + 1).toNatClampNeg = _
    rw [show l_num d + 1 = nI (zn32 (l_num d) + 1) by rw [nI_succ, ← hn.1], nI_clamp (by have := hn.2; omega)]
  refine ⟨hs, fun i hi => ?_⟩
  have hi' : i < zn32 (l_num d) + 1 := by rw [← e2]; exact hi
  exact ⟨upd_all (Q := fun v => vp_in v 8) (n := zn32 (l_num d) + 1) (fun j hj hne => (h.2 j (by omega)).1) ha i hi', upd_all (Q := fun v => vp_in v 8) (n := zn32 (l_num d) + 1) (fun j hj hne => (h.2 j (by omega)).2) hb i hi'⟩
theorem h_lend_ok {d : HD} {a b m w : Int32} (h : h_ok d) (hn : zok (l_num (h_lo d)) 39) (ha : vp_in a 8) (hb : vp_in b 8) : h_ok (h_lend d a b m w) := by
  have k := h_book_k (h_book d a 5 m.toInt64) b 1 m.toInt64
  have k2 := h_book_k d a 5 m.toInt64
  have h2 : h_ok (h_book (h_book d a 5 m.toInt64) b 1 m.toInt64) := h_book_ok (h_book_ok h)
  unfold h_lend
  obtain ⟨a1, a2, a3⟩ := h_slo_k (h_book (h_book d a 5 m.toInt64) b 1 m.toInt64) (l_add (h_lo (h_book (h_book d a 5 m.toInt64) b 1 m.toInt64)) a b m (m + m * h_set (h_book (h_book d a 5 m.toInt64) b 1 m.toInt64) 2 / 100) (h_win (h_book (h_book d a 5 m.toInt64) b 1 m.toInt64) + w))
  refine h_ok_of h2 a1 ?_ (by rw [a2]; exact h2.2.2)
  rw [a3]
  exact l_add_ok h2.2.1 (by rw [k.1, k2.1]; exact hn) ha hb
theorem p_arr_ok2 {d : PD} (hd : p_ok d) (hs : ∀ i, i < zn32 (p_num d) → vp_in (p_srv d i) 8) : p_ok2 (p_arr d) := by
  have e : p_num (p_arr d) = p_num d := (p_arr_at d 0).2.1
  refine ⟨by unfold p_ok; rw [e]; exact hd, fun i hi => ?_⟩
  rw [e] at hi ⊢
  exact ⟨by show vp_in (p_at (p_arr d) 0 i) 8; rw [(p_arr_at d 0).1]; exact hs i hi, p_arr_turn d hd i hi⟩
theorem p_add_ok {d : PD} {a b c e : Int32} (h : p_ok2 d) (hn : zok (p_num d) 29) (ha : vp_in a 8) : p_ok2 (p_add d a b c e) := by
  have e2 : zn32 (p_num d + 1) = zn32 (p_num d) + 1 := by
    show (p_num d + 1).toNatClampNeg = _
    rw [show p_num d + 1 = nI (zn32 (p_num d) + 1) by rw [nI_succ, ← hn.1], nI_clamp (by have := hn.2; omega)]
  refine p_arr_ok2 (d := p_snum (p_put d (zn32 (p_num d)) a b c e 0) (p_num d + 1)) (zok_succ hn (by decide)) (fun i hi => ?_)
  have hi' : i < zn32 (p_num d) + 1 := by rw [← e2]; exact hi
  exact upd_all (Q := fun v => vp_in v 8) (n := zn32 (p_num d) + 1) (fun j hj hne => (h.2 j (by omega)).1) ha i hi'
theorem e_set_ok {e : ED} {s v : Int32} (h : e_ok e) : e_ok (e_set e s v).2 := by
  unfold e_set; split
  · exact h
  · split
    · split
      · exact e_fin_ok (e_ok_now (e_prep_ok h) (h_ok_set (e_prep_ok h).1))
      · exact h
    · exact h
theorem e_service_ok {e : ED} {b : Int32} (h : e_ok e) : e_ok (e_service e b).2 := by
  unfold e_service; split
  · split
    · rename_i h8
      exact e_fin_ok (e_ok_now (e_prep_ok h) (h_add_ok (e_prep_ok h).1 (zok_less h.1.1 h8 (by decide) (by decide))))
    · exact h
  · exact h
theorem e_budget_ok {e : ED} {s b : Int32} (h : e_ok e) : e_ok (e_budget e s b).2 := by
  unfold e_budget; split
  · split
    · exact e_fin_ok (e_ok_now (e_prep_ok h) (h_ok_bud (e_prep_ok h).1))
    · exact h
  · exact h
theorem e_outi_ok {e : ED} {s m w : Int32} (h : e_ok e) : e_ok (e_outi e s m w).2 := by
  have h1 : e_ok (e_out1 e s m w) := e_ok_now h (h_book_ok h.1)
  unfold e_outi; repeat' split
  all_goals (try dsimp only)
  all_goals first | with_reducible exact h | with_reducible exact h1
theorem e_reli_ok {e : ED} {s z x : Int32} (h : e_ok e) : e_ok (e_reli e s z x).2 := by
  have h1 : e_ok (e_dor e s z) := e_ok_now h (h_dorel_ok h.1)
  have h2 : e_ok (e_exe1 e s) := e_ok_now h (h_ok_exe h.1)
  have h3 : e_ok (e_dor (e_exe1 e s) s z) := e_ok_now h2 (h_dorel_ok h2.1)
  unfold e_reli; repeat' split
  all_goals (try dsimp only)
  all_goals first | with_reducible exact h | with_reducible exact h1 | with_reducible exact h3 | with_reducible exact e_ok_rea h
theorem e_leni_ok {e : ED} {a b m w : Int32} (h : e_ok e) : e_ok (e_leni e a b m w).2 := by
  unfold e_leni
  split
  · rename_i ha
    split
    · rename_i hb
      split
      · exact h
      · split
        · split
          · split
            · rename_i hn
              split
              · exact e_ok_now h (h_lend_ok h.1 (zok_less h.1.2.1.1 hn (by decide) (by decide)) (h_has_in ha h.1.1).2.2 (h_has_in hb h.1.1).2.2)
              · exact e_ok_rea h
            · exact h
          · exact h
        · exact h
    · exact h
  · exact h
theorem e_rem1_ok {e : ED} (h : e_ok e) : e_ok (e_rem1 e) := e_ok_now h (h_ok_of h.1 rfl (l_rem_ok2 h.1.2.1) h.1.2.2)
theorem e_fate2_ok {e : ED} {p : Int32} (h : e_ok e) : e_ok (e_fate2 e p) := e_ok_now h (h_ok_of h.1 rfl h.1.2.1 h.1.2.2)
theorem e_prem_ok {e : ED} (h : e_ok e) : e_ok (e_prem e) := e_ok_now h (h_ok_of h.1 rfl h.1.2.1 (p_rem_ok2 h.1.2.2.1 (fun i hi => (h.1.2.2.2 i hi).1)))
theorem e_repay_ok {e : ED} {l : Int32} (h : e_ok e) : e_ok (e_repay e l).2 := by
  unfold e_repay; split
  · have h1 : e_ok (e_pay1 (e_prep e) l) := e_ok_now (e_prep_ok h) (h_pay_ok (e_prep_ok h).1)
    exact e_fin_ok (e_rem1_ok h1)
  · exact h
theorem e_plani_ok {e : ED} {s t z p : Int32} (h : e_ok e) : e_ok (e_plani e s t z p).2 := by
  unfold e_plani
  split
  · rename_i ha
    split
    · split
      · split
        · split
          · rename_i hn
            exact e_ok_now h (h_ok_of h.1 rfl h.1.2.1 (p_add_ok h.1.2.2 (zok_less h.1.2.2.1 hn (by decide) (by decide)) (h_has_in ha h.1.1).2.2))
          · exact h
        · exact h
      · exact h
    · exact h
  · exact h
theorem e_dropi_ok {e : ED} {p : Int32} (h : e_ok e) : e_ok (e_dropi e p).2 := by
  unfold e_dropi; split
  · exact e_prem_ok (e_fate2_ok h)
  · exact h
theorem e_hrsi_ok {e : ED} {k : Int32} (h : e_ok e) : e_ok (e_hrsi e k).2 := e_ok_now h (h_pass_ok h.1)
theorem e_obey_ok {e : ED} {i : Nat} (h : e_ok e) : e_ok (e_obey e i).2 := by
  unfold e_obey; repeat' split
  all_goals (try dsimp only)
  all_goals first | with_reducible exact e_hrsi_ok h | with_reducible exact e_leni_ok h | with_reducible exact e_outi_ok h | with_reducible exact e_plani_ok h | with_reducible exact e_reli_ok h | with_reducible exact e_dropi_ok h | with_reducible exact h
theorem e_try_ok {e : ED} (h : e_ok e) : e_ok (e_try e) := e_ok_tri h (h_copy_ok h.1)
theorem e_tpass_ok {e : ED} {k : Int32} (h : e_ok e) : e_ok (e_tpass e k) := e_ok_tri h (h_pass_ok h.2.1)
theorem e_leftIn_ok {e : ED} {s k : Int32} (h : e_ok e) : e_ok (e_leftIn e s k).2 := by
  unfold e_leftIn; repeat' split
  all_goals (try dsimp only)
  all_goals first | with_reducible exact e_tpass_ok (e_try_ok h) | with_reducible exact h
theorem e_hl_ok {s : Int32} {b : Bool} : ∀ (k i : Nat) (e : ED), e_ok e → e_ok (e_hl s b k i e).2
  | 0, _, _, h => h
  | k + 1, i, e, h => by
    have h1 := e_tpass_ok (k := 1) h
    rw [e_hl]; split
    · exact h1
    · exact e_hl_ok k (i + 1) _ h1
theorem e_hu_ok {e : ED} {s : Int32} {b : Bool} (h : e_ok e) : e_ok (e_fin_ e s b).2 := by
  unfold e_fin_ e_hu; repeat' split
  all_goals (try dsimp only)
  all_goals first | with_reducible exact h | with_reducible exact e_hl_ok _ _ _ (e_try_ok h)
theorem e_twat_ok {e : ED} {p : Int32} (h : e_ok e) : e_ok (e_twat e p) := e_ok_tri h (h_ok_of h.2.1 rfl h.2.1.2.1 h.2.1.2.2)
theorem e_dl_ok : ∀ (k : Nat) (e : ED), e_ok e → e_ok (e_dl k e).2
  | 0, _, h => h
  | k + 1, e, h => by
    have h1 := e_tpass_ok (k := 1) h
    rw [e_dl]; split
    · exact h1
    · split
      · exact h1
      · exact e_dl_ok k _ h1
theorem e_doneAt_ok {e : ED} {p : Int32} (h : e_ok e) : e_ok (e_doneAt e p).2 := by
  unfold e_doneAt; split
  · exact e_dl_ok _ _ (e_twat_ok (e_try_ok h))
  · exact h
theorem e_read_ok {e : ED} (h : e_ok e) : e_ok (e_read e) := e_ok_pad h (a_orders_ok h.2.2.2.2.2).1.o
theorem e_cl_ok : ∀ (k i : Nat) (e : ED), e_ok e → e_ok (e_cl k i e).2
  | 0, _, _, h => h
  | k + 1, i, e, h => by
    rw [e_cl]; split
    · exact e_obey_ok h
    · exact e_cl_ok k (i + 1) _ (e_obey_ok h)
theorem e_sav_ok {e : ED} {i : Int32} (h : e_ok e) : e_ok (e_save e i).2 := by
  have h0 : e_ok (e_sav1 e (zn32 i)) := e_ok_sl h (vf_ok h.2.2.2.2.1 (h_copy_ok h.1))
  have h1 : e_ok (e_sav2 (e_sav1 e (zn32 i)) (zn32 i)) := h0
  unfold e_save; repeat' split
  all_goals (try dsimp only)
  all_goals first | with_reducible exact h | with_reducible exact h1
theorem e_res_ok {e : ED} {i : Int32} (h : e_ok e) : e_ok (e_restore e i).2 := by
  unfold e_restore; split
  · exact h
  · split
    · rename_i h0 h2
      split
      · exact h
      · have hi : zn32 i < 2 := by
          obtain ⟨j, hj, rfl⟩ := nI_of h0
          rw [show zn32 (nI j) = j from nI_clamp hj]
          rcases Nat.lt_or_ge j 2 with z | z
          · exact z
          · exact absurd h2 (nI_nlt (b := 2) z hj)
        exact e_fin_ok (e_ok_now (e_prep_ok h) (h_copy_ok ((e_prep_ok h).2.2.2.2.1 _ hi)))
    · exact h
theorem e_undo_ok {e : ED} (h : e_ok e) : e_ok (e_undo e).2 := by
  unfold e_undo; split
  · exact h
  · have h1 : e_ok (e_pop e) := e_ok_his h (y_pop_ok h.2.2.1) h.2.2.2.1
    exact e_ok_now h1 (h_copy_ok (h1.2.2.2.1 _ (y_ix_lt _)))
theorem e_clear_ok {e : ED} (he : e_ok e) : e_ok (e_clear e) := e_ok_pad he ⟨zok_0 _, he.2.2.2.2.2.2⟩
theorem e_wipe_ok {e : ED} (he : e_ok e) : e_ok (e_wipe e).2 := e_clear_ok he
theorem e_fault_ok {e : ED} (he : e_ok e) : e_ok (e_fault e).2 := e_read_ok he
theorem e_carry_ok {e : ED} (he : e_ok e) : e_ok (e_carry e).2 := by
  unfold e_carry; split
  · exact e_fin_ok (e_clear_ok (e_cl_ok _ _ _ (e_prep_ok (e_read_ok he))))
  · exact e_read_ok he
theorem e_hrsi_pad {e : ED} {k : Int32} : e_pad (e_hrsi e k).2 = e_pad e := rfl
theorem e_outi_pad {e : ED} {s m h : Int32} : e_pad (e_outi e s m h).2 = e_pad e := by
  unfold e_outi; repeat' split
  all_goals rfl
theorem e_reli_pad {e : ED} {s z x : Int32} : e_pad (e_reli e s z x).2 = e_pad e := by
  unfold e_reli; repeat' split
  all_goals rfl
theorem e_leni_pad {e : ED} {a b m w : Int32} : e_pad (e_leni e a b m w).2 = e_pad e := by
  unfold e_leni; repeat' split
  all_goals rfl
theorem e_plani_pad {e : ED} {s t z p : Int32} : e_pad (e_plani e s t z p).2 = e_pad e := by
  unfold e_plani; repeat' split
  all_goals rfl
theorem e_dropi_pad {e : ED} {p : Int32} : e_pad (e_dropi e p).2 = e_pad e := by
  unfold e_dropi; split <;> rfl
theorem e_obey_pad {e : ED} {i : Nat} : e_pad (e_obey e i).2 = e_pad e := by
  unfold e_obey
  split
  · exact e_hrsi_pad
  · split
    · exact e_leni_pad
    · split
      · exact e_outi_pad
      · split
        · exact e_plani_pad
        · split
          · exact e_reli_pad
          · split
            · exact e_dropi_pad
            · rfl
