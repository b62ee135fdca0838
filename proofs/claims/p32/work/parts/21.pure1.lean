
/-! What the methods of loans, plans and houses do, as functions. -/
def zit {S : Type} (step : Nat → S → S) (s : S) : Nat → S
  | 0 => s
  | i + 1 => step i (zit step s i)
-- loans
def l_has (d : LD) (i : Int32) : Bool := if i < 0 then false else if i < l_num d then true else false
def z_cnt (h : Nat → Int32) (s : Int32) : Nat → Int32
  | 0 => 0
  | n + 1 => if h n = s then z_cnt h s n + 1 else z_cnt h s n
def z_sum (h o : Nat → Int32) (s : Int32) : Nat → Int32
  | 0 => 0
  | n + 1 => if h n = s then z_sum h o s n + o n else z_sum h o s n
def l_ok (d : LD) : Prop := zok (l_num d) 40
def l_put (d : LD) (i : Nat) (a b c e w : Int32) : LD := l_sdue (l_sowe (l_smin (l_sbor (l_slen d (upd (l_len d) i a)) (upd (l_bor d) i b)) (upd (l_min d) i c)) (upd (l_owe d) i e)) (upd (l_due d) i w)
def l_add (d : LD) (a b c e w : Int32) : LD := l_snum (l_put d (zn32 (l_num d)) a b c e w) (l_num d + 1)
def l_rstep (i : Nat) (s : LD × Nat) : LD × Nat := if l_owe s.1 i ≤ 0 then s else (l_put s.1 s.2 (l_len s.1 i) (l_bor s.1 i) (l_min s.1 i) (l_owe s.1 i) (l_due s.1 i), s.2 + 1)
def l_rloop (d : LD) (n : Nat) : LD × Nat := zit l_rstep (d, 0) n
def l_rem (d : LD) : LD := l_snum (l_rloop d (zn32 (l_num d))).1 (nI (l_rloop d (zn32 (l_num d))).2)
def l_copy (d o : LD) : LD := l_sdue (l_sowe (l_smin (l_sbor (l_slen (l_snum d (l_num o)) (va_cpy (l_len o) (l_len d) 0 0 (zn32 (l_num o)))) (va_cpy (l_bor o) (l_bor d) 0 0 (zn32 (l_num o)))) (va_cpy (l_min o) (l_min d) 0 0 (zn32 (l_num o)))) (va_cpy (l_owe o) (l_owe d) 0 0 (zn32 (l_num o)))) (va_cpy (l_due o) (l_due d) 0 0 (zn32 (l_num o)))
-- plans
def p_ok (d : PD) : Prop := zok (p_num d) 30
def p_has (d : PD) (i : Int32) : Bool := if i < 0 then false else if i < p_num d then true else false
def p_watch (d : PD) (i : Int32) : PD := p_swf (p_swat d i) 0
def p_bef (d : PD) (a b : Int32) : Bool :=
  if p_pri d (zn32 a) = p_pri d (zn32 b) then
    (if p_hr d (zn32 a) = p_hr d (zn32 b) then (if a < b then true else false) else (if p_hr d (zn32 a) < p_hr d (zn32 b) then true else false))
  else (if p_pri d (zn32 a) ≤ p_pri d (zn32 b) then false else true)
def p_ain (d : PD) (i : Nat) : Nat → (Nat → Int32) → (Nat → Int32)
  | 0, t => upd t 0 (nI i)
  | k + 1, t => if p_bef d (nI i) (t k) then p_ain d i k (upd t (k + 1) (t k)) else upd t (k + 1) (nI i)
def p_astep (i : Nat) (d : PD) : PD := p_sturn d (p_ain d i i (p_turn d))
def p_arr (d : PD) : PD := zit p_astep d (zn32 (p_num d))
def p_put (d : PD) (i : Nat) (a b c e w : Int32) : PD := p_sfate (p_spri (p_ssz (p_shr (p_ssrv d (upd (p_srv d) i a)) (upd (p_hr d) i b)) (upd (p_sz d) i c)) (upd (p_pri d) i e)) (upd (p_fate d) i w)
def p_add (d : PD) (a b c e : Int32) : PD := p_arr (p_snum (p_put d (zn32 (p_num d)) a b c e 0) (p_num d + 1))
def p_move (d : PD) (i j : Nat) : PD := p_put d j (p_srv d i) (p_hr d i) (p_sz d i) (p_pri d i) (p_fate d i)
def p_r1 (fo : Int32) (i : Nat) (s : PD × Nat) : PD :=
  if nI i = fo then (if p_fate s.1 i = 0 then p_swat (p_swf s.1 (p_fate s.1 i)) (nI s.2) else p_swat (p_swf s.1 (p_fate s.1 i)) (-1)) else s.1
def p_rstep (fo : Int32) (i : Nat) (s : PD × Nat) : PD × Nat :=
  if p_fate s.1 i = 0 then (p_move (p_r1 fo i s) i s.2, s.2 + 1) else (p_r1 fo i s, s.2)
def p_rloop (d : PD) (n : Nat) : PD × Nat := zit (p_rstep (p_wat d)) (d, 0) n
def p_rem (d : PD) : PD := p_arr (p_snum (p_rloop d (zn32 (p_num d))).1 (nI (p_rloop d (zn32 (p_num d))).2))
def p_copy (d o : PD) : PD := p_watch (p_sturn (p_sfate (p_spri (p_ssz (p_shr (p_ssrv (p_snum d (p_num o)) (va_cpy (p_srv o) (p_srv d) 0 0 (zn32 (p_num o)))) (va_cpy (p_hr o) (p_hr d) 0 0 (zn32 (p_num o)))) (va_cpy (p_sz o) (p_sz d) 0 0 (zn32 (p_num o)))) (va_cpy (p_pri o) (p_pri d) 0 0 (zn32 (p_num o)))) (va_cpy (p_fate o) (p_fate d) 0 0 (zn32 (p_num o)))) (va_cpy (p_turn o) (p_turn d) 0 0 (zn32 (p_num o)))) (-1)
-- houses
def h_has (d : HD) (i : Int32) : Bool := if i < 0 then false else if i < h_cnt d then true else false
def h_isf (d : HD) (s : Int32) : Bool := if (h_frz d >>> (s &&& 31)) &&& 1 = 1 then true else false
def h_ix (s w : Int32) : Nat := zn32 (s * 9 + w)
def h_mo (d : HD) (s w : Int32) : Int64 := h_acc d (h_ix s w)
def h_thw (d : HD) (s : Int32) : Int32 := h_bud d (zn32 s) * h_set d 3 / 100
def h_ac (d : HD) (s w : Int32) (m : Int64) : HD := h_sacc d (vp_updL (h_acc d) (h_ix s w) (h_acc d (h_ix s w) + m))
def h_enter (d : HD) (s w : Int32) (m : Int64) : HD := if w ≤ 2 then h_ac (h_ac d s w m) s 8 m else h_ac (h_ac d s w m) s 8 (-m)
def h_sett (d : HD) (s : Int32) : HD :=
  if h_mo d s 8 ≤ 0 then
    (if h_isf d s then h_sfrz d (h_frz d ||| (1 <<< (s &&& 31))) else h_sfrz (h_sfr d (upd (h_fr d) (zn32 s) (h_fr d (zn32 s) + 1))) (h_frz d ||| (1 <<< (s &&& 31))))
  else if h_mo d s 8 ≤ (h_thw d s).toInt64 then d else h_sfrz d (h_frz d &&& ((1 <<< (s &&& 31)) ^^^ -1))
def h_book (d : HD) (s w : Int32) (m : Int64) : HD := h_sett (h_enter d s w m) s
def h_add (d : HD) (b : Int32) : HD := h_book (h_scnt (h_sexe (h_sbud d (upd (h_bud d) (zn32 (h_cnt d)) b)) (upd (h_exe d) (zn32 (h_cnt d)) (h_set d 7))) (h_cnt d + 1)) (h_cnt d) 0 b.toInt64
def h_dorel (d : HD) (s z : Int32) : HD := h_book (h_srel d (upd (h_rel d) (zn32 s) (h_rel d (zn32 s) + 1))) s 4 z.toInt64
def h_refu (d : HD) (a b m : Int32) : Int32 :=
  if h_isf d a then 2 else if h_mo d a 8 - m.toInt64 ≤ (h_thw d a).toInt64 then 3 else if z_cnt (l_bor (h_lo d)) b (zn32 (l_num (h_lo d))) < h_set d 6 then 0 else 4
def h_lend (d : HD) (a b m w : Int32) : HD :=
  h_slo (h_book (h_book d a 5 m.toInt64) b 1 m.toInt64) (l_add (h_lo (h_book (h_book d a 5 m.toInt64) b 1 m.toInt64)) a b m (m + m * h_set (h_book (h_book d a 5 m.toInt64) b 1 m.toInt64) 2 / 100) (h_win (h_book (h_book d a 5 m.toInt64) b 1 m.toInt64) + w))
def h_paid (d : HD) (l : Nat) : Int64 := if h_mo d (l_bor (h_lo d) l) 8 < (l_owe (h_lo d) l).toInt64 then h_mo d (l_bor (h_lo d) l) 8 else (l_owe (h_lo d) l).toInt64
def h_pay2 (d : HD) (l : Nat) (m : Int64) : HD := h_slo d (l_sowe (h_lo d) (upd (l_owe (h_lo d)) l (l_owe (h_lo d) l - m.toInt32)))
def h_pay1 (d : HD) (l : Nat) (b : Int32) (m : Int64) : HD := h_book (h_book d b 6 m) (l_len (h_lo (h_book d b 6 m)) l) 2 m
def h_pay (d : HD) (l : Nat) : HD := if h_paid d l ≤ 0 then d else h_pay1 (h_pay2 d l (h_paid d l)) l (l_bor (h_lo d) l) (h_paid d l)
def h_left0 (d : HD) (s : Int32) : Int64 := if h_mo d s 8 < 0 then 0 else h_mo d s 8
def h_carry (d : HD) (i : Nat) (m : Int64) : Int64 := (if (h_bud d i).toInt64 < m then (h_bud d i).toInt64 else m) * (h_set d 1).toInt64 / 100
def h_gr1 (d : HD) (i : Nat) : HD := h_enter d (nI i) 7 (h_left0 d (nI i) - h_carry d i (h_left0 d (nI i)))
def h_gr2 (d : HD) (i : Nat) : HD := h_book d (nI i) 0 (h_bud d i).toInt64
def h_gr3 (d : HD) (i : Nat) : HD := h_sexe d (upd (h_exe d) i (h_set d 7))
def h_gstep (i : Nat) (d : HD) : HD := h_gr3 (h_gr2 (h_gr1 d i) i) i
def h_beg0 (d : HD) : HD := h_sws (h_swin d (h_win d + 1)) (h_hour d)
def h_begin (d : HD) : HD := zit h_gstep (h_beg0 d) (zn32 (h_cnt d))
def h_due1 (d : HD) (l : Nat) : HD := h_slo d (l_sowe (h_lo d) (upd (l_owe (h_lo d)) l (if l_owe (h_lo d) l + l_owe (h_lo d) l * h_set d 4 / 100 < 10000000 then l_owe (h_lo d) l + l_owe (h_lo d) l * h_set d 4 / 100 else 10000000)))
def h_due2 (d : HD) (l : Nat) : HD := h_slo d (l_sdue (h_lo d) (upd (l_due (h_lo d)) l (h_win d + 1)))
def h_dstep (l : Nat) (d : HD) : HD := if l_due (h_lo d) l ≤ h_win d then h_due2 (h_due1 (h_pay d l) l) l else d
def h_dloop (d : HD) (n : Nat) : HD := zit h_dstep d n
def h_due (d : HD) : HD := h_slo (h_dloop d (zn32 (l_num (h_lo d)))) (l_rem (h_lo (h_dloop d (zn32 (l_num (h_lo d))))))
def h_fate (d : HD) (p : Nat) : Int32 :=
  if h_hour d - p_hr (h_pl d) p < 0 then 0 else if h_isf d (p_srv (h_pl d) p) then (if h_hour d - p_hr (h_pl d) p < h_set d 5 then 0 else 2) else 1
def h_t1 (d : HD) (p : Nat) : HD := h_spl d (p_sfate (h_pl d) (upd (p_fate (h_pl d)) p (h_fate d p)))
def h_tstep (i : Nat) (s : HD × Bool) : HD × Bool :=
  let p := zn32 (p_turn (h_pl s.1) i)
  (if h_fate s.1 p = 1 then h_dorel (h_t1 s.1 p) (p_srv (h_pl (h_t1 s.1 p)) p) (p_sz (h_pl (h_t1 s.1 p)) p) else if h_fate s.1 p = 2 then h_sdrp (h_t1 s.1 p) (upd (h_drp (h_t1 s.1 p)) (zn32 (p_srv (h_pl (h_t1 s.1 p)) p)) (h_drp (h_t1 s.1 p) (zn32 (p_srv (h_pl (h_t1 s.1 p)) p)) + 1)) else h_t1 s.1 p,
   if s.2 then true else if h_fate s.1 p = 0 then false else true)
def h_tloop (d : HD) (n : Nat) : HD × Bool := zit h_tstep (d, false) n
def h_take (d : HD) : HD :=
  if (h_tloop d (zn32 (p_num (h_pl d)))).2 then h_spl (h_tloop d (zn32 (p_num (h_pl d)))).1 (p_rem (h_pl (h_tloop d (zn32 (p_num (h_pl d)))).1)) else (h_tloop d (zn32 (p_num (h_pl d)))).1
def h_hr1 (d : HD) : HD := h_shour d (h_hour d + 1)
def h_hstep (_ : Nat) (d : HD) : HD := if h_hour (h_hr1 d) - h_ws (h_hr1 d) < h_set (h_hr1 d) 0 then h_take (h_hr1 d) else h_take (h_due (h_begin (h_hr1 d)))
def z_in (v a b : Int32) : Bool := if v < a then false else if v ≤ b then true else false
def h_hrs (d : HD) (n : Nat) : HD := zit h_hstep d n
def h_pass (d : HD) (k : Int32) : HD := if z_in k 1 1000 then h_hrs d (zn32 k) else d
def h_passr (d : HD) (k : Int32) : Int32 := if z_in k 1 1000 then h_hour (h_hrs d (zn32 k)) else -2
def h_copy (d o : HD) : HD := h_spl (h_slo (h_sacc (h_sfr (h_sdrp (h_srel (h_sexe (h_sbud (h_sfrz (h_scnt (h_sws (h_swin (h_shour (h_sset d (va_cpy (h_set o) (h_set d) 0 0 8)) (h_hour o)) (h_win o)) (h_ws o)) (h_cnt o)) (h_frz o)) (va_cpy (h_bud o) (h_bud d) 0 0 8)) (va_cpy (h_exe o) (h_exe d) 0 0 8)) (va_cpy (h_rel o) (h_rel d) 0 0 8)) (va_cpy (h_drp o) (h_drp d) 0 0 8)) (va_cpy (h_fr o) (h_fr d) 0 0 8)) (va_cpy (h_acc o) (h_acc d) 0 0 72)) (l_copy (h_lo d) (h_lo o))) (p_copy (h_pl d) (h_pl o))
