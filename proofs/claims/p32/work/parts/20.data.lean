/-! The data of the objects, and their cells. -/
abbrev LD : Type := Int32 × (Nat → Int32) × (Nat → Int32) × (Nat → Int32) × (Nat → Int32) × (Nat → Int32)
def l_num (d : LD) : Int32 := d.1
def l_len (d : LD) : Nat → Int32 := d.2.1
def l_bor (d : LD) : Nat → Int32 := d.2.2.1
def l_min (d : LD) : Nat → Int32 := d.2.2.2.1
def l_owe (d : LD) : Nat → Int32 := d.2.2.2.2.1
def l_due (d : LD) : Nat → Int32 := d.2.2.2.2.2
def l_snum (d : LD) (v : Int32) : LD := (v, l_len d, l_bor d, l_min d, l_owe d, l_due d)
def l_slen (d : LD) (v : Nat → Int32) : LD := (l_num d, v, l_bor d, l_min d, l_owe d, l_due d)
def l_sbor (d : LD) (v : Nat → Int32) : LD := (l_num d, l_len d, v, l_min d, l_owe d, l_due d)
def l_smin (d : LD) (v : Nat → Int32) : LD := (l_num d, l_len d, l_bor d, v, l_owe d, l_due d)
def l_sowe (d : LD) (v : Nat → Int32) : LD := (l_num d, l_len d, l_bor d, l_min d, v, l_due d)
def l_sdue (d : LD) (v : Nat → Int32) : LD := (l_num d, l_len d, l_bor d, l_min d, l_owe d, v)
abbrev PD : Type := Int32 × (Nat → Int32) × (Nat → Int32) × (Nat → Int32) × (Nat → Int32) × (Nat → Int32) × (Nat → Int32) × Int32 × Int32
def p_num (d : PD) : Int32 := d.1
def p_srv (d : PD) : Nat → Int32 := d.2.1
def p_hr (d : PD) : Nat → Int32 := d.2.2.1
def p_sz (d : PD) : Nat → Int32 := d.2.2.2.1
def p_pri (d : PD) : Nat → Int32 := d.2.2.2.2.1
def p_fate (d : PD) : Nat → Int32 := d.2.2.2.2.2.1
def p_turn (d : PD) : Nat → Int32 := d.2.2.2.2.2.2.1
def p_wat (d : PD) : Int32 := d.2.2.2.2.2.2.2.1
def p_wf (d : PD) : Int32 := d.2.2.2.2.2.2.2.2
def p_snum (d : PD) (v : Int32) : PD := (v, p_srv d, p_hr d, p_sz d, p_pri d, p_fate d, p_turn d, p_wat d, p_wf d)
def p_ssrv (d : PD) (v : Nat → Int32) : PD := (p_num d, v, p_hr d, p_sz d, p_pri d, p_fate d, p_turn d, p_wat d, p_wf d)
def p_shr (d : PD) (v : Nat → Int32) : PD := (p_num d, p_srv d, v, p_sz d, p_pri d, p_fate d, p_turn d, p_wat d, p_wf d)
def p_ssz (d : PD) (v : Nat → Int32) : PD := (p_num d, p_srv d, p_hr d, v, p_pri d, p_fate d, p_turn d, p_wat d, p_wf d)
def p_spri (d : PD) (v : Nat → Int32) : PD := (p_num d, p_srv d, p_hr d, p_sz d, v, p_fate d, p_turn d, p_wat d, p_wf d)
def p_sfate (d : PD) (v : Nat → Int32) : PD := (p_num d, p_srv d, p_hr d, p_sz d, p_pri d, v, p_turn d, p_wat d, p_wf d)
def p_sturn (d : PD) (v : Nat → Int32) : PD := (p_num d, p_srv d, p_hr d, p_sz d, p_pri d, p_fate d, v, p_wat d, p_wf d)
def p_swat (d : PD) (v : Int32) : PD := (p_num d, p_srv d, p_hr d, p_sz d, p_pri d, p_fate d, p_turn d, v, p_wf d)
def p_swf (d : PD) (v : Int32) : PD := (p_num d, p_srv d, p_hr d, p_sz d, p_pri d, p_fate d, p_turn d, p_wat d, v)
abbrev HD : Type := (Nat → Int32) × Int32 × Int32 × Int32 × Int32 × Int32 × (Nat → Int32) × (Nat → Int32) × (Nat → Int32) × (Nat → Int32) × (Nat → Int32) × (Nat → Int64) × LD × PD
def h_set (d : HD) : Nat → Int32 := d.1
def h_hour (d : HD) : Int32 := d.2.1
def h_win (d : HD) : Int32 := d.2.2.1
def h_ws (d : HD) : Int32 := d.2.2.2.1
def h_cnt (d : HD) : Int32 := d.2.2.2.2.1
def h_frz (d : HD) : Int32 := d.2.2.2.2.2.1
def h_bud (d : HD) : Nat → Int32 := d.2.2.2.2.2.2.1
def h_exe (d : HD) : Nat → Int32 := d.2.2.2.2.2.2.2.1
def h_rel (d : HD) : Nat → Int32 := d.2.2.2.2.2.2.2.2.1
def h_drp (d : HD) : Nat → Int32 := d.2.2.2.2.2.2.2.2.2.1
def h_fr (d : HD) : Nat → Int32 := d.2.2.2.2.2.2.2.2.2.2.1
def h_acc (d : HD) : Nat → Int64 := d.2.2.2.2.2.2.2.2.2.2.2.1
def h_lo (d : HD) : LD := d.2.2.2.2.2.2.2.2.2.2.2.2.1
def h_pl (d : HD) : PD := d.2.2.2.2.2.2.2.2.2.2.2.2.2
def h_sset (d : HD) (v : Nat → Int32) : HD := (v, h_hour d, h_win d, h_ws d, h_cnt d, h_frz d, h_bud d, h_exe d, h_rel d, h_drp d, h_fr d, h_acc d, h_lo d, h_pl d)
def h_shour (d : HD) (v : Int32) : HD := (h_set d, v, h_win d, h_ws d, h_cnt d, h_frz d, h_bud d, h_exe d, h_rel d, h_drp d, h_fr d, h_acc d, h_lo d, h_pl d)
def h_swin (d : HD) (v : Int32) : HD := (h_set d, h_hour d, v, h_ws d, h_cnt d, h_frz d, h_bud d, h_exe d, h_rel d, h_drp d, h_fr d, h_acc d, h_lo d, h_pl d)
def h_sws (d : HD) (v : Int32) : HD := (h_set d, h_hour d, h_win d, v, h_cnt d, h_frz d, h_bud d, h_exe d, h_rel d, h_drp d, h_fr d, h_acc d, h_lo d, h_pl d)
def h_scnt (d : HD) (v : Int32) : HD := (h_set d, h_hour d, h_win d, h_ws d, v, h_frz d, h_bud d, h_exe d, h_rel d, h_drp d, h_fr d, h_acc d, h_lo d, h_pl d)
def h_sfrz (d : HD) (v : Int32) : HD := (h_set d, h_hour d, h_win d, h_ws d, h_cnt d, v, h_bud d, h_exe d, h_rel d, h_drp d, h_fr d, h_acc d, h_lo d, h_pl d)
def h_sbud (d : HD) (v : Nat → Int32) : HD := (h_set d, h_hour d, h_win d, h_ws d, h_cnt d, h_frz d, v, h_exe d, h_rel d, h_drp d, h_fr d, h_acc d, h_lo d, h_pl d)
def h_sexe (d : HD) (v : Nat → Int32) : HD := (h_set d, h_hour d, h_win d, h_ws d, h_cnt d, h_frz d, h_bud d, v, h_rel d, h_drp d, h_fr d, h_acc d, h_lo d, h_pl d)
def h_srel (d : HD) (v : Nat → Int32) : HD := (h_set d, h_hour d, h_win d, h_ws d, h_cnt d, h_frz d, h_bud d, h_exe d, v, h_drp d, h_fr d, h_acc d, h_lo d, h_pl d)
def h_sdrp (d : HD) (v : Nat → Int32) : HD := (h_set d, h_hour d, h_win d, h_ws d, h_cnt d, h_frz d, h_bud d, h_exe d, h_rel d, v, h_fr d, h_acc d, h_lo d, h_pl d)
def h_sfr (d : HD) (v : Nat → Int32) : HD := (h_set d, h_hour d, h_win d, h_ws d, h_cnt d, h_frz d, h_bud d, h_exe d, h_rel d, h_drp d, v, h_acc d, h_lo d, h_pl d)
def h_sacc (d : HD) (v : Nat → Int64) : HD := (h_set d, h_hour d, h_win d, h_ws d, h_cnt d, h_frz d, h_bud d, h_exe d, h_rel d, h_drp d, h_fr d, v, h_lo d, h_pl d)
def h_slo (d : HD) (v : LD) : HD := (h_set d, h_hour d, h_win d, h_ws d, h_cnt d, h_frz d, h_bud d, h_exe d, h_rel d, h_drp d, h_fr d, h_acc d, v, h_pl d)
def h_spl (d : HD) (v : PD) : HD := (h_set d, h_hour d, h_win d, h_ws d, h_cnt d, h_frz d, h_bud d, h_exe d, h_rel d, h_drp d, h_fr d, h_acc d, h_lo d, v)
abbrev AD : Type := (Nat → Int32) × Int32 × Int32 × Int32 × (Nat → Int32) × (Nat → Int32)
def a_sig (d : AD) : Nat → Int32 := d.1
def a_len (d : AD) : Int32 := d.2.1
def a_at (d : AD) : Int32 := d.2.2.1
def a_ord (d : AD) : Int32 := d.2.2.2.1
def a_kin (d : AD) : Nat → Int32 := d.2.2.2.2.1
def a_val (d : AD) : Nat → Int32 := d.2.2.2.2.2
def a_ssig (d : AD) (v : Nat → Int32) : AD := (v, a_len d, a_at d, a_ord d, a_kin d, a_val d)
def a_slen (d : AD) (v : Int32) : AD := (a_sig d, v, a_at d, a_ord d, a_kin d, a_val d)
def a_sat (d : AD) (v : Int32) : AD := (a_sig d, a_len d, v, a_ord d, a_kin d, a_val d)
def a_sord (d : AD) (v : Int32) : AD := (a_sig d, a_len d, a_at d, v, a_kin d, a_val d)
def a_skin (d : AD) (v : Nat → Int32) : AD := (a_sig d, a_len d, a_at d, a_ord d, v, a_val d)
def a_sval (d : AD) (v : Nat → Int32) : AD := (a_sig d, a_len d, a_at d, a_ord d, a_kin d, v)
abbrev YD : Type := Int32 × Int32 × (Nat → HD)
def y_old (d : YD) : Int32 := d.1
def y_kept (d : YD) : Int32 := d.2.1
def y_st (d : YD) : Nat → HD := d.2.2
def y_sold (d : YD) (v : Int32) : YD := (v, y_kept d, y_st d)
def y_skept (d : YD) (v : Int32) : YD := (y_old d, v, y_st d)
def y_sst (d : YD) (v : Nat → HD) : YD := (y_old d, y_kept d, v)
abbrev ED : Type := HD × HD × YD × (Nat → HD) × (Nat → Int32) × AD × Int32
def e_now (d : ED) : HD := d.1
def e_tri (d : ED) : HD := d.2.1
def e_his (d : ED) : YD := d.2.2.1
def e_sl (d : ED) : Nat → HD := d.2.2.2.1
def e_sav (d : ED) : Nat → Int32 := d.2.2.2.2.1
def e_pad (d : ED) : AD := d.2.2.2.2.2.1
def e_rea (d : ED) : Int32 := d.2.2.2.2.2.2
def e_snow (d : ED) (v : HD) : ED := (v, e_tri d, e_his d, e_sl d, e_sav d, e_pad d, e_rea d)
def e_stri (d : ED) (v : HD) : ED := (e_now d, v, e_his d, e_sl d, e_sav d, e_pad d, e_rea d)
def e_shis (d : ED) (v : YD) : ED := (e_now d, e_tri d, v, e_sl d, e_sav d, e_pad d, e_rea d)
def e_ssl (d : ED) (v : Nat → HD) : ED := (e_now d, e_tri d, e_his d, v, e_sav d, e_pad d, e_rea d)
def e_ssav (d : ED) (v : Nat → Int32) : ED := (e_now d, e_tri d, e_his d, e_sl d, v, e_pad d, e_rea d)
def e_spad (d : ED) (v : AD) : ED := (e_now d, e_tri d, e_his d, e_sl d, e_sav d, v, e_rea d)
def e_srea (d : ED) (v : Int32) : ED := (e_now d, e_tri d, e_his d, e_sl d, e_sav d, e_pad d, v)
abbrev MD : Type := (Nat → Int64) × Int32 × (Nat → Int32) × Int32 × (Nat → Int32) × Int32 × Int32 × Int32 × (Nat → Int32) × (Nat → Int32) × Int32 × (Nat → Int32) × Int32
def m_row (d : MD) : Nat → Int64 := d.1
def m_sts (d : MD) : Int32 := d.2.1
def m_sav (d : MD) : Nat → Int32 := d.2.2.1
def m_rea (d : MD) : Int32 := d.2.2.2.1
def m_pad (d : MD) : Nat → Int32 := d.2.2.2.2.1
def m_len (d : MD) : Int32 := d.2.2.2.2.2.1
def m_wat (d : MD) : Int32 := d.2.2.2.2.2.2.1
def m_wh (d : MD) : Int32 := d.2.2.2.2.2.2.2.1
def m_gone (d : MD) : Nat → Int32 := d.2.2.2.2.2.2.2.2.1
def m_seen (d : MD) : Nat → Int32 := d.2.2.2.2.2.2.2.2.2.1
def m_at (d : MD) : Int32 := d.2.2.2.2.2.2.2.2.2.2.1
def m_num (d : MD) : Nat → Int32 := d.2.2.2.2.2.2.2.2.2.2.2.1
def m_nm (d : MD) : Int32 := d.2.2.2.2.2.2.2.2.2.2.2.2
def m_srow (d : MD) (v : Nat → Int64) : MD := (v, m_sts d, m_sav d, m_rea d, m_pad d, m_len d, m_wat d, m_wh d, m_gone d, m_seen d, m_at d, m_num d, m_nm d)
def m_ssts (d : MD) (v : Int32) : MD := (m_row d, v, m_sav d, m_rea d, m_pad d, m_len d, m_wat d, m_wh d, m_gone d, m_seen d, m_at d, m_num d, m_nm d)
def m_ssav (d : MD) (v : Nat → Int32) : MD := (m_row d, m_sts d, v, m_rea d, m_pad d, m_len d, m_wat d, m_wh d, m_gone d, m_seen d, m_at d, m_num d, m_nm d)
def m_srea (d : MD) (v : Int32) : MD := (m_row d, m_sts d, m_sav d, v, m_pad d, m_len d, m_wat d, m_wh d, m_gone d, m_seen d, m_at d, m_num d, m_nm d)
def m_spad (d : MD) (v : Nat → Int32) : MD := (m_row d, m_sts d, m_sav d, m_rea d, v, m_len d, m_wat d, m_wh d, m_gone d, m_seen d, m_at d, m_num d, m_nm d)
def m_slen (d : MD) (v : Int32) : MD := (m_row d, m_sts d, m_sav d, m_rea d, m_pad d, v, m_wat d, m_wh d, m_gone d, m_seen d, m_at d, m_num d, m_nm d)
def m_swat (d : MD) (v : Int32) : MD := (m_row d, m_sts d, m_sav d, m_rea d, m_pad d, m_len d, v, m_wh d, m_gone d, m_seen d, m_at d, m_num d, m_nm d)
def m_swh (d : MD) (v : Int32) : MD := (m_row d, m_sts d, m_sav d, m_rea d, m_pad d, m_len d, m_wat d, v, m_gone d, m_seen d, m_at d, m_num d, m_nm d)
def m_sgone (d : MD) (v : Nat → Int32) : MD := (m_row d, m_sts d, m_sav d, m_rea d, m_pad d, m_len d, m_wat d, m_wh d, v, m_seen d, m_at d, m_num d, m_nm d)
def m_sseen (d : MD) (v : Nat → Int32) : MD := (m_row d, m_sts d, m_sav d, m_rea d, m_pad d, m_len d, m_wat d, m_wh d, m_gone d, v, m_at d, m_num d, m_nm d)
def m_sat (d : MD) (v : Int32) : MD := (m_row d, m_sts d, m_sav d, m_rea d, m_pad d, m_len d, m_wat d, m_wh d, m_gone d, m_seen d, v, m_num d, m_nm d)
def m_snum (d : MD) (v : Nat → Int32) : MD := (m_row d, m_sts d, m_sav d, m_rea d, m_pad d, m_len d, m_wat d, m_wh d, m_gone d, m_seen d, m_at d, v, m_nm d)
def m_snm (d : MD) (v : Int32) : MD := (m_row d, m_sts d, m_sav d, m_rea d, m_pad d, m_len d, m_wat d, m_wh d, m_gone d, m_seen d, m_at d, m_num d, v)

def lW (g : zG) (q : Nat → Nat) (d : LD) : va_W := [(q 0, .inr (2, [.int (l_num d), .ref (q 1), .ref (q 2), .ref (q 3), .ref (q 4), .ref (q 5)])), (q 1, .inl (g.2.1 0, 40, .inl (l_len d))), (q 2, .inl (g.2.1 0, 40, .inl (l_bor d))), (q 3, .inl (g.2.1 0, 40, .inl (l_min d))), (q 4, .inl (g.2.1 0, 40, .inl (l_owe d))), (q 5, .inl (g.2.1 0, 40, .inl (l_due d)))]
def pW (g : zG) (q : Nat → Nat) (d : PD) : va_W := [(q 0, .inr (4, [.int (p_num d), .ref (q 1), .ref (q 2), .ref (q 3), .ref (q 4), .ref (q 5), .ref (q 6), .int (p_wat d), .int (p_wf d)])), (q 1, .inl (g.2.1 0, 30, .inl (p_srv d))), (q 2, .inl (g.2.1 0, 30, .inl (p_hr d))), (q 3, .inl (g.2.1 0, 30, .inl (p_sz d))), (q 4, .inl (g.2.1 0, 30, .inl (p_pri d))), (q 5, .inl (g.2.1 0, 30, .inl (p_fate d))), (q 6, .inl (g.2.1 0, 30, .inl (p_turn d)))]
def hW0 (g : zG) (q : Nat → Nat) (d : HD) : va_W := [(q 0, .inr (1, [.ref (q 1), .int (h_hour d), .int (h_win d), .int (h_ws d), .int (h_cnt d), .int (h_frz d), .ref (q 2), .ref (q 3), .ref (q 4), .ref (q 5), .ref (q 6), .ref (q 7), .ref (q 8), .ref (q 14)])), (q 1, .inl (g.2.1 0, 8, .inl (h_set d))), (q 2, .inl (g.2.1 0, 8, .inl (h_bud d))), (q 3, .inl (g.2.1 0, 8, .inl (h_exe d))), (q 4, .inl (g.2.1 0, 8, .inl (h_rel d))), (q 5, .inl (g.2.1 0, 8, .inl (h_drp d))), (q 6, .inl (g.2.1 0, 8, .inl (h_fr d))), (q 7, .inl (g.2.1 1, 72,   .inr (.inl (h_acc d))))]
def hW (g : zG) (q : Nat → Nat) (d : HD) : va_W := hW0 g q d ++ (lW g (fun j => q (8 + j)) (h_lo d) ++ pW g (fun j => q (14 + j)) (h_pl d))
def aW (g : zG) (q : Nat → Nat) (d : AD) : va_W := [(q 0, .inr (3, [.ref (q 1), .int (a_len d), .int (a_at d), .int (a_ord d), .ref (q 2), .ref (q 3)])), (q 1, .inl (g.2.1 3, 80, .inl (a_sig d))), (q 2, .inl (g.2.1 3, 27, .inl (a_kin d))), (q 3, .inl (g.2.1 0, 108, .inl (a_val d)))]
def m_forms : Nat → Int32 := fun j => ([1, 42, 3, 37, 3, 0, 0, 1, 42, 3, 0, 0, 0, 0, 1, 62, 1, 42, 3, 47, 2, 1, 64, 3, 42, 3, 94, 2, 3, 0, 0, 0, 0, 0, 0, 3, 0, 0, 0, 0, 0, 0] : List Int32).getD j 0
def mW (g : zG) (q : Nat → Nat) (d : MD) : va_W := [(q 0, .inr (6, [.ref (q 1), .int (m_sts d), .ref (q 2), .int (m_rea d), .ref (q 3), .int (m_len d), .int (m_wat d), .int (m_wh d), .ref (q 4), .ref (q 5), .ref (q 6), .int (m_at d), .ref (q 7), .int (m_nm d)])), (q 1, .inl (g.2.1 1, 4540, .inr (.inl (m_row d)))), (q 2, .inl (g.2.1 2, 2, .inl (m_sav d))), (q 3, .inl (g.2.1 0, 80, .inl (m_pad d))), (q 4, .inl (g.2.1 2, 30, .inl (m_gone d))), (q 5, .inl (g.2.1 2, 30, .inl (m_seen d))), (q 6, .inl (g.2.1 0, 42, .inl m_forms)), (q 7, .inl (g.2.1 0, 4, .inl (m_num d)))]

theorem lW_g0 {g : zG} {q : Nat → Nat} {d : LD} : (lW g q d)[0]? = some (q 0, .inr (2, [.int (l_num d), .ref (q 1), .ref (q 2), .ref (q 3), .ref (q 4), .ref (q 5)])) := rfl
theorem lW_s0_0 {g : zG} {q : Nat → Nat} {d : LD} {v : Int32} : (lW g q d).set 0 (q 0, .inr (2, ([.int (l_num d), .ref (q 1), .ref (q 2), .ref (q 3), .ref (q 4), .ref (q 5)] : List Value).set 0 (.int v))) = lW g q (l_snum d v) := rfl
theorem lW_g1 {g : zG} {q : Nat → Nat} {d : LD} : (lW g q d)[1]? = some (q 1, .inl (g.2.1 0, 40, .inl (l_len d))) := rfl
theorem lW_s1 {g : zG} {q : Nat → Nat} {d : LD} {v : Nat → Int32} : (lW g q d).set 1 (q 1, .inl (g.2.1 0, 40, .inl v)) = lW g q (l_slen d v) := rfl
theorem lW_g2 {g : zG} {q : Nat → Nat} {d : LD} : (lW g q d)[2]? = some (q 2, .inl (g.2.1 0, 40, .inl (l_bor d))) := rfl
theorem lW_s2 {g : zG} {q : Nat → Nat} {d : LD} {v : Nat → Int32} : (lW g q d).set 2 (q 2, .inl (g.2.1 0, 40, .inl v)) = lW g q (l_sbor d v) := rfl
theorem lW_g3 {g : zG} {q : Nat → Nat} {d : LD} : (lW g q d)[3]? = some (q 3, .inl (g.2.1 0, 40, .inl (l_min d))) := rfl
theorem lW_s3 {g : zG} {q : Nat → Nat} {d : LD} {v : Nat → Int32} : (lW g q d).set 3 (q 3, .inl (g.2.1 0, 40, .inl v)) = lW g q (l_smin d v) := rfl
theorem lW_g4 {g : zG} {q : Nat → Nat} {d : LD} : (lW g q d)[4]? = some (q 4, .inl (g.2.1 0, 40, .inl (l_owe d))) := rfl
theorem lW_s4 {g : zG} {q : Nat → Nat} {d : LD} {v : Nat → Int32} : (lW g q d).set 4 (q 4, .inl (g.2.1 0, 40, .inl v)) = lW g q (l_sowe d v) := rfl
theorem lW_g5 {g : zG} {q : Nat → Nat} {d : LD} : (lW g q d)[5]? = some (q 5, .inl (g.2.1 0, 40, .inl (l_due d))) := rfl
theorem lW_s5 {g : zG} {q : Nat → Nat} {d : LD} {v : Nat → Int32} : (lW g q d).set 5 (q 5, .inl (g.2.1 0, 40, .inl v)) = lW g q (l_sdue d v) := rfl
theorem lW_f {g : zG} {q : Nat → Nat} {d d2 : LD} : (lW g q d2).map Prod.fst = (lW g q d).map Prod.fst := rfl
theorem lW_c {g : zG} {q : Nat → Nat} {d : LD} : ([0, 1, 2, 3, 4, 5] : List Nat).map (fun i => (lW g q d)[i]?) = (lW g q d).map some := zget_a rfl
theorem lW_r {g : zG} {q : Nat → Nat} {d d2 : LD} : zrep (lW g q d) [0, 1, 2, 3, 4, 5] (lW g q d2) = lW g q d2 := zrep_a rfl rfl
theorem lW_n : va_nd [0, 1, 2, 3, 4, 5] = true := by decide
theorem pW_g0 {g : zG} {q : Nat → Nat} {d : PD} : (pW g q d)[0]? = some (q 0, .inr (4, [.int (p_num d), .ref (q 1), .ref (q 2), .ref (q 3), .ref (q 4), .ref (q 5), .ref (q 6), .int (p_wat d), .int (p_wf d)])) := rfl
theorem pW_s0_0 {g : zG} {q : Nat → Nat} {d : PD} {v : Int32} : (pW g q d).set 0 (q 0, .inr (4, ([.int (p_num d), .ref (q 1), .ref (q 2), .ref (q 3), .ref (q 4), .ref (q 5), .ref (q 6), .int (p_wat d), .int (p_wf d)] : List Value).set 0 (.int v))) = pW g q (p_snum d v) := rfl
theorem pW_s0_7 {g : zG} {q : Nat → Nat} {d : PD} {v : Int32} : (pW g q d).set 0 (q 0, .inr (4, ([.int (p_num d), .ref (q 1), .ref (q 2), .ref (q 3), .ref (q 4), .ref (q 5), .ref (q 6), .int (p_wat d), .int (p_wf d)] : List Value).set 7 (.int v))) = pW g q (p_swat d v) := rfl
theorem pW_s0_8 {g : zG} {q : Nat → Nat} {d : PD} {v : Int32} : (pW g q d).set 0 (q 0, .inr (4, ([.int (p_num d), .ref (q 1), .ref (q 2), .ref (q 3), .ref (q 4), .ref (q 5), .ref (q 6), .int (p_wat d), .int (p_wf d)] : List Value).set 8 (.int v))) = pW g q (p_swf d v) := rfl
theorem pW_g1 {g : zG} {q : Nat → Nat} {d : PD} : (pW g q d)[1]? = some (q 1, .inl (g.2.1 0, 30, .inl (p_srv d))) := rfl
theorem pW_s1 {g : zG} {q : Nat → Nat} {d : PD} {v : Nat → Int32} : (pW g q d).set 1 (q 1, .inl (g.2.1 0, 30, .inl v)) = pW g q (p_ssrv d v) := rfl
theorem pW_g2 {g : zG} {q : Nat → Nat} {d : PD} : (pW g q d)[2]? = some (q 2, .inl (g.2.1 0, 30, .inl (p_hr d))) := rfl
theorem pW_s2 {g : zG} {q : Nat → Nat} {d : PD} {v : Nat → Int32} : (pW g q d).set 2 (q 2, .inl (g.2.1 0, 30, .inl v)) = pW g q (p_shr d v) := rfl
theorem pW_g3 {g : zG} {q : Nat → Nat} {d : PD} : (pW g q d)[3]? = some (q 3, .inl (g.2.1 0, 30, .inl (p_sz d))) := rfl
theorem pW_s3 {g : zG} {q : Nat → Nat} {d : PD} {v : Nat → Int32} : (pW g q d).set 3 (q 3, .inl (g.2.1 0, 30, .inl v)) = pW g q (p_ssz d v) := rfl
theorem pW_g4 {g : zG} {q : Nat → Nat} {d : PD} : (pW g q d)[4]? = some (q 4, .inl (g.2.1 0, 30, .inl (p_pri d))) := rfl
theorem pW_s4 {g : zG} {q : Nat → Nat} {d : PD} {v : Nat → Int32} : (pW g q d).set 4 (q 4, .inl (g.2.1 0, 30, .inl v)) = pW g q (p_spri d v) := rfl
theorem pW_g5 {g : zG} {q : Nat → Nat} {d : PD} : (pW g q d)[5]? = some (q 5, .inl (g.2.1 0, 30, .inl (p_fate d))) := rfl
theorem pW_s5 {g : zG} {q : Nat → Nat} {d : PD} {v : Nat → Int32} : (pW g q d).set 5 (q 5, .inl (g.2.1 0, 30, .inl v)) = pW g q (p_sfate d v) := rfl
theorem pW_g6 {g : zG} {q : Nat → Nat} {d : PD} : (pW g q d)[6]? = some (q 6, .inl (g.2.1 0, 30, .inl (p_turn d))) := rfl
theorem pW_s6 {g : zG} {q : Nat → Nat} {d : PD} {v : Nat → Int32} : (pW g q d).set 6 (q 6, .inl (g.2.1 0, 30, .inl v)) = pW g q (p_sturn d v) := rfl
theorem pW_f {g : zG} {q : Nat → Nat} {d d2 : PD} : (pW g q d2).map Prod.fst = (pW g q d).map Prod.fst := rfl
theorem pW_c {g : zG} {q : Nat → Nat} {d : PD} : ([0, 1, 2, 3, 4, 5, 6] : List Nat).map (fun i => (pW g q d)[i]?) = (pW g q d).map some := zget_a rfl
theorem pW_r {g : zG} {q : Nat → Nat} {d d2 : PD} : zrep (pW g q d) [0, 1, 2, 3, 4, 5, 6] (pW g q d2) = pW g q d2 := zrep_a rfl rfl
theorem pW_n : va_nd [0, 1, 2, 3, 4, 5, 6] = true := by decide
theorem aW_g0 {g : zG} {q : Nat → Nat} {d : AD} : (aW g q d)[0]? = some (q 0, .inr (3, [.ref (q 1), .int (a_len d), .int (a_at d), .int (a_ord d), .ref (q 2), .ref (q 3)])) := rfl
theorem aW_s0_1 {g : zG} {q : Nat → Nat} {d : AD} {v : Int32} : (aW g q d).set 0 (q 0, .inr (3, ([.ref (q 1), .int (a_len d), .int (a_at d), .int (a_ord d), .ref (q 2), .ref (q 3)] : List Value).set 1 (.int v))) = aW g q (a_slen d v) := rfl
theorem aW_s0_2 {g : zG} {q : Nat → Nat} {d : AD} {v : Int32} : (aW g q d).set 0 (q 0, .inr (3, ([.ref (q 1), .int (a_len d), .int (a_at d), .int (a_ord d), .ref (q 2), .ref (q 3)] : List Value).set 2 (.int v))) = aW g q (a_sat d v) := rfl
theorem aW_s0_3 {g : zG} {q : Nat → Nat} {d : AD} {v : Int32} : (aW g q d).set 0 (q 0, .inr (3, ([.ref (q 1), .int (a_len d), .int (a_at d), .int (a_ord d), .ref (q 2), .ref (q 3)] : List Value).set 3 (.int v))) = aW g q (a_sord d v) := rfl
theorem aW_g1 {g : zG} {q : Nat → Nat} {d : AD} : (aW g q d)[1]? = some (q 1, .inl (g.2.1 3, 80, .inl (a_sig d))) := rfl
theorem aW_s1 {g : zG} {q : Nat → Nat} {d : AD} {v : Nat → Int32} : (aW g q d).set 1 (q 1, .inl (g.2.1 3, 80, .inl v)) = aW g q (a_ssig d v) := rfl
theorem aW_g2 {g : zG} {q : Nat → Nat} {d : AD} : (aW g q d)[2]? = some (q 2, .inl (g.2.1 3, 27, .inl (a_kin d))) := rfl
theorem aW_s2 {g : zG} {q : Nat → Nat} {d : AD} {v : Nat → Int32} : (aW g q d).set 2 (q 2, .inl (g.2.1 3, 27, .inl v)) = aW g q (a_skin d v) := rfl
theorem aW_g3 {g : zG} {q : Nat → Nat} {d : AD} : (aW g q d)[3]? = some (q 3, .inl (g.2.1 0, 108, .inl (a_val d))) := rfl
theorem aW_s3 {g : zG} {q : Nat → Nat} {d : AD} {v : Nat → Int32} : (aW g q d).set 3 (q 3, .inl (g.2.1 0, 108, .inl v)) = aW g q (a_sval d v) := rfl
theorem aW_f {g : zG} {q : Nat → Nat} {d d2 : AD} : (aW g q d2).map Prod.fst = (aW g q d).map Prod.fst := rfl
theorem aW_c {g : zG} {q : Nat → Nat} {d : AD} : ([0, 1, 2, 3] : List Nat).map (fun i => (aW g q d)[i]?) = (aW g q d).map some := zget_a rfl
theorem aW_r {g : zG} {q : Nat → Nat} {d d2 : AD} : zrep (aW g q d) [0, 1, 2, 3] (aW g q d2) = aW g q d2 := zrep_a rfl rfl
theorem aW_n : va_nd [0, 1, 2, 3] = true := by decide
theorem mW_g0 {g : zG} {q : Nat → Nat} {d : MD} : (mW g q d)[0]? = some (q 0, .inr (6, [.ref (q 1), .int (m_sts d), .ref (q 2), .int (m_rea d), .ref (q 3), .int (m_len d), .int (m_wat d), .int (m_wh d), .ref (q 4), .ref (q 5), .ref (q 6), .int (m_at d), .ref (q 7), .int (m_nm d)])) := rfl
theorem mW_s0_1 {g : zG} {q : Nat → Nat} {d : MD} {v : Int32} : (mW g q d).set 0 (q 0, .inr (6, ([.ref (q 1), .int (m_sts d), .ref (q 2), .int (m_rea d), .ref (q 3), .int (m_len d), .int (m_wat d), .int (m_wh d), .ref (q 4), .ref (q 5), .ref (q 6), .int (m_at d), .ref (q 7), .int (m_nm d)] : List Value).set 1 (.int v))) = mW g q (m_ssts d v) := rfl
theorem mW_s0_3 {g : zG} {q : Nat → Nat} {d : MD} {v : Int32} : (mW g q d).set 0 (q 0, .inr (6, ([.ref (q 1), .int (m_sts d), .ref (q 2), .int (m_rea d), .ref (q 3), .int (m_len d), .int (m_wat d), .int (m_wh d), .ref (q 4), .ref (q 5), .ref (q 6), .int (m_at d), .ref (q 7), .int (m_nm d)] : List Value).set 3 (.int v))) = mW g q (m_srea d v) := rfl
theorem mW_s0_5 {g : zG} {q : Nat → Nat} {d : MD} {v : Int32} : (mW g q d).set 0 (q 0, .inr (6, ([.ref (q 1), .int (m_sts d), .ref (q 2), .int (m_rea d), .ref (q 3), .int (m_len d), .int (m_wat d), .int (m_wh d), .ref (q 4), .ref (q 5), .ref (q 6), .int (m_at d), .ref (q 7), .int (m_nm d)] : List Value).set 5 (.int v))) = mW g q (m_slen d v) := rfl
theorem mW_s0_6 {g : zG} {q : Nat → Nat} {d : MD} {v : Int32} : (mW g q d).set 0 (q 0, .inr (6, ([.ref (q 1), .int (m_sts d), .ref (q 2), .int (m_rea d), .ref (q 3), .int (m_len d), .int (m_wat d), .int (m_wh d), .ref (q 4), .ref (q 5), .ref (q 6), .int (m_at d), .ref (q 7), .int (m_nm d)] : List Value).set 6 (.int v))) = mW g q (m_swat d v) := rfl
theorem mW_s0_7 {g : zG} {q : Nat → Nat} {d : MD} {v : Int32} : (mW g q d).set 0 (q 0, .inr (6, ([.ref (q 1), .int (m_sts d), .ref (q 2), .int (m_rea d), .ref (q 3), .int (m_len d), .int (m_wat d), .int (m_wh d), .ref (q 4), .ref (q 5), .ref (q 6), .int (m_at d), .ref (q 7), .int (m_nm d)] : List Value).set 7 (.int v))) = mW g q (m_swh d v) := rfl
theorem mW_s0_11 {g : zG} {q : Nat → Nat} {d : MD} {v : Int32} : (mW g q d).set 0 (q 0, .inr (6, ([.ref (q 1), .int (m_sts d), .ref (q 2), .int (m_rea d), .ref (q 3), .int (m_len d), .int (m_wat d), .int (m_wh d), .ref (q 4), .ref (q 5), .ref (q 6), .int (m_at d), .ref (q 7), .int (m_nm d)] : List Value).set 11 (.int v))) = mW g q (m_sat d v) := rfl
theorem mW_s0_13 {g : zG} {q : Nat → Nat} {d : MD} {v : Int32} : (mW g q d).set 0 (q 0, .inr (6, ([.ref (q 1), .int (m_sts d), .ref (q 2), .int (m_rea d), .ref (q 3), .int (m_len d), .int (m_wat d), .int (m_wh d), .ref (q 4), .ref (q 5), .ref (q 6), .int (m_at d), .ref (q 7), .int (m_nm d)] : List Value).set 13 (.int v))) = mW g q (m_snm d v) := rfl
theorem mW_g1 {g : zG} {q : Nat → Nat} {d : MD} : (mW g q d)[1]? = some (q 1, .inl (g.2.1 1, 4540, .inr (.inl (m_row d)))) := rfl
theorem mW_s1 {g : zG} {q : Nat → Nat} {d : MD} {v : Nat → Int64} : (mW g q d).set 1 (q 1, .inl (g.2.1 1, 4540, .inr (.inl v))) = mW g q (m_srow d v) := rfl
theorem mW_g2 {g : zG} {q : Nat → Nat} {d : MD} : (mW g q d)[2]? = some (q 2, .inl (g.2.1 2, 2, .inl (m_sav d))) := rfl
theorem mW_s2 {g : zG} {q : Nat → Nat} {d : MD} {v : Nat → Int32} : (mW g q d).set 2 (q 2, .inl (g.2.1 2, 2, .inl v)) = mW g q (m_ssav d v) := rfl
theorem mW_g3 {g : zG} {q : Nat → Nat} {d : MD} : (mW g q d)[3]? = some (q 3, .inl (g.2.1 0, 80, .inl (m_pad d))) := rfl
theorem mW_s3 {g : zG} {q : Nat → Nat} {d : MD} {v : Nat → Int32} : (mW g q d).set 3 (q 3, .inl (g.2.1 0, 80, .inl v)) = mW g q (m_spad d v) := rfl
theorem mW_g4 {g : zG} {q : Nat → Nat} {d : MD} : (mW g q d)[4]? = some (q 4, .inl (g.2.1 2, 30, .inl (m_gone d))) := rfl
theorem mW_s4 {g : zG} {q : Nat → Nat} {d : MD} {v : Nat → Int32} : (mW g q d).set 4 (q 4, .inl (g.2.1 2, 30, .inl v)) = mW g q (m_sgone d v) := rfl
theorem mW_g5 {g : zG} {q : Nat → Nat} {d : MD} : (mW g q d)[5]? = some (q 5, .inl (g.2.1 2, 30, .inl (m_seen d))) := rfl
theorem mW_s5 {g : zG} {q : Nat → Nat} {d : MD} {v : Nat → Int32} : (mW g q d).set 5 (q 5, .inl (g.2.1 2, 30, .inl v)) = mW g q (m_sseen d v) := rfl
theorem mW_g6 {g : zG} {q : Nat → Nat} {d : MD} : (mW g q d)[6]? = some (q 6, .inl (g.2.1 0, 42, .inl m_forms)) := rfl
theorem mW_g7 {g : zG} {q : Nat → Nat} {d : MD} : (mW g q d)[7]? = some (q 7, .inl (g.2.1 0, 4, .inl (m_num d))) := rfl
theorem mW_s7 {g : zG} {q : Nat → Nat} {d : MD} {v : Nat → Int32} : (mW g q d).set 7 (q 7, .inl (g.2.1 0, 4, .inl v)) = mW g q (m_snum d v) := rfl
theorem mW_f {g : zG} {q : Nat → Nat} {d d2 : MD} : (mW g q d2).map Prod.fst = (mW g q d).map Prod.fst := rfl
theorem mW_c {g : zG} {q : Nat → Nat} {d : MD} : ([0, 1, 2, 3, 4, 5, 6, 7] : List Nat).map (fun i => (mW g q d)[i]?) = (mW g q d).map some := zget_a rfl
theorem mW_r {g : zG} {q : Nat → Nat} {d d2 : MD} : zrep (mW g q d) [0, 1, 2, 3, 4, 5, 6, 7] (mW g q d2) = mW g q d2 := zrep_a rfl rfl
theorem mW_n : va_nd [0, 1, 2, 3, 4, 5, 6, 7] = true := by decide
theorem hW_g0 {g : zG} {q : Nat → Nat} {d : HD} : (hW g q d)[0]? = some (q 0, .inr (1, [.ref (q 1), .int (h_hour d), .int (h_win d), .int (h_ws d), .int (h_cnt d), .int (h_frz d), .ref (q 2), .ref (q 3), .ref (q 4), .ref (q 5), .ref (q 6), .ref (q 7), .ref (q 8), .ref (q 14)])) := rfl
theorem hW_s0_1 {g : zG} {q : Nat → Nat} {d : HD} {v : Int32} : (hW g q d).set 0 (q 0, .inr (1, ([.ref (q 1), .int (h_hour d), .int (h_win d), .int (h_ws d), .int (h_cnt d), .int (h_frz d), .ref (q 2), .ref (q 3), .ref (q 4), .ref (q 5), .ref (q 6), .ref (q 7), .ref (q 8), .ref (q 14)] : List Value).set 1 (.int v))) = hW g q (h_shour d v) := rfl
theorem hW_s0_2 {g : zG} {q : Nat → Nat} {d : HD} {v : Int32} : (hW g q d).set 0 (q 0, .inr (1, ([.ref (q 1), .int (h_hour d), .int (h_win d), .int (h_ws d), .int (h_cnt d), .int (h_frz d), .ref (q 2), .ref (q 3), .ref (q 4), .ref (q 5), .ref (q 6), .ref (q 7), .ref (q 8), .ref (q 14)] : List Value).set 2 (.int v))) = hW g q (h_swin d v) := rfl
theorem hW_s0_3 {g : zG} {q : Nat → Nat} {d : HD} {v : Int32} : (hW g q d).set 0 (q 0, .inr (1, ([.ref (q 1), .int (h_hour d), .int (h_win d), .int (h_ws d), .int (h_cnt d), .int (h_frz d), .ref (q 2), .ref (q 3), .ref (q 4), .ref (q 5), .ref (q 6), .ref (q 7), .ref (q 8), .ref (q 14)] : List Value).set 3 (.int v))) = hW g q (h_sws d v) := rfl
theorem hW_s0_4 {g : zG} {q : Nat → Nat} {d : HD} {v : Int32} : (hW g q d).set 0 (q 0, .inr (1, ([.ref (q 1), .int (h_hour d), .int (h_win d), .int (h_ws d), .int (h_cnt d), .int (h_frz d), .ref (q 2), .ref (q 3), .ref (q 4), .ref (q 5), .ref (q 6), .ref (q 7), .ref (q 8), .ref (q 14)] : List Value).set 4 (.int v))) = hW g q (h_scnt d v) := rfl
theorem hW_s0_5 {g : zG} {q : Nat → Nat} {d : HD} {v : Int32} : (hW g q d).set 0 (q 0, .inr (1, ([.ref (q 1), .int (h_hour d), .int (h_win d), .int (h_ws d), .int (h_cnt d), .int (h_frz d), .ref (q 2), .ref (q 3), .ref (q 4), .ref (q 5), .ref (q 6), .ref (q 7), .ref (q 8), .ref (q 14)] : List Value).set 5 (.int v))) = hW g q (h_sfrz d v) := rfl
theorem hW_g1 {g : zG} {q : Nat → Nat} {d : HD} : (hW g q d)[1]? = some (q 1, .inl (g.2.1 0, 8, .inl (h_set d))) := rfl
theorem hW_s1 {g : zG} {q : Nat → Nat} {d : HD} {v : Nat → Int32} : (hW g q d).set 1 (q 1, .inl (g.2.1 0, 8, .inl v)) = hW g q (h_sset d v) := rfl
theorem hW_g2 {g : zG} {q : Nat → Nat} {d : HD} : (hW g q d)[2]? = some (q 2, .inl (g.2.1 0, 8, .inl (h_bud d))) := rfl
theorem hW_s2 {g : zG} {q : Nat → Nat} {d : HD} {v : Nat → Int32} : (hW g q d).set 2 (q 2, .inl (g.2.1 0, 8, .inl v)) = hW g q (h_sbud d v) := rfl
theorem hW_g3 {g : zG} {q : Nat → Nat} {d : HD} : (hW g q d)[3]? = some (q 3, .inl (g.2.1 0, 8, .inl (h_exe d))) := rfl
theorem hW_s3 {g : zG} {q : Nat → Nat} {d : HD} {v : Nat → Int32} : (hW g q d).set 3 (q 3, .inl (g.2.1 0, 8, .inl v)) = hW g q (h_sexe d v) := rfl
theorem hW_g4 {g : zG} {q : Nat → Nat} {d : HD} : (hW g q d)[4]? = some (q 4, .inl (g.2.1 0, 8, .inl (h_rel d))) := rfl
theorem hW_s4 {g : zG} {q : Nat → Nat} {d : HD} {v : Nat → Int32} : (hW g q d).set 4 (q 4, .inl (g.2.1 0, 8, .inl v)) = hW g q (h_srel d v) := rfl
theorem hW_g5 {g : zG} {q : Nat → Nat} {d : HD} : (hW g q d)[5]? = some (q 5, .inl (g.2.1 0, 8, .inl (h_drp d))) := rfl
theorem hW_s5 {g : zG} {q : Nat → Nat} {d : HD} {v : Nat → Int32} : (hW g q d).set 5 (q 5, .inl (g.2.1 0, 8, .inl v)) = hW g q (h_sdrp d v) := rfl
theorem hW_g6 {g : zG} {q : Nat → Nat} {d : HD} : (hW g q d)[6]? = some (q 6, .inl (g.2.1 0, 8, .inl (h_fr d))) := rfl
theorem hW_s6 {g : zG} {q : Nat → Nat} {d : HD} {v : Nat → Int32} : (hW g q d).set 6 (q 6, .inl (g.2.1 0, 8, .inl v)) = hW g q (h_sfr d v) := rfl
theorem hW_g7 {g : zG} {q : Nat → Nat} {d : HD} : (hW g q d)[7]? = some (q 7, .inl (g.2.1 1, 72, .inr (.inl (h_acc d)))) := rfl
theorem hW_s7 {g : zG} {q : Nat → Nat} {d : HD} {v : Nat → Int64} : (hW g q d).set 7 (q 7, .inl (g.2.1 1, 72, .inr (.inl v))) = hW g q (h_sacc d v) := rfl
theorem hW_f {g : zG} {q : Nat → Nat} {d d2 : HD} : (hW g q d2).map Prod.fst = (hW g q d).map Prod.fst := rfl
theorem hW_c {g : zG} {q : Nat → Nat} {d : HD} : ([0, 1, 2, 3, 4, 5, 6, 7, 8, 9, 10, 11, 12, 13, 14, 15, 16, 17, 18, 19, 20] : List Nat).map (fun i => (hW g q d)[i]?) = (hW g q d).map some := zget_a rfl
theorem hW_r {g : zG} {q : Nat → Nat} {d d2 : HD} : zrep (hW g q d) [0, 1, 2, 3, 4, 5, 6, 7, 8, 9, 10, 11, 12, 13, 14, 15, 16, 17, 18, 19, 20] (hW g q d2) = hW g q d2 := zrep_a rfl rfl
theorem hW_n : va_nd [0, 1, 2, 3, 4, 5, 6, 7, 8, 9, 10, 11, 12, 13, 14, 15, 16, 17, 18, 19, 20] = true := by decide
theorem hW_g8 {g : zG} {q : Nat → Nat} {d : HD} : (hW g q d)[8]? = some (q 8, .inr (2, [.int (l_num (h_lo d)), .ref (q 9), .ref (q 10), .ref (q 11), .ref (q 12), .ref (q 13)])) := rfl
theorem hW_s8_0 {g : zG} {q : Nat → Nat} {d : HD} {v : Int32} : (hW g q d).set 8 (q 8, .inr (2, ([.int (l_num (h_lo d)), .ref (q 9), .ref (q 10), .ref (q 11), .ref (q 12), .ref (q 13)] : List Value).set 0 (.int v))) = hW g q (h_slo d (l_snum (h_lo d) v)) := rfl
theorem hW_g9 {g : zG} {q : Nat → Nat} {d : HD} : (hW g q d)[9]? = some (q 9, .inl (g.2.1 0, 40, .inl (l_len (h_lo d)))) := rfl
theorem hW_s9 {g : zG} {q : Nat → Nat} {d : HD} {v : Nat → Int32} : (hW g q d).set 9 (q 9, .inl (g.2.1 0, 40, .inl v)) = hW g q (h_slo d (l_slen (h_lo d) v)) := rfl
theorem hW_g10 {g : zG} {q : Nat → Nat} {d : HD} : (hW g q d)[10]? = some (q 10, .inl (g.2.1 0, 40, .inl (l_bor (h_lo d)))) := rfl
theorem hW_s10 {g : zG} {q : Nat → Nat} {d : HD} {v : Nat → Int32} : (hW g q d).set 10 (q 10, .inl (g.2.1 0, 40, .inl v)) = hW g q (h_slo d (l_sbor (h_lo d) v)) := rfl
theorem hW_g11 {g : zG} {q : Nat → Nat} {d : HD} : (hW g q d)[11]? = some (q 11, .inl (g.2.1 0, 40, .inl (l_min (h_lo d)))) := rfl
theorem hW_s11 {g : zG} {q : Nat → Nat} {d : HD} {v : Nat → Int32} : (hW g q d).set 11 (q 11, .inl (g.2.1 0, 40, .inl v)) = hW g q (h_slo d (l_smin (h_lo d) v)) := rfl
theorem hW_g12 {g : zG} {q : Nat → Nat} {d : HD} : (hW g q d)[12]? = some (q 12, .inl (g.2.1 0, 40, .inl (l_owe (h_lo d)))) := rfl
theorem hW_s12 {g : zG} {q : Nat → Nat} {d : HD} {v : Nat → Int32} : (hW g q d).set 12 (q 12, .inl (g.2.1 0, 40, .inl v)) = hW g q (h_slo d (l_sowe (h_lo d) v)) := rfl
theorem hW_g13 {g : zG} {q : Nat → Nat} {d : HD} : (hW g q d)[13]? = some (q 13, .inl (g.2.1 0, 40, .inl (l_due (h_lo d)))) := rfl
theorem hW_s13 {g : zG} {q : Nat → Nat} {d : HD} {v : Nat → Int32} : (hW g q d).set 13 (q 13, .inl (g.2.1 0, 40, .inl v)) = hW g q (h_slo d (l_sdue (h_lo d) v)) := rfl
theorem hW_c8 {g : zG} {q : Nat → Nat} {d : HD} : ([8, 9, 10, 11, 12, 13] : List Nat).map (fun i => (hW g q d)[i]?) = (lW g (fun j => q (8 + j)) (h_lo d)).map some := zget_m (hW0 g q d) (lW g (fun j => q (8 + j)) (h_lo d)) (pW g (fun j => q (14 + j)) (h_pl d)) rfl rfl
theorem hW_r8 {g : zG} {q : Nat → Nat} {d : HD} {l : LD} : zrep (hW g q d) [8, 9, 10, 11, 12, 13] (lW g (fun j => q (8 + j)) l) = hW g q (h_slo d l) := zrep_m (hW0 g q d) (lW g (fun j => q (8 + j)) (h_lo d)) (pW g (fun j => q (14 + j)) (h_pl d)) rfl rfl rfl rfl
theorem hW_n8 : va_nd [8, 9, 10, 11, 12, 13] = true := by decide
theorem hW_g14 {g : zG} {q : Nat → Nat} {d : HD} : (hW g q d)[14]? = some (q 14, .inr (4, [.int (p_num (h_pl d)), .ref (q 15), .ref (q 16), .ref (q 17), .ref (q 18), .ref (q 19), .ref (q 20), .int (p_wat (h_pl d)), .int (p_wf (h_pl d))])) := rfl
theorem hW_s14_0 {g : zG} {q : Nat → Nat} {d : HD} {v : Int32} : (hW g q d).set 14 (q 14, .inr (4, ([.int (p_num (h_pl d)), .ref (q 15), .ref (q 16), .ref (q 17), .ref (q 18), .ref (q 19), .ref (q 20), .int (p_wat (h_pl d)), .int (p_wf (h_pl d))] : List Value).set 0 (.int v))) = hW g q (h_spl d (p_snum (h_pl d) v)) := rfl
theorem hW_s14_7 {g : zG} {q : Nat → Nat} {d : HD} {v : Int32} : (hW g q d).set 14 (q 14, .inr (4, ([.int (p_num (h_pl d)), .ref (q 15), .ref (q 16), .ref (q 17), .ref (q 18), .ref (q 19), .ref (q 20), .int (p_wat (h_pl d)), .int (p_wf (h_pl d))] : List Value).set 7 (.int v))) = hW g q (h_spl d (p_swat (h_pl d) v)) := rfl
theorem hW_s14_8 {g : zG} {q : Nat → Nat} {d : HD} {v : Int32} : (hW g q d).set 14 (q 14, .inr (4, ([.int (p_num (h_pl d)), .ref (q 15), .ref (q 16), .ref (q 17), .ref (q 18), .ref (q 19), .ref (q 20), .int (p_wat (h_pl d)), .int (p_wf (h_pl d))] : List Value).set 8 (.int v))) = hW g q (h_spl d (p_swf (h_pl d) v)) := rfl
theorem hW_g15 {g : zG} {q : Nat → Nat} {d : HD} : (hW g q d)[15]? = some (q 15, .inl (g.2.1 0, 30, .inl (p_srv (h_pl d)))) := rfl
theorem hW_s15 {g : zG} {q : Nat → Nat} {d : HD} {v : Nat → Int32} : (hW g q d).set 15 (q 15, .inl (g.2.1 0, 30, .inl v)) = hW g q (h_spl d (p_ssrv (h_pl d) v)) := rfl
theorem hW_g16 {g : zG} {q : Nat → Nat} {d : HD} : (hW g q d)[16]? = some (q 16, .inl (g.2.1 0, 30, .inl (p_hr (h_pl d)))) := rfl
theorem hW_s16 {g : zG} {q : Nat → Nat} {d : HD} {v : Nat → Int32} : (hW g q d).set 16 (q 16, .inl (g.2.1 0, 30, .inl v)) = hW g q (h_spl d (p_shr (h_pl d) v)) := rfl
theorem hW_g17 {g : zG} {q : Nat → Nat} {d : HD} : (hW g q d)[17]? = some (q 17, .inl (g.2.1 0, 30, .inl (p_sz (h_pl d)))) := rfl
theorem hW_s17 {g : zG} {q : Nat → Nat} {d : HD} {v : Nat → Int32} : (hW g q d).set 17 (q 17, .inl (g.2.1 0, 30, .inl v)) = hW g q (h_spl d (p_ssz (h_pl d) v)) := rfl
theorem hW_g18 {g : zG} {q : Nat → Nat} {d : HD} : (hW g q d)[18]? = some (q 18, .inl (g.2.1 0, 30, .inl (p_pri (h_pl d)))) := rfl
theorem hW_s18 {g : zG} {q : Nat → Nat} {d : HD} {v : Nat → Int32} : (hW g q d).set 18 (q 18, .inl (g.2.1 0, 30, .inl v)) = hW g q (h_spl d (p_spri (h_pl d) v)) := rfl
theorem hW_g19 {g : zG} {q : Nat → Nat} {d : HD} : (hW g q d)[19]? = some (q 19, .inl (g.2.1 0, 30, .inl (p_fate (h_pl d)))) := rfl
theorem hW_s19 {g : zG} {q : Nat → Nat} {d : HD} {v : Nat → Int32} : (hW g q d).set 19 (q 19, .inl (g.2.1 0, 30, .inl v)) = hW g q (h_spl d (p_sfate (h_pl d) v)) := rfl
theorem hW_g20 {g : zG} {q : Nat → Nat} {d : HD} : (hW g q d)[20]? = some (q 20, .inl (g.2.1 0, 30, .inl (p_turn (h_pl d)))) := rfl
theorem hW_s20 {g : zG} {q : Nat → Nat} {d : HD} {v : Nat → Int32} : (hW g q d).set 20 (q 20, .inl (g.2.1 0, 30, .inl v)) = hW g q (h_spl d (p_sturn (h_pl d) v)) := rfl
theorem hW_c14 {g : zG} {q : Nat → Nat} {d : HD} : ([14, 15, 16, 17, 18, 19, 20] : List Nat).map (fun i => (hW g q d)[i]?) = (pW g (fun j => q (14 + j)) (h_pl d)).map some := zget_m (hW0 g q d ++ lW g (fun j => q (8 + j)) (h_lo d)) (pW g (fun j => q (14 + j)) (h_pl d)) [] (by rw [List.append_nil, List.append_assoc]; rfl) rfl
theorem hW_r14 {g : zG} {q : Nat → Nat} {d : HD} {l : PD} : zrep (hW g q d) [14, 15, 16, 17, 18, 19, 20] (pW g (fun j => q (14 + j)) l) = hW g q (h_spl d l) := zrep_m (hW0 g q d ++ lW g (fun j => q (8 + j)) (h_lo d)) (pW g (fun j => q (14 + j)) (h_pl d)) [] (by rw [List.append_nil, List.append_assoc]; rfl) rfl rfl (by rw [List.append_nil, List.append_assoc]; rfl)
theorem hW_n14 : va_nd [14, 15, 16, 17, 18, 19, 20] = true := by decide
