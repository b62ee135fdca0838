
/-! THE RELATION: copies, the history. -/
theorem HH_mono {B B2 : Nat} {d : HD} {r : RW} (h : HH B d r) (hB : B ≤ B2) : HH B2 d r :=
  ⟨HA_mono h.1 hB, h.2.1, h.2.2.1, HL_mono h.2.2.2.1 (Nat.le_refl _) (by omega), h.2.2.2.2.1, HP_mono h.2.2.2.2.2 (Nat.le_refl _) (by omega)⟩
theorem HH_r {B : Nat} {d : HD} {r r2 : RW} (h : HH B d r) (e : ∀ j, j < 454 → r2 j = r j) : HH B d r2 := by
  obtain ⟨hA, hS, hZ, hL, hW, hP⟩ := h
  refine ⟨HA_r hA (fun j hj => e j (by omega)), HS_r hS (fun j hj => e j (by omega)), fun s k hs hs8 hk => ?_, HL_r hL (fun j hj => e j (by omega)), hW, HP_r hP (fun j hj => e j (by omega))⟩
  rw [e _ (by omega)]; exact hZ s k hs hs8 hk
theorem l_copy_at (L O : LD) : ∀ k l, l < zn32 (l_num O) → l_at (l_copy L O) k l = l_at O k l
  | 0, _, h => va_cpy_lt h
  | 1, _, h => va_cpy_lt h
  | 2, _, h => va_cpy_lt h
  | 3, _, h => va_cpy_lt h
  | _ + 4, _, h => va_cpy_lt h
theorem p_copy_at (L O : PD) : ∀ k l, l < zn32 (p_num O) → p_at (p_copy L O) k l = p_at O k l
  | 0, _, h => va_cpy_lt h
  | 1, _, h => va_cpy_lt h
  | 2, _, h => va_cpy_lt h
  | 3, _, h => va_cpy_lt h
  | _ + 4, _, h => va_cpy_lt h
theorem l_copy_f (L O : LD) : l_num (l_copy L O) = l_num O := rfl
theorem p_copy_f (L O : PD) : p_num (p_copy L O) = p_num O ∧ p_wat (p_copy L O) = -1 ∧ p_wf (p_copy L O) = 0 ∧ p_turn (p_copy L O) = va_cpy (p_turn O) (p_turn L) 0 0 (zn32 (p_num O)) ∧ p_pri (p_copy L O) = va_cpy (p_pri O) (p_pri L) 0 0 (zn32 (p_num O)) ∧ p_hr (p_copy L O) = va_cpy (p_hr O) (p_hr L) 0 0 (zn32 (p_num O)) := ⟨rfl, rfl, rfl, rfl, rfl, rfl⟩
theorem hq_hour_spl (d : HD) (v : PD) : h_hour (h_spl d v) = h_hour d := rfl
theorem hq_hour_slo (d : HD) (v : LD) : h_hour (h_slo d v) = h_hour d := rfl
theorem hq_hour_sacc (d : HD) (v : Nat → Int64) : h_hour (h_sacc d v) = h_hour d := rfl
theorem hq_hour_sfr (d : HD) (v : Nat → Int32) : h_hour (h_sfr d v) = h_hour d := rfl
theorem hq_hour_sdrp (d : HD) (v : Nat → Int32) : h_hour (h_sdrp d v) = h_hour d := rfl
theorem hq_hour_srel (d : HD) (v : Nat → Int32) : h_hour (h_srel d v) = h_hour d := rfl
theorem hq_hour_sexe (d : HD) (v : Nat → Int32) : h_hour (h_sexe d v) = h_hour d := rfl
theorem hq_hour_sbud (d : HD) (v : Nat → Int32) : h_hour (h_sbud d v) = h_hour d := rfl
theorem hq_hour_sfrz (d : HD) (v : Int32) : h_hour (h_sfrz d v) = h_hour d := rfl
theorem hq_hour_scnt (d : HD) (v : Int32) : h_hour (h_scnt d v) = h_hour d := rfl
theorem hq_hour_sws (d : HD) (v : Int32) : h_hour (h_sws d v) = h_hour d := rfl
theorem hq_hour_swin (d : HD) (v : Int32) : h_hour (h_swin d v) = h_hour d := rfl
theorem hq_hour_shour (d : HD) (v : Int32) : h_hour (h_shour d v) = v := rfl
theorem hq_hour_sset (d : HD) (v : Nat → Int32) : h_hour (h_sset d v) = h_hour d := rfl
theorem hq_win_spl (d : HD) (v : PD) : h_win (h_spl d v) = h_win d := rfl
theorem hq_win_slo (d : HD) (v : LD) : h_win (h_slo d v) = h_win d := rfl
theorem hq_win_sacc (d : HD) (v : Nat → Int64) : h_win (h_sacc d v) = h_win d := rfl
theorem hq_win_sfr (d : HD) (v : Nat → Int32) : h_win (h_sfr d v) = h_win d := rfl
theorem hq_win_sdrp (d : HD) (v : Nat → Int32) : h_win (h_sdrp d v) = h_win d := rfl
theorem hq_win_srel (d : HD) (v : Nat → Int32) : h_win (h_srel d v) = h_win d := rfl
theorem hq_win_sexe (d : HD) (v : Nat → Int32) : h_win (h_sexe d v) = h_win d := rfl
theorem hq_win_sbud (d : HD) (v : Nat → Int32) : h_win (h_sbud d v) = h_win d := rfl
theorem hq_win_sfrz (d : HD) (v : Int32) : h_win (h_sfrz d v) = h_win d := rfl
theorem hq_win_scnt (d : HD) (v : Int32) : h_win (h_scnt d v) = h_win d := rfl
theorem hq_win_sws (d : HD) (v : Int32) : h_win (h_sws d v) = h_win d := rfl
theorem hq_win_swin (d : HD) (v : Int32) : h_win (h_swin d v) = v := rfl
theorem hq_win_shour (d : HD) (v : Int32) : h_win (h_shour d v) = h_win d := rfl
theorem hq_win_sset (d : HD) (v : Nat → Int32) : h_win (h_sset d v) = h_win d := rfl
theorem hq_ws_spl (d : HD) (v : PD) : h_ws (h_spl d v) = h_ws d := rfl
theorem hq_ws_slo (d : HD) (v : LD) : h_ws (h_slo d v) = h_ws d := rfl
theorem hq_ws_sacc (d : HD) (v : Nat → Int64) : h_ws (h_sacc d v) = h_ws d := rfl
theorem hq_ws_sfr (d : HD) (v : Nat → Int32) : h_ws (h_sfr d v) = h_ws d := rfl
theorem hq_ws_sdrp (d : HD) (v : Nat → Int32) : h_ws (h_sdrp d v) = h_ws d := rfl
theorem hq_ws_srel (d : HD) (v : Nat → Int32) : h_ws (h_srel d v) = h_ws d := rfl
theorem hq_ws_sexe (d : HD) (v : Nat → Int32) : h_ws (h_sexe d v) = h_ws d := rfl
theorem hq_ws_sbud (d : HD) (v : Nat → Int32) : h_ws (h_sbud d v) = h_ws d := rfl
theorem hq_ws_sfrz (d : HD) (v : Int32) : h_ws (h_sfrz d v) = h_ws d := rfl
theorem hq_ws_scnt (d : HD) (v : Int32) : h_ws (h_scnt d v) = h_ws d := rfl
theorem hq_ws_sws (d : HD) (v : Int32) : h_ws (h_sws d v) = v := rfl
theorem hq_ws_swin (d : HD) (v : Int32) : h_ws (h_swin d v) = h_ws d := rfl
theorem hq_ws_shour (d : HD) (v : Int32) : h_ws (h_shour d v) = h_ws d := rfl
theorem hq_ws_sset (d : HD) (v : Nat → Int32) : h_ws (h_sset d v) = h_ws d := rfl
theorem hq_cnt_spl (d : HD) (v : PD) : h_cnt (h_spl d v) = h_cnt d := rfl
theorem hq_cnt_slo (d : HD) (v : LD) : h_cnt (h_slo d v) = h_cnt d := rfl
theorem hq_cnt_sacc (d : HD) (v : Nat → Int64) : h_cnt (h_sacc d v) = h_cnt d := rfl
theorem hq_cnt_sfr (d : HD) (v : Nat → Int32) : h_cnt (h_sfr d v) = h_cnt d := rfl
theorem hq_cnt_sdrp (d : HD) (v : Nat → Int32) : h_cnt (h_sdrp d v) = h_cnt d := rfl
theorem hq_cnt_srel (d : HD) (v : Nat → Int32) : h_cnt (h_srel d v) = h_cnt d := rfl
theorem hq_cnt_sexe (d : HD) (v : Nat → Int32) : h_cnt (h_sexe d v) = h_cnt d := rfl
theorem hq_cnt_sbud (d : HD) (v : Nat → Int32) : h_cnt (h_sbud d v) = h_cnt d := rfl
theorem hq_cnt_sfrz (d : HD) (v : Int32) : h_cnt (h_sfrz d v) = h_cnt d := rfl
theorem hq_cnt_scnt (d : HD) (v : Int32) : h_cnt (h_scnt d v) = v := rfl
theorem hq_cnt_sws (d : HD) (v : Int32) : h_cnt (h_sws d v) = h_cnt d := rfl
theorem hq_cnt_swin (d : HD) (v : Int32) : h_cnt (h_swin d v) = h_cnt d := rfl
theorem hq_cnt_shour (d : HD) (v : Int32) : h_cnt (h_shour d v) = h_cnt d := rfl
theorem hq_cnt_sset (d : HD) (v : Nat → Int32) : h_cnt (h_sset d v) = h_cnt d := rfl
theorem hq_frz_spl (d : HD) (v : PD) : h_frz (h_spl d v) = h_frz d := rfl
theorem hq_frz_slo (d : HD) (v : LD) : h_frz (h_slo d v) = h_frz d := rfl
theorem hq_frz_sacc (d : HD) (v : Nat → Int64) : h_frz (h_sacc d v) = h_frz d := rfl
theorem hq_frz_sfr (d : HD) (v : Nat → Int32) : h_frz (h_sfr d v) = h_frz d := rfl
theorem hq_frz_sdrp (d : HD) (v : Nat → Int32) : h_frz (h_sdrp d v) = h_frz d := rfl
theorem hq_frz_srel (d : HD) (v : Nat → Int32) : h_frz (h_srel d v) = h_frz d := rfl
theorem hq_frz_sexe (d : HD) (v : Nat → Int32) : h_frz (h_sexe d v) = h_frz d := rfl
theorem hq_frz_sbud (d : HD) (v : Nat → Int32) : h_frz (h_sbud d v) = h_frz d := rfl
theorem hq_frz_sfrz (d : HD) (v : Int32) : h_frz (h_sfrz d v) = v := rfl
theorem hq_frz_scnt (d : HD) (v : Int32) : h_frz (h_scnt d v) = h_frz d := rfl
theorem hq_frz_sws (d : HD) (v : Int32) : h_frz (h_sws d v) = h_frz d := rfl
theorem hq_frz_swin (d : HD) (v : Int32) : h_frz (h_swin d v) = h_frz d := rfl
theorem hq_frz_shour (d : HD) (v : Int32) : h_frz (h_shour d v) = h_frz d := rfl
theorem hq_frz_sset (d : HD) (v : Nat → Int32) : h_frz (h_sset d v) = h_frz d := rfl
theorem hq_lo_spl (d : HD) (v : PD) : h_lo (h_spl d v) = h_lo d := rfl
theorem hq_lo_slo (d : HD) (v : LD) : h_lo (h_slo d v) = v := rfl
theorem hq_lo_sacc (d : HD) (v : Nat → Int64) : h_lo (h_sacc d v) = h_lo d := rfl
theorem hq_lo_sfr (d : HD) (v : Nat → Int32) : h_lo (h_sfr d v) = h_lo d := rfl
theorem hq_lo_sdrp (d : HD) (v : Nat → Int32) : h_lo (h_sdrp d v) = h_lo d := rfl
theorem hq_lo_srel (d : HD) (v : Nat → Int32) : h_lo (h_srel d v) = h_lo d := rfl
theorem hq_lo_sexe (d : HD) (v : Nat → Int32) : h_lo (h_sexe d v) = h_lo d := rfl
theorem hq_lo_sbud (d : HD) (v : Nat → Int32) : h_lo (h_sbud d v) = h_lo d := rfl
theorem hq_lo_sfrz (d : HD) (v : Int32) : h_lo (h_sfrz d v) = h_lo d := rfl
theorem hq_lo_scnt (d : HD) (v : Int32) : h_lo (h_scnt d v) = h_lo d := rfl
theorem hq_lo_sws (d : HD) (v : Int32) : h_lo (h_sws d v) = h_lo d := rfl
theorem hq_lo_swin (d : HD) (v : Int32) : h_lo (h_swin d v) = h_lo d := rfl
theorem hq_lo_shour (d : HD) (v : Int32) : h_lo (h_shour d v) = h_lo d := rfl
theorem hq_lo_sset (d : HD) (v : Nat → Int32) : h_lo (h_sset d v) = h_lo d := rfl
theorem h_copy_f (d o : HD) : h_hour (h_copy d o) = h_hour o ∧ h_win (h_copy d o) = h_win o ∧ h_ws (h_copy d o) = h_ws o ∧ h_cnt (h_copy d o) = h_cnt o ∧ h_frz (h_copy d o) = h_frz o ∧ h_lo (h_copy d o) = l_copy (h_lo d) (h_lo o) ∧ h_pl (h_copy d o) = p_copy (h_pl d) (h_pl o) := by
  refine ⟨?_, ?_, ?_, ?_, ?_, ?_, rfl⟩
  · unfold h_copy; simp only [hq_hour_spl, hq_hour_slo, hq_hour_sacc, hq_hour_sfr, hq_hour_sdrp, hq_hour_srel, hq_hour_sexe, hq_hour_sbud, hq_hour_sfrz, hq_hour_scnt, hq_hour_sws, hq_hour_swin, hq_hour_shour, hq_hour_sset]
  · unfold h_copy; simp only [hq_win_spl, hq_win_slo, hq_win_sacc, hq_win_sfr, hq_win_sdrp, hq_win_srel, hq_win_sexe, hq_win_sbud, hq_win_sfrz, hq_win_scnt, hq_win_sws, hq_win_swin, hq_win_shour, hq_win_sset]
  · unfold h_copy; simp only [hq_ws_spl, hq_ws_slo, hq_ws_sacc, hq_ws_sfr, hq_ws_sdrp, hq_ws_srel, hq_ws_sexe, hq_ws_sbud, hq_ws_sfrz, hq_ws_scnt, hq_ws_sws, hq_ws_swin, hq_ws_shour, hq_ws_sset]
  · unfold h_copy; simp only [hq_cnt_spl, hq_cnt_slo, hq_cnt_sacc, hq_cnt_sfr, hq_cnt_sdrp, hq_cnt_srel, hq_cnt_sexe, hq_cnt_sbud, hq_cnt_sfrz, hq_cnt_scnt, hq_cnt_sws, hq_cnt_swin, hq_cnt_shour, hq_cnt_sset]
  · unfold h_copy; simp only [hq_frz_spl, hq_frz_slo, hq_frz_sacc, hq_frz_sfr, hq_frz_sdrp, hq_frz_srel, hq_frz_sexe, hq_frz_sbud, hq_frz_sfrz, hq_frz_scnt, hq_frz_sws, hq_frz_swin, hq_frz_shour, hq_frz_sset]
  · unfold h_copy; simp only [hq_lo_spl, hq_lo_slo, hq_lo_sacc, hq_lo_sfr, hq_lo_sdrp, hq_lo_srel, hq_lo_sexe, hq_lo_sbud, hq_lo_sfrz, hq_lo_scnt, hq_lo_sws, hq_lo_swin, hq_lo_shour, hq_lo_sset]
theorem h_copy_g (d o : HD) : h_set (h_copy d o) = va_cpy (h_set o) (h_set d) 0 0 8 ∧ h_bud (h_copy d o) = va_cpy (h_bud o) (h_bud d) 0 0 8 ∧ h_exe (h_copy d o) = va_cpy (h_exe o) (h_exe d) 0 0 8 ∧ h_rel (h_copy d o) = va_cpy (h_rel o) (h_rel d) 0 0 8 ∧ h_drp (h_copy d o) = va_cpy (h_drp o) (h_drp d) 0 0 8 ∧ h_fr (h_copy d o) = va_cpy (h_fr o) (h_fr d) 0 0 8 ∧ h_acc (h_copy d o) = va_cpy (h_acc o) (h_acc d) 0 0 72 := ⟨rfl, rfl, rfl, rfl, rfl, rfl, rfl⟩
theorem pS_copy {L O : PD} (hn : zn32 (p_num O) < 2 ^ 31) (h : pS O (p_turn O) (zn32 (p_num O))) : pS (p_copy L O) (p_turn (p_copy L O)) (zn32 (p_num O)) := by
  obtain ⟨f1, f2, f3, f4, f5, f6⟩ := p_copy_f L O
  have et : ∀ a, a < zn32 (p_num O) → p_turn (p_copy L O) a = p_turn O a := fun a ha => by rw [f4]; exact va_cpy_lt ha
  refine ⟨fun a ha => by rw [et a ha]; exact h.1 a ha, fun a b hab hb => ?_, fun p hp => ?_⟩
  · rw [et a (by omega), et b hb]
    have ha2 := (h.1 a (by omega)).2
    have hb2 := (h.1 b hb).2
    have := h.2.1 a b hab hb
    unfold pb at *
    rw [p_bef_iff _ (by omega) (by omega)] at this ⊢
    rw [f5, f6, va_cpy_lt ha2, va_cpy_lt hb2, va_cpy_lt ha2, va_cpy_lt hb2]
    exact this
  · obtain ⟨a, ha, hta⟩ := h.2.2 p hp
    exact ⟨a, ha, by rw [et a ha]; exact hta⟩
theorem HH_copy {B : Nat} {d o : HD} {r : RW} (h : HH B o r) : HH B (h_copy d o) r ∧ p_wat (h_pl (h_copy d o)) = -1 := by
  obtain ⟨hA, hS, hZ, hL, hW, hP⟩ := h
  obtain ⟨f1, f2, f3, f4, f5, f6, f7⟩ := h_copy_f d o
  obtain ⟨g1, g2, g3, g4, g5, g6, g7⟩ := h_copy_g d o
  generalize h_copy d o = x at f1 f2 f3 f4 f5 f6 f7 g1 g2 g3 g4 g5 g6 g7 ⊢
  have es : ∀ k, k < 8 → h_set x k = h_set o k := fun k hk => by rw [g1]; exact va_cpy_lt hk
  refine ⟨⟨⟨fun k hk => by rw [es k hk]; exact hA.1 k hk, by rw [f1]; exact hA.2.1, by rw [f2]; exact hA.2.2.1, by rw [f3]; exact hA.2.2.2.1, by rw [f4]; exact hA.2.2.2.2⟩, ⟨by rw [es 3 (by decide)]; exact hS.1, by rw [f5]; exact hS.2.1, fun s hs => ?_⟩, by rw [f4]; exact hZ, ?_, ?_, ?_⟩, by rw [f7]; exact (p_copy_f _ _).2.1⟩
  · exact SV_of (hS.2.2 s hs) (fun _ _ => rfl) (by rw [g2]; exact va_cpy_lt hs) (by rw [g3]; exact va_cpy_lt hs) (by rw [g4]; exact va_cpy_lt hs) (by rw [g5]; exact va_cpy_lt hs) (by rw [g6]; exact va_cpy_lt hs) (fun w hw => by rw [g7]; exact va_cpy_lt (by omega))
  · rw [f4, f6]
    unfold HL
    rw [l_copy_f (h_lo d) (h_lo o)]
    refine ⟨hL.1, fun l hl k hk => ?_⟩
    rw [l_copy_at (h_lo d) (h_lo o) k l hl]; exact hL.2 l hl k hk
  · intro l hl
    rw [f6, l_copy_f (h_lo d) (h_lo o)] at hl
    have h3 : l_owe (h_lo x) l = l_owe (h_lo o) l := by rw [f6]; exact l_copy_at _ _ 3 l hl
    have h4 : l_due (h_lo x) l = l_due (h_lo o) l := by rw [f6]; exact l_copy_at _ _ 4 l hl
    rw [h3, h4, f2]; exact hW l hl
  · rw [f4, f7]
    have hn := hP.1.1.2.2
    unfold HP HPc
    rw [(p_copy_f (h_pl d) (h_pl o)).1]
    refine ⟨⟨hP.1.1, fun p hp k hk => ?_⟩, fun p hp => ?_, ?_⟩
    · rw [p_copy_at (h_pl d) (h_pl o) k p hp]; exact hP.1.2 p hp k hk
    · exact (p_copy_at (h_pl d) (h_pl o) 4 p hp).trans (hP.2.1 p hp)
    · exact pS_copy (by omega) hP.2.2
/-! the whole -/
def RN (B : Nat) (d : HD) (m : MD) : Prop := HH B d (m_row m) ∧ p_wat (h_pl d) = -1 ∧ MX m ∧ m_wat m = -6
def RI (B : Nat) (y : YD) (m : MD) : Prop := m_sts m = y_kept y ∧ ∀ k, k < zn32 (y_kept y) → HH B (y_st y ((zn32 (y_old y) + k) % 7)) (fun j => m_row m (454 + 454 * k + j))
def RS (B : Nat) (sl : Nat → HD) (sv : Nat → Int32) (m : MD) : Prop := ∀ i, i < 2 → m_sav m i = sv i ∧ (¬ sv i = 0 → HH B (sl i) (fun j => m_row m (3178 + 454 * i + j)))
def RP (a : AD) (m : MD) : Prop := m_len m = a_len a ∧ ∀ i, i < zn32 (a_len a) → m_pad m i = a_sig a i
def RR (B : Nat) (e : ED) (m : MD) : Prop := e_ok e ∧ RN B (e_now e) m ∧ RI B (e_his e) m ∧ RS B (e_sl e) (e_sav e) m ∧ m_rea m = e_rea e ∧ RP (e_pad e) m
theorem RI_of {B : Nat} {y : YD} {m m2 : MD} (h : RI B y m) (h1 : m_sts m2 = m_sts m) (h2 : ∀ j, 454 ≤ j → j < 3178 → m_row m2 j = m_row m j) (hk : zn32 (y_kept y) ≤ 6) : RI B y m2 :=
  ⟨h1.trans h.1, fun k hk2 => HH_r (h.2 k hk2) (fun j hj => h2 _ (by omega) (by omega))⟩
theorem RS_of {B : Nat} {sl : Nat → HD} {sv : Nat → Int32} {m m2 : MD} (h : RS B sl sv m) (h1 : m_sav m2 = m_sav m) (h2 : ∀ j, 3178 ≤ j → j < 4086 → m_row m2 j = m_row m j) : RS B sl sv m2 :=
  fun i hi => ⟨by rw [h1]; exact (h i hi).1, fun hz => HH_r ((h i hi).2 hz) (fun j hj => h2 _ (by omega) (by omega))⟩
theorem RP_of {a : AD} {m m2 : MD} (h : RP a m) (h1 : m_len m2 = m_len m) (h2 : m_pad m2 = m_pad m) : RP a m2 := ⟨h1.trans h.1, fun i hi => by rw [h2]; exact h.2 i hi⟩
theorem RI_mono {B B2 : Nat} {y : YD} {m : MD} (h : RI B y m) (hB : B ≤ B2) : RI B2 y m := ⟨h.1, fun k hk => HH_mono (h.2 k hk) hB⟩
theorem RS_mono {B B2 : Nat} {sl : Nat → HD} {sv : Nat → Int32} {m : MD} (h : RS B sl sv m) (hB : B ≤ B2) : RS B2 sl sv m := fun i hi => ⟨(h i hi).1, fun hz => HH_mono ((h i hi).2 hz) hB⟩
theorem RN_mono {B B2 : Nat} {d : HD} {m : MD} (h : RN B d m) (hB : B ≤ B2) : RN B2 d m := ⟨HH_mono h.1 hB, h.2⟩
theorem RR_mono {B B2 : Nat} {e : ED} {m : MD} (h : RR B e m) (hB : B ≤ B2) : RR B2 e m := ⟨h.1, RN_mono h.2.1 hB, RI_mono h.2.2.1 hB, RS_mono h.2.2.2.1 hB, h.2.2.2.2⟩
theorem HH_ok {B : Nat} {d : HD} {r : RW} (h : HH B d r) : r_ok r := by
  obtain ⟨hA, hS, hZ, hL, hW, hP⟩ := h
  have hc := hA.2.2.2.2.2.2
  refine ⟨by rw [hA.2.2.2.2.1]; exact (q_okl hA.2.2.2.2.2 (by decide)).1, by rw [hL.1.1]; exact (q_okl hL.1.2 (by decide)).1, fun l hl => ?_, by rw [hP.1.1.1]; exact (q_okl hP.1.1.2 (by decide)).1, fun p hp => ?_⟩
  · rw [HL_n hL] at hl
    have h0 := hL.2 l hl 0 (by decide)
    have h1 := hL.2 l hl 1 (by decide)
    rw [h0.1, h1.1]
    exact ⟨(q_inl (zlt_mono h0.2 hc) (by decide)).1, (q_inl (zlt_mono h1.2 hc) (by decide)).1⟩
  · rw [HPc_n hP.1] at hp
    have h0 := hP.1.2 p hp 0 (by decide)
    rw [h0.1]; exact (q_inl (zlt_mono h0.2 hc) (by decide)).1
/-! the history grows -/
theorem m_cp_row (m : MD) (a b : Nat) : m_row (m_cp m a b) = r_cp (m_row m) a b := rfl
theorem m_cp_kk (m : MD) (a b : Nat) : m_kk m (m_cp m a b) ∧ m_gone (m_cp m a b) = m_gone m ∧ m_seen (m_cp m a b) = m_seen m ∧ m_wat (m_cp m a b) = m_wat m ∧ m_wh (m_cp m a b) = m_wh m := ⟨m_kk.row m _, rfl, rfl, rfl, rfl⟩
def m_ko (a b : MD) : Prop := m_sav b = m_sav a ∧ m_rea b = m_rea a ∧ m_pad b = m_pad a ∧ m_len b = m_len a ∧ m_wat b = m_wat a ∧ m_gone b = m_gone a ∧ m_seen b = m_seen a
theorem m_ko.rf (a : MD) : m_ko a a := ⟨rfl, rfl, rfl, rfl, rfl, rfl, rfl⟩
theorem m_ko.tr {a b c : MD} (h : m_ko a b) (k : m_ko b c) : m_ko a c := by
  obtain ⟨h1, h2, h3, h4, h5, h6, h7⟩ := h
  obtain ⟨k1, k2, k3, k4, k5, k6, k7⟩ := k
  exact ⟨k1.trans h1, k2.trans h2, k3.trans h3, k4.trans h4, k5.trans h5, k6.trans h6, k7.trans h7⟩
theorem m_ko.row (a : MD) (v : RW) : m_ko a (m_srow a v) := ⟨rfl, rfl, rfl, rfl, rfl, rfl, rfl⟩
theorem m_ko.sts (a : MD) (v : Int32) : m_ko a (m_ssts a v) := ⟨rfl, rfl, rfl, rfl, rfl, rfl, rfl⟩
theorem m_ko.cp (m : MD) (a b : Nat) : m_ko m (m_cp m a b) := m_ko.row m _
theorem m_ko.shift (m : MD) : m_ko m (m_shift m) := ((((m_ko.cp m 908 454).tr (m_ko.cp _ 1362 908)).tr (m_ko.cp _ 1816 1362)).tr (m_ko.cp _ 2270 1816)).tr (m_ko.cp _ 2724 2270)
theorem m_ssts_f (a : MD) (v : Int32) : m_row (m_ssts a v) = m_row a ∧ m_sts (m_ssts a v) = v := ⟨rfl, rfl⟩
theorem m_cp_sts (m : MD) (a b : Nat) : m_sts (m_cp m a b) = m_sts m := rfl
theorem m_shift_row {m : MD} {k j : Nat} (hk : k < 5) (hj : j < 454) : m_row (m_shift m) (454 + 454 * k + j) = m_row m (454 + 454 * (k + 1) + j) := by
  unfold m_shift
  rw [m_cp_row, m_cp_row, m_cp_row, m_cp_row, m_cp_row]
  match k, hk with
  | 0, _ => rw [r_cp_out (by omega), r_cp_out (by omega), r_cp_out (by omega), r_cp_out (by omega), show 454 + 454 * 0 + j = 454 + j by omega, r_cp_in hj]
  | 1, _ => rw [r_cp_out (by omega), r_cp_out (by omega), r_cp_out (by omega), show 454 + 454 * 1 + j = 908 + j by omega, r_cp_in hj, r_cp_out (by omega)]
  | 2, _ => rw [r_cp_out (by omega), r_cp_out (by omega), show 454 + 454 * 2 + j = 1362 + j by omega, r_cp_in hj, r_cp_out (by omega), r_cp_out (by omega)]
  | 3, _ => rw [r_cp_out (by omega), show 454 + 454 * 3 + j = 1816 + j by omega, r_cp_in hj, r_cp_out (by omega), r_cp_out (by omega), r_cp_out (by omega)]
  | 4, _ => rw [show 454 + 454 * 4 + j = 2270 + j by omega, r_cp_in hj, r_cp_out (by omega), r_cp_out (by omega), r_cp_out (by omega), r_cp_out (by omega)]
theorem m_shift_out {m : MD} {j : Nat} (hj : j < 454 ∨ 2724 ≤ j) : m_row (m_shift m) j = m_row m j := by
  unfold m_shift
  rw [m_cp_row, m_cp_row, m_cp_row, m_cp_row, m_cp_row, r_cp_out (by omega), r_cp_out (by omega), r_cp_out (by omega), r_cp_out (by omega), r_cp_out (by omega)]
theorem m_rec1_f (m : MD) : m_ko m (m_rec1 m) ∧ (m_sts m = 6 → m_sts (m_rec1 m) = 5 ∧ m_row (m_rec1 m) = m_row (m_shift m)) ∧ (¬ m_sts m = 6 → m_rec1 m = m) := by
  unfold m_rec1
  by_cases h : m_sts m = 6
  · rw [if_pos h]
    have k := m_ssts_f (m_shift m) (m_sts (m_shift m) - 1)
    refine ⟨(m_ko.shift m).tr (m_ko.sts _ _), fun _ => ⟨?_, k.1⟩, fun z => absurd h z⟩
    rw [k.2]
    have e : m_sts (m_shift m) = m_sts m := by unfold m_shift; rw [m_cp_sts, m_cp_sts, m_cp_sts, m_cp_sts, m_cp_sts]
    rw [e, h]; rfl
  · rw [if_neg h]
    exact ⟨m_ko.rf m, fun z => absurd z h, fun _ => rfl⟩
theorem m_rec_f (m : MD) : m_ko m (m_rec m) ∧ m_sts (m_rec m) = m_sts (m_rec1 m) + 1 ∧ m_row (m_rec m) = r_cp (m_row (m_rec1 m)) 0 (454 + 454 * zn32 (m_sts (m_rec1 m))) := by
  have h1 := (m_rec1_f m).1
  unfold m_rec m_rec2
  generalize m_rec1 m = x at h1 ⊢
  have h2 := m_ko.cp x 0 (454 + 454 * zn32 (m_sts x))
  have h3 := m_cp_row x 0 (454 + 454 * zn32 (m_sts x))
  have h4 := m_cp_sts x 0 (454 + 454 * zn32 (m_sts x))
  rw [h4]
  generalize m_cp x 0 (454 + 454 * zn32 (m_sts x)) = z at h2 h3 ⊢
  have k := m_ssts_f z (m_sts x + 1)
  exact ⟨(h1.tr h2).tr (m_ko.sts _ _), k.2, k.1.trans h3⟩
theorem m_rec_row {m : MD} (hs : zok (m_sts m) 6) : (∀ j, (j < 454 ∨ 3178 ≤ j) → m_row (m_rec m) j = m_row m j) ∧
    (¬ m_sts m = 6 → m_sts (m_rec m) = m_sts m + 1 ∧ (∀ j, j < 454 → m_row (m_rec m) (454 + 454 * zn32 (m_sts m) + j) = m_row m j) ∧ (∀ k j, k < zn32 (m_sts m) → j < 454 → m_row (m_rec m) (454 + 454 * k + j) = m_row m (454 + 454 * k + j))) ∧
    (m_sts m = 6 → m_sts (m_rec m) = 6 ∧ (∀ j, j < 454 → m_row (m_rec m) (454 + 454 * 5 + j) = m_row m j) ∧ (∀ k j, k < 5 → j < 454 → m_row (m_rec m) (454 + 454 * k + j) = m_row m (454 + 454 * (k + 1) + j))) := by
  obtain ⟨-, h1, h2⟩ := m_rec1_f m
  obtain ⟨-, h3, h4⟩ := m_rec_f m
  have h6 := hs.2
  by_cases h : m_sts m = 6
  · obtain ⟨a1, a2⟩ := h1 h
    have z5 : zn32 (m_sts (m_rec1 m)) = 5 := by rw [a1]; decide
    rw [h3, h4, z5, a1, a2]
    refine ⟨fun j hj => by rw [r_cp_out (by omega), m_shift_out (by omega)], fun z => absurd h z, fun _ => ⟨rfl, fun j hj => ?_, fun k j hk hj => ?_⟩⟩
    · rw [r_cp_in hj, Nat.zero_add, m_shift_out (by omega)]
    · rw [r_cp_out (by omega), m_shift_row hk hj]
  · have a1 := h2 h
    have h5 := (m_sts5 hs h).2
    rw [h3, h4, a1]
    refine ⟨fun j hj => r_cp_out (by omega), fun _ => ⟨rfl, fun j hj => ?_, fun k j hk hj => r_cp_out (by omega)⟩, fun z => absurd z h⟩
    rw [r_cp_in hj, Nat.zero_add]
theorem RI_prep {B : Nat} {y : YD} {d : HD} {m : MD} (hy : y_ok y) (h : RI B y m) : RI B (y_prep y d) m := by
  have h1 := hy.1.2; have h2 := hy.2.2
  refine ⟨h.1, fun k hk => ?_⟩
  have hk2 : k < zn32 (y_kept y) := hk
  show HH B (vf_upd (y_st y) (y_ix y) _ ((zn32 (y_old y) + k) % 7)) _
  have hne : (zn32 (y_old y) + k) % 7 ≠ y_ix y := by unfold y_ix; omega
  unfold vf_upd
  rw [if_neg hne]; exact h.2 k hk2
theorem vf_s {s : Nat → HD} {i : Nat} {d : HD} : vf_upd s i d i = d := if_pos rfl
theorem RI_rec {B : Nat} {y : YD} {d : HD} {m : MD} {v : Int32} (hy : y_ok y) (h : RI B y m) (hd : HH B d (m_row m)) (hv : ¬ v < 0) : RI B (y_keep (y_prep y d) v) (m_rec m) := by
  have h1 := hy.1.2; have h2 := hy.2.2
  have P := RI_prep (d := d) hy h
  have hs : zok (m_sts m) 6 := by rw [h.1]; exact hy.2
  obtain ⟨r1, r2, r3⟩ := m_rec_row hs
  have hc : HH B (y_st (y_prep y d) (y_ix y)) (m_row m) := by
    show HH B (vf_upd (y_st y) (y_ix y) (h_copy (y_st y (y_ix y)) d) (y_ix y)) _
    rw [vf_s]; exact (HH_copy hd).1
  unfold y_keep
  rw [if_neg hv]
  have ek : y_kept (y_prep y d) = y_kept y := rfl
  have eo : y_old (y_prep y d) = y_old y := rfl
  have eix : y_ix y = (zn32 (y_old y) + zn32 (y_kept y)) % 7 := rfl
  have lt6 : y_kept y < 6 ↔ zn32 (y_kept y) < 6 := by
    conv => lhs; rw [hy.2.1]
    exact nI_ltI (b := 6) (by omega) (by decide)
  rw [ek]
  by_cases g : y_kept y < 6
  · rw [if_pos g]
    have g6 := lt6.mp g
    have hne : ¬ m_sts m = 6 := by rw [h.1]; intro z; rw [z] at g6; exact absurd g6 (by decide)
    obtain ⟨b1, b2, b3⟩ := r2 hne
    have q := q_s_lt hy.2 (by decide)
    refine ⟨by rw [b1, h.1]; rfl, fun k hk => ?_⟩
    have hk2 : k < zn32 (y_kept y + 1) := hk
    rw [q.2.2.2] at hk2
    show HH B (y_st (y_prep y d) ((zn32 (y_old y) + k) % 7)) _
    by_cases e : k = zn32 (y_kept y)
    · subst e
      rw [← eix]
      exact HH_r hc (fun j hj => by rw [← h.1]; exact b2 j hj)
    · exact HH_r (P.2 k (by show k < zn32 (y_kept y); omega)) (fun j hj => b3 k j (by rw [h.1]; omega) hj)
  · rw [if_neg g]
    have g6 : zn32 (y_kept y) = 6 := by
      have : ¬ zn32 (y_kept y) < 6 := fun z => g (lt6.mpr z)
      omega
    have he : m_sts m = 6 := by rw [h.1, hy.2.1, g6]; rfl
    obtain ⟨b1, b2, b3⟩ := r3 he
    have eold : zn32 (y_old y + 1 - (y_old y + 1) / 7 * 7) = (zn32 (y_old y) + 1) % 7 := by
      rw [show y_old y + 1 = nI (zn32 (y_old y) + 1) by rw [nI_succ, ← hy.1.1], show (7 : Int32) = nI 7 from rfl, pk_rem (by omega) (by decide) (by decide)]
      exact zn_nI (by omega)
    refine ⟨by rw [b1, ← he, h.1]; rfl, fun k hk => ?_⟩
    have hk2 : k < 6 := by rw [← g6]; exact hk
    show HH B (y_st (y_prep y d) ((zn32 (y_old y + 1 - (y_old y + 1) / 7 * 7) + k) % 7)) _
    rw [eold]
    by_cases e : k = 5
    · subst e
      have : ((zn32 (y_old y) + 1) % 7 + 5) % 7 = y_ix y := by rw [eix, g6]; omega
      rw [this]
      exact HH_r hc (fun j hj => b2 j hj)
    · have : ((zn32 (y_old y) + 1) % 7 + k) % 7 = (zn32 (y_old y) + (k + 1)) % 7 := by omega
      rw [this]
      exact HH_r (P.2 (k + 1) (by show k + 1 < zn32 (y_kept y); omega)) (fun j hj => b3 k j (by omega) hj)
