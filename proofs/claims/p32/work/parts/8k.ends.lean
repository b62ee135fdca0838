
/-! THE START, THE SERVICES, THE SLOTS. -/
def r_new : RW := fun j => ([168, 25, 10, 10, 20, 48, 3, 1] : List Int64).getD j 0
theorem r_new_at {j : Nat} (h : 8 ≤ j) : r_new j = 0 := by
  show ([168, 25, 10, 10, 20, 48, 3, 1] : List Int64).getD j 0 = 0
  rw [List.getD_eq_getElem?_getD, List.getElem?_eq_none (by exact h)]; rfl
theorem HA_new : HA 0 h_new r_new := by
  refine ⟨fun k hk => ?_, ⟨by decide +kernel, zk_0 _⟩, ⟨by decide +kernel, zk_0 _⟩, ⟨by decide +kernel, zk_0 _⟩, ⟨by decide +kernel, zk_0 _⟩⟩
  match k, hk with
  | 0, _ => exact ⟨by decide +kernel, by decide +kernel, by decide +kernel⟩
  | 1, _ => exact ⟨by decide +kernel, by decide +kernel, by decide +kernel⟩
  | 2, _ => exact ⟨by decide +kernel, by decide +kernel, by decide +kernel⟩
  | 3, _ => exact ⟨by decide +kernel, by decide +kernel, by decide +kernel⟩
  | 4, _ => exact ⟨by decide +kernel, by decide +kernel, by decide +kernel⟩
  | 5, _ => exact ⟨by decide +kernel, by decide +kernel, by decide +kernel⟩
  | 6, _ => exact ⟨by decide +kernel, by decide +kernel, by decide +kernel⟩
  | 7, _ => exact ⟨by decide +kernel, by decide +kernel, by decide +kernel⟩
  | _ + 8, h => exact absurd h (by omega)
theorem SV_new {s : Nat} (hs : s < 8) : SV h_new r_new s := by
  refine ⟨⟨(r_new_at (by omega)).trans (show (0 : Int64) = (0 : Int32).toInt64 by decide), zk_0 _⟩, r_new_at (by omega), ⟨(r_new_at (by omega)).trans (show (0 : Int64) = (0 : Int32).toInt64 by decide), zk_0 _⟩, Or.inl (r_new_at (by omega)), ?_, ?_, ?_, fun w hw => ?_⟩
  · rw [r_new_at (by omega)]; rfl
  · rw [r_new_at (by omega)]; rfl
  · rw [r_new_at (by omega)]; rfl
  · rw [r_new_at (by omega)]; rfl
theorem HH_new : HH 0 h_new r_new := by
  refine ⟨HA_new, ⟨⟨by decide +kernel, by decide +kernel, by decide +kernel⟩, by decide +kernel, fun s hs => SV_new hs⟩, fun s k _ hs hk => r_new_at (by omega), ⟨⟨by decide +kernel, zk_0 _⟩, fun l hl => (z_no hl rfl).elim⟩, fun l hl => (z_no hl rfl).elim, ⟨⟨by decide +kernel, zk_0 _⟩, fun p hp => (z_no hp rfl).elim⟩, fun p hp => (z_no hp rfl).elim, ?_⟩
  exact ⟨fun a h => (z_no h rfl).elim, fun a b _ h => (z_no h rfl).elim, fun p h => (z_no h rfl).elim⟩
theorem RR_new : RR 0 e_new (Mr r_new) :=
  ⟨e_ok_new, ⟨HH_new, rfl, fun _ _ => ⟨rfl, rfl⟩, rfl⟩, ⟨rfl, fun k hk => (z_no hk rfl).elim⟩, fun i _ => ⟨rfl, fun h => absurd rfl h⟩, rfl, rfl, fun i hi => (z_no hi rfl).elim⟩
theorem QS_new : QS 0 r_new e_new := ⟨⟨Mr r_new, RR_new, fun _ _ => rfl⟩, rfl, rfl⟩
theorem gA_new {s k : Nat} (hs : s < 8) : gA r_new s k = 0 := by unfold gA; rw [r_new_at (by omega)]; decide
theorem IV_new : IV 0 0 r_new := by
  have z : (0 : Int64).toInt = 0 := by decide
  refine ⟨by decide, r_new_at (by decide), ⟨fun s hs => ?_, fun s hs => absurd hs (Nat.not_lt_zero _), ?_, ?_⟩, ⟨0, by decide, r_new_at (by decide), fun l hl => absurd hl (Nat.not_lt_zero _)⟩, ⟨0, by decide, r_new_at (by decide), fun l hl => absurd hl (Nat.not_lt_zero _)⟩, ?_⟩
  · unfold IVs
    rw [gA_new hs, gA_new hs, gA_new hs, gA_new hs, gA_new hs, gA_new hs, gA_new hs, gA_new hs, gA_new hs, gA_new hs, gA_new hs, gA_new hs, gA_new hs]
    refine ⟨by decide, ⟨⟨by decide, by decide⟩, ⟨by decide, by decide⟩, ⟨by decide, by decide⟩, ⟨by decide, by decide⟩, ⟨by decide, by decide⟩, ⟨by decide, by decide⟩, ⟨by decide, by decide⟩, ⟨by decide, by decide⟩⟩, Or.inl rfl, ⟨by decide, by decide⟩, ⟨by decide, by decide⟩, fun h => absurd h (by decide), by decide, by decide⟩
  · rw [zs8_c (f := fun _ => 0) (fun s hs => by show gA r_new s 12 - gA r_new s 8 = 0; rw [gA_new hs, gA_new hs]; rfl)]; rfl
  · rw [zs8_c (f := fun _ => 0) (fun s hs => by show gA r_new s 13 - gA r_new s 9 = 0; rw [gA_new hs, gA_new hs]; rfl)]; rfl
  · unfold IVm
    rw [r_new_at (show 8 ≤ 10 by decide), r_new_at (show 8 ≤ 8 by decide)]
    exact ⟨by decide, by decide, by decide, by decide +kernel, by decide +kernel, by decide +kernel, by decide +kernel⟩
/-- a service more -/
theorem QS.srv {B c F j : Nat} {r : RW} {e : ED} (h : QS B r e) (iv : IV c F r) (hc : c < 8) (h1 : 10 ≤ j) (h2 : j ≤ 10000) : ∃ r2, QS (B + 1000) r2 (e_service e (nI j)).2 ∧ IV (c + 1) (F + 80000) r2 := by
  obtain ⟨⟨m, r1, r2⟩, q1, q2⟩ := h
  have ivm := IV_r iv r2
  have sp := SP_service r1 ivm (nI j)
  have S := (S_service r1 (nI j)).2
  have g : z_inl (nI j).toInt64 10 10000 = true := by
    have e : z_in (nI j) 10 10000 = true := by
      unfold z_in
      rw [if_neg (show ¬ nI j < 10 from nI_nlt (b := 10) h1 (by omega)), if_pos (show nI j ≤ 10000 from (nI_leI (b := 10000) (by omega) (by decide)).mpr h2)]
    exact (show z_inl (nI j).toInt64 10 10000 = z_in (nI j) 10 10000 from z_in_l (nI j) 10 10000).trans e
  unfold m_service at S
  rw [if_pos g] at S
  have g2 : ¬ m_row m 11 = 8 := by
    rw [ivm.2.1]
    intro z
    have := (lN_inj (b := 8) (by omega) (by decide)).mp z
    omega
  rw [if_neg g2] at S
  have iv2 := IV_rec ivm
  have ez : zn32 (m_row (m_rec m) 11).toInt32 = c := by rw [iv2.2.1, lN_i]; exact zn_nI (by omega)
  have et : (nI j).toInt64.toInt = j := by rw [nI_l (by omega), lN_toInt (by omega)]
  have hz : ∀ k, k < 15 → m_row (m_rec m) (14 + 15 * c + k) = 0 := fun k hk => by
    rw [m_rec_lo (by omega)]
    exact r1.2.1.1.2.2.1 c k (by rw [(HH_cnt r1.2.1.1 ivm.2.1 (by omega)).1]; exact Nat.le_refl _) hc hk
  refine ⟨_, ⟨⟨_, RR_mono S (by omega), fun _ _ => rfl⟩, by rw [OP_pad sp.1]; exact q1, by rw [OP_sav sp.1]; exact q2⟩, ?_⟩
  show IV (c + 1) (F + 80000) (r_serv (m_row (m_rec m)) (zn32 (m_row (m_rec m) 11).toInt32) (nI j).toInt64)
  rw [ez]
  generalize m_row (m_rec m) = ρ at iv2 hz ⊢
  have A := IVa_serv (b := (nI j).toInt64) hc iv2.2.2.1 ⟨by omega, by omega⟩ hz
  have ro : ∀ i, (i < 14 ∨ 134 ≤ i) → i ≠ 11 → r_serv ρ c (nI j).toInt64 i = ρ i := fun i hi h => by
    unfold r_serv r_ex r_sv2; rw [r_add_o (by omega), vp_uLo (by omega), vp_uLo (by omega), vp_uLo (by omega), vp_uLo (by omega)]
  have r11 : r_serv ρ c (nI j).toInt64 11 = lN (c + 1) := by
    unfold r_serv r_ex r_sv2; rw [r_add_e rfl, vp_uLo (by omega), vp_uLo (by omega), vp_uLo (by omega), vp_uLo (by omega), iv2.2.1]; exact lN_add c 1
  generalize r_serv ρ c (nI j).toInt64 = r3 at A ro r11 ⊢
  obtain ⟨-, -, -, ⟨n, n1, n2, n3⟩, ⟨p, p1, p2, p3⟩, i6⟩ := iv2
  refine ⟨by omega, r11, IVa_mono A (by omega), ⟨n, n1, by rw [ro 12 (by omega) (by decide)]; exact n2, fun l hl => ?_⟩, ⟨p, p1, by rw [ro 13 (by omega) (by decide)]; exact p2, fun q hq => ?_⟩, IVm_r i6 (by omega) (fun i hi => ro i (by omega) (by omega))⟩
  · obtain ⟨a, d, ha, hd, x⟩ := n3 l hl
    exact LNk_r ⟨a, d, by omega, by omega, x⟩ (fun k hk => ro _ (by omega) (by omega))
  · obtain ⟨⟨s, hs, x⟩, y⟩ := p3 q hq
    exact PLk_r ⟨⟨s, by omega, x⟩, y⟩ (fun k hk => ro _ (by omega) (by omega))
theorem AC_set (e : ED) (s v : Int32) : AC e (e_set e s v) := Or.inr (Or.inr (Or.inl ⟨s, v, rfl⟩))
theorem AC_service (e : ED) (b : Int32) : AC e (e_service e b) := Or.inl ⟨b, rfl⟩
/-! the slot -/
def SLT (B : Nat) (r : RW) (e : ED) : Prop := HH B (e_sl e 1) r ∧ ¬ e_sav e 1 = 0
theorem SLT.op {B : Nat} {r : RW} {e : ED} {E : Int32 × ED} (h : SLT B r e) (ho : OP e E) : SLT B r E.2 := ⟨by rw [OP_sl ho]; exact h.1, by rw [OP_sav ho]; exact h.2⟩
theorem SLT.und {B : Nat} {r : RW} {e : ED} (h : SLT B r e) : SLT B r (e_undo e).2 := ⟨by rw [e_undo_sl]; exact h.1, by rw [e_undo_sav]; exact h.2⟩
theorem e_save_1 (e : ED) : e_save e 1 = (h_hour (e_now e), e_sav2 (e_sav1 e 1) 1) := by
  unfold e_save
  rw [if_neg (by decide), if_pos (by decide), show zn32 1 = 1 by decide]; rfl
theorem SAV {B : Nat} {r : RW} {e : ED} (h : QS B r e) : (e_save e 1).1 = e_count (e_save e 1).2 0 ∧ QS B r (e_save e 1).2 ∧ SLT B r (e_save e 1).2 := by
  have hh := h.hh
  obtain ⟨⟨m, r1, r2⟩, q1, q2⟩ := h
  have S := (S_save r1 1).2
  rw [e_save_1] at S ⊢
  have en : e_now (e_sav2 (e_sav1 e 1) 1) = e_now e := rfl
  have es : e_sl (e_sav2 (e_sav1 e 1) 1) 1 = h_copy (e_sl e 1) (e_now e) := by
    show vf_upd (e_sl e) 1 (h_copy (e_sl e 1) (e_now e)) 1 = _
    exact vf_s
  have ev : e_sav (e_sav2 (e_sav1 e 1) 1) = upd (e_sav e) 1 1 := rfl
  have ep : e_pad (e_sav2 (e_sav1 e 1) 1) = e_pad e := rfl
  refine ⟨rfl, ?_, ?_, ?_⟩
  · obtain ⟨m3, x1, x2⟩ := RR_rep S (r := r) (by rw [en]; exact hh)
    exact ⟨⟨m3, x1, x2⟩, by rw [ep]; exact q1, by rw [ev, pk_un (by decide)]; exact q2⟩
  · show HH B (e_sl (e_sav2 (e_sav1 e 1) 1) 1) r
    rw [es]; exact (HH_copy hh).1
  · show ¬ e_sav (e_sav2 (e_sav1 e 1) 1) 1 = 0
    rw [ev, pk_us]; decide
theorem zn_pos {v : Int32} (h : v = nI (zn32 v)) : ¬ v < 0 := by
  intro z
  have e : zn32 v = 0 := by
    show v.toInt.toNat = 0
    have := Int32.lt_iff_toInt_lt.mp z
    rw [show (0 : Int32).toInt = 0 by decide] at this
    omega
  rw [e] at h
  rw [h] at z
  exact absurd z (by decide)
theorem RES {B Bs : Nat} {r r0 : RW} {e : ED} (h : QS B r0 e) (s : SLT Bs r e) (hb : Bs ≤ B) : (e_restore e 1).1 = e_count (e_restore e 1).2 0 ∧ ¬ (e_restore e 1).1 < 0 ∧ QS B r (e_restore e 1).2 ∧ SLT Bs r (e_restore e 1).2 ∧ OP e (e_restore e 1) := by
  obtain ⟨⟨m, r1, r2⟩, q1, q2⟩ := h
  have S := (S_restore r1 1).2
  have hc := (HH_copy (d := e_now e) s.1).1
  have eR : e_restore e 1 = e_fin (h_hour (h_copy (e_now e) (e_sl e 1)), e_snow (e_prep e) (h_copy (e_now e) (e_sl e 1))) := by
    unfold e_restore
    rw [if_neg (by decide), if_pos (by decide), show zn32 1 = 1 by decide, if_neg s.2]; rfl
  generalize h_copy (e_now e) (e_sl e 1) = d2 at hc eR
  have hz := hc.1.2.1.2
  have hpos : ¬ h_hour d2 < 0 := zn_pos hz.1
  have ho : OP e (e_restore e 1) := by rw [eR]; exact OP_fin hpos
  have f := e_fin_f (h_hour d2, e_snow (e_prep e) d2)
  have en : e_now (e_restore e 1).2 = d2 := by rw [eR, f.2.1]; exact (e_snow_f _ d2).1
  have ea : (e_restore e 1).1 = h_hour d2 := by rw [eR, f.1]
  refine ⟨?_, by rw [ea]; exact hpos, ?_, s.op ho, ho⟩
  · show _ = h_hour (e_now (e_restore e 1).2)
    rw [en, ea]
  · obtain ⟨m3, x1, x2⟩ := RR_rep S (r := r) (by rw [en]; exact HH_mono hc hb)
    exact ⟨⟨m3, x1, x2⟩, by rw [OP_pad ho]; exact q1, by rw [OP_sav ho]; exact q2⟩
theorem QS.und2 {B : Nat} {r r2 : RW} {e : ED} {E : Int32 × ED} (h : QS B r e) (ho : OP e E) (hE : ¬ E.1 < 0) (h2 : QS B r2 E.2) : ¬ (e_undo E.2).1 < 0 ∧ QS B r (e_undo E.2).2 := by
  obtain ⟨⟨m, h1, h3⟩, q1, q2⟩ := h
  obtain ⟨⟨m2, h4, h5⟩, -⟩ := h2
  obtain ⟨u1, m4, u2, u3⟩ := UND h1 (Nat.le_refl _) ho hE h4
  exact ⟨u1, ⟨m4, u2, fun j hj => (u3 j hj).trans (h3 j hj)⟩, by rw [e_undo_pad, OP_pad ho]; exact q1, by rw [e_undo_sav, OP_sav ho]; exact q2⟩
/-- what is refused at the end -/
theorem LAST {B : Nat} {r : RW} {e : ED} (h : QS B r e) : e_restore e 0 = (-1, e) ∧ e_save e 2 = (-1, e) ∧ e_set e 8 0 = (-2, e) ∧ e_set e 0 11 = (-2, e) ∧ e_count e 18 = -2 ∧ e_ofService e 8 0 = -1 ∧ e_ofLoan e 40 0 = -1 ∧ e_ofPlan e 30 0 = -1 := by
  have he := h.ok
  have z0 : zn32 0 = 0 := by decide
  refine ⟨?_, ?_, ?_, ?_, ?_, ?_, ?_, ?_⟩
  · unfold e_restore; rw [if_neg (by decide), if_pos (by decide), z0, if_pos h.2.2]
  · unfold e_save; rw [if_neg (by decide), if_neg (by decide)]
  · unfold e_set; rw [if_neg (by decide), if_neg (by decide)]
  · unfold e_set; rw [if_neg (by decide), if_pos (by decide), if_neg (by decide)]
  · rfl
  · unfold e_ofService
    have hc : ¬ h_has (e_now e) 8 = true := fun z => by
      have q := (h_has_in z he.1.1).2.1
      have := he.1.1.2
      rw [show zn32 8 = 8 by decide] at q; omega
    rw [if_neg hc]
  · unfold e_ofLoan
    have hc : ¬ l_has (h_lo (e_now e)) 40 = true := fun z => by
      have q := (l_has_in z he.1.2.1.1).2.2.1
      rw [show zn32 40 = 40 by decide] at q; omega
    rw [if_neg hc]
  · unfold e_ofPlan
    have hc : ¬ p_has (h_pl (e_now e)) 30 = true := fun z => by
      have q := (p_has_in z he.1.2.2.1).2.2.1
      rw [show zn32 30 = 30 by decide] at q; omega
    rw [if_neg hc]
