
/-! THE RELATION: the methods that change. -/
theorem RR_sts {B : Nat} {e : ED} {m : MD} (h : RR B e m) : zok (m_sts m) 6 := by rw [h.2.2.1.1]; exact h.1.2.2.1.2
theorem RR_len {B : Nat} {e : ED} {m : MD} (h : RR B e m) : zok (m_len m) 80 := by rw [h.2.2.2.2.2.1]; exact h.1.2.2.2.2.2.1
theorem RR_rok {B : Nat} {e : ED} {m : MD} (h : RR B e m) : r_ok (m_row m) := HH_ok h.2.1.1
theorem S_outage {B : Nat} {e : ED} {m : MD} (h : RR B e m) (s i w : Int32) : (e_outage e s i w).1 = (m_outage m s i w).1 ∧ RR B (e_outage e s i w).2 (m_outage m s i w).2 :=
  RR_in (D := fun m => m_doOut m s i w) h (Nat.le_refl _) (in_out (e := e_prep e) h.2.1 s i w) (in_out (e := e_prep e) (RN_rec h.2.1) s i w) (e_fin_ok (e_outi_ok (e_prep_ok h.1)))
theorem S_release {B : Nat} {e : ED} {m : MD} (h : RR B e m) (s z x : Int32) : (e_release e s z x).1 = (m_release m s z x).1 ∧ RR B (e_release e s z x).2 (m_release m s z x).2 :=
  RR_in (D := fun m => m_doRel m s z) h (Nat.le_refl _) (in_rel (e := e_prep e) h.2.1 s z x) (in_rel (e := e_prep e) (RN_rec h.2.1) s z x) (e_fin_ok (e_reli_ok (e_prep_ok h.1)))
theorem S_lend {B : Nat} {e : ED} {m : MD} (hB : B + 3000 < 2 ^ 30) (h : RR B e m) (a b i w : Int32) : (e_lend e a b i w).1 = (m_lend m a b i w).1 ∧ RR B (e_lend e a b i w).2 (m_lend m a b i w).2 :=
  RR_in (D := fun m => m_doLend m a b i w) h (Nat.le_refl _) (in_len (e := e_prep e) hB h.2.1 a b i w) (in_len (e := e_prep e) hB (RN_rec h.2.1) a b i w) (e_fin_ok (e_leni_ok (e_prep_ok h.1)))
theorem S_plan {B : Nat} {e : ED} {m : MD} (hB : B + 3000 < 2 ^ 30) (h : RR B e m) (s t z y : Int32) : (e_plan e s t z y).1 = (m_plan m s t z y).1 ∧ RR B (e_plan e s t z y).2 (m_plan m s t z y).2 :=
  RR_in (D := fun m => m_doPlan m s t z y) h (Nat.le_refl _) (in_plan (e := e_prep e) hB h.2.1 s t z y) (in_plan (e := e_prep e) hB (RN_rec h.2.1) s t z y) (e_fin_ok (e_plani_ok (e_prep_ok h.1)))
theorem m_drop_no (m : MD) (p : Int32) : m_drop m p = (if m_noDrop m p = 0 then m_doDrop (m_rec m) p else (m_noDrop m p, m)) := by
  unfold m_drop m_noDrop
  by_cases g : r_isP (m_row m) p = true
  · rw [if_pos g, if_pos g, if_pos rfl]
  · rw [if_neg g, if_neg g, if_neg (by decide)]
theorem S_drop {B : Nat} {e : ED} {m : MD} (h : RR B e m) (p : Int32) : (e_drop e p).1 = (m_drop m p).1 ∧ RR B (e_drop e p).2 (m_drop m p).2 := by
  rw [m_drop_no]
  exact RR_in (D := fun m => m_doDrop m p) h (Nat.le_refl _) (in_drop (e := e_prep e) h.2.1 p) (in_drop (e := e_prep e) (RN_rec h.2.1) p) (e_fin_ok (e_dropi_ok (e_prep_ok h.1)))
theorem m_hours_no (m : MD) (k : Int32) : m_hours m k = (if m_noHrs k = 0 then m_pass (m_rec m) k else (m_noHrs k, m)) := by
  unfold m_hours m_noHrs
  by_cases g : z_inl k.toInt64 1 1000 = true
  · rw [if_pos g, if_pos g, if_pos rfl]
  · rw [if_neg g, if_neg g, if_neg (by decide)]
theorem S_hours {B : Nat} {e : ED} {m : MD} (hB : B + 4100 < 2 ^ 30) (h : RR B e m) (k : Int32) : ((e_hours e k).1 = (m_hours m k).1 ∧ RR (B + 1000) (e_hours e k).2 (m_hours m k).2) ∧ (z_inl k.toInt64 1 1000 = true → ∀ i, i < zn32 k → m_hgood (m_hrs (m_rec m) i)) := by
  have k2 := in_hrs (e := e_prep e) hB (RN_rec h.2.1) k
  rw [m_hours_no]
  exact ⟨RR_in (D := fun m => m_pass m k) h (by omega) (in_hrs (e := e_prep e) hB h.2.1 k).1 k2.1 (e_fin_ok (e_hrsi_ok (e_prep_ok h.1))), k2.2⟩
/-! a change of now alone that always counts -/
theorem RR_row {B : Nat} {e : ED} {m : MD} {v : Int32} {d2 : HD} {r2 : RW} {E : Int32 × ED} (h : RR B e m) (hv : ¬ v < 0) (hE : E = (v, e_snow (e_prep e) d2)) (hok : e_ok (e_fin E).2) (hH : HH B d2 r2) (hw : p_wat (h_pl d2) = -1) (hrow : ∀ j, 454 ≤ j → r2 j = m_row (m_rec m) j) : RR B (e_fin E).2 (m_srow (m_rec m) r2) := by
  have p := e_prep_f e
  have s := e_snow_f (e_prep e) d2
  obtain ⟨k, -, -⟩ := m_rec_f m
  have hR := RN_row (RN_rec h.2.1) hH hw
  have G : m_sts (m_srow (m_rec m) r2) = m_sts (m_rec m) ∧ m_sav (m_srow (m_rec m) r2) = m_sav (m_rec m) ∧ m_rea (m_srow (m_rec m) r2) = m_rea (m_rec m) ∧ m_pad (m_srow (m_rec m) r2) = m_pad (m_rec m) ∧ m_len (m_srow (m_rec m) r2) = m_len (m_rec m) ∧ m_row (m_srow (m_rec m) r2) = r2 := ⟨rfl, rfl, rfl, rfl, rfl, rfl⟩
  subst hE
  generalize m_srow (m_rec m) r2 = m2 at hR G ⊢
  obtain ⟨g1, g2, g3, g4, g5, g6⟩ := G
  refine RR_fin (a := e_pad e) h hv rfl ⟨s.1, s.2.1.trans p.2.1, s.2.2.1.trans p.2.2.1, s.2.2.2.1.trans p.2.2.2.1, s.2.2.2.2.1.trans p.2.2.2.2.1⟩ ?_ hok hR (Nat.le_refl _) g1 (g2.trans k.1) (RP_of h.2.2.2.2.2 (g5.trans k.2.2.2.1) (g4.trans k.2.2.1)) (fun j hj => by rw [g6]; exact hrow j hj)
  show m_rea m2 = e_rea (e_snow (e_prep e) d2)
  rw [s.2.2.2.2.2, p.2.2.2.2.2, g3, k.2.1]; exact h.2.2.2.2.1
theorem HH_set {B k : Nat} {d : HD} {r : RW} {v : Int32} (h : HH B d r) (hk : k < 8) (hv : zok v (q_cap k)) : HH B (h_sset d (upd (h_set d) k v)) (vp_updL r k v.toInt64) := by
  obtain ⟨hA, hS, hZ, hL, hW, hP⟩ := h
  have hs : ∀ j, j < 8 → vp_updL r k v.toInt64 j = (upd (h_set d) k v j).toInt64 ∧ zok (upd (h_set d) k v j) (q_cap j) := by
    intro j hj
    by_cases e : j = k
    · subst e; rw [pk_uLs, pk_us]; exact ⟨rfl, hv⟩
    · rw [pk_uLn e, pk_un e]; exact hA.1 j hj
  refine ⟨⟨hs, by rw [vp_uLo (by omega)]; exact hA.2.1, by rw [vp_uLo (by omega)]; exact hA.2.2.1, by rw [vp_uLo (by omega)]; exact hA.2.2.2.1, by rw [vp_uLo (by omega)]; exact hA.2.2.2.2⟩, ⟨hs 3 (by decide), ?_, fun s hs2 => SV_of (hS.2.2 s hs2) (fun j hj => vp_uLo (by omega)) rfl rfl rfl rfl rfl (fun _ _ => rfl)⟩, fun s j hs2 hs8 hj => ?_, HL_r hL (fun j hj => vp_uLo (by omega)), hW, HP_r hP (fun j hj => vp_uLo (by omega))⟩
  · rw [r_fset_c (r := r) (fun s2 _ => r_frz_o (by omega))]; exact hS.2.1
  · rw [vp_uLo (by omega)]; exact hZ s j hs2 hs8 hj
def q_lo (k : Nat) : Nat := ([12, 0, 0, 0, 0, 0, 0, 0] : List Nat).getD k 0
theorem q_lohi : ∀ k, k < 8 → zLO k = nI (q_lo k) ∧ zHI k = nI (q_cap k) ∧ q_lo k < 2 ^ 31 ∧ q_cap k < 2 ^ 31 := by decide +kernel
theorem q_isSet {k : Nat} (hk : k < 8) (v : Int32) : z_isSet (nI k) v = z_in v (zLO k) (zHI k) := by
  have key : ∀ a b : Int32, z_inl v.toInt64 a.toInt64 b.toInt64 = z_in v a b := z_in_l v
  match k, hk with
  | 0, _ => exact key 12 720
  | 1, _ =>
    show (if z_inl v.toInt64 0 100 then true else false) = _
    rw [show z_inl v.toInt64 0 100 = z_in v 0 100 from key 0 100]
    show _ = z_in v 0 100
    split <;> rename_i g
    · exact g.symm
    · exact (Bool.eq_false_iff.mpr g).symm
  | 2, _ =>
    show (if z_inl v.toInt64 0 100 then true else false) = _
    rw [show z_inl v.toInt64 0 100 = z_in v 0 100 from key 0 100]
    show _ = z_in v 0 100
    split <;> rename_i g
    · exact g.symm
    · exact (Bool.eq_false_iff.mpr g).symm
  | 3, _ =>
    show (if z_inl v.toInt64 0 100 then true else false) = _
    rw [show z_inl v.toInt64 0 100 = z_in v 0 100 from key 0 100]
    show _ = z_in v 0 100
    split <;> rename_i g
    · exact g.symm
    · exact (Bool.eq_false_iff.mpr g).symm
  | 4, _ =>
    show (if z_inl v.toInt64 0 100 then true else false) = _
    rw [show z_inl v.toInt64 0 100 = z_in v 0 100 from key 0 100]
    show _ = z_in v 0 100
    split <;> rename_i g
    · exact g.symm
    · exact (Bool.eq_false_iff.mpr g).symm
  | 5, _ => exact key 0 300
  | 6, _ => exact key 0 10
  | 7, _ => exact key 0 9
theorem S_set {B : Nat} {e : ED} {m : MD} (h : RR B e m) (s v : Int32) : (e_set e s v).1 = (m_set m s v).1 ∧ RR B (e_set e s v).2 (m_set m s v).2 := by
  have hok := e_set_ok (s := s) (v := v) h.1
  unfold e_set at hok ⊢
  unfold m_set
  by_cases h0 : s < 0
  · rw [if_pos h0]
    have : ¬ z_isSet s v = true := fun z => by
      have := (z_isSet_in z).2.1
      rw [this] at h0
      exact absurd h0 (nI_pos (by have := (z_isSet_in z).2.2; omega))
    rw [if_neg this]; exact ⟨rfl, h⟩
  · rw [if_neg h0] at hok ⊢
    by_cases h8 : s < 8
    · rw [if_pos h8] at hok ⊢
      obtain ⟨k, hk, rfl⟩ := nI_of h0
      have hk8 : k < 8 := (nI_ltI (b := 8) hk (by decide)).mp h8
      have zk : zn32 (nI k) = k := zn_nI hk
      rw [zk] at hok ⊢
      rw [q_isSet hk8 v]
      by_cases h1 : z_in v (zLO k) (zHI k) = true
      · rw [if_pos h1] at hok ⊢
        rw [if_pos h1]
        obtain ⟨l1, l2, l3, l4⟩ := q_lohi k hk8
        have hv : zok v (q_cap k) := by rw [l1, l2] at h1; exact (z_in_b l4 l3 h1).1
        have hd := RN_rec h.2.1
        have hs := hd.1.1.1 k hk8
        have hr : (m_row (m_rec m) k).toInt32 = h_set (e_now e) k := by rw [hs.1, q_i]
        rw [hr]
        have hpos : ¬ h_set (e_now e) k < 0 := by
          have := hs.2.2; rw [hs.2.1]; exact nI_pos (by omega)
        have eE : e_set1 (e_prep e) (nI k) v = e_snow (e_prep e) (h_sset (e_now e) (upd (h_set (e_now e)) k v)) := by unfold e_set1; rw [zk]; rfl
        rw [eE] at hok ⊢
        exact ⟨rfl, RR_row (v := h_set (e_now e) k) h hpos rfl hok (HH_set hd.1 hk8 hv) h.2.1.2.1 (fun j hj => vp_uLo (by omega))⟩
      · rw [if_neg h1, if_neg h1]; exact ⟨rfl, h⟩
    · rw [if_neg h8]
      have : ¬ z_isSet s v = true := fun z => by
        have h3 := z_isSet_in z
        rw [h3.2.1] at h8
        exact h8 (nI_lt (b := 8) h3.2.2 (by decide))
      rw [if_neg this]; exact ⟨rfl, h⟩
theorem S_service {B : Nat} {e : ED} {m : MD} (h : RR B e m) (b : Int32) : (e_service e b).1 = (m_service m b).1 ∧ RR B (e_service e b).2 (m_service m b).2 := by
  have hok := e_service_ok (b := b) h.1
  unfold e_service at hok ⊢
  unfold m_service
  rw [show z_inl b.toInt64 10 10000 = z_in b 10 10000 from z_in_l b 10 10000]
  by_cases h1 : z_in b 10 10000 = true
  · rw [if_pos h1] at hok ⊢
    rw [if_pos h1]
    have hA0 := h.2.1.1.1
    have q := q_full hA0.2.2.2.2.2 (by decide)
    have e8 : (m_row m 11 = 8) ↔ ¬ h_cnt (e_now e) < 8 := by rw [hA0.2.2.2.2.1]; exact q.1
    by_cases h2 : h_cnt (e_now e) < 8
    · rw [if_pos h2] at hok ⊢
      rw [if_neg (fun z => e8.mp z h2)]
      have hd := RN_rec h.2.1
      obtain ⟨hA, hS, hZ, hL, hW, hP⟩ := hd.1
      have b1 := z_in_b (a := 10) (b := 10000) (by decide) (by decide) h1
      have K := HS_serv hS hA hZ (q.2 h2) b1.1 (by have := b1.2; omega)
      have hr : (m_row (m_rec m) 11).toInt32 = h_cnt (e_now e) := by rw [hA.2.2.2.2.1, q_i]
      rw [hr]
      have hc7 := q.2 h2
      have hcs := q_s_lt hA.2.2.2.2.2 (by decide)
      have eE : e_snow (e_prep e) (h_add (e_now (e_prep e)) b) = e_snow (e_prep e) (h_add (e_now e) b) := rfl
      rw [eE] at hok ⊢
      obtain ⟨k1, k2, k3, w1, w2, w3, w4, w5, w6, w7⟩ := K
      generalize h_add (e_now e) b = d2 at k1 w1 w2 w3 w4 w5 w6 w7 hok ⊢
      generalize r_serv (m_row (m_rec m)) (zn32 (h_cnt (e_now e))) b.toInt64 = r2 at k1 k2 k3 ⊢
      refine ⟨rfl, RR_row (v := h_cnt (e_now e)) h ?_ rfl hok ⟨⟨fun k hk => by rw [k2 k (by omega) (by omega), w1]; exact hA.1 k hk, by rw [k2 8 (by omega) (by decide), w2]; exact hA.2.1, by rw [k2 9 (by omega) (by decide), w3]; exact hA.2.2.1, by rw [k2 10 (by omega) (by decide), w4]; exact hA.2.2.2.1, by rw [k3, w5]; exact ⟨rfl, hcs.2.1.1, by rw [hcs.2.2.2]; omega⟩⟩, k1, fun s k hs hs8 hk => ?_, ?_, ?_, ?_⟩ (by rw [w7]; exact h.2.1.2.1) (fun j hj => k2 j (by omega) (by omega))⟩
      · rw [hA.2.2.2.2.2.1]; exact nI_pos (by omega)
      · rw [w5, hcs.2.2.2] at hs
        rw [k2 _ (by omega) (by omega)]; exact hZ s k (by omega) hs8 hk
      · rw [w5, hcs.2.2.2, w6]; exact HL_mono (HL_r hL (fun j hj => k2 j (by omega) (by omega))) (by omega) (Nat.le_refl _)
      · unfold HW; rw [w6, w3]; exact hW
      · rw [w5, hcs.2.2.2, w7]; exact HP_mono (HP_r hP (fun j hj => k2 j (by omega) (by omega))) (by omega) (Nat.le_refl _)
    · rw [if_neg h2, if_pos (e8.mpr h2)]; exact ⟨rfl, h⟩
  · rw [if_neg h1, if_neg h1]; exact ⟨rfl, h⟩
theorem S_budget {B : Nat} {e : ED} {m : MD} (h : RR B e m) (s b : Int32) : (e_budget e s b).1 = (m_budget m s b).1 ∧ RR B (e_budget e s b).2 (m_budget m s b).2 := by
  have hok := e_budget_ok (s := s) (b := b) h.1
  unfold e_budget at hok ⊢
  unfold m_budget
  rw [HH_isS h.2.1.1 s, show z_inl b.toInt64 10 10000 = z_in b 10 10000 from z_in_l b 10 10000]
  by_cases h1 : h_has (e_now e) s = true
  · rw [if_pos h1] at hok ⊢
    rw [if_pos h1]
    by_cases h2 : z_in b 10 10000 = true
    · rw [if_pos h2] at hok ⊢
      rw [if_pos h2]
      have hd := RN_rec h.2.1
      obtain ⟨es, hs, hs8⟩ := HH_has hd.1 h1
      obtain ⟨a, ha⟩ : ∃ a, a = zn32 s := ⟨_, rfl⟩
      rw [← ha] at es hs hs8 hok ⊢
      have b1 := (z_in_b (a := 10) (b := 10000) (by decide) (by decide) h2).1
      have hb := (hd.1.2.1.2.2 a hs8).1
      have hr : (m_row (m_rec m) (14 + 15 * a + 0)).toInt32 = h_bud (e_now e) a := by rw [hb.1, q_i]
      rw [hr]
      have k := HS_bud (a := b) (v := b.toInt64) hd.1.2.1 hs8 ⟨rfl, b1⟩
      have eE : e_bud1 (e_prep e) s b = e_snow (e_prep e) (h_sbud (e_now e) (upd (h_bud (e_now e)) a b)) := by unfold e_bud1; rw [← ha]; rfl
      rw [eE] at hok ⊢
      refine ⟨rfl, RR_row (v := h_bud (e_now e) a) h ?_ rfl hok (HH_serv hd.1 k ⟨rfl, rfl, rfl, rfl, rfl, rfl⟩ rfl hs (fun j hj => vp_uLo (by omega))) h.2.1.2.1 (fun j hj => vp_uLo (by omega))⟩
      have := hb.2.2; rw [hb.2.1]; exact nI_pos (by omega)
    · rw [if_neg h2, if_neg h2]; exact ⟨rfl, h⟩
  · rw [if_neg h1, if_neg h1]; exact ⟨rfl, h⟩
theorem S_repay {B : Nat} {e : ED} {m : MD} (h : RR B e m) (l : Int32) : (e_repay e l).1 = (m_repay m l).1 ∧ RR B (e_repay e l).2 (m_repay m l).2 := by
  have hok := e_repay_ok (l := l) h.1
  unfold e_repay at hok ⊢
  unfold m_repay
  rw [HH_isL h.2.1.1 l]
  by_cases h1 : l_has (h_lo (e_now e)) l = true
  · rw [if_pos h1] at hok ⊢
    rw [if_pos h1]
    have hd := RN_rec h.2.1
    obtain ⟨hA, hS, hZ, hL, hW, hP⟩ := hd.1
    have hl := l_has_in h1 hL.1.2
    obtain ⟨a, ha⟩ : ∃ a, a = zn32 l := ⟨_, rfl⟩
    have haN : a < zn32 (l_num (h_lo (e_now e))) := by rw [ha]; exact hl.2.1
    have P := HP_pay hS hL hA.2.2.2.2.2.2 haN (hW a haN).1
    have W := h_pay_w (e_now e) a
    have eE : e_rem1 (e_pay1 (e_prep e) l) = e_snow (e_prep e) (h_slo (h_pay (e_now e) a) (l_rem (h_lo (h_pay (e_now e) a)))) := by rw [ha]; rfl
    have eV : l_owe (h_lo (e_now (e_pay1 (e_prep e) l))) (zn32 l) = l_owe (h_lo (h_pay (e_now e) a)) a := by rw [ha]; rfl
    rw [eE, eV] at hok ⊢
    rw [← ha]
    obtain ⟨p1, p2, p3, p4, p5⟩ := P
    obtain ⟨w1, w2, w3, w4, w5, w6, w7, w8⟩ := W
    generalize h_pay (e_now e) a = X at p1 p2 p4 w1 w2 w3 w4 w5 w6 w7 w8 hok ⊢
    generalize r_pay (m_row (m_rec m)) a = R at p1 p2 p3 p5 ⊢
    have ho := p2.2 a (by rw [w7]; exact haN) 3 (by decide)
    have ho1 : R (134 + 5 * a + 3) = (l_owe (h_lo X) a).toInt64 := ho.1
    have ho2 : zok (l_owe (h_lo X) a) 10000000 := ho.2
    have hn40 : zn64 (R 12) ≤ 40 := by rw [HL_n p2]; exact p2.1.2.2
    have co : ∀ j, (j < 134 ∨ 334 ≤ j) → j ≠ 12 → r_clear R j = R j := fun j hj h12 => r_clear_o hn40 hj h12
    have cj : ∀ j, (j < 14 ∨ 334 ≤ j) → j ≠ 12 → r_clear R j = m_row (m_rec m) j := fun j hj h12 => by rw [co j (by omega) h12]; exact p3 j hj
    have hLr := HL_rem p2
    have hpos := l_rem_pos p2.1.2
    have hdue := l_rem_all p2.1.2 (c := 4) (Q := fun v => h_win (e_now e) < v) (fun i hi => by
      show h_win (e_now e) < l_due (h_lo X) i
      rw [w8]; exact (hW i (by rw [← w7]; exact hi)).2)
    generalize l_rem (h_lo X) = L2 at hLr hpos hdue hok ⊢
    refine ⟨by show _ = (R (134 + 5 * a + 3)).toInt32; rw [ho1, q_i]; rfl, RR_row (v := l_owe (h_lo X) a) h ?_ rfl hok ⟨HA_d (d2 := h_slo X L2) (HA_r hA (fun j hj => cj j (by omega) (by omega))) w1 w2 w3 w4 w5, HS_r (d := h_slo X L2) p1 (fun j hj => co j (by omega) (by omega)), ?_, ?_, fun i hi => ⟨hpos i hi, ?_⟩, ?_⟩ (by show p_wat (h_pl X) = -1; rw [w6]; exact h.2.1.2.1) (fun j hj => cj j (by omega) (by omega))⟩
    · have := ho2.2; rw [ho2.1]; exact nI_pos (by omega)
    · show HZ (zn32 (h_cnt X)) _
      rw [w5]; intro s k hs hs8 hk
      rw [co _ (by omega) (by omega), p5 s k hs8 hk hs]; exact hZ s k hs hs8 hk
    · show HL (zn32 (h_cnt X)) _ L2 _
      rw [w5]; exact hLr
    · show h_win X < l_due L2 i
      rw [w3]; exact hdue i hi
    · show HP (zn32 (h_cnt X)) _ (h_pl X) _
      rw [w5, w6]; exact HP_r hP (fun j hj => cj j (by omega) (by omega))
  · rw [if_neg h1, if_neg h1]; exact ⟨rfl, h⟩
theorem r_cp_now {r : RW} {a j : Nat} (hj : j < 454) : r_cp r a 0 j = r (a + j) := by
  have := r_cp_in (r := r) (a := a) (b := 0) hj
  rw [Nat.zero_add] at this; exact this
theorem S_undo {B : Nat} {e : ED} {m : MD} (h : RR B e m) : (e_undo e).1 = (m_undo m).1 ∧ RR B (e_undo e).2 (m_undo m).2 := by
  have hok := e_undo_ok h.1
  unfold e_undo at hok ⊢
  unfold m_undo
  have hI := h.2.2.1
  have hy := h.1.2.2.1
  rw [hI.1]
  by_cases h0 : y_kept (e_his e) = 0
  · rw [if_pos h0, if_pos h0]; exact ⟨rfl, h⟩
  · rw [if_neg h0] at hok ⊢
    rw [if_neg h0]
    have h1 := hy.1.2; have h2 := hy.2.2
    have hk1 : 1 ≤ zn32 (y_kept (e_his e)) := by
      rcases Nat.lt_or_ge 0 (zn32 (y_kept (e_his e))) with z | z
      · exact z
      · exact absurd (by rw [hy.2.1, show zn32 (y_kept (e_his e)) = 0 by omega]; rfl) h0
    have ek : y_kept (e_his e) - 1 = nI (zn32 (y_kept (e_his e)) - 1) := by
      conv => lhs; rw [hy.2.1, show (1 : Int32) = nI 1 from rfl]
      exact pk_sub hk1
    obtain ⟨n, hn⟩ : ∃ n, n = zn32 (y_kept (e_his e)) - 1 := ⟨_, rfl⟩
    rw [← hn] at ek
    have zn : zn32 (nI n) = n := zn_nI (by omega)
    rw [ek]
    have eP : e_und1 (e_pop e) = e_snow (e_shis e (y_skept (e_his e) (nI n))) (h_copy (e_now e) (y_st (e_his e) ((zn32 (y_old (e_his e)) + n) % 7))) := by
      unfold e_und1 e_pop y_pop
      rw [← hn]
      show e_snow (e_shis e (y_skept (e_his e) (nI n))) (h_copy (e_now e) (y_st (e_his e) ((zn32 (y_old (e_his e)) + zn32 (nI n)) % 7))) = _
      rw [zn]
    rw [eP] at hok ⊢
    have hc := HH_copy (d := e_now e) (hI.2 n (by omega))
    generalize h_copy (e_now e) (y_st (e_his e) ((zn32 (y_old (e_his e)) + n) % 7)) = d2 at hc hok ⊢
    have F : m_sts (m_ssts m (nI n)) = nI n ∧ m_row (m_ssts m (nI n)) = m_row m := ⟨rfl, rfl⟩
    have G := m_ko.sts m (nI n)
    generalize m_ssts m (nI n) = m1 at F G ⊢
    have K := m_ko.cp m1 (454 + 454 * zn32 (m_sts m1)) 0
    have K2 := m_cp_sts m1 (454 + 454 * zn32 (m_sts m1)) 0
    have K3 := m_cp_row m1 (454 + 454 * zn32 (m_sts m1)) 0
    generalize m_cp m1 (454 + 454 * zn32 (m_sts m1)) 0 = m2 at K K2 K3 ⊢
    have KG := G.tr K
    obtain ⟨c1, c2, c3, c4, c5, c6, c7⟩ := KG
    rw [F.1, F.2, zn] at K3
    have hrow : ∀ j, 454 ≤ j → m_row m2 j = m_row m j := fun j hj => by rw [K3, r_cp_out (by omega)]
    refine ⟨by rw [K2, F.1]; rfl, hok, ⟨HH_r hc.1 (fun j hj => by rw [K3, r_cp_now hj]), hc.2, fun p hp => by rw [c6, c7]; exact h.2.1.2.2.1 p hp, c5.trans h.2.1.2.2.2⟩, ⟨by rw [K2, F.1]; rfl, fun k hk => ?_⟩, ?_, c2.trans h.2.2.2.2.1, RP_of h.2.2.2.2.2 c4 c3⟩
    · have hk2 : k < zn32 (nI n) := hk
      rw [zn] at hk2
      exact HH_r (hI.2 k (by omega)) (fun j hj => hrow _ (by omega))
    · exact RS_of h.2.2.2.1 c1 (fun j hj _ => hrow j (by omega))
theorem q_slot (i : Int32) : z_inl i.toInt64 0 1 = (if i < 0 then false else if i < 2 then true else false) := by
  rw [show z_inl i.toInt64 0 1 = z_in i 0 1 from z_in_l i 0 1]
  unfold z_in
  by_cases h1 : i < 0
  · rw [if_pos h1, if_pos h1]
  · rw [if_neg h1, if_neg h1]
    obtain ⟨k, hk, rfl⟩ := nI_of h1
    have a : nI k ≤ 1 ↔ k ≤ 1 := nI_leI (b := 1) hk (by decide)
    have b : nI k < 2 ↔ k < 2 := nI_ltI (b := 2) hk (by decide)
    by_cases h2 : nI k < 2
    · rw [if_pos h2, if_pos (a.mpr (by have := b.mp h2; omega))]
    · rw [if_neg h2, if_neg (fun z => h2 (b.mpr (by have := a.mp z; omega)))]
theorem S_save {B : Nat} {e : ED} {m : MD} (h : RR B e m) (i : Int32) : (e_save e i).1 = (m_save m i).1 ∧ RR B (e_save e i).2 (m_save m i).2 := by
  have hok := e_sav_ok (i := i) h.1
  unfold e_save at hok ⊢
  unfold m_save
  rw [q_slot]
  by_cases h0 : i < 0
  · rw [if_pos h0, if_pos h0]; exact ⟨rfl, h⟩
  · rw [if_neg h0] at hok ⊢
    rw [if_neg h0]
    by_cases h2 : i < 2
    · rw [if_pos h2] at hok ⊢
      rw [if_pos h2, if_pos rfl]
      obtain ⟨k, hk, rfl⟩ := nI_of h0
      have hk2 : k < 2 := (nI_ltI (b := 2) hk (by decide)).mp h2
      have zk : zn32 (nI k) = k := zn_nI hk
      rw [zk] at hok ⊢
      have eE : e_now (e_sav2 (e_sav1 e k) k) = e_now e ∧ e_his (e_sav2 (e_sav1 e k) k) = e_his e ∧ e_sl (e_sav2 (e_sav1 e k) k) = vf_upd (e_sl e) k (h_copy (e_sl e k) (e_now e)) ∧ e_sav (e_sav2 (e_sav1 e k) k) = upd (e_sav e) k 1 ∧ e_pad (e_sav2 (e_sav1 e k) k) = e_pad e ∧ e_rea (e_sav2 (e_sav1 e k) k) = e_rea e := ⟨rfl, rfl, rfl, rfl, rfl, rfl⟩
      have hc := HH_copy (d := e_sl e k) h.2.1.1
      generalize e_sav2 (e_sav1 e k) k = e2 at eE hok ⊢
      obtain ⟨e1, e2', e3, e4, e5, e6⟩ := eE
      have M : m_row (m_sv1 m k) = r_cp (m_row m) 0 (3178 + 454 * k) ∧ m_sts (m_sv1 m k) = m_sts m ∧ m_sav (m_sv1 m k) = upd (m_sav m) k 1 ∧ m_rea (m_sv1 m k) = m_rea m ∧ m_pad (m_sv1 m k) = m_pad m ∧ m_len (m_sv1 m k) = m_len m ∧ m_wat (m_sv1 m k) = m_wat m ∧ m_gone (m_sv1 m k) = m_gone m ∧ m_seen (m_sv1 m k) = m_seen m := ⟨rfl, rfl, rfl, rfl, rfl, rfl, rfl, rfl, rfl⟩
      generalize m_sv1 m k = m2 at M ⊢
      obtain ⟨a1, a2, a3, a4, a5, a6, a7, a8, a9⟩ := M
      have hlo : ∀ j, j < 3178 → m_row m2 j = m_row m j := fun j hj => by rw [a1, r_cp_out (by omega)]
      refine ⟨?_, hok, ⟨by rw [e1]; exact HH_r h.2.1.1 (fun j hj => hlo j (by omega)), by rw [e1]; exact h.2.1.2.1, fun p hp => by rw [a8, a9]; exact h.2.1.2.2.1 p hp, a7.trans h.2.1.2.2.2⟩, ?_, fun s hs => ?_, by rw [e6]; exact a4.trans h.2.2.2.2.1, by rw [e5]; exact RP_of h.2.2.2.2.2 a6 a5⟩
      · show h_hour (e_now e2) = (m_row m2 8).toInt32
        rw [e1, hlo 8 (by decide), h.2.1.1.1.2.1.1, q_i]
      · rw [e2']; exact RI_of h.2.2.1 a2 (fun j _ hj => hlo j hj) h.1.2.2.1.2.2
      · rw [e3, e4, a3]
        by_cases g : s = k
        · subst g
          rw [pk_us, pk_us, vf_s]
          refine ⟨rfl, fun _ => HH_r hc.1 (fun j hj => ?_)⟩
          show m_row m2 (3178 + 454 * s + j) = _
          rw [a1, r_cp_in hj, Nat.zero_add]
        · rw [pk_un g, pk_un g]
          have hs2 := h.2.2.2.1 s hs
          refine ⟨hs2.1, fun z => ?_⟩
          have : vf_upd (e_sl e) k (h_copy (e_sl e k) (e_now e)) s = e_sl e s := if_neg g
          rw [this]
          refine HH_r (hs2.2 z) (fun j hj => ?_)
          show m_row m2 (3178 + 454 * s + j) = _
          rw [a1, r_cp_out (by omega)]
    · rw [if_neg h2, if_neg h2]; exact ⟨rfl, h⟩
theorem S_restore {B : Nat} {e : ED} {m : MD} (h : RR B e m) (i : Int32) : (e_restore e i).1 = (m_restore m i).1 ∧ RR B (e_restore e i).2 (m_restore m i).2 := by
  have hok := e_res_ok (i := i) h.1
  unfold e_restore at hok ⊢
  unfold m_restore
  rw [q_slot]
  by_cases h0 : i < 0
  · rw [if_pos h0, if_pos h0]; exact ⟨rfl, h⟩
  · rw [if_neg h0] at hok ⊢
    rw [if_neg h0]
    by_cases h2 : i < 2
    · rw [if_pos h2] at hok ⊢
      rw [if_pos h2, if_pos rfl]
      obtain ⟨k, hk, rfl⟩ := nI_of h0
      have hk2 : k < 2 := (nI_ltI (b := 2) hk (by decide)).mp h2
      have zk : zn32 (nI k) = k := zn_nI hk
      rw [zk] at hok ⊢
      have hs := h.2.2.2.1 k hk2
      rw [hs.1]
      by_cases h3 : e_sav e k = 0
      · rw [if_pos h3, if_pos h3]; exact ⟨rfl, h⟩
      · rw [if_neg h3] at hok ⊢
        rw [if_neg h3]
        have hd := RN_rec h.2.1
        have hc := HH_copy (d := e_now e) (hs.2 h3)
        have eE : e_res1 (e_prep e) k = e_snow (e_prep e) (h_copy (e_now e) (e_sl e k)) := rfl
        have eM : m_res1 (m_rec m) k = m_srow (m_rec m) (r_cp (m_row (m_rec m)) (3178 + 454 * k) 0) := rfl
        rw [eE] at hok ⊢
        rw [eM]
        generalize h_copy (e_now e) (e_sl e k) = d2 at hc hok ⊢
        have hH : HH B d2 (r_cp (m_row (m_rec m)) (3178 + 454 * k) 0) := HH_r hc.1 (fun j hj => by
          rw [r_cp_now hj, (m_rec_row (RR_sts h)).1 _ (by omega)])
        refine ⟨?_, RR_row (v := h_hour d2) h ?_ rfl hok hH hc.2 (fun j hj => by rw [r_cp_out (by omega)])⟩
        · show h_hour d2 = (r_cp (m_row (m_rec m)) (3178 + 454 * k) 0 8).toInt32
          rw [hH.1.2.1.1, q_i]
        · have hh := hH.1.2.1.2
          have hb := h.2.1.1.1.2.1.2
          rw [hh.1]
          exact nI_pos (by have := Int32.toInt_lt (h_hour d2); show (h_hour d2).toInt.toNat < _; omega)
    · rw [if_neg h2, if_neg h2]; exact ⟨rfl, h⟩
