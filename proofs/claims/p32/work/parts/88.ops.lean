
/-! WHAT IS TOLD depends on the row alone. -/
theorem O_ofService {B : Nat} {e : ED} {m : MD} (hH : HH B (e_now e) (m_row m)) (s w : Int32) : e_ofService e s w = m_ofService m s w := by
  obtain ⟨hA, hS, hZ, hL, hW, hP⟩ := id hH
  unfold e_ofService m_ofService
  rw [HH_isS hH s]
  by_cases h1 : h_has (e_now e) s = true
  · rw [if_pos h1, if_pos h1]
    obtain ⟨es, hs, hs8⟩ := HH_has hH h1
    obtain ⟨a, ha⟩ : ∃ a, a = zn32 s := ⟨_, rfl⟩
    rw [← ha] at es hs hs8 ⊢
    obtain ⟨a1, a2, a3, a4, a5, a6, a7, a8⟩ := hS.2.2 a hs8
    have hn := HL_n hL
    have hp := HPc_n hP.1
    have f1 : (if h_isf (e_now e) s then (1 : Int32) else 0) = (m_row m (14 + 15 * a + 3)).toInt32 := by
      rw [es, HS_isf hS hs8]
      unfold r_frz
      rcases a4 with z | z
      · rw [z, if_neg (by decide)]; rfl
      · rw [z, if_pos (by decide)]; rfl
    rw [f1, hn, hp, q_cnt2 (k := 1) (by decide) hL s _ (Nat.le_refl _), q_cnt2 (k := 0) (by decide) hL s _ (Nat.le_refl _), q_sum2 (k := 1) (by decide) hL s _ (Nat.le_refl _), q_sum2 (k := 0) (by decide) hL s _ (Nat.le_refl _), q_pcnt hP.1 s _ (Nat.le_refl _), a1.1, a3.1, q_i, q_i, a5, a6, a7]
    rfl
  · rw [if_neg h1, if_neg h1]
theorem O_account {B : Nat} {e : ED} {m : MD} (hH : HH B (e_now e) (m_row m)) (s w : Int32) : e_account e s w = m_account m s w := by
  obtain ⟨hA, hS, hZ, hL, hW, hP⟩ := id hH
  unfold e_account m_account
  rw [HH_isS hH s, show z_inl w.toInt64 0 7 = z_in w 0 7 from z_in_l w 0 7]
  by_cases h1 : h_has (e_now e) s = true
  · rw [if_pos h1, if_pos h1]
    obtain ⟨es, hs, hs8⟩ := HH_has hH h1
    obtain ⟨a, ha⟩ : ∃ a, a = zn32 s := ⟨_, rfl⟩
    rw [← ha] at es hs hs8 ⊢
    unfold z_in
    by_cases h0 : w < 0
    · rw [if_pos h0, if_pos h0, if_neg Bool.false_ne_true]
      rw [if_neg]
      intro z; rw [z] at h0; exact absurd h0 (by decide)
    · rw [if_neg h0, if_neg h0]
      obtain ⟨k, hk, rfl⟩ := nI_of h0
      have zk : zn32 (nI k) = k := zn_nI hk
      have c9 : nI k < 9 ↔ k < 9 := nI_ltI (b := 9) hk (by decide)
      have c7 : nI k ≤ 7 ↔ k ≤ 7 := nI_leI (b := 7) hk (by decide)
      have c8 : nI k = 8 ↔ k = 8 := nI_eq (b := 8) hk (by decide)
      rw [zk, es]
      by_cases g7 : k ≤ 7
      · rw [if_pos (c9.mpr (by omega)), if_pos (c7.mpr g7), if_pos rfl]
        show h_acc (e_now e) (h_ix (nI a) (nI k)) = _
        rw [h_ix_n hs8 (by omega)]
        exact (hS.2.2 a hs8).2.2.2.2.2.2.2 k (by omega)
      · rw [if_neg (fun z => g7 (c7.mp z)), if_neg Bool.false_ne_true]
        by_cases g8 : k = 8
        · rw [if_pos (c9.mpr (by omega)), if_pos (c8.mpr g8), g8]
          exact HS_mo hS hs8
        · rw [if_neg (fun z => by have := c9.mp z; omega), if_neg (fun z => g8 (c8.mp z))]
  · rw [if_neg h1, if_neg h1]
theorem O_ofLoan {B : Nat} {e : ED} {m : MD} (hH : HH B (e_now e) (m_row m)) (l w : Int32) : e_ofLoan e l w = m_ofLoan m l w := by
  obtain ⟨hA, hS, hZ, hL, hW, hP⟩ := id hH
  unfold e_ofLoan m_ofLoan
  rw [HH_isL hH l, show z_inl w.toInt64 0 4 = z_in w 0 4 from z_in_l w 0 4]
  by_cases h1 : l_has (h_lo (e_now e)) l = true
  · rw [if_pos h1, if_pos h1]
    have hl := l_has_in h1 hL.1.2
    have R := hL.2 _ hl.2.1
    generalize zn32 l = a at R ⊢
    by_cases h2 : z_in w 0 4 = true
    · rw [if_pos h2]
      have b := (z_in_b (a := 0) (b := 4) (by decide) (by decide) h2).1
      have b4 := b.2
      have eb := b.1
      generalize zn32 w = k at b4 eb ⊢
      subst eb
      rw [(R k (by omega)).1, q_i]
      match k, b4 with
      | 0, _ => rfl
      | 1, _ => rfl
      | 2, _ => rfl
      | 3, _ => rfl
      | 4, _ => rfl
    · rw [if_neg h2]
      have n : ∀ k : Nat, k < 5 → ¬ w = nI k := fun k hk z => h2 (by rw [z]; exact (show ∀ k, k < 5 → z_in (nI k) 0 4 = true by decide) k hk)
      have n0 : ¬ w = 0 := n 0 (by decide)
      have n1 : ¬ w = 1 := n 1 (by decide)
      have n2 : ¬ w = 2 := n 2 (by decide)
      have n3 : ¬ w = 3 := n 3 (by decide)
      have n4 : ¬ w = 4 := n 4 (by decide)
      rw [if_neg n0, if_neg n1, if_neg n2, if_neg n3, if_neg n4]
  · rw [if_neg h1, if_neg h1]
theorem O_ofPlan {B : Nat} {e : ED} {m : MD} (hH : HH B (e_now e) (m_row m)) (l w : Int32) : e_ofPlan e l w = m_ofPlan m l w := by
  obtain ⟨hA, hS, hZ, hL, hW, hP⟩ := id hH
  unfold e_ofPlan m_ofPlan
  rw [HH_isP hH l, show z_inl w.toInt64 0 3 = z_in w 0 3 from z_in_l w 0 3]
  by_cases h1 : p_has (h_pl (e_now e)) l = true
  · rw [if_pos h1, if_pos h1]
    have hl := p_has_in h1 hP.1.1.2
    have R := hP.1.2 _ hl.2.1
    generalize zn32 l = a at R ⊢
    by_cases h2 : z_in w 0 3 = true
    · rw [if_pos h2]
      have b := (z_in_b (a := 0) (b := 3) (by decide) (by decide) h2).1
      have b4 := b.2
      have eb := b.1
      generalize zn32 w = k at b4 eb ⊢
      subst eb
      rw [(R k (by omega)).1, q_i]
      match k, b4 with
      | 0, _ => rfl
      | 1, _ => rfl
      | 2, _ => rfl
      | 3, _ => rfl
    · rw [if_neg h2]
      have n : ∀ k : Nat, k < 4 → ¬ w = nI k := fun k hk z => h2 (by rw [z]; exact (show ∀ k, k < 4 → z_in (nI k) 0 3 = true by decide) k hk)
      have n0 : ¬ w = 0 := n 0 (by decide)
      have n1 : ¬ w = 1 := n 1 (by decide)
      have n2 : ¬ w = 2 := n 2 (by decide)
      have n3 : ¬ w = 3 := n 3 (by decide)
      rw [if_neg n0, if_neg n1, if_neg n2, if_neg n3]
  · rw [if_neg h1, if_neg h1]
theorem O_count {B : Nat} {e : ED} {m : MD} (hH : HH B (e_now e) (m_row m)) (hq7 : m_rea m = e_rea e) (hq8 : m_len m = a_len (e_pad e)) (hq9 : m_sts m = y_kept (e_his e)) (w : Int32) : e_count e w = m_count m w := by
  obtain ⟨hA, hS, hZ, hL, hW, hP⟩ := id hH
  have c8 := hA.2.2.2.2.2.2
  unfold e_count m_count
  rw [← hq7, ← hq8, ← hq9]
  by_cases g0 : w = 0
  · rw [if_pos g0, if_pos g0, g0]; show _ = (m_row m 8).toInt32; rw [hA.2.1.1, q_i]
  · rw [if_neg g0, if_neg g0]
    by_cases g1 : w = 1
    · rw [if_pos g1, if_pos g1, g1]; show _ = (m_row m 9).toInt32; rw [hA.2.2.1.1, q_i]
    · rw [if_neg g1, if_neg g1]
      by_cases g2 : w = 2
      · rw [if_pos g2, if_pos g2, g2]; show _ = (m_row m 10).toInt32; rw [hA.2.2.2.1.1, q_i]
      · rw [if_neg g2, if_neg g2]
        by_cases g3 : w = 3
        · rw [if_pos g3, if_pos g3, g3]; show _ = (m_row m 11).toInt32; rw [hA.2.2.2.2.1, q_i]
        · rw [if_neg g3, if_neg g3]
          by_cases g4 : w = 4
          · rw [if_pos g4, if_pos g4]
            have : zn64 (m_row m 11) = zn32 (h_cnt (e_now e)) := by rw [hA.2.2.2.2.1]; exact (q_okl hA.2.2.2.2.2 (by decide)).2
            rw [this, hS.2.1]; exact r_fset_z hZ 8 c8 (Nat.le_refl _)
          · rw [if_neg g4, if_neg g4]
            by_cases g5 : w = 5
            · rw [if_pos g5, if_pos g5, hL.1.1, q_i]
            · rw [if_neg g5, if_neg g5]
              by_cases g6 : w = 6
              · rw [if_pos g6, if_pos g6, hP.1.1.1, q_i]
              · rw [if_neg g6, if_neg g6]
                by_cases g7 : w = 7
                · rw [if_pos g7, if_pos g7]
                · rw [if_neg g7, if_neg g7]
                  by_cases g8 : w = 8
                  · rw [if_pos g8, if_pos g8]
                  · rw [if_neg g8, if_neg g8]
                    by_cases g9 : w = 9
                    · rw [if_pos g9, if_pos g9]
                    · rw [if_neg g9, if_neg g9]
                      rw [show z_inl w.toInt64 10 17 = z_in w 10 17 from z_in_l w 10 17]
                      by_cases h10 : w < 10
                      · rw [if_pos h10]
                        unfold z_in; rw [if_pos h10, if_neg Bool.false_ne_true]
                      · rw [if_neg h10]
                        unfold z_in; rw [if_neg h10]
                        obtain ⟨k, hk, rfl⟩ := nI_of (x := w) (fun z => h10 (Int32.lt_trans z (by decide)))
                        have k10 : 10 ≤ k := by
                          rcases Nat.lt_or_ge k 10 with q | q
                          · exact absurd (nI_lt (b := 10) q (by decide)) h10
                          · exact q
                        have e10 : nI k - 10 = nI (k - 10) := pk_sub (b := 10) k10
                        have c17 : nI k ≤ 17 ↔ k ≤ 17 := nI_leI (b := 17) hk (by decide)
                        have c18 : nI (k - 10) < 8 ↔ k - 10 < 8 := nI_ltI (b := 8) (by omega) (by decide)
                        rw [e10, zn_nI (by omega)]
                        by_cases g : k ≤ 17
                        · rw [if_pos (c18.mpr (by omega)), if_pos (c17.mpr g), if_pos rfl, (hA.1 (k - 10) (by omega)).1, q_i]
                        · rw [if_neg (fun z => by have := c18.mp z; omega), if_neg (fun z => g (c17.mp z)), if_neg Bool.false_ne_true]
theorem O_least {B : Nat} {e : ED} {m : MD} (hH : HH B (e_now e) (m_row m)) (s : Int32) : e_least e s = m_least m s := by
  have hS := hH.2.1
  unfold e_least m_least
  rw [HH_isS hH s]
  by_cases h1 : h_has (e_now e) s = true
  · rw [if_pos h1, if_pos h1]
    obtain ⟨es, hs, hs8⟩ := HH_has hH h1
    obtain ⟨a, ha⟩ : ∃ a, a = zn32 s := ⟨_, rfl⟩
    rw [← ha] at es hs hs8 ⊢
    rw [es, HS_isf hS hs8, HS_mo hS hs8]
    have ht := HS_thw hS hs8
    have e1 : (h_thw (e_now e) (nI a) + 1).toInt64 - r_left (m_row m) a = r_lst (m_row m) a := by
      unfold r_lst
      rw [(q_s_lt ht.2 (by decide)).2.2.1, ht.1]
      rw [Int64.sub_eq_add_neg, Int64.sub_eq_add_neg, Int64.add_assoc, Int64.add_assoc, Int64.add_comm 1]
    rw [e1]
    by_cases h2 : r_frz (m_row m) a = true
    · rw [if_pos h2, if_pos h2]
      simp only [Int64.lt_iff_toInt_lt, Int64.le_iff_toInt_le]
      by_cases g1 : (r_lst (m_row m) a).toInt < (1 : Int64).toInt
      · rw [if_pos g1, if_pos (by omega)]
      · rw [if_neg g1]
        by_cases g2 : (r_lst (m_row m) a).toInt ≤ (1 : Int64).toInt
        · rw [if_pos g2]; exact Int64.toInt_inj.mp (by omega)
        · rw [if_neg g2]
    · rw [if_neg h2, if_neg h2]
  · rw [if_neg h1, if_neg h1]
theorem O_safe {B : Nat} {e : ED} {m : MD} (hH : HH B (e_now e) (m_row m)) (s : Int32) : e_safe e s = m_safe m s := by
  have hS := hH.2.1
  unfold e_safe m_safe
  rw [HH_isS hH s]
  by_cases h1 : h_has (e_now e) s = true
  · rw [if_pos h1, if_pos h1]
    obtain ⟨es, hs, hs8⟩ := HH_has hH h1
    obtain ⟨a, ha⟩ : ∃ a, a = zn32 s := ⟨_, rfl⟩
    rw [← ha] at es hs hs8 ⊢
    rw [es, HS_isf hS hs8, HS_mo hS hs8]
    by_cases h2 : r_frz (m_row m) a = true
    · rw [if_pos h2, if_pos h2]
    · rw [if_neg h2, if_neg h2]
      by_cases h3 : r_left (m_row m) a - 1 < 1
      · rw [if_pos h3, if_pos h3]
      · rw [if_neg h3, if_neg h3]
        generalize r_left (m_row m) a - 1 = v
        by_cases g1 : (200 : Int64) < v
        · rw [if_pos g1]
          have : ¬ v < 200 := by
            rw [Int64.lt_iff_toInt_lt] at g1 ⊢; omega
          rw [if_neg this]; rfl
        · rw [if_neg g1]
          by_cases g2 : v < 200
          · rw [if_pos g2]
          · rw [if_neg g2]
            have : v = 200 := by
              rw [Int64.lt_iff_toInt_lt] at g1 g2
              exact Int64.toInt_inj.mp (by omega)
            rw [this]; rfl
  · rw [if_neg h1, if_neg h1]
theorem O_best {B : Nat} {e : ED} {m : MD} (hH : HH B (e_now e) (m_row m)) (b i : Int32) : e_best e b i = m_best m b i := by
  obtain ⟨hA, hS, hZ, hL, hW, hP⟩ := id hH
  have c8 := hA.2.2.2.2.2.2
  unfold e_best m_best
  rw [HH_isS hH b, show z_inl i.toInt64 1 5000 = z_in i 1 5000 from z_in_l i 1 5000]
  have hn : zn64 (m_row m 11) = zn32 (h_cnt (e_now e)) := by rw [hA.2.2.2.2.1]; exact (q_okl hA.2.2.2.2.2 (by decide)).2
  have h40 : m_row m 12 < 40 ↔ l_num (h_lo (e_now e)) < 40 := by rw [hL.1.1]; exact q_lt _ 40
  rw [hn]
  by_cases h1 : h_has (e_now e) b = true
  · rw [if_pos h1, if_pos h1]
    by_cases h2 : z_in i 1 5000 = true
    · rw [if_pos h2, if_pos h2]
      by_cases h3 : l_num (h_lo (e_now e)) < 40
      · rw [if_pos h3]
        have key : ∀ n, n ≤ 8 → (h_bloop (e_now e) b i n).1 = zit (r_blstep (m_row m) b i) (-6) n ∧ (¬ (h_bloop (e_now e) b i n).1 = -6 → (h_bloop (e_now e) b i n).2 = r_left (m_row m) (zn32 (h_bloop (e_now e) b i n).1)) := by
          intro n
          induction n with
          | zero => exact fun _ => ⟨rfl, fun z => absurd rfl z⟩
          | succ n ih =>
            intro hn8
            obtain ⟨i1, i2⟩ := ih (by omega)
            have eL : h_bloop (e_now e) b i (n + 1) = h_bstep (e_now e) b i n (h_bloop (e_now e) b i n) := rfl
            have eR : zit (r_blstep (m_row m) b i) (-6) (n + 1) = r_blstep (m_row m) b i n (zit (r_blstep (m_row m) b i) (-6) n) := rfl
            rw [eL, eR, ← i1]
            generalize h_bloop (e_now e) b i n = s at i2 ⊢
            unfold h_bstep r_blstep
            rw [q_why hH (show n < 8 by omega) b i, HS_mo hS (show n < 8 by omega), zn_nI (show n < 2 ^ 31 by omega), if_pos (h40.mpr h3)]
            by_cases g1 : nI n = b
            · rw [if_pos g1, if_pos g1]; exact ⟨rfl, i2⟩
            · rw [if_neg g1, if_neg g1]
              by_cases g2 : h_refu (e_now e) (nI n) b i = 0
              · rw [if_pos g2, if_pos g2]
                by_cases g3 : s.1 = -6
                · rw [if_pos g3, if_pos g3]
                  exact ⟨rfl, fun _ => by rw [zn_nI (show n < 2 ^ 31 by omega)]⟩
                · rw [if_neg g3, if_neg g3, i2 g3]
                  by_cases g4 : r_left (m_row m) n ≤ r_left (m_row m) (zn32 s.1)
                  · rw [if_pos g4, if_pos g4]; exact ⟨rfl, i2⟩
                  · rw [if_neg g4, if_neg g4]; exact ⟨rfl, fun _ => by rw [zn_nI (show n < 2 ^ 31 by omega)]⟩
              · rw [if_neg g2, if_neg g2]; exact ⟨rfl, i2⟩
        exact (key _ c8).1
      · rw [if_neg h3]
        have key : ∀ n, zit (r_blstep (m_row m) b i) (-6) n = -6 := by
          intro n
          induction n with
          | zero => rfl
          | succ n ih =>
            show r_blstep (m_row m) b i n (zit (r_blstep (m_row m) b i) (-6) n) = -6
            rw [ih]; unfold r_blstep
            rw [if_neg (fun z => h3 (h40.mp z))]
            split <;> rfl
        exact (key _).symm
    · rw [if_neg h2, if_neg h2]
  · rw [if_neg h1, if_neg h1]

/-- the reference's state over a row, with what else a count tells -/
def mO (r : RW) (e : ED) : MD := (r, y_kept (e_his e), fun _ => 0, e_rea e, fun _ => 0, a_len (e_pad e), -6, 0, fun _ => 0, fun _ => 0, 0, fun _ => 0, 0)
/-- count(), but for the reason and what can be undone -/
def cntF (e : ED) (w : Int32) : Int32 := if w = 7 then 0 else if w = 9 then 0 else e_count e w
theorem OBS {B B2 : Nat} {e e2 : ED} {r : RW} (h : HH B (e_now e) r) (h2 : HH B2 (e_now e2) r) (hp : a_len (e_pad e2) = a_len (e_pad e)) : e_ofService e2 = e_ofService e ∧ e_account e2 = e_account e ∧ e_ofLoan e2 = e_ofLoan e ∧ e_ofPlan e2 = e_ofPlan e ∧ cntF e2 = cntF e ∧ e_least e2 = e_least e ∧ e_safe e2 = e_safe e ∧ e_best e2 = e_best e := by
  refine ⟨?_, ?_, ?_, ?_, ?_, ?_, ?_, ?_⟩
  · funext s w; rw [O_ofService (m := mO r e2) h2 s w, O_ofService (m := mO r e2) h s w]
  · funext s w; rw [O_account (m := mO r e2) h2 s w, O_account (m := mO r e2) h s w]
  · funext s w; rw [O_ofLoan (m := mO r e2) h2 s w, O_ofLoan (m := mO r e2) h s w]
  · funext s w; rw [O_ofPlan (m := mO r e2) h2 s w, O_ofPlan (m := mO r e2) h s w]
  · funext w
    unfold cntF
    by_cases g7 : w = 7
    · rw [if_pos g7, if_pos g7]
    · rw [if_neg g7, if_neg g7]
      by_cases g9 : w = 9
      · rw [if_pos g9, if_pos g9]
      · rw [if_neg g9, if_neg g9, O_count (m := mO r e2) h2 rfl rfl rfl w, O_count (m := mO r e) h rfl rfl rfl w]
        unfold m_count
        rw [if_neg g7, if_neg g7, if_neg g9, if_neg g9]
        have e1 : m_len (mO r e2) = m_len (mO r e) := hp
        have e2 : m_row (mO r e2) = m_row (mO r e) := rfl
        rw [e1, e2]
  · funext s; rw [O_least (m := mO r e2) h2 s, O_least (m := mO r e2) h s]
  · funext s; rw [O_safe (m := mO r e2) h2 s, O_safe (m := mO r e2) h s]
  · funext s w; rw [O_best (m := mO r e2) h2 s w, O_best (m := mO r e2) h s w]
/-! A CHANGE, AND ITS UNDOING -/
def OP (e : ED) (E : Int32 × ED) : Prop := (¬ E.1 < 0 ∧ ∃ (x : Int32 × ED) (d2 : HD), E = e_fin x ∧ x.2 = e_snow (e_prep e) d2) ∨ (E.1 < 0 ∧ e_now E.2 = e_now e ∧ e_pad E.2 = e_pad e ∧ e_sav E.2 = e_sav e ∧ e_sl E.2 = e_sl e)
theorem OP_no {e : ED} {v : Int32} (h : v < 0) : OP e (v, e) := Or.inr ⟨h, rfl, rfl, rfl, rfl⟩
theorem OP_in {B : Nat} {e : ED} {m : MD} {X : Int32 × ED} {no : Int32} {mno : MD} {D : Int32 × MD} (h : IN B (e_prep e) m X no mno D) : OP e (e_fin X) := by
  have p := e_prep_f e
  have f := e_fin_f X
  rcases h with ⟨d2, a1, a2, -⟩ | ⟨a1, -, a3⟩
  · exact Or.inl ⟨by rw [f.1]; exact a1, X, d2, rfl, a2⟩
  · refine Or.inr ⟨by rw [f.1]; exact a1, ?_, ?_, ?_, ?_⟩
    · rw [f.2.1]
      rcases a3 with ⟨c1, -⟩ | ⟨w, c1, -⟩
      · rw [c1]; exact p.1
      · rw [c1]; exact (e_srea_f _ w).1.trans p.1
    · rw [f.2.2.2.2.2.1]
      rcases a3 with ⟨c1, -⟩ | ⟨w, c1, -⟩
      · rw [c1]; exact p.2.2.2.2.1
      · rw [c1]; exact (e_srea_f _ w).2.2.2.2.1.trans p.2.2.2.2.1
    · rw [f.2.2.2.2.1]
      rcases a3 with ⟨c1, -⟩ | ⟨w, c1, -⟩
      · rw [c1]; exact p.2.2.2.1
      · rw [c1]; exact (e_srea_f _ w).2.2.2.1.trans p.2.2.2.1
    · rw [f.2.2.2.1]
      rcases a3 with ⟨c1, -⟩ | ⟨w, c1, -⟩
      · rw [c1]; exact p.2.2.1
      · rw [c1]; exact (e_srea_f _ w).2.2.1.trans p.2.2.1
theorem OP_pad {e : ED} {E : Int32 × ED} (h : OP e E) : e_pad E.2 = e_pad e := by
  rcases h with ⟨-, x, d2, h1, h2⟩ | ⟨-, -, h, -⟩
  · rw [h1, (e_fin_f x).2.2.2.2.2.1, h2, (e_snow_f _ d2).2.2.2.2.1, (e_prep_f e).2.2.2.2.1]
  · exact h
theorem OP_sav {e : ED} {E : Int32 × ED} (h : OP e E) : e_sav E.2 = e_sav e := by
  rcases h with ⟨-, x, d2, h1, h2⟩ | ⟨-, -, -, h, -⟩
  · rw [h1, (e_fin_f x).2.2.2.2.1, h2, (e_snow_f _ d2).2.2.2.1, (e_prep_f e).2.2.2.1]
  · exact h
theorem OP_sl {e : ED} {E : Int32 × ED} (h : OP e E) : e_sl E.2 = e_sl e := by
  rcases h with ⟨-, x, d2, h1, h2⟩ | ⟨-, -, -, -, h⟩
  · rw [h1, (e_fin_f x).2.2.2.1, h2, (e_snow_f _ d2).2.2.1, (e_prep_f e).2.2.1]
  · exact h
theorem e_undo_sav (e : ED) : e_sav (e_undo e).2 = e_sav e := by unfold e_undo; split <;> rfl
theorem e_undo_sl (e : ED) : e_sl (e_undo e).2 = e_sl e := by unfold e_undo; split <;> rfl
/-- the reference's history may be that of another state -/
theorem RR_mix {B : Nat} {e : ED} {m mr : MD} (h : RR B e m) (hI : RI B (e_his e) mr) : ∃ m3, RR B e m3 ∧ (∀ j, j < 454 → m_row m3 j = m_row m j) ∧ (∀ j, 454 ≤ j → j < 3178 → m_row m3 j = m_row mr j) := by
  obtain ⟨h1, h2, h3, h4, h5, h6⟩ := h
  have lo : ∀ j, j < 454 → (fun j => if j < 454 then m_row m j else if j < 3178 then m_row mr j else m_row m j) j = m_row m j := fun j hj => if_pos hj
  have mi : ∀ j, 454 ≤ j → j < 3178 → (fun j => if j < 454 then m_row m j else if j < 3178 then m_row mr j else m_row m j) j = m_row mr j := fun j h1 h2 => by
    show (if j < 454 then m_row m j else if j < 3178 then m_row mr j else m_row m j) = _
    rw [if_neg (by omega), if_pos h2]
  have hi : ∀ j, 3178 ≤ j → (fun j => if j < 454 then m_row m j else if j < 3178 then m_row mr j else m_row m j) j = m_row m j := fun j h1 => by
    show (if j < 454 then m_row m j else if j < 3178 then m_row mr j else m_row m j) = _
    rw [if_neg (by omega), if_neg (by omega)]
  generalize (fun j => if j < 454 then m_row m j else if j < 3178 then m_row mr j else m_row m j) = ρ at lo mi hi
  refine ⟨m_srow m ρ, ⟨h1, ⟨HH_r h2.1 lo, h2.2⟩, ?_, ?_, h5, h6⟩, lo, mi⟩
  · exact RI_of hI (h3.1.trans hI.1.symm) mi h1.2.2.1.2.2
  · exact RS_of h4 rfl (fun j hj _ => hi j hj)
/-- the row may be another one, if it is related to the same house -/
theorem RR_rep {B : Nat} {e : ED} {m : MD} {r : RW} (h : RR B e m) (hH : HH B (e_now e) r) : ∃ m3, RR B e m3 ∧ (∀ j, j < 454 → m_row m3 j = r j) := by
  obtain ⟨h1, h2, h3, h4, h5, h6⟩ := h
  have lo : ∀ j, j < 454 → (fun j => if j < 454 then r j else m_row m j) j = r j := fun j hj => if_pos hj
  have hi : ∀ j, 454 ≤ j → (fun j => if j < 454 then r j else m_row m j) j = m_row m j := fun j h1 => if_neg (by omega)
  generalize (fun j => if j < 454 then r j else m_row m j) = ρ at lo hi
  refine ⟨m_srow m ρ, ⟨h1, ⟨HH_r hH lo, h2.2⟩, ?_, ?_, h5, h6⟩, lo⟩
  · exact RI_of h3 rfl (fun j hj _ => hi j hj) h1.2.2.1.2.2
  · exact RS_of h4 rfl (fun j hj _ => hi j (by omega))
theorem e_undo_pad (e : ED) : e_pad (e_undo e).2 = e_pad e := by unfold e_undo; split <;> rfl
theorem m_undo_at {m : MD} {k : Nat} (hs : m_sts m = nI (k + 1)) (hk : k < 6) : (m_undo m).1 = nI k ∧ ∀ j, j < 454 → m_row (m_undo m).2 j = m_row m (454 + 454 * k + j) := by
  have hne : ¬ m_sts m = 0 := by rw [hs]; exact nI_ne0 (by omega) (by omega)
  have e1 : m_sts m - 1 = nI k := by rw [hs]; exact pk_sub (b := 1) (by omega)
  unfold m_undo
  rw [if_neg hne]
  have e2 : m_sts (m_ssts m (m_sts m - 1)) = nI k := e1
  have e3 : m_row (m_ssts m (m_sts m - 1)) = m_row m := rfl
  rw [e2, zn_nI (by omega)]
  generalize m_ssts m (m_sts m - 1) = x at e2 e3 ⊢
  refine ⟨by rw [m_cp_sts]; exact e2, fun j hj => ?_⟩
  show m_row (m_cp x (454 + 454 * k) 0) j = _
  rw [m_cp_row, e3, r_cp_now hj]
theorem UND {B B2 : Nat} {e : ED} {m m2 : MD} {E : Int32 × ED} (h : RR B e m) (hB : B ≤ B2) (ho : OP e E) (hE : ¬ E.1 < 0) (h2 : RR B2 E.2 m2) : ¬ (e_undo E.2).1 < 0 ∧ ∃ m4, RR B2 (e_undo E.2).2 m4 ∧ ∀ j, j < 454 → m_row m4 j = m_row m j := by
  rcases ho with ⟨-, x, d2, q1, q2⟩ | ⟨q, -⟩
  · have hv : ¬ x.1 < 0 := by rw [q1] at hE; exact hE
    have hy := h.1.2.2.1
    have hs : zok (m_sts m) 6 := RR_sts h
    have I : RI B2 (e_his E.2) (m_rec m) := by
      rw [q1, (e_fin_f x).2.2.1, q2, (e_snow_f _ d2).2.1, (e_prep_f e).2.1]
      exact RI_mono (RI_rec hy h.2.2.1 h.2.1.1 hv) hB
    obtain ⟨m3, r1, r2, r3⟩ := RR_mix h2 I
    have hs3 : m_sts m3 = m_sts (m_rec m) := r1.2.2.1.1.trans I.1.symm
    obtain ⟨w1, w2, w3⟩ := m_rec_row hs
    have S := S_undo r1
    by_cases g : m_sts m = 6
    · obtain ⟨b1, b2, -⟩ := w3 g
      have u := m_undo_at (m := m3) (k := 5) (by rw [hs3, b1]; rfl) (by decide)
      refine ⟨by rw [S.1, u.1]; decide, _, S.2, fun j hj => ?_⟩
      rw [u.2 j hj, r3 _ (by omega) (by omega)]; exact b2 j hj
    · obtain ⟨b1, b2, -⟩ := w2 g
      have h5 := (m_sts5 hs g).2
      have u := m_undo_at (m := m3) (k := zn32 (m_sts m)) (by rw [hs3, b1, nI_succ, ← hs.1]) (by omega)
      refine ⟨by rw [S.1, u.1]; exact nI_pos (by omega), _, S.2, fun j hj => ?_⟩
      rw [u.2 j hj, r3 _ (by omega) (by omega)]; exact b2 j hj
  · exact absurd q hE

