
/-! THE RELATION: what there is. -/
theorem q_cnt2 {B c k : Nat} {L : LD} {r : RW} (hk : k < 5) (h : HL c B L r) (b : Int32) : ∀ n, n ≤ zn32 (l_num L) → r_lcnt r k b n = z_cnt (l_at L k) b n
  | 0, _ => rfl
  | n + 1, hn => by
    rw [r_lcnt, z_cnt, (h.2 n (by omega) k hk).1, q_cnt2 hk h b n (by omega)]
    by_cases g : l_at L k n = b
    · rw [if_pos g, if_pos ((q_eq _ _).mpr g)]
    · rw [if_neg g, if_neg (fun z => g ((q_eq _ _).mp z))]; exact Int32.add_zero _
theorem q_sum2 {B c k : Nat} {L : LD} {r : RW} (hk : k < 5) (h : HL c B L r) (b : Int32) : ∀ n, n ≤ zn32 (l_num L) → r_lsum r k b n = z_sum (l_at L k) (l_owe L) b n
  | 0, _ => rfl
  | n + 1, hn => by
    have ho : r (134 + 5 * n + 3) = (l_owe L n).toInt64 := (h.2 n (by omega) 3 (by decide)).1
    rw [r_lsum, z_sum, (h.2 n (by omega) k hk).1, ho, q_i, q_sum2 hk h b n (by omega)]
    by_cases g : l_at L k n = b
    · rw [if_pos g, if_pos ((q_eq _ _).mpr g)]
    · rw [if_neg g, if_neg (fun z => g ((q_eq _ _).mp z))]; exact Int32.add_zero _
theorem q_pcnt {B c : Nat} {P : PD} {r : RW} (h : HPc c B P r) (b : Int32) : ∀ n, n ≤ zn32 (p_num P) → r_pcnt r b n = z_cnt (p_srv P) b n
  | 0, _ => rfl
  | n + 1, hn => by
    have ho : r (334 + 4 * n + 0) = (p_srv P n).toInt64 := (h.2 n (by omega) 0 (by decide)).1
    rw [r_pcnt, z_cnt, ho, q_pcnt h b n (by omega)]
    by_cases g : p_srv P n = b
    · rw [if_pos g, if_pos ((q_eq _ _).mpr g)]
    · rw [if_neg g, if_neg (fun z => g ((q_eq _ _).mp z))]; exact Int32.add_zero _
theorem S_ofService {B : Nat} {e : ED} {m : MD} (h : RR B e m) (s w : Int32) : e_ofService e s w = m_ofService m s w := by
  have hH := h.2.1.1
  obtain ⟨hA, hS, hZ, hL, hW, hP⟩ := id hH
  unfold e_ofService m_ofService
  rw [HH_isS hH s]
  by_cases h1 : h_has (e_now e) s = true
  · rw [if_pos h1, if_pos h1]
    obtain ⟨es, hs, hs8⟩ := HH_has hH h1
    obtain ⟨a, ha⟩ : ∃ a, a = zn32 s := ⟨_, rfl⟩
    rw [← ha] at es hs hs8 ⊢
    obtain ⟨a1, a2, a3, a4, a5, a6, a7, a8⟩ := hS.2.2 a hs8
    have hn := HL_n hL
    have hp := HPc_n hP.1
    have f1 : (if h_isf (e_now e) s then (1 : Int32) else 0) = (m_row m (14 + 15 * a + 3)).toInt32 := by
      rw [es, HS_isf hS hs8]
      unfold r_frz
      rcases a4 with z | z
      · rw [z, if_neg (by decide)]; rfl
      · rw [z, if_pos (by decide)]; rfl
    rw [f1, hn, hp, q_cnt2 (k := 1) (by decide) hL s _ (Nat.le_refl _), q_cnt2 (k := 0) (by decide) hL s _ (Nat.le_refl _), q_sum2 (k := 1) (by decide) hL s _ (Nat.le_refl _), q_sum2 (k := 0) (by decide) hL s _ (Nat.le_refl _), q_pcnt hP.1 s _ (Nat.le_refl _), a1.1, a3.1, q_i, q_i, a5, a6, a7]
    rfl
  · rw [if_neg h1, if_neg h1]
theorem S_account {B : Nat} {e : ED} {m : MD} (h : RR B e m) (s w : Int32) : e_account e s w = m_account m s w := by
  have hH := h.2.1.1
  obtain ⟨hA, hS, hZ, hL, hW, hP⟩ := id hH
  unfold e_account m_account
  rw [HH_isS hH s, show z_inl w.toInt64 0 7 = z_in w 0 7 from z_in_l w 0 7]
  by_cases h1 : h_has (e_now e) s = true
  · rw [if_pos h1, if_pos h1]
    obtain ⟨es, hs, hs8⟩ := HH_has hH h1
    obtain ⟨a, ha⟩ : ∃ a, a = zn32 s := ⟨_, rfl⟩
    rw [← ha] at es hs hs8 ⊢
    unfold z_in
    by_cases h0 : w < 0
    · rw [if_pos h0, if_pos h0, if_neg Bool.false_ne_true]
      rw [if_neg]
      intro z; rw [z] at h0; exact absurd h0 (by decide)
    · rw [if_neg h0, if_neg h0]
      obtain ⟨k, hk, rfl⟩ := nI_of h0
      have zk : zn32 (nI k) = k := zn_nI hk
      have c9 : nI k < 9 ↔ k < 9 := nI_ltI (b := 9) hk (by decide)
      have c7 : nI k ≤ 7 ↔ k ≤ 7 := nI_leI (b := 7) hk (by decide)
      have c8 : nI k = 8 ↔ k = 8 := nI_eq (b := 8) hk (by decide)
      rw [zk, es]
      by_cases g7 : k ≤ 7
      · rw [if_pos (c9.mpr (by omega)), if_pos (c7.mpr g7), if_pos rfl]
        show h_acc (e_now e) (h_ix (nI a) (nI k)) = _
        rw [h_ix_n hs8 (by omega)]
        exact (hS.2.2 a hs8).2.2.2.2.2.2.2 k (by omega)
      · rw [if_neg (fun z => g7 (c7.mp z)), if_neg Bool.false_ne_true]
        by_cases g8 : k = 8
        · rw [if_pos (c9.mpr (by omega)), if_pos (c8.mpr g8), g8]
          exact HS_mo hS hs8
        · rw [if_neg (fun z => by have := c9.mp z; omega), if_neg (fun z => g8 (c8.mp z))]
  · rw [if_neg h1, if_neg h1]
theorem S_ofLoan {B : Nat} {e : ED} {m : MD} (h : RR B e m) (l w : Int32) : e_ofLoan e l w = m_ofLoan m l w := by
  have hH := h.2.1.1
  obtain ⟨hA, hS, hZ, hL, hW, hP⟩ := id hH
  unfold e_ofLoan m_ofLoan
  rw [HH_isL hH l, show z_inl w.toInt64 0 4 = z_in w 0 4 from z_in_l w 0 4]
  by_cases h1 : l_has (h_lo (e_now e)) l = true
  · rw [if_pos h1, if_pos h1]
    have hl := l_has_in h1 hL.1.2
    have R := hL.2 _ hl.2.1
    generalize zn32 l = a at R ⊢
    by_cases h2 : z_in w 0 4 = true
    · rw [if_pos h2]
      have b := (z_in_b (a := 0) (b := 4) (by decide) (by decide) h2).1
      have b4 := b.2
      have eb := b.1
      generalize zn32 w = k at b4 eb ⊢
      subst eb
      rw [(R k (by omega)).1, q_i]
      match k, b4 with
      | 0, _ => rfl
      | 1, _ => rfl
      | 2, _ => rfl
      | 3, _ => rfl
      | 4, _ => rfl
    · rw [if_neg h2]
      have n : ∀ k : Nat, k < 5 → ¬ w = nI k := fun k hk z => h2 (by rw [z]; exact (show ∀ k, k < 5 → z_in (nI k) 0 4 = true by decide) k hk)
      have n0 : ¬ w = 0 := n 0 (by decide)
      have n1 : ¬ w = 1 := n 1 (by decide)
      have n2 : ¬ w = 2 := n 2 (by decide)
      have n3 : ¬ w = 3 := n 3 (by decide)
      have n4 : ¬ w = 4 := n 4 (by decide)
      rw [if_neg n0, if_neg n1, if_neg n2, if_neg n3, if_neg n4]
  · rw [if_neg h1, if_neg h1]
theorem S_ofPlan {B : Nat} {e : ED} {m : MD} (h : RR B e m) (l w : Int32) : e_ofPlan e l w = m_ofPlan m l w := by
  have hH := h.2.1.1
  obtain ⟨hA, hS, hZ, hL, hW, hP⟩ := id hH
  unfold e_ofPlan m_ofPlan
  rw [HH_isP hH l, show z_inl w.toInt64 0 3 = z_in w 0 3 from z_in_l w 0 3]
  by_cases h1 : p_has (h_pl (e_now e)) l = true
  · rw [if_pos h1, if_pos h1]
    have hl := p_has_in h1 hP.1.1.2
    have R := hP.1.2 _ hl.2.1
    generalize zn32 l = a at R ⊢
    by_cases h2 : z_in w 0 3 = true
    · rw [if_pos h2]
      have b := (z_in_b (a := 0) (b := 3) (by decide) (by decide) h2).1
      have b4 := b.2
      have eb := b.1
      generalize zn32 w = k at b4 eb ⊢
      subst eb
      rw [(R k (by omega)).1, q_i]
      match k, b4 with
      | 0, _ => rfl
      | 1, _ => rfl
      | 2, _ => rfl
      | 3, _ => rfl
    · rw [if_neg h2]
      have n : ∀ k : Nat, k < 4 → ¬ w = nI k := fun k hk z => h2 (by rw [z]; exact (show ∀ k, k < 4 → z_in (nI k) 0 3 = true by decide) k hk)
      have n0 : ¬ w = 0 := n 0 (by decide)
      have n1 : ¬ w = 1 := n 1 (by decide)
      have n2 : ¬ w = 2 := n 2 (by decide)
      have n3 : ¬ w = 3 := n 3 (by decide)
      rw [if_neg n0, if_neg n1, if_neg n2, if_neg n3]
  · rw [if_neg h1, if_neg h1]
theorem r_fset_z {r : RW} {c : Nat} (hZ : HZ c r) : ∀ n, c ≤ n → n ≤ 8 → r_fset r n = r_fset r c
  | 0, h, _ => by have : c = 0 := by omega
                  rw [this]
  | n + 1, h, h8 => by
    rcases Nat.lt_or_ge n c with g | g
    · have : c = n + 1 := by omega
      rw [this]
    · have z : r_frz r n = false := by
        unfold r_frz; rw [hZ n 3 g (by omega) (by decide)]; rfl
      rw [r_fset_s, z, r_fset_z hZ n g (by omega)]
      exact Int32.or_zero
theorem S_count {B : Nat} {e : ED} {m : MD} (h : RR B e m) (w : Int32) : e_count e w = m_count m w := by
  have hH := h.2.1.1
  obtain ⟨hA, hS, hZ, hL, hW, hP⟩ := id hH
  have c8 := hA.2.2.2.2.2.2
  unfold e_count m_count
  rw [← h.2.2.2.2.1, ← h.2.2.2.2.2.1, ← h.2.2.1.1]
  by_cases g0 : w = 0
  · rw [if_pos g0, if_pos g0, g0]; show _ = (m_row m 8).toInt32; rw [hA.2.1.1, q_i]
  · rw [if_neg g0, if_neg g0]
    by_cases g1 : w = 1
    · rw [if_pos g1, if_pos g1, g1]; show _ = (m_row m 9).toInt32; rw [hA.2.2.1.1, q_i]
    · rw [if_neg g1, if_neg g1]
      by_cases g2 : w = 2
      · rw [if_pos g2, if_pos g2, g2]; show _ = (m_row m 10).toInt32; rw [hA.2.2.2.1.1, q_i]
      · rw [if_neg g2, if_neg g2]
        by_cases g3 : w = 3
        · rw [if_pos g3, if_pos g3, g3]; show _ = (m_row m 11).toInt32; rw [hA.2.2.2.2.1, q_i]
        · rw [if_neg g3, if_neg g3]
          by_cases g4 : w = 4
          · rw [if_pos g4, if_pos g4]
            have : zn64 (m_row m 11) = zn32 (h_cnt (e_now e)) := by rw [hA.2.2.2.2.1]; exact (q_okl hA.2.2.2.2.2 (by decide)).2
            rw [this, hS.2.1]; exact r_fset_z hZ 8 c8 (Nat.le_refl _)
          · rw [if_neg g4, if_neg g4]
            by_cases g5 : w = 5
            · rw [if_pos g5, if_pos g5, hL.1.1, q_i]
            · rw [if_neg g5, if_neg g5]
              by_cases g6 : w = 6
              · rw [if_pos g6, if_pos g6, hP.1.1.1, q_i]
              · rw [if_neg g6, if_neg g6]
                by_cases g7 : w = 7
                · rw [if_pos g7, if_pos g7]
                · rw [if_neg g7, if_neg g7]
                  by_cases g8 : w = 8
                  · rw [if_pos g8, if_pos g8]
                  · rw [if_neg g8, if_neg g8]
                    by_cases g9 : w = 9
                    · rw [if_pos g9, if_pos g9]
                    · rw [if_neg g9, if_neg g9]
                      rw [show z_inl w.toInt64 10 17 = z_in w 10 17 from z_in_l w 10 17]
                      by_cases h10 : w < 10
                      · rw [if_pos h10]
                        unfold z_in; rw [if_pos h10, if_neg Bool.false_ne_true]
                      · rw [if_neg h10]
                        unfold z_in; rw [if_neg h10]
                        obtain ⟨k, hk, rfl⟩ := nI_of (x := w) (fun z => h10 (Int32.lt_trans z (by decide)))
                        have k10 : 10 ≤ k := by
                          rcases Nat.lt_or_ge k 10 with q | q
                          · exact absurd (nI_lt (b := 10) q (by decide)) h10
                          · exact q
                        have e10 : nI k - 10 = nI (k - 10) := pk_sub (b := 10) k10
                        have c17 : nI k ≤ 17 ↔ k ≤ 17 := nI_leI (b := 17) hk (by decide)
                        have c18 : nI (k - 10) < 8 ↔ k - 10 < 8 := nI_ltI (b := 8) (by omega) (by decide)
                        rw [e10, zn_nI (by omega)]
                        by_cases g : k ≤ 17
                        · rw [if_pos (c18.mpr (by omega)), if_pos (c17.mpr g), if_pos rfl, (hA.1 (k - 10) (by omega)).1, q_i]
                        · rw [if_neg (fun z => by have := c18.mp z; omega), if_neg (fun z => g (c17.mp z)), if_neg Bool.false_ne_true]
theorem S_least {B : Nat} {e : ED} {m : MD} (h : RR B e m) (s : Int32) : e_least e s = m_least m s := by
  have hH := h.2.1.1
  have hS := hH.2.1
  unfold e_least m_least
  rw [HH_isS hH s]
  by_cases h1 : h_has (e_now e) s = true
  · rw [if_pos h1, if_pos h1]
    obtain ⟨es, hs, hs8⟩ := HH_has hH h1
    obtain ⟨a, ha⟩ : ∃ a, a = zn32 s := ⟨_, rfl⟩
    rw [← ha] at es hs hs8 ⊢
    rw [es, HS_isf hS hs8, HS_mo hS hs8]
    have ht := HS_thw hS hs8
    have e1 : (h_thw (e_now e) (nI a) + 1).toInt64 - r_left (m_row m) a = r_lst (m_row m) a := by
      unfold r_lst
      rw [(q_s_lt ht.2 (by decide)).2.2.1, ht.1]
      rw [Int64.sub_eq_add_neg, Int64.sub_eq_add_neg, Int64.add_assoc, Int64.add_assoc, Int64.add_comm 1]
    rw [e1]
    by_cases h2 : r_frz (m_row m) a = true
    · rw [if_pos h2, if_pos h2]
      simp only [Int64.lt_iff_toInt_lt, Int64.le_iff_toInt_le]
      by_cases g1 : (r_lst (m_row m) a).toInt < (1 : Int64).toInt
      · rw [if_pos g1, if_pos (by omega)]
      · rw [if_neg g1]
        by_cases g2 : (r_lst (m_row m) a).toInt ≤ (1 : Int64).toInt
        · rw [if_pos g2]; exact Int64.toInt_inj.mp (by omega)
        · rw [if_neg g2]
    · rw [if_neg h2, if_neg h2]
  · rw [if_neg h1, if_neg h1]
theorem S_safe {B : Nat} {e : ED} {m : MD} (h : RR B e m) (s : Int32) : e_safe e s = m_safe m s := by
  have hH := h.2.1.1
  have hS := hH.2.1
  unfold e_safe m_safe
  rw [HH_isS hH s]
  by_cases h1 : h_has (e_now e) s = true
  · rw [if_pos h1, if_pos h1]
    obtain ⟨es, hs, hs8⟩ := HH_has hH h1
    obtain ⟨a, ha⟩ : ∃ a, a = zn32 s := ⟨_, rfl⟩
    rw [← ha] at es hs hs8 ⊢
    rw [es, HS_isf hS hs8, HS_mo hS hs8]
    by_cases h2 : r_frz (m_row m) a = true
    · rw [if_pos h2, if_pos h2]
    · rw [if_neg h2, if_neg h2]
      by_cases h3 : r_left (m_row m) a - 1 < 1
      · rw [if_pos h3, if_pos h3]
      · rw [if_neg h3, if_neg h3]
        generalize r_left (m_row m) a - 1 = v
        by_cases g1 : (200 : Int64) < v
        · rw [if_pos g1]
          have : ¬ v < 200 := by
            rw [Int64.lt_iff_toInt_lt] at g1 ⊢; omega
          rw [if_neg this]; rfl
        · rw [if_neg g1]
          by_cases g2 : v < 200
          · rw [if_pos g2]
          · rw [if_neg g2]
            have : v = 200 := by
              rw [Int64.lt_iff_toInt_lt] at g1 g2
              exact Int64.toInt_inj.mp (by omega)
            rw [this]; rfl
  · rw [if_neg h1, if_neg h1]
theorem S_best {B : Nat} {e : ED} {m : MD} (h : RR B e m) (b i : Int32) : e_best e b i = m_best m b i := by
  have hH := h.2.1.1
  obtain ⟨hA, hS, hZ, hL, hW, hP⟩ := id hH
  have c8 := hA.2.2.2.2.2.2
  unfold e_best m_best
  rw [HH_isS hH b, show z_inl i.toInt64 1 5000 = z_in i 1 5000 from z_in_l i 1 5000]
  have hn : zn64 (m_row m 11) = zn32 (h_cnt (e_now e)) := by rw [hA.2.2.2.2.1]; exact (q_okl hA.2.2.2.2.2 (by decide)).2
  have h40 : m_row m 12 < 40 ↔ l_num (h_lo (e_now e)) < 40 := by rw [hL.1.1]; exact q_lt _ 40
  rw [hn]
  by_cases h1 : h_has (e_now e) b = true
  · rw [if_pos h1, if_pos h1]
    by_cases h2 : z_in i 1 5000 = true
    · rw [if_pos h2, if_pos h2]
      by_cases h3 : l_num (h_lo (e_now e)) < 40
      · rw [if_pos h3]
        have key : ∀ n, n ≤ 8 → (h_bloop (e_now e) b i n).1 = zit (r_blstep (m_row m) b i) (-6) n ∧ (¬ (h_bloop (e_now e) b i n).1 = -6 → (h_bloop (e_now e) b i n).2 = r_left (m_row m) (zn32 (h_bloop (e_now e) b i n).1)) := by
          intro n
          induction n with
          | zero => exact fun _ => ⟨rfl, fun z => absurd rfl z⟩
          | succ n ih =>
            intro hn8
            obtain ⟨i1, i2⟩ := ih (by omega)
            have eL : h_bloop (e_now e) b i (n + 1) = h_bstep (e_now e) b i n (h_bloop (e_now e) b i n) := rfl
            have eR : zit (r_blstep (m_row m) b i) (-6) (n + 1) = r_blstep (m_row m) b i n (zit (r_blstep (m_row m) b i) (-6) n) := rfl
            rw [eL, eR, ← i1]
            generalize h_bloop (e_now e) b i n = s at i2 ⊢
            unfold h_bstep r_blstep
            rw [q_why hH (show n < 8 by omega) b i, HS_mo hS (show n < 8 by omega), zn_nI (show n < 2 ^ 31 by omega), if_pos (h40.mpr h3)]
            by_cases g1 : nI n = b
            · rw [if_pos g1, if_pos g1]; exact ⟨rfl, i2⟩
            · rw [if_neg g1, if_neg g1]
              by_cases g2 : h_refu (e_now e) (nI n) b i = 0
              · rw [if_pos g2, if_pos g2]
                by_cases g3 : s.1 = -6
                · rw [if_pos g3, if_pos g3]
                  exact ⟨rfl, fun _ => by rw [zn_nI (show n < 2 ^ 31 by omega)]⟩
                · rw [if_neg g3, if_neg g3, i2 g3]
                  by_cases g4 : r_left (m_row m) n ≤ r_left (m_row m) (zn32 s.1)
                  · rw [if_pos g4, if_pos g4]; exact ⟨rfl, i2⟩
                  · rw [if_neg g4, if_neg g4]; exact ⟨rfl, fun _ => by rw [zn_nI (show n < 2 ^ 31 by omega)]⟩
              · rw [if_neg g2, if_neg g2]; exact ⟨rfl, i2⟩
        exact (key _ c8).1
      · rw [if_neg h3]
        have key : ∀ n, zit (r_blstep (m_row m) b i) (-6) n = -6 := by
          intro n
          induction n with
          | zero => rfl
          | succ n ih =>
            show r_blstep (m_row m) b i n (zit (r_blstep (m_row m) b i) (-6) n) = -6
            rw [ih]; unfold r_blstep
            rw [if_neg (fun z => h3 (h40.mp z))]
            split <;> rfl
        exact (key _).symm
    · rw [if_neg h2, if_neg h2]
  · rw [if_neg h1, if_neg h1]
/-! what if -/
theorem e_stri_f (e : ED) (d : HD) : e_now (e_stri e d) = e_now e ∧ e_his (e_stri e d) = e_his e ∧ e_sl (e_stri e d) = e_sl e ∧ e_sav (e_stri e d) = e_sav e ∧ e_pad (e_stri e d) = e_pad e ∧ e_rea (e_stri e d) = e_rea e ∧ e_tri (e_stri e d) = d := ⟨rfl, rfl, rfl, rfl, rfl, rfl, rfl⟩
/-- class and reference but for the trial -/
def e_kt (a b : ED) : Prop := e_now b = e_now a ∧ e_his b = e_his a ∧ e_sl b = e_sl a ∧ e_sav b = e_sav a ∧ e_pad b = e_pad a ∧ e_rea b = e_rea a
theorem e_kt.rf (a : ED) : e_kt a a := ⟨rfl, rfl, rfl, rfl, rfl, rfl⟩
theorem e_kt.tr {a b c : ED} (h : e_kt a b) (k : e_kt b c) : e_kt a c := by
  obtain ⟨h1, h2, h3, h4, h5, h6⟩ := h
  obtain ⟨k1, k2, k3, k4, k5, k6⟩ := k
  exact ⟨k1.trans h1, k2.trans h2, k3.trans h3, k4.trans h4, k5.trans h5, k6.trans h6⟩
theorem e_kt.stri (e : ED) (d : HD) : e_kt e (e_stri e d) := ⟨rfl, rfl, rfl, rfl, rfl, rfl⟩
/-- the reference's trial: what it has copied away comes back -/
def MT (m M : MD) : Prop := m_kk m M ∧ MX M ∧ (∀ j, 454 ≤ j → j < 4086 → m_row M j = m_row m j) ∧ (∀ j, j < 454 → m_row M (4086 + j) = m_row m j)
theorem MT_try {B : Nat} {d : HD} {m : MD} (h : RN B d m) : MT m (m_try m) ∧ RN B d (m_try m) := by
  have k := m_cp_kk m 0 4086
  have r := m_cp_row m 0 4086
  unfold m_try
  generalize m_cp m 0 4086 = x at k r ⊢
  obtain ⟨k1, k2, k3, k4, k5⟩ := k
  refine ⟨⟨k1, fun p hp => by rw [k2, k3]; exact h.2.2.1 p hp, fun j h1 h2 => by rw [r, r_cp_out (by omega)], fun j hj => by rw [r, r_cp_in hj, Nat.zero_add]⟩, ⟨HH_r h.1 (fun j hj => by rw [r, r_cp_out (by omega)]), h.2.1, fun p hp => by rw [k2, k3]; exact h.2.2.1 p hp, k4.trans h.2.2.2⟩⟩
theorem MT_on {m M M2 : MD} (h : MT m M) (k : m_kk M M2) (hx : MX M2) (hr : ∀ j, 454 ≤ j → m_row M2 j = m_row M j) : MT m M2 :=
  ⟨h.1.tr k, hx, fun j h1 h2 => (hr j h1).trans (h.2.2.1 j h1 h2), fun j hj => (hr _ (by omega)).trans (h.2.2.2 j hj)⟩
theorem RR_back {B : Nat} {e e2 : ED} {m M : MD} (h : RR B e m) (hok : e_ok e2) (hk : e_kt e e2) (hM : MT m M) (hw : m_wat M = -6) : RR B e2 (m_back M) := by
  have k := m_cp_kk M 4086 0
  have r := m_cp_row M 4086 0
  unfold m_back
  generalize m_cp M 4086 0 = x at k r ⊢
  obtain ⟨k1, k2, k3, k4, k5⟩ := k
  have K := hM.1.tr k1
  obtain ⟨c1, c2, c3, c4, c5, c6, c7, c8⟩ := K
  obtain ⟨a1, a2, a3, a4, a5, a6⟩ := hk
  have hlo : ∀ j, j < 454 → m_row x j = m_row m j := fun j hj => by rw [r, r_cp_now hj]; exact hM.2.2.2 j hj
  have hmid : ∀ j, 454 ≤ j → j < 4086 → m_row x j = m_row m j := fun j h1 h2 => by rw [r, r_cp_out (by omega)]; exact hM.2.2.1 j h1 h2
  refine ⟨hok, ?_, ?_, ?_, by rw [a6]; exact c3.trans h.2.2.2.2.1, by rw [a5]; exact RP_of h.2.2.2.2.2 c5 c4⟩
  · rw [a1]; exact ⟨HH_r h.2.1.1 hlo, h.2.1.2.1, fun p hp => by rw [k2, k3]; exact hM.2.1 p hp, k4.trans hw⟩
  · rw [a2]; exact RI_of h.2.2.1 c1 (fun j h1 h2 => hmid j h1 (by omega)) h.1.2.2.1.2.2
  · rw [a3, a4]; exact RS_of h.2.2.2.1 c2 (fun j h1 h2 => hmid j (by omega) h2)
theorem RR_kt {B : Nat} {e e2 : ED} {m : MD} (h : RR B e m) (hok : e_ok e2) (hk : e_kt e e2) : RR B e2 m := by
  obtain ⟨a1, a2, a3, a4, a5, a6⟩ := hk
  exact ⟨hok, by rw [a1]; exact h.2.1, by rw [a2]; exact h.2.2.1, by rw [a3, a4]; exact h.2.2.2.1, by rw [a6]; exact h.2.2.2.2.1, by rw [a5]; exact h.2.2.2.2.2⟩
theorem RN_try {B : Nat} {e : ED} {m : MD} (h : RR B e m) : e_kt e (e_try e) ∧ MT m (m_try m) ∧ RN B (e_tri (e_try e)) (m_try m) := by
  have k := MT_try h.2.1
  have c := HH_copy (d := e_tri e) k.2.1
  exact ⟨e_kt.stri _ _, k.1, ⟨c.1, c.2, k.2.2.2⟩⟩
theorem S_leftIn {B : Nat} {e : ED} {m : MD} (hB : B + 4100 < 2 ^ 30) (h : RR B e m) (s k : Int32) : ((e_leftIn e s k).1 = (m_leftIn m s k).1 ∧ RR B (e_leftIn e s k).2 (m_leftIn m s k).2) ∧ (∀ i, i < 1000 → m_hgood (m_hrs (m_try m) i)) := by
  obtain ⟨t1, t2, t3⟩ := RN_try h
  have G := RN_hrs 1000 (by omega) t3
  refine ⟨?_, G.2.2.2⟩
  have hok := e_leftIn_ok (s := s) (k := k) h.1
  have hsw := HH_isS h.2.1.1 s
  unfold e_leftIn at hok ⊢
  unfold m_leftIn
  rw [hsw, show z_inl k.toInt64 1 1000 = z_in k 1 1000 from z_in_l k 1 1000]
  by_cases h1 : h_has (e_now e) s = true
  · rw [if_pos h1] at hok ⊢
    rw [if_pos h1]
    obtain ⟨es, hs, hs8⟩ := HH_has h.2.1.1 h1
    have hpr : h_passr (e_tri (e_try e)) k = (if z_in k 1 1000 then h_hour (h_hrs (e_tri (e_try e)) (zn32 k)) else -2) := rfl
    have htp : e_tpass (e_try e) k = e_stri (e_try e) (if z_in k 1 1000 then h_hrs (e_tri (e_try e)) (zn32 k) else e_tri (e_try e)) := rfl
    have ek := t1.tr (e_kt.stri (e_try e) (if z_in k 1 1000 then h_hrs (e_tri (e_try e)) (zn32 k) else e_tri (e_try e)))
    rw [hpr, htp] at hok ⊢
    by_cases h2 : z_in k 1 1000 = true
    · rw [if_pos h2, if_pos h2] at hok ⊢
      rw [if_pos h2]
      rw [if_pos h2] at ek
      have bk := (z_in_b (a := 1) (b := 1000) (by decide) (by decide) h2).1.2
      have K := RN_hrs (zn32 k) (by omega) t3
      have hh := K.1.1.1.2.1.2
      have hne : ¬ h_hour (h_hrs (e_tri (e_try e)) (zn32 k)) = -2 := by
        intro z
        have := hh.1; rw [z] at this; exact absurd this (by decide)
      rw [if_neg hne] at hok ⊢
      have eP : (m_pass (m_try m) k).2 = m_hrs (m_try m) (zn32 k) := rfl
      rw [eP]
      refine ⟨?_, RR_back h hok ek (MT_on t2 K.2.1 K.1.2.2.1 K.2.2.1) K.1.2.2.2⟩
      show h_mo (h_hrs (e_tri (e_try e)) (zn32 k)) s 8 = r_left (m_row (m_hrs (m_try m) (zn32 k))) (zn32 s)
      conv => lhs; rw [es]
      exact HS_mo K.1.1.2.1 hs8
    · rw [if_neg h2, if_neg h2, if_pos rfl] at hok ⊢
      rw [if_neg h2]
      rw [if_neg h2] at ek
      exact ⟨rfl, RR_kt h hok ek⟩
  · rw [if_neg h1, if_neg h1]; exact ⟨rfl, h⟩
theorem zB_inj {a b : Bool} : zB a = zB b ↔ a = b := by cases a <;> cases b <;> decide
theorem e_tpass1 (e : ED) : e_tri (e_tpass e 1) = h_hrs (e_tri e) 1 ∧ e_kt e (e_tpass e 1) := ⟨rfl, e_kt.stri _ _⟩
theorem hl_rel {a : Nat} {b : Bool} {m : MD} (ha : a < 8) : ∀ (k i B : Nat) (e : ED) (M : MD), i + k < 2 ^ 31 → B + k + 3100 < 2 ^ 30 → RN B (e_tri e) M → MT m M → ¬ zB (r_frz (m_row M) a) = zB b →
    (e_hl (nI a) b k (i + 1) e).1 = m_found (m_htl a b k i M) a b ∧ MT m (m_htl a b k i M).2 ∧ m_wat (m_htl a b k i M).2 = -6 ∧ e_kt e (e_hl (nI a) b k (i + 1) e).2
  | 0, i, B, e, M, _, _, h, t, hne => by
    refine ⟨?_, t, h.2.2.2, e_kt.rf e⟩
    show -6 = m_found (i, M) a b
    unfold m_found; rw [if_neg hne]
  | k + 1, i, B, e, M, hi, hB, h, t, hne => by
    have K := RN_hour (i := 0) (by omega) h
    obtain ⟨p1, p2⟩ := e_tpass1 e
    have hT : RN (B + 1) (e_tri (e_tpass e 1)) (m_hour M) := by rw [p1]; exact K.2.1
    have tM := MT_on t K.2.2.1 hT.2.2.1 K.2.2.2
    have hf : h_isf (e_tri (e_tpass e 1)) (nI a) = r_frz (m_row (m_hour M)) a := HS_isf hT.1.2.1 ha
    have eM : m_htl a b (k + 1) i M = m_htl a b k (i + 1) (m_hour M) := if_neg hne
    rw [eM, e_hl, hf]
    by_cases g : zB (r_frz (m_row (m_hour M)) a) = zB b
    · rw [if_pos g]
      have e2 : m_htl a b k (i + 1) (m_hour M) = (i + 1, m_hour M) := by
        cases k with
        | zero => rfl
        | succ k => exact if_pos g
      rw [e2]
      refine ⟨?_, tM, hT.2.2.2, p2⟩
      show nI (i + 1) = m_found (i + 1, m_hour M) a b
      unfold m_found; rw [if_pos g]
    · rw [if_neg g]
      have ih := hl_rel ha k (i + 1) (B + 1) (e_tpass e 1) (m_hour M) (by omega) (by omega) hT tM g
      exact ⟨ih.1, ih.2.1, ih.2.2.1, p2.tr ih.2.2.2⟩
theorem S_fin_ {B : Nat} {e : ED} {m : MD} (hB : B + 4100 < 2 ^ 30) (h : RR B e m) (s : Int32) (b : Bool) : ((e_fin_ e s b).1 = (m_fin_ m s b).1 ∧ RR B (e_fin_ e s b).2 (m_fin_ m s b).2) ∧ (∀ i, i < 1000 → m_hgood (m_hrs (m_try m) i)) := by
  obtain ⟨t1, t2, t3⟩ := RN_try h
  have G := RN_hrs 1000 (by omega) t3
  refine ⟨?_, G.2.2.2⟩
  have hok := e_hu_ok (s := s) (b := b) h.1
  have hsw := HH_isS h.2.1.1 s
  unfold e_fin_ at hok ⊢
  unfold m_fin_
  rw [hsw]
  by_cases h1 : h_has (e_now e) s = true
  · rw [if_pos h1] at hok ⊢
    rw [if_pos h1]
    obtain ⟨es, hs, hs8⟩ := HH_has h.2.1.1 h1
    obtain ⟨a, ha⟩ : ∃ a, a = zn32 s := ⟨_, rfl⟩
    rw [← ha] at es hs hs8
    unfold e_hu at hok ⊢
    unfold m_hoursTo
    rw [← ha]
    have f0 : h_isf (e_now e) s = r_frz (m_row m) a := by rw [es]; exact HS_isf h.2.1.1.2.1 hs8
    have f1 : r_frz (m_row (m_try m)) a = r_frz (m_row m) a := by
      unfold r_frz m_try; rw [m_cp_row, r_cp_out (by omega)]
    rw [f0] at hok ⊢
    by_cases g : zB (r_frz (m_row m) a) = zB b
    · rw [if_pos g] at hok ⊢
      have e2 : m_htl a b 1000 0 (m_try m) = (0, m_try m) := if_pos (by rw [f1]; exact g)
      rw [e2]
      refine ⟨?_, RR_back h hok (e_kt.rf e) t2 t3.2.2.2⟩
      show (0 : Int32) = m_found (0, m_try m) a b
      unfold m_found; rw [if_pos (by rw [f1]; exact g)]; rfl
    · rw [if_neg g] at hok ⊢
      rw [es] at hok ⊢
      have K := hl_rel (b := b) (m := m) hs8 1000 0 B (e_try e) (m_try m) (by decide) (by omega) t3 t2 (by rw [f1]; exact g)
      exact ⟨K.1, RR_back h hok (t1.tr K.2.2.2) K.2.1 K.2.2.1⟩
  · rw [if_neg h1, if_neg h1]; exact ⟨rfl, h⟩
theorem HH_watch {B : Nat} {d : HD} {r : RW} (i : Int32) (h : HH B d r) : HH B (h_spl d (p_watch (h_pl d) i)) r := h
theorem dl_rel {m : MD} : ∀ (k B : Nat) (e : ED) (M : MD), B + k + 3100 < 2 ^ 30 → HH B (e_tri e) (m_row M) → MT m M → (∃ q, q < zn32 (p_num (h_pl (e_tri e))) ∧ p_wat (h_pl (e_tri e)) = nI q ∧ m_wat M = nI q) → p_wf (h_pl (e_tri e)) = 0 → m_wh M = 0 →
    (e_dl k e).1 = (if m_wh (m_dal k M) = 0 then -6 else m_wh (m_dal k M)) ∧ MT m (m_dal k M) ∧ e_kt e (e_dl k e).2
  | 0, B, e, M, _, h, t, hq, hf, hw => by
    refine ⟨?_, t, e_kt.rf e⟩
    show -6 = (if m_wh M = 0 then -6 else m_wh M)
    rw [if_pos hw]
  | k + 1, B, e, M, hB, h, t, hq, hf, hw => by
    obtain ⟨q, hq1, hq2, hq3⟩ := hq
    have K := HH_hour (i := 0) (by omega) h t.2.1
    obtain ⟨k1, k2, k3, k4, k5, k6, k7⟩ := K
    obtain ⟨p1, p2⟩ := e_tpass1 e
    have p1' : e_tri (e_tpass e 1) = h_hstep 0 (e_tri e) := p1
    have tM := MT_on t k4 k3 k5
    have h30 := h.2.2.2.2.2.1.1.2.2
    have hne : ¬ m_wat M = -6 := by rw [hq3]; exact nI_ne6 (by omega)
    have eM : m_dal (k + 1) M = m_dal k (m_hour M) := if_neg hne
    have hh := h.1.2.1.2
    have hh1 := q_s_lt hh (by omega)
    have W := k7.2 q hq1 hq2 hq3 hf
    rw [eM, e_dl, p1']
    rcases W with ⟨q2, w1, w2, w3, w4, w5⟩ | ⟨w1, w2, w3, w4⟩ | ⟨w1, w2, w3, w4⟩
    · rw [w4, if_neg (by decide), if_neg (by decide)]
      have ih := dl_rel k (B + 1) (e_tpass e 1) (m_hour M) (by omega) (by rw [p1']; exact k2) tM (by rw [p1']; exact ⟨q2, w1, w2, w3⟩) (by rw [p1']; exact w4) (w5.trans hw)
      exact ⟨ih.1, ih.2.1, p2.tr ih.2.2⟩
    · have e2 : m_dal k (m_hour M) = m_hour M := by
        cases k with
        | zero => rfl
        | succ k => exact if_pos w3
      rw [w1, if_pos rfl, e2]
      have hnz : ¬ m_wh (m_hour M) = 0 := by
        rw [w4]
        have e3 : h_hour (e_tri e) + 1 = nI (zn32 (h_hour (e_tri e)) + 1) := by rw [nI_succ, ← hh.1]
        have := hh.2
        rw [e3]; exact nI_ne0 (by omega) (by omega)
      rw [if_neg hnz]
      exact ⟨k6.1.trans w4.symm, tM, p2⟩
    · have e2 : m_dal k (m_hour M) = m_hour M := by
        cases k with
        | zero => rfl
        | succ k => exact if_pos w3
      rw [w1, if_neg (by decide), if_pos rfl, e2]
      rw [if_pos (w4.trans hw)]
      exact ⟨rfl, tM, p2⟩

theorem HH_hrs {B : Nat} {d : HD} {m : MD} : ∀ n, B + n + 3100 < 2 ^ 30 → HH B d (m_row m) → MX m → HH (B + n) (h_hrs d n) (m_row (m_hrs m n)) ∧ MX (m_hrs m n) ∧ (∀ i, i < n → m_hgood (m_hrs m i))
  | 0, _, h, hx => ⟨h, hx, fun i hi => absurd hi (Nat.not_lt_zero _)⟩
  | n + 1, hB, h, hx => by
    have ih := HH_hrs n (by omega) h hx
    have k := HH_hour (i := n) (by omega) ih.1 ih.2.1
    refine ⟨k.2.1, k.2.2.1, fun i hi => ?_⟩
    by_cases e : i = n
    · subst e; exact k.1
    · exact ih.2.2 i (by omega)
theorem m_da0_f (m : MD) (p : Int32) : m_row (m_da0 m p) = m_row (m_try m) ∧ m_gone (m_da0 m p) = m_gone (m_try m) ∧ m_seen (m_da0 m p) = m_seen (m_try m) ∧ m_wat (m_da0 m p) = p ∧ m_wh (m_da0 m p) = 0 ∧ m_kk (m_try m) (m_da0 m p) := ⟨rfl, rfl, rfl, rfl, rfl, (m_kk.wat _ _).tr (m_kk.wh _ _)⟩
theorem e_twat_f (e : ED) (p : Int32) : e_tri (e_twat e p) = h_spl (e_tri e) (p_watch (h_pl (e_tri e)) p) ∧ e_kt e (e_twat e p) := ⟨rfl, e_kt.stri _ _⟩
theorem p_watch_f (d : HD) (p : Int32) : p_num (h_pl (h_spl d (p_watch (h_pl d) p))) = p_num (h_pl d) ∧ p_wat (h_pl (h_spl d (p_watch (h_pl d) p))) = p ∧ p_wf (h_pl (h_spl d (p_watch (h_pl d) p))) = 0 := ⟨rfl, rfl, rfl⟩
theorem m_da1_wh (M : MD) : m_wh (m_da1 M) = m_wh M := rfl
theorem S_doneAt {B : Nat} {e : ED} {m : MD} (hB : B + 4100 < 2 ^ 30) (h : RR B e m) (p : Int32) : ((e_doneAt e p).1 = (m_doneAt m p).1 ∧ RR B (e_doneAt e p).2 (m_doneAt m p).2) ∧ (∀ i, i < 1000 → m_hgood (m_hrs (m_da0 m p) i)) := by
  obtain ⟨t1, t2, t3⟩ := RN_try h
  obtain ⟨d1, d2, d3, d4, d5, d6⟩ := m_da0_f m p
  have hx : MX (m_da0 m p) := fun q hq => by rw [d2, d3]; exact t3.2.2.1 q hq
  have G := HH_hrs (m := m_da0 m p) 1000 (by omega) (by rw [d1]; exact t3.1) hx
  refine ⟨?_, G.2.2⟩
  have hok := e_doneAt_ok (p := p) h.1
  have hsw := HH_isP h.2.1.1 p
  unfold e_doneAt at hok ⊢
  unfold m_doneAt
  rw [hsw]
  by_cases h1 : p_has (h_pl (e_now e)) p = true
  · rw [if_pos h1] at hok ⊢
    rw [if_pos h1]
    have hp := p_has_in h1 h.2.1.1.2.2.2.2.2.1.1.2
    obtain ⟨q, hq⟩ : ∃ q, q = zn32 p := ⟨_, rfl⟩
    have ep : p = nI q := by rw [hq]; exact hp.1
    have hqN : q < zn32 (p_num (h_pl (e_now e))) := by rw [hq]; exact hp.2.1
    obtain ⟨w1, w2⟩ := e_twat_f (e_try e) p
    obtain ⟨v1, v2, v3⟩ := p_watch_f (e_tri (e_try e)) p
    have eN : p_num (h_pl (e_tri (e_try e))) = p_num (h_pl (e_now e)) := (p_copy_f _ _).1
    have K := dl_rel (m := m) 1000 B (e_twat (e_try e) p) (m_da0 m p) (by omega) (by rw [w1, d1]; exact HH_watch p t3.1) (MT_on t2 d6 hx (fun j _ => by rw [d1])) ⟨q, by rw [w1, v1, eN]; exact hqN, by rw [w1, v2]; exact ep, by rw [d4]; exact ep⟩ (by rw [w1, v3]) d5
    have eW : ∀ M, m_wh (m_da1 M) = m_wh M := m_da1_wh
    rw [eW]
    have F : MT m (m_swat (m_dal 1000 (m_da0 m p)) (-6)) := by
      have k := K.2.1
      generalize m_dal 1000 (m_da0 m p) = M at k ⊢
      exact MT_on k (m_kk.wat M _) (fun r hr => k.2.1 r hr) (fun _ _ => rfl)
    have hR : RR B (e_dl 1000 (e_twat (e_try e) p)).2 (m_da1 (m_dal 1000 (m_da0 m p))) := RR_back h hok ((t1.tr w2).tr K.2.2) F rfl
    have hV := K.1
    generalize m_dal 1000 (m_da0 m p) = M at hV hR ⊢
    by_cases g : m_wh M = 0
    · rw [if_pos g] at hV ⊢; exact ⟨hV, hR⟩
    · rw [if_neg g] at hV ⊢; exact ⟨hV, hR⟩
  · rw [if_neg h1, if_neg h1]; exact ⟨rfl, h⟩
