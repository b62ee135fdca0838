/-! rows of kit/laws -/
theorem wb_tb (n : Nat) : (lN n).toBitVec = BitVec.ofNat 64 n := rfl
theorem wb_inj {a b : Int64} (h : a.toBitVec = b.toBitVec) : a = b := Int64.toBitVec_inj.mp h
theorem wb_tn {n : Nat} (h : n < 2 ^ 64) : (lN n).toBitVec.toNat = n := by rw [wb_tb, BitVec.toNat_ofNat, Nat.mod_eq_of_lt h]
theorem wb_of (x : Int64) : ∃ n, n < 2 ^ 64 ∧ x = lN n := ⟨x.toBitVec.toNat, x.toBitVec.isLt, wb_inj (by rw [wb_tb]; simp)⟩
theorem wb_cu : ∀ k, k < 64 → ((nI k).toInt64.toUInt64 &&& Int64.toUInt64 63) = UInt64.ofNat k := by decide +kernel
theorem wb_shr {n k : Nat} (hn : n < 2 ^ 64) (hk : k < 64) : ((lN n).toUInt64 >>> ((nI k).toInt64.toUInt64 &&& Int64.toUInt64 63)).toInt64 = lN (n / 2 ^ k) := by
  rw [wb_cu k hk]
  apply wb_inj
  apply BitVec.eq_of_toNat_eq
  show ((lN n).toUInt64 >>> UInt64.ofNat k).toNat = (BitVec.ofNat 64 _).toNat
  have h1 : (UInt64.ofNat k).toNat = k := by
    show (BitVec.ofNat 64 k).toNat = k
    rw [BitVec.toNat_ofNat, Nat.mod_eq_of_lt (by omega)]
  have h2 : (lN n).toUInt64.toNat = n := wb_tn hn
  rw [UInt64.toNat_shiftRight, h1, h2, Nat.mod_eq_of_lt hk, Nat.shiftRight_eq_div_pow, BitVec.toNat_ofNat, Nat.mod_eq_of_lt (Nat.lt_of_le_of_lt (Nat.div_le_self _ _) hn)]
theorem lN_bv (n : Nat) : (lN n).toBitVec = BitVec.ofNat 64 n := rfl
theorem lN_nat {n : Nat} (h : n < 2 ^ 64) : (lN n).toBitVec.toNat = n := by rw [lN_bv, BitVec.toNat_ofNat]; exact Nat.mod_eq_of_lt h
theorem fa_and (a b : Nat) : nI a &&& nI b = nI (a &&& b) := by
  apply Int32.toBitVec_inj.1
  show BitVec.ofNat 32 a &&& BitVec.ofNat 32 b = BitVec.ofNat 32 (a &&& b)
  apply BitVec.eq_of_getLsbD_eq
  intro i hi
  simp [hi]
theorem fa_mask (n k : Nat) : nI n &&& nI (2 ^ k - 1) = nI (n % 2 ^ k) := by rw [fa_and, Nat.and_two_pow_sub_one_eq_mod]

/-! THE RELATION: characters put. -/
def cd (C k : Nat) : Nat := C / 2 ^ (8 * k) % 256
theorem cd_ush {C k : Nat} (hC : C < 2 ^ 64) (hk : k < 8) : z_ush (lN C) (nI k) = lN (C / 2 ^ (8 * k)) := by
  unfold z_ush
  rw [show (8 : Int32) = nI 8 from rfl, pk_mul]
  exact wb_shr hC (by omega)
theorem cd_code {C k : Nat} (hC : C < 2 ^ 64) (hk : k < 8) : z_code (lN C) (nI k) = nI (cd C k) := by
  unfold z_code
  rw [cd_ush hC hk, lN_i]
  exact fa_mask _ 8
theorem cd_amt : ∀ k, k < 8 → ((((8 : Int32) * nI k).toInt64 &&& 63).toBitVec.smod 64).toNat = 8 * k := by decide +kernel
theorem cd_m {C k : Nat} (hC : C < 2 ^ 64) (hk : k < 8) : m_pcode (lN C) k = nI (cd C k) := by
  unfold m_pcode
  have e : (lN C >>> (((8 : Int32) * nI k).toInt64 &&& 63)) &&& 255 = lN (cd C k) := by
    apply Int64.toBitVec_inj.mp
    rw [Int64.toBitVec_and, Int64.toBitVec_shiftRight, BitVec.sshiftRight_eq', cd_amt k hk]
    have e2 : (lN (cd C k)).toBitVec = (lN C).toBitVec.ushiftRight (8 * k) &&& (255#64) := by
      apply BitVec.eq_of_toNat_eq
      have h1 : (lN C).toBitVec.toNat = C := lN_nat hC
      have h2 : cd C k < 2 ^ 64 := by unfold cd; omega
      rw [lN_nat h2, BitVec.toNat_and]
      show cd C k = ((lN C).toBitVec >>> (8 * k)).toNat &&& 255
      rw [BitVec.toNat_ushiftRight, h1, Nat.shiftRight_eq_div_pow, show (255 : Nat) = 2 ^ 8 - 1 from rfl, Nat.and_two_pow_sub_one_eq_mod]
      rfl
    rw [e2]
    apply BitVec.eq_of_getLsbD_eq
    intro i hi
    rw [BitVec.getLsbD_and, BitVec.getLsbD_and, BitVec.getLsbD_sshiftRight]
    show _ = (((lN C).toBitVec >>> (8 * k)).getLsbD i && _)
    rw [BitVec.getLsbD_ushiftRight]
    by_cases g : i < 8
    · rw [if_pos (by omega)]
      have : ¬ 64 ≤ i := by omega
      simp [this]
    · have hz : (Int64.toBitVec 255).getLsbD i = false := by
        show (255#64).getLsbD i = false
        rw [BitVec.getLsbD, BitVec.toNat_ofNat]
        exact Nat.testBit_lt_two_pow (Nat.lt_of_lt_of_le (show 255 % 2 ^ 64 < 2 ^ 8 by decide) (Nat.pow_le_pow_right (by decide) (by omega)))
      rw [hz]
      have hz2 : (255#64).getLsbD i = false := hz
      rw [hz2, Bool.and_false, Bool.and_false]
  rw [e]; exact lN_i _

theorem cd_split (C k : Nat) : C / 2 ^ (8 * k) = 256 * (C / 2 ^ (8 * (k + 1))) + cd C k := by
  unfold cd
  rw [show 8 * (k + 1) = 8 * k + 8 by omega, Nat.pow_add, ← Nat.div_div_eq_div_mul]
  have := Nat.div_add_mod (C / 2 ^ (8 * k)) 256
  omega
theorem cd_lt (C k : Nat) : cd C k < 256 := Nat.mod_lt _ (by decide)
theorem cd_0 {C k : Nat} : nI (cd C k) = 0 ↔ cd C k = 0 := by
  have := cd_lt C k
  exact nI_eq (b := 0) (by omega) (by decide)
theorem m_pl_b {c : Int64} : ∀ (f k n : Nat) (e : Bool), (m_pl c f k n e true).2 = true
  | 0, _, _, _ => rfl
  | f + 1, k, n, e => by
    rw [m_pl]
    have : m_pb c k (m_pe c k e) true = true := rfl
    rw [this]; exact m_pl_b f _ _ _
theorem m_pl_e {C : Nat} (hC : C < 2 ^ 64) : ∀ (f k n : Nat), k + f = 8 → (m_pl (lN C) f k n true false).1 = n ∧ ((m_pl (lN C) f k n true false).2 = true ↔ ¬ C / 2 ^ (8 * k) = 0)
  | 0, k, n, h => by
    have : k = 8 := by omega
    subst this
    refine ⟨rfl, fun z => (by cases z), fun z => absurd (Nat.div_eq_of_lt hC) z⟩
  | f + 1, k, n, h => by
    rw [m_pl]
    have e1 : m_pe (lN C) k true = true := rfl
    have e2 : m_pn n true = n := rfl
    have e3 : m_pb (lN C) k true false = (if m_pcode (lN C) k = 0 then false else true) := rfl
    rw [e1, e2, e3, cd_m hC (by omega)]
    have sp := cd_split C k
    by_cases g : cd C k = 0
    · rw [if_pos (cd_0.mpr g)]
      have ih := m_pl_e hC f (k + 1) n (by omega)
      exact ⟨ih.1, by rw [ih.2]; omega⟩
    · rw [if_neg (fun z => g (cd_0.mp z))]
      have h1 : ∀ (f k n : Nat), (m_pl (lN C) f k n true true).1 = n := by
        intro f
        induction f with
        | zero => exact fun _ _ => rfl
        | succ f ih => intro k n; rw [m_pl]; exact ih _ _
      exact ⟨h1 f (k + 1) n, fun _ => by omega, fun _ => m_pl_b _ _ _ _⟩
theorem q_put {C : Nat} (hC : C < 2 ^ 64) : ∀ (f k : Nat), k + f = 8 → (1 ≤ k ∨ ¬ C / 2 ^ (8 * k) = 0) → (z_ci (lN C) f k < 1 ↔ (m_pl (lN C) f k k false false).2 = true) ∧ ((m_pl (lN C) f k k false false).2 = false → z_ci (lN C) f k = nI (m_pl (lN C) f k k false false).1)
  | 0, k, h, _ => by
    have : k = 8 := by omega
    subst this
    exact ⟨⟨fun z => absurd z (show ¬ (8 : Int32) < 1 by decide), fun z => (by cases z)⟩, fun _ => rfl⟩
  | f + 1, k, h, hz => by
    have hk : k < 8 := by omega
    have sp := cd_split C k
    have hl := cd_lt C k
    rw [m_pl, z_ci, cd_code hC hk, cd_ush hC hk]
    have e1 : m_pe (lN C) k false = (if m_pcode (lN C) k = 0 then true else false) := rfl
    rw [e1, cd_m hC hk]
    by_cases g : cd C k = 0
    · rw [if_pos (cd_0.mpr g), if_pos (cd_0.mpr g)]
      have e2 : m_pn k true = k := rfl
      have e3 : m_pb (lN C) k true false = (if m_pcode (lN C) k = 0 then false else true) := rfl
      rw [e2, e3, cd_m hC hk, if_pos (cd_0.mpr g)]
      have E := m_pl_e hC f (k + 1) k (by omega)
      have hdz : lN (C / 2 ^ (8 * k)) = 0 ↔ C / 2 ^ (8 * k) = 0 := by
        have hd : C / 2 ^ (8 * k) < 2 ^ 64 := Nat.lt_of_le_of_lt (Nat.div_le_self _ _) hC
        constructor
        · intro z
          have h1 := congrArg (fun x => x.toBitVec.toNat) z
          have h2 : (lN (C / 2 ^ (8 * k))).toBitVec.toNat = (0 : Int64).toBitVec.toNat := h1
          rw [lN_nat hd] at h2
          exact h2
        · intro z; rw [z]; rfl
      by_cases g2 : C / 2 ^ (8 * k) = 0
      · rw [if_pos (hdz.mpr g2)]
        have hb : ¬ (m_pl (lN C) f (k + 1) k true false).2 = true := by rw [E.2]; omega
        have hk1 : 1 ≤ k := hz.elim id (fun z => absurd g2 z)
        refine ⟨⟨fun z => absurd z (nI_nlt (b := 1) hk1 (by omega)), fun z => absurd z hb⟩, fun _ => by rw [E.1]⟩
      · rw [if_neg (fun z => g2 (hdz.mp z))]
        have hb : (m_pl (lN C) f (k + 1) k true false).2 = true := by rw [E.2]; omega
        exact ⟨⟨fun _ => hb, fun _ => by decide⟩, fun z => by rw [hb] at z; cases z⟩
    · rw [if_neg (fun z => g (cd_0.mp z)), if_neg (fun z => g (cd_0.mp z))]
      have e2 : m_pn k false = k + 1 := rfl
      have e3 : m_pb (lN C) k false false = (if m_pcode (lN C) k = 0 then false else if z_inl (m_pcode (lN C) k).toInt64 33 126 then false else true) := rfl
      rw [e2, e3, cd_m hC hk, if_neg (fun z => g (cd_0.mp z)), show z_inl (nI (cd C k)).toInt64 33 126 = z_in (nI (cd C k)) 33 126 from z_in_l _ 33 126]
      by_cases g2 : z_in (nI (cd C k)) 33 126 = true
      · rw [if_pos g2, if_pos g2]
        exact q_put hC f (k + 1) (by omega) (Or.inl (by omega))
      · rw [if_neg g2, if_neg g2]
        have hb := m_pl_b (c := lN C) f (k + 1) (k + 1) false
        exact ⟨⟨fun _ => hb, fun _ => by decide⟩, fun z => by rw [hb] at z; cases z⟩
def m_kq (a b : MD) : Prop := m_row b = m_row a ∧ m_sts b = m_sts a ∧ m_sav b = m_sav a ∧ m_rea b = m_rea a ∧ m_wat b = m_wat a ∧ m_gone b = m_gone a ∧ m_seen b = m_seen a
theorem m_kq.rf (a : MD) : m_kq a a := ⟨rfl, rfl, rfl, rfl, rfl, rfl, rfl⟩
theorem m_kq.tr {a b c : MD} (h : m_kq a b) (k : m_kq b c) : m_kq a c := by
  obtain ⟨h1, h2, h3, h4, h5, h6, h7⟩ := h
  obtain ⟨k1, k2, k3, k4, k5, k6, k7⟩ := k
  exact ⟨k1.trans h1, k2.trans h2, k3.trans h3, k4.trans h4, k5.trans h5, k6.trans h6, k7.trans h7⟩
theorem RR_pad {B : Nat} {e e2 : ED} {m m2 : MD} {a : AD} (h : RR B e m) (hok : e_ok e2) (he : e2 = e_spad e a) (hk : m_kq m m2) (hP : RP a m2) : RR B e2 m2 := by
  subst he
  obtain ⟨k1, k2, k3, k4, k5, k6, k7⟩ := hk
  exact ⟨hok, ⟨by rw [k1]; exact h.2.1.1, h.2.1.2.1, fun p hp => by rw [k6, k7]; exact h.2.1.2.2.1 p hp, k5.trans h.2.1.2.2.2⟩, RI_of h.2.2.1 k2 (fun j _ _ => by rw [k1]) h.1.2.2.1.2.2, RS_of h.2.2.2.1 k3 (fun j _ _ => by rw [k1]), k4.trans h.2.2.2.2.1, hP⟩
theorem a_app_f (d : AD) (v : Int32) : a_len (a_app d v) = a_len d + 1 ∧ a_sig (a_app d v) = upd (a_sig d) (zn32 (a_len d)) v ∧ a_kin (a_app d v) = a_kin d ∧ a_ord (a_app d v) = a_ord d := ⟨rfl, rfl, rfl, rfl⟩
theorem m_app_f (m : MD) (v : Int32) : m_len (m_slen (m_spad m (upd (m_pad m) (zn32 (m_len m)) v)) (m_len m + 1)) = m_len m + 1 ∧ m_pad (m_slen (m_spad m (upd (m_pad m) (zn32 (m_len m)) v)) (m_len m + 1)) = upd (m_pad m) (zn32 (m_len m)) v ∧ m_kq m (m_slen (m_spad m (upd (m_pad m) (zn32 (m_len m)) v)) (m_len m + 1)) := ⟨rfl, rfl, rfl, rfl, rfl, rfl, rfl, rfl, rfl⟩
theorem papp_rel {C : Nat} (hC : C < 2 ^ 64) : ∀ (k : Nat) (d : AD) (m : MD), k ≤ 8 → RP d m → zok (m_len m) 80 → zn32 (m_len m) + k ≤ 80 → RP (z_app (lN C) k d) (m_papp (lN C) k m) ∧ m_kq m (m_papp (lN C) k m)
  | 0, d, m, _, h, _, _ => ⟨h, m_kq.rf m⟩
  | k + 1, d, m, hk, h, hl, hlk => by
    rw [z_app, m_papp, cd_code hC (by omega), cd_m hC (by omega)]
    have q := m_len_in hl hlk
    have A := a_app_f d (nI (cd C k))
    have M := m_app_f m (nI (cd C k))
    generalize a_app d (nI (cd C k)) = d2 at A ⊢
    generalize m_slen (m_spad m (upd (m_pad m) (zn32 (m_len m)) (nI (cd C k)))) (m_len m + 1) = m2 at M ⊢
    obtain ⟨a1, a2, a3, a4⟩ := A
    obtain ⟨b1, b2, b3⟩ := M
    have hz : zn32 (m_len m + 1) = zn32 (m_len m) + 1 := (q_s_lt hl (by decide)).2.2.2
    have hR : RP d2 m2 := by
      refine ⟨by rw [b1, a1, h.1], fun i hi => ?_⟩
      rw [a1, ← h.1, hz] at hi
      rw [b2, a2, ← h.1]
      by_cases g : i = zn32 (m_len m)
      · subst g; rw [pk_us, pk_us]
      · rw [pk_un g, pk_un g]; exact h.2 i (by rw [← h.1]; omega)
    have ih := papp_rel hC k d2 m2 (by omega) hR (by rw [b1]; exact q.2.1) (by rw [b1]; exact q.2.2)
    exact ⟨ih.1, b3.tr ih.2⟩
theorem z_app_k {C : Nat} (hC : C < 2 ^ 64) : ∀ (k : Nat) (d : AD), k ≤ 8 → a_okc (a_sig d) → a_okc (a_sig (z_app (lN C) k d)) ∧ a_kin (z_app (lN C) k d) = a_kin d ∧ a_ord (z_app (lN C) k d) = a_ord d
  | 0, _, _, h => ⟨h, rfl, rfl⟩
  | k + 1, d, hk, h => by
    rw [z_app, cd_code hC (by omega)]
    have A := a_app_f d (nI (cd C k))
    generalize a_app d (nI (cd C k)) = d2 at A ⊢
    obtain ⟨a1, a2, a3, a4⟩ := A
    have ih := z_app_k hC k d2 (by omega) (by
      rw [a2]; intro i
      by_cases g : i = zn32 (a_len d)
      · subst g; rw [pk_us]; exact (z_char256 _ (cd_lt C k)).2
      · rw [pk_un g]; exact h i)
    exact ⟨ih.1, ih.2.1.trans a3, ih.2.2.trans a4⟩
theorem S_put {B : Nat} {e : ED} {m : MD} (h : RR B e m) (c : Int64) : (e_put e c).1 = (m_put m c).1 ∧ RR B (e_put e c).2 (m_put m c).2 := by
  obtain ⟨C, hC, rfl⟩ := wb_of c
  have hl := RR_len h
  have hP := h.2.2.2.2.2
  unfold e_put m_put m_pr
  have hc0 : lN C = 0 ↔ C = 0 := by
    constructor
    · intro z
      have h1 := congrArg (fun x => x.toBitVec.toNat) z
      have h2 : (lN C).toBitVec.toNat = (0 : Int64).toBitVec.toNat := h1
      rw [lN_nat hC] at h2; exact h2
    · intro z; rw [z]; rfl
  by_cases g0 : C = 0
  · rw [decide_eq_true (hc0.mpr g0), m_pl_b, if_pos rfl]
    have : z_ci (lN C) 8 0 < 1 := by rw [g0]; decide
    rw [if_pos this]; exact ⟨rfl, h⟩
  · rw [decide_eq_false (fun z => g0 (hc0.mp z))]
    have q := q_put hC 8 0 (by decide) (Or.inr (by rw [Nat.mul_zero, Nat.pow_zero, Nat.div_one]; exact g0))
    have h8 := m_pl_8 (lN C) 8 0 0 false false (Nat.le_refl _)
    generalize m_pl (lN C) 8 0 0 false false = p at q h8 ⊢
    by_cases g1 : p.2 = true
    · rw [if_pos g1, if_pos (q.1.mpr g1)]; exact ⟨rfl, h⟩
    · rw [if_neg g1, if_neg (fun z => g1 (q.1.mp z)), q.2 (Bool.eq_false_iff.mpr g1), ← hP.1, zn_nI (by omega)]
      by_cases g2 : m_len m + nI p.1 ≤ 80
      · rw [if_pos g2, if_pos g2]
        have h80 := m_len_80 hl (by omega) g2
        have K := papp_rel hC p.1 (e_pad e) m (by omega) hP hl h80
        have Z := z_app_k hC p.1 (e_pad e) (by omega) h.1.2.2.2.2.2.2.1
        have ok := z_app_ok (lN C) p.1 (e_pad e) h.1.2.2.2.2.2 (by rw [← hP.1]; exact h80)
        exact ⟨K.1.1.symm, RR_pad h (e_ok_pad h.1 ok.1) rfl K.2 K.1⟩
      · rw [if_neg g2, if_neg g2]; exact ⟨rfl, h⟩
theorem S_wipe {B : Nat} {e : ED} {m : MD} (h : RR B e m) : (e_wipe e).1 = m_len m ∧ RR B (e_wipe e).2 (m_slen m 0) := by
  refine ⟨h.2.2.2.2.2.1.symm, ?_⟩
  exact RR_pad (a := a_slen (e_pad e) 0) h (e_wipe_ok h.1) rfl ⟨rfl, rfl, rfl, rfl, rfl, rfl, rfl⟩ ⟨rfl, fun i hi => absurd hi (by show ¬ i < zn32 0; exact Nat.not_lt_zero _)⟩
