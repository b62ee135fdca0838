
/-! What must hold of all accounts does hold. -/
theorem i_add4 (a b c d : Int32) : a + b + (c + d) = a + c + (b + d) := by
  rw [Int32.add_assoc, Int32.add_assoc, ← Int32.add_assoc b c d, Int32.add_comm b c, Int32.add_assoc c b d]
def SS (f : Nat → Int32) (c : Nat) : Int32 := zit (fun s x => x + f s) 0 c
theorem SS_s (f : Nat → Int32) (c : Nat) : SS f (c + 1) = SS f c + f c := rfl
theorem SS_c {f f2 : Nat → Int32} : ∀ {c : Nat}, (∀ s, s < c → f2 s = f s) → SS f2 c = SS f c
  | 0, _ => rfl
  | c + 1, h => by rw [SS_s, SS_s, h c (Nat.lt_succ_self c), SS_c (c := c) (fun s hs => h s (Nat.lt_succ_of_lt hs))]
theorem SS_add (f h : Nat → Int32) : ∀ c, SS (fun s => f s + h s) c = SS f c + SS h c
  | 0 => by show (0 : Int32) = 0 + 0; decide
  | c + 1 => by rw [SS_s, SS_s, SS_s, SS_add f h c, i_add4]
theorem SS_ite (b : Nat) (v : Int32) : ∀ c, SS (fun s => if b = s then v else 0) c = if b < c then v else 0
  | 0 => by rw [if_neg (Nat.not_lt_zero b)]; rfl
  | c + 1 => by
    rw [SS_s, SS_ite b v c]
    by_cases h : b = c
    · rw [if_neg (by omega), if_pos h, if_pos (by omega), Int32.zero_add]
    · rw [if_neg h, Int32.add_zero]
      by_cases h2 : b < c
      · rw [if_pos h2, if_pos (by omega)]
      · rw [if_neg h2, if_neg (by omega)]
/-- counted by services, and all at once -/
theorem SS_dc {c N : Nat} {G : Nat → Nat → Int32} {key : Nat → Nat} {val : Nat → Int32} (h0 : ∀ s, G s 0 = 0) (h1 : ∀ s n, s < c → n < N → G s (n + 1) = G s n + (if key n = s then val n else 0)) (hk : ∀ n, n < N → key n < c) : ∀ n, n ≤ N → SS (fun s => G s n) c = SS val n
  | 0, _ => by
    have : ∀ c, SS (fun s => G s 0) c = 0 := fun c => by
      induction c with
      | zero => rfl
      | succ c ih => rw [SS_s, ih, h0]; decide
    exact this c
  | n + 1, hn => by
    rw [SS_s, ← SS_dc h0 h1 hk n (by omega)]
    rw [SS_c (f := fun s => G s n + (if key n = s then val n else 0)) (fun s hs => h1 s n hs (by omega)), SS_add, SS_ite, if_pos (hk n (by omega))]
theorem r_lcnt_s (r : RW) (k : Nat) (s : Int32) (n : Nat) : r_lcnt r k s (n + 1) = r_lcnt r k s n + (if r (134 + 5 * n + k) = s.toInt64 then 1 else 0) := by
  rw [r_lcnt]; split <;> rfl
theorem r_lsum_s (r : RW) (k : Nat) (s : Int32) (n : Nat) : r_lsum r k s (n + 1) = r_lsum r k s n + (if r (134 + 5 * n + k) = s.toInt64 then (r (134 + 5 * n + 3)).toInt32 else 0) := by
  rw [r_lsum]; split <;> rfl
theorem r_pcnt_s (r : RW) (s : Int32) (n : Nat) : r_pcnt r s (n + 1) = r_pcnt r s n + (if r (334 + 4 * n + 0) = s.toInt64 then 1 else 0) := by
  rw [r_pcnt]; split <;> rfl
theorem lN_inj {a b : Nat} (ha : a < 2 ^ 31) (hb : b < 2 ^ 31) : lN a = lN b ↔ a = b := by
  constructor
  · intro h
    have := congrArg Int64.toInt h
    rw [lN_toInt ha, lN_toInt hb] at this
    omega
  · intro h; rw [h]
theorem i_sub_sub (a b c : Int32) : a - b - c = a - (b + c) := by
  rw [Int32.sub_eq_add_neg, Int32.sub_eq_add_neg, Int32.sub_eq_add_neg, Int32.neg_add, Int32.sub_eq_add_neg, Int32.add_assoc]
theorem SS_1 : ∀ n, SS (fun _ => 1) n = nI n
  | 0 => by decide
  | n + 1 => by rw [SS_s, SS_1 n, nI_succ]
/-- integers -/
def zsn (f : Nat → Int) : Nat → Int
  | 0 => 0
  | n + 1 => zsn f n + f n
theorem zsn_8 (f : Nat → Int) : zs8 f = zsn f 8 := by
  unfold zs8
  show _ = 0 + f 0 + f 1 + f 2 + f 3 + f 4 + f 5 + f 6 + f 7
  omega
theorem zsn_z {f : Nat → Int} {c : Nat} (h : ∀ s, c ≤ s → s < 8 → f s = 0) : ∀ n, c + n ≤ 8 → zsn f (c + n) = zsn f c
  | 0, _ => rfl
  | n + 1, hn => by
    show zsn f (c + n) + f (c + n) = _
    rw [zsn_z h n (by omega), h (c + n) (by omega) (by omega), Int.add_zero]
theorem zsn_b {f : Nat → Int} {K : Int} (hK : 0 ≤ K) : ∀ n, (∀ s, s < n → -K ≤ f s ∧ f s ≤ K) → -(K * n) ≤ zsn f n ∧ zsn f n ≤ K * n
  | 0, _ => by show -(K * ((0 : Nat) : Int)) ≤ 0 ∧ 0 ≤ K * ((0 : Nat) : Int); rw [show ((0 : Nat) : Int) = 0 from rfl, Int.mul_zero]; exact ⟨by omega, by omega⟩
  | n + 1, h => by
    have i := zsn_b hK n (fun s hs => h s (by omega))
    have k := h n (Nat.lt_succ_self n)
    have e : K * ((n + 1 : Nat) : Int) = K * (n : Int) + K := by rw [show ((n + 1 : Nat) : Int) = (n : Int) + 1 by omega, Int.mul_add, Int.mul_one]
    rw [e]
    show -(K * (n : Int) + K) ≤ zsn f n + f n ∧ zsn f n + f n ≤ K * (n : Int) + K
    omega
/-- a sum of differences of accounts, over the services -/
theorem zit_t {u w : Nat → Int64} {f : Nat → Int} {K : Int} (hK : 0 ≤ K ∧ K ≤ 100000000000000000) : ∀ n, n ≤ 8 → (∀ s, s < n → (u s - w s).toInt = f s ∧ -K ≤ f s ∧ f s ≤ K) → (zit (fun s x => x + (u s - w s)) (0 : Int64) n).toInt = zsn f n
  | 0, _, _ => by show (0 : Int64).toInt = 0; decide
  | n + 1, hn, h => by
    have i := zit_t (f := f) hK n (by omega) (fun s hs => h s (by omega))
    obtain ⟨k1, k2, k3⟩ := h n (Nat.lt_succ_self n)
    have b := zsn_b (f := f) hK.1 n (fun s hs => (h s (by omega)).2)
    have e8 : K * (n : Int) ≤ K * 8 := Int.mul_le_mul_of_nonneg_left (by omega) hK.1
    show (zit (fun s x => x + (u s - w s)) (0 : Int64) n + (u n - w n)).toInt = zsn f n + f n
    rw [t_add (by rw [i, k1]; omega) (by rw [i, k1]; omega), i, k1]
section SNDP
variable {B c F : Nat} {e : ED} {r : RW}
theorem sn_has (hH : HH B (e_now e) r) (iv : IV c F r) {s : Nat} (hs : s < c) : r_isS r (nI s) = true := by
  have h8 := iv.1
  have e1 : (nI s).toInt64 = lN s := nI_l (by omega)
  unfold r_isS z_inl
  rw [e1, iv.2.1]
  have h0 : ¬ lN s < 0 := fun z => by have := t_lt.mp z; rw [lN_toInt (by omega), show (0 : Int64).toInt = 0 by decide] at this; omega
  have h1 : lN s ≤ lN c - 1 := Int64.le_iff_toInt_le.mpr (by rw [lN_toInt (by omega), lN_pred (by omega)]; omega)
  rw [if_neg h0, if_pos h1]
theorem z_inl_7 : ∀ t, t < 8 → z_inl (nI t).toInt64 0 7 = true := by decide +kernel
theorem sn_acc (hH : HH B (e_now e) r) (iv : IV c F r) {s t : Nat} (hs : s < c) (ht : t < 8) : e_account e (nI s) (nI t) = r (14 + 15 * s + (7 + t)) := by
  have h8 := iv.1
  rw [O_account (m := mO r e) hH]
  unfold m_account
  have h1 : r_isS (m_row (mO r e)) (nI s) = true := sn_has hH iv hs
  rw [if_pos h1, if_pos (z_inl_7 t ht), zn_nI (by omega), zn_nI (by omega)]
  show r (14 + 15 * s + 7 + t) = _
  rw [show 14 + 15 * s + 7 + t = 14 + 15 * s + (7 + t) by omega]
theorem sn_left (hH : HH B (e_now e) r) (iv : IV c F r) {s : Nat} (hs : s < c) : e_account e (nI s) 8 = r (14 + 15 * s + 1) := by
  have h8 := iv.1
  rw [O_account (m := mO r e) hH]
  unfold m_account
  have h1 : r_isS (m_row (mO r e)) (nI s) = true := sn_has hH iv hs
  rw [if_pos h1, if_neg (by decide), if_pos rfl, zn_nI (by omega)]
  rfl
theorem sn_srv (hH : HH B (e_now e) r) (iv : IV c F r) {s : Nat} (hs : s < c) : e_ofService e (nI s) 1 = (r (14 + 15 * s + 3)).toInt32 ∧ e_ofService e (nI s) 2 = (r (14 + 15 * s + 2)).toInt32 ∧ e_ofService e (nI s) 3 = r_lcnt r 1 (nI s) (zn64 (r 12)) ∧ e_ofService e (nI s) 4 = r_lcnt r 0 (nI s) (zn64 (r 12)) ∧ e_ofService e (nI s) 5 = r_lsum r 1 (nI s) (zn64 (r 12)) ∧ e_ofService e (nI s) 6 = r_lsum r 0 (nI s) (zn64 (r 12)) ∧ e_ofService e (nI s) 7 = r_pcnt r (nI s) (zn64 (r 13)) ∧ e_ofService e (nI s) 8 = (r (14 + 15 * s + 4)).toInt32 ∧ e_ofService e (nI s) 10 = (r (14 + 15 * s + 6)).toInt32 := by
  have h8 := iv.1
  have h1 : r_isS (m_row (mO r e)) (nI s) = true := sn_has hH iv hs
  have hz : zn32 (nI s) = s := zn_nI (by omega)
  refine ⟨?_, ?_, ?_, ?_, ?_, ?_, ?_, ?_, ?_⟩ <;> rw [O_ofService (m := mO r e) hH] <;> unfold m_ofService <;> rw [if_pos h1, hz] <;> rfl
theorem sn_cnt (hH : HH B (e_now e) r) (iv : IV c F r) : e_count e 3 = nI c ∧ zn32 (e_count e 3) = c ∧ e_count e 4 = r_fset r c ∧ (∃ n, n ≤ 40 ∧ r 12 = lN n ∧ zn32 (e_count e 5) = n ∧ zn64 (r 12) = n ∧ e_count e 5 = nI n) ∧ (∃ k, k ≤ 30 ∧ r 13 = lN k ∧ e_count e 6 = nI k ∧ zn64 (r 13) = k ∧ zn32 (e_count e 6) = k) := by
  have h8 := iv.1
  have hc := HH_cnt hH iv.2.1 h8
  obtain ⟨n, n1, n2, -⟩ := iv.2.2.2.1
  obtain ⟨k, k1, k2, -⟩ := iv.2.2.2.2.1
  have e5 : e_count e 5 = nI n := by
    rw [O_count (m := mO r e) hH rfl rfl rfl]
    show (r 12).toInt32 = nI n
    rw [n2, lN_i]
  have e6 : e_count e 6 = nI k := by
    rw [O_count (m := mO r e) hH rfl rfl rfl]
    show (r 13).toInt32 = nI k
    rw [k2, lN_i]
  refine ⟨hc.2, hc.1, ?_, ⟨n, n1, n2, by rw [e5]; exact zn_nI (by omega), zn64_e n2 (by omega), e5⟩, ⟨k, k1, k2, e6, zn64_e k2 (by omega), by rw [e6]; exact zn_nI (by omega)⟩⟩
  rw [O_count (m := mO r e) hH rfl rfl rfl]
  show r_fset r (zn64 (r 11)) = _
  rw [zn64_e iv.2.1 (by omega)]
theorem z_shl0 : ∀ n, n < 8 → (0 : Int32) <<< (nI n &&& 31) = 0 := by decide +kernel
theorem SND_of (hF : F < 1000000000) (hH : HH B (e_now e) r) (iv : IV c F r) : SND e := by
  have h8 := iv.1
  obtain ⟨c1, c2, c3, ⟨n, n1, n2, n3, n4, n5⟩, ⟨k, k1, k2, k3, k4, k5⟩⟩ := sn_cnt hH iv
  obtain ⟨n0, m1, m2, m3⟩ := iv.2.2.2.1
  have en : n0 = n := by rw [n2] at m2; exact ((lN_inj (by omega) (by omega)).mp m2).symm
  subst en
  obtain ⟨k0, p1, p2, p3⟩ := iv.2.2.2.2.1
  have ek : k0 = k := by rw [k2] at p2; exact ((lN_inj (by omega) (by omega)).mp p2).symm
  subst ek
  have A := iv.2.2.1
  have t0 : (0 : Int64).toInt = 0 := by decide
  have t1 : (1 : Int64).toInt = 1 := by decide
  have acc : ∀ s t, s < c → t < 8 → (e_account e (nI s) (nI t)).toInt = gA r s (7 + t) := fun s t hs ht => by rw [sn_acc hH iv hs ht]; rfl
  have hZ : ∀ s k, c ≤ s → s < 8 → k < 15 → gA r s k = 0 := fun s k h1 h2 h3 => by
    unfold gA; rw [hH.2.2.1 s k (by rw [(HH_cnt hH iv.2.1 h8).1]; exact h1) h2 h3]; decide
  have dif : ∀ (a b : Nat), a < 8 → b < 8 → ∀ s, s < c → (e_account e (nI s) (nI a) - e_account e (nI s) (nI b)).toInt = gA r s (7 + a) - gA r s (7 + b) ∧ -30000000000000000 ≤ gA r s (7 + a) - gA r s (7 + b) ∧ gA r s (7 + a) - gA r s (7 + b) ≤ 30000000000000000 := fun a b ha hb s hs => by
    have ba : ∀ k, k < 8 → 0 ≤ gA r s (7 + k) ∧ gA r s (7 + k) ≤ 30000000 * (F : Int) := fun k hk => by
      obtain ⟨-, ⟨b1, b2, b3, b4, b5, b6, b7, b8⟩, -⟩ := A.1 s (by omega)
      match k, hk with
      | 0, _ => exact ⟨b1.1, by show gA r s 7 ≤ _; omega⟩
      | 1, _ => exact ⟨b2.1, by show gA r s 8 ≤ _; omega⟩
      | 2, _ => exact ⟨b3.1, by show gA r s 9 ≤ _; omega⟩
      | 3, _ => exact ⟨b4.1, by show gA r s 10 ≤ _; omega⟩
      | 4, _ => exact ⟨b5.1, by show gA r s 11 ≤ _; omega⟩
      | 5, _ => exact ⟨b6.1, by show gA r s 12 ≤ _; omega⟩
      | 6, _ => exact ⟨b7.1, by show gA r s 13 ≤ _; omega⟩
      | 7, _ => exact ⟨b8.1, by show gA r s 14 ≤ _; omega⟩
      | _ + 8, h => exact absurd h (by omega)
    have x := ba a ha
    have y := ba b hb
    rw [t_sub (by rw [acc s a hs ha, acc s b hs hb]; omega) (by rw [acc s a hs ha, acc s b hs hb]; omega), acc s a hs ha, acc s b hs hb]
    exact ⟨rfl, by omega, by omega⟩
  have keyA : ∀ l, l < n0 → ∃ a b, a < c ∧ b < c ∧ a ≠ b ∧ r (134 + 5 * l + 0) = lN a ∧ r (134 + 5 * l + 1) = lN b := fun l hl => by
    obtain ⟨a, b, q1, q2, q3, q4, q5, -⟩ := m3 l hl
    exact ⟨a, b, q1, q2, q3, q4, q5⟩
  have kz : ∀ l k, l < n0 → k < 2 → ∃ a, a < c ∧ zn64 (r (134 + 5 * l + k)) = a ∧ r (134 + 5 * l + k) = lN a := fun l k hl hk => by
    obtain ⟨a, b, q1, q2, q3, q4, q5⟩ := keyA l hl
    match k, hk with
    | 0, _ => exact ⟨a, q1, zn64_e q4 (by omega), q4⟩
    | 1, _ => exact ⟨b, q2, zn64_e q5 (by omega), q5⟩
    | _ + 2, h => exact absurd h (by omega)
  have lsum : ∀ k, k < 2 → SS (fun s => r_lsum r k (nI s) n0) c = SS (fun l => (r (134 + 5 * l + 3)).toInt32) n0 := fun k hk =>
    SS_dc (N := n0) (G := fun s m => r_lsum r k (nI s) m) (key := fun l => zn64 (r (134 + 5 * l + k))) (val := fun l => (r (134 + 5 * l + 3)).toInt32) (fun _ => rfl) (fun s m hs hm => by
      show r_lsum r k (nI s) (m + 1) = _
      rw [r_lsum_s]
      obtain ⟨a, q1, q2, q3⟩ := kz m k hm hk
      rw [q2, q3, nI_l (by omega)]
      by_cases z : a = s
      · rw [if_pos z, if_pos (by rw [z])]
      · rw [if_neg z, if_neg (fun y => z ((lN_inj (by omega) (by omega)).mp y))]) (fun m hm => by
      obtain ⟨a, q1, q2, q3⟩ := kz m k hm hk
      show zn64 _ < c
      rw [q2]; exact q1) n0 (Nat.le_refl _)
  have lcnt : ∀ k, k < 2 → SS (fun s => r_lcnt r k (nI s) n0) c = nI n0 := fun k hk => by
    rw [← SS_1 n0]
    exact SS_dc (N := n0) (G := fun s m => r_lcnt r k (nI s) m) (key := fun l => zn64 (r (134 + 5 * l + k))) (val := fun l => 1) (fun _ => rfl) (fun s m hs hm => by
      show r_lcnt r k (nI s) (m + 1) = _
      rw [r_lcnt_s]
      obtain ⟨a, q1, q2, q3⟩ := kz m k hm hk
      rw [q2, q3, nI_l (by omega)]
      by_cases z : a = s
      · rw [if_pos z, if_pos (by rw [z])]
      · rw [if_neg z, if_neg (fun y => z ((lN_inj (by omega) (by omega)).mp y))]) (fun m hm => by
      obtain ⟨a, q1, q2, q3⟩ := kz m k hm hk
      show zn64 _ < c
      rw [q2]; exact q1) n0 (Nat.le_refl _)
  have pcnt : SS (fun s => r_pcnt r (nI s) k0) c = nI k0 := by
    rw [← SS_1 k0]
    exact SS_dc (N := k0) (G := fun s m => r_pcnt r (nI s) m) (key := fun l => zn64 (r (334 + 4 * l + 0))) (val := fun l => 1) (fun _ => rfl) (fun s m hs hm => by
      show r_pcnt r (nI s) (m + 1) = _
      rw [r_pcnt_s]
      obtain ⟨⟨a, q1, q3⟩, -⟩ := p3 m hm
      rw [zn64_e q3 (by omega), q3, nI_l (by omega)]
      by_cases z : a = s
      · rw [if_pos z, if_pos (by rw [z])]
      · rw [if_neg z, if_neg (fun y => z ((lN_inj (by omega) (by omega)).mp y))]) (fun m hm => by
      obtain ⟨⟨a, q1, q3⟩, -⟩ := p3 m hm
      show zn64 _ < c
      rw [zn64_e q3 (by omega)]; exact q1) k0 (Nat.le_refl _)
  have owe : ∀ m, m ≤ n0 → ∃ v, v ≤ 10000000 * m ∧ SS (fun l => (r (134 + 5 * l + 3)).toInt32) m = nI v := by
    intro m
    induction m with
    | zero => intro _; exact ⟨0, by omega, rfl⟩
    | succ m ih =>
      intro hm
      obtain ⟨v, v1, v2⟩ := ih (by omega)
      obtain ⟨a, b, q1, q2, q3, q4, q5, q6, q7⟩ := m3 m (by omega)
      obtain ⟨w, w1, w2, w3⟩ := t_i32 (v := r (134 + 5 * m + 3)) ⟨q6, by omega⟩
      exact ⟨v + w, by omega, by rw [SS_s, v2, w3, nI_add]⟩
  have sumS : ∀ (w : Int32) (G : Nat → Int32), (∀ s, s < c → e_ofService e (nI s) w = G s) → sSum e w c = SS G c := fun w G h => SS_c (f := G) h
  unfold SND
  rw [c2, n3, k3, c3]
  refine ⟨fun s hs => ⟨fun t h3 h8 => ?_, ?_, ?_, ?_, ?_⟩, fun l hl => ⟨?_, ?_, ?_⟩, ?_, ?_, ?_, ?_, ?_, ?_, ?_, ?_⟩
  · intro z
    have hz := t_lt.mp z
    rw [acc s t hs h8, t0] at hz
    obtain ⟨-, ⟨b1, b2, b3, b4, b5, b6, b7, b8⟩, -⟩ := A.1 s (by omega)
    have hy : t = 3 ∨ t = 4 ∨ t = 5 ∨ t = 6 ∨ t = 7 := by omega
    rcases hy with y | y | y | y | y <;> subst y <;> simp only [Nat.reduceAdd] at hz <;> omega
  · have I := A.1 s (by omega)
    have L := IVs_left I hF
    obtain ⟨g1, ⟨b1, b2, b3, b4, b5, b6, b7, b8⟩, -⟩ := I
    have a0 : (e_account e (nI s) (nI 0)).toInt = gA r s 7 := acc s 0 hs (by decide)
    have a1 : (e_account e (nI s) (nI 1)).toInt = gA r s 8 := acc s 1 hs (by decide)
    have a2 : (e_account e (nI s) (nI 2)).toInt = gA r s 9 := acc s 2 hs (by decide)
    have a3 : (e_account e (nI s) (nI 3)).toInt = gA r s 10 := acc s 3 hs (by decide)
    have a4 : (e_account e (nI s) (nI 4)).toInt = gA r s 11 := acc s 4 hs (by decide)
    have a5 : (e_account e (nI s) (nI 5)).toInt = gA r s 12 := acc s 5 hs (by decide)
    have a6 : (e_account e (nI s) (nI 6)).toInt = gA r s 13 := acc s 6 hs (by decide)
    have a7 : (e_account e (nI s) (nI 7)).toInt = gA r s 14 := acc s 7 hs (by decide)
    have a8 : (e_account e (nI s) 8).toInt = gA r s 1 := by rw [sn_left hH iv hs]; rfl
    have e9 : oF e s (zn32 9) = 0 + e_account e (nI s) (nI 3) + e_account e (nI s) (nI 4) + e_account e (nI s) (nI 5) + e_account e (nI s) (nI 6) + e_account e (nI s) (nI 7) + e_account e (nI s) 8 := by rw [z9]; rfl
    rw [e9]
    show e_account e (nI s) (nI 0) + e_account e (nI s) (nI 1) + e_account e (nI s) (nI 2) = _
    generalize e_account e (nI s) (nI 0) = x0 at a0 ⊢
    generalize e_account e (nI s) (nI 1) = x1 at a1 ⊢
    generalize e_account e (nI s) (nI 2) = x2 at a2 ⊢
    generalize e_account e (nI s) (nI 3) = x3 at a3 ⊢
    generalize e_account e (nI s) (nI 4) = x4 at a4 ⊢
    generalize e_account e (nI s) (nI 5) = x5 at a5 ⊢
    generalize e_account e (nI s) (nI 6) = x6 at a6 ⊢
    generalize e_account e (nI s) (nI 7) = x7 at a7 ⊢
    generalize e_account e (nI s) 8 = x8 at a8 ⊢
    have s1 := t_add (x := x0) (v := x1) (by omega) (by omega)
    have s2 := t_add (x := x0 + x1) (v := x2) (by omega) (by omega)
    have u3 := t_add (x := 0) (v := x3) (by omega) (by omega)
    have u4 := t_add (x := 0 + x3) (v := x4) (by omega) (by omega)
    have u5 := t_add (x := 0 + x3 + x4) (v := x5) (by omega) (by omega)
    have u6 := t_add (x := 0 + x3 + x4 + x5) (v := x6) (by omega) (by omega)
    have u7 := t_add (x := 0 + x3 + x4 + x5 + x6) (v := x7) (by omega) (by omega)
    have u8 := t_add (x := 0 + x3 + x4 + x5 + x6 + x7) (v := x8) (by omega) (by omega)
    exact t_eq (by omega)
  · intro z
    have := t_lt.mp z
    rw [sn_left hH iv hs, t1] at this
    have f := A.2.1 s hs (by unfold gA; omega)
    have e3 : r (14 + 15 * s + 3) = 1 := t_eq (by rw [t1]; exact f)
    rw [(sn_srv hH iv hs).1, e3]; decide
  · have x := (hH.2.1.2.2 s (by omega)).2.2.1
    rw [(sn_srv hH iv hs).2.1, x.1, q_i, x.2.1]
    have := x.2.2
    exact nI_pos (by omega)
  · obtain ⟨-, -, g3, -, g6, g36, -⟩ := A.1 s (by omega)
    rw [(sn_srv hH iv hs).1, (sn_srv hH iv hs).2.2.2.2.2.2.2.2]
    obtain ⟨w, w1, w2, w3⟩ := t_i32 (v := r (14 + 15 * s + 6)) ⟨g6.1, by have := g6.2; unfold gA at this; omega⟩
    have hw : w ≤ F := by have := g6.2; unfold gA at this; omega
    rw [w3]
    rcases g3 with y | y
    · rw [show r (14 + 15 * s + 3) = 0 from t_eq (by rw [t0]; exact y), show (0 : Int64).toInt32 = nI 0 by decide]
      exact nI_nlt (by omega) (by omega)
    · have := g36 y
      rw [show r (14 + 15 * s + 3) = 1 from t_eq (by rw [t1]; exact y), show (1 : Int64).toInt32 = nI 1 by decide]
      exact nI_nlt (by unfold gA at this; omega) (by omega)
  · obtain ⟨a, b, q1, q2, q3, q4, q5, -⟩ := m3 l hl
    have hl2 : l_has (h_lo (e_now e)) (nI l) = true := by
      rw [← HH_isL hH]
      unfold r_isL z_inl
      rw [nI_l (by omega), n2]
      have h0 : ¬ lN l < 0 := fun z => by have := t_lt.mp z; rw [lN_toInt (by omega), t0] at this; omega
      have h1 : lN l ≤ lN n0 - 1 := Int64.le_iff_toInt_le.mpr (by rw [lN_toInt (by omega), lN_pred (by omega)]; omega)
      rw [if_neg h0, if_pos h1]
    rw [O_ofLoan (m := mO r e) hH, O_ofLoan (m := mO r e) hH]
    have h1 : r_isL (m_row (mO r e)) (nI l) = true := by rw [← HH_isL (r := r) hH] at hl2; exact hl2
    unfold m_ofLoan
    rw [if_pos h1, if_pos h1, zn_nI (by omega)]
    show ¬ (r (134 + 5 * l + 0)).toInt32 = (r (134 + 5 * l + 1)).toInt32
    rw [q4, q5, lN_i, lN_i]
    exact fun y => q3 ((nI_eq (by omega) (by omega)).mp y)
  · have w := (hH.2.2.2.2.1 l (by
      have := HL_n hH.2.2.2.1
      rw [n4] at this; omega)).1
    have e3 : e_ofLoan e (nI l) 3 = l_owe (h_lo (e_now e)) l ∨ e_ofLoan e (nI l) 3 = -1 := by
      unfold e_ofLoan; rw [zn_nI (by omega)]
      split
      · exact Or.inl rfl
      · exact Or.inr rfl
    have hl2 : l_has (h_lo (e_now e)) (nI l) = true := by
      rw [← HH_isL hH]
      unfold r_isL z_inl
      rw [nI_l (by omega), n2]
      have h0 : ¬ lN l < 0 := fun z => by have := t_lt.mp z; rw [lN_toInt (by omega), t0] at this; omega
      have h1 : lN l ≤ lN n0 - 1 := Int64.le_iff_toInt_le.mpr (by rw [lN_toInt (by omega), lN_pred (by omega)]; omega)
      rw [if_neg h0, if_pos h1]
    have e4 : e_ofLoan e (nI l) 3 = l_owe (h_lo (e_now e)) l := by unfold e_ofLoan; rw [if_pos hl2, zn_nI (by omega)]; rfl
    rw [e4]
    intro z
    apply w
    rw [Int32.le_iff_toInt_le]
    rw [Int32.lt_iff_toInt_lt] at z
    have a1 : (1 : Int32).toInt = 1 := by decide
    have a0 : (0 : Int32).toInt = 0 := by decide
    omega
  · have w := (hH.2.2.2.2.1 l (by
      have := HL_n hH.2.2.2.1
      rw [n4] at this; omega)).2
    have hl2 : l_has (h_lo (e_now e)) (nI l) = true := by
      rw [← HH_isL hH]
      unfold r_isL z_inl
      rw [nI_l (by omega), n2]
      have h0 : ¬ lN l < 0 := fun z => by have := t_lt.mp z; rw [lN_toInt (by omega), t0] at this; omega
      have h1 : lN l ≤ lN n0 - 1 := Int64.le_iff_toInt_le.mpr (by rw [lN_toInt (by omega), lN_pred (by omega)]; omega)
      rw [if_neg h0, if_pos h1]
    have e4 : e_ofLoan e (nI l) 4 = l_due (h_lo (e_now e)) l := by unfold e_ofLoan; rw [if_pos hl2, zn_nI (by omega)]; rfl
    rw [e4]
    show ¬ l_due (h_lo (e_now e)) l ≤ h_win (e_now e)
    exact Int32.not_le.mpr w
  · apply t_eq
    rw [t0]
    have z := zit_t (u := fun s => e_account e (nI s) 5) (w := fun s => e_account e (nI s) 1) (f := fun s => gA r s 12 - gA r s 8) (K := 30000000000000000) ⟨by omega, by omega⟩ c h8 (fun s hs => dif 5 1 (by decide) (by decide) s hs)
    have y := A.2.2.1
    have z8 := zsn_z (f := fun s => gA r s 12 - gA r s 8) (c := c) (fun s h1 h2 => by
      show gA r s 12 - gA r s 8 = 0
      rw [hZ s 12 h1 h2 (by decide), hZ s 8 h1 h2 (by decide)]; rfl) (8 - c) (by omega)
    rw [Nat.add_sub_cancel' h8] at z8
    rw [zsn_8, z8] at y
    exact z.trans y
  · apply t_eq
    rw [t0]
    have z := zit_t (u := fun s => e_account e (nI s) 6) (w := fun s => e_account e (nI s) 2) (f := fun s => gA r s 13 - gA r s 9) (K := 30000000000000000) ⟨by omega, by omega⟩ c h8 (fun s hs => dif 6 2 (by decide) (by decide) s hs)
    have y := A.2.2.2
    have z8 := zsn_z (f := fun s => gA r s 13 - gA r s 9) (c := c) (fun s h1 h2 => by
      show gA r s 13 - gA r s 9 = 0
      rw [hZ s 13 h1 h2 (by decide), hZ s 9 h1 h2 (by decide)]; rfl) (8 - c) (by omega)
    rw [Nat.add_sub_cancel' h8] at z8
    rw [zsn_8, z8] at y
    exact z.trans y
  · have key : ∀ m, m ≤ c → sFrz e m = r_fset r m := by
      intro m
      induction m with
      | zero => intro _; rfl
      | succ m ih =>
        intro hm
        show sFrz e m ||| (e_ofService e (nI m) 1 <<< (nI m &&& 31)) = (if r_frz r m then r_fset r m ||| (1 <<< (nI m &&& 31)) else r_fset r m ||| 0)
        rw [ih (by omega), (sn_srv hH iv (show m < c by omega)).1]
        have f := r_frz_g (A.1 m (by omega)).2.2.1
        rcases (A.1 m (by omega)).2.2.1 with y | y
        · rw [f.2.mpr y, if_neg Bool.false_ne_true, show r (14 + 15 * m + 3) = 0 from t_eq (by rw [t0]; exact y), show (0 : Int64).toInt32 = 0 by decide, z_shl0 m (by omega)]
        · rw [f.1.mpr y, if_pos rfl, show r (14 + 15 * m + 3) = 1 from t_eq (by rw [t1]; exact y), show (1 : Int64).toInt32 = 1 by decide]
    exact key c (Nat.le_refl _)
  · have hs : sSum e 5 c = SS (fun l => (r (134 + 5 * l + 3)).toInt32) n0 := by
      rw [sumS 5 (fun s => r_lsum r 1 (nI s) n0) (fun s hs => by rw [(sn_srv hH iv hs).2.2.2.2.1, n4])]; exact lsum 1 (by decide)
    rw [hs]
    have hl : ∀ l, l < n0 → e_ofLoan e (nI l) 3 = (r (134 + 5 * l + 3)).toInt32 := fun l hl => by
      rw [O_ofLoan (m := mO r e) hH]
      have h1 : r_isL (m_row (mO r e)) (nI l) = true := by
        show r_isL r (nI l) = true
        unfold r_isL z_inl
        rw [nI_l (by omega), n2]
        have h0 : ¬ lN l < 0 := fun z => by have := t_lt.mp z; rw [lN_toInt (by omega), t0] at this; omega
        have h1 : lN l ≤ lN n0 - 1 := Int64.le_iff_toInt_le.mpr (by rw [lN_toInt (by omega), lN_pred (by omega)]; omega)
        rw [if_neg h0, if_pos h1]
      unfold m_ofLoan
      rw [if_pos h1, zn_nI (by omega)]; rfl
    have key : ∀ m, m ≤ n0 → ∀ v, sOwe e v m = v - SS (fun l => (r (134 + 5 * l + 3)).toInt32) m := by
      intro m
      induction m with
      | zero => intro _ v; show v = v - 0; exact (Int32.sub_zero v).symm
      | succ m ih =>
        intro hm v
        show sOwe e v m - e_ofLoan e (nI m) 3 = _
        rw [ih (by omega) v, hl m (by omega), SS_s]
        exact i_sub_sub _ _ _
    rw [key n0 (Nat.le_refl _), Int32.sub_self]
  · have hs : sSum e 6 c = SS (fun l => (r (134 + 5 * l + 3)).toInt32) n0 := by
      rw [sumS 6 (fun s => r_lsum r 0 (nI s) n0) (fun s hs => by rw [(sn_srv hH iv hs).2.2.2.2.2.1, n4])]; exact lsum 0 (by decide)
    obtain ⟨v, v1, v2⟩ := owe n0 (Nat.le_refl _)
    rw [hs, v2]; exact nI_pos (by omega)
  · have key : ∀ m, sLoans e m = SS (fun s => e_ofService e (nI s) 3 - e_ofService e (nI s) 4) m := fun _ => rfl
    have k2 : SS (fun s => e_ofService e (nI s) 3 - e_ofService e (nI s) 4) c + SS (fun s => e_ofService e (nI s) 4) c = SS (fun s => e_ofService e (nI s) 3) c := by
      rw [← SS_add]; exact SS_c (fun s _ => Int32.sub_add_cancel _ _)
    have k3 : SS (fun s => e_ofService e (nI s) 3) c = nI n0 := by
      rw [← lcnt 1 (by decide)]; exact SS_c (fun s hs => by rw [(sn_srv hH iv hs).2.2.1, n4])
    have k4 : SS (fun s => e_ofService e (nI s) 4) c = nI n0 := by
      rw [← lcnt 0 (by decide)]; exact SS_c (fun s hs => by rw [(sn_srv hH iv hs).2.2.2.1, n4])
    rw [k3, k4] at k2
    rw [key]
    have := congrArg (fun x => x - nI n0) k2
    simp only [Int32.add_sub_cancel, Int32.sub_self] at this
    exact this
  · rw [sumS 7 (fun s => r_pcnt r (nI s) k0) (fun s hs => by rw [(sn_srv hH iv hs).2.2.2.2.2.2.1, k4])]; exact pcnt
  · show h_ws (e_now e) ≤ h_hour (e_now e)
    have m := iv.2.2.2.2.2.1
    rw [hH.1.2.2.2.1.1, hH.1.2.1.1, Int32.toInt_toInt64, Int32.toInt_toInt64] at m
    exact Int32.le_iff_toInt_le.mpr m
end SNDP
