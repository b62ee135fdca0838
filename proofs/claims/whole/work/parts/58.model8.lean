/-! The reference: the pad. -/

def m_code (m : MD) : Int32 := if m_at m < m_len m then m_pad m (zn32 (m_at m)) else 0
def m_adv (m : MD) : MD := m_sat m (m_at m + 1)
def m_isDig (m : MD) : Bool := z_inl (m_code m).toInt64 48 57
def m_reads (m : MD) (c : Int32) : Bool × MD := if m_code m = c then (true, m_adv m) else (false, m)
def m_push (m : MD) (v : Int32) : MD := m_snm (m_snum m (upd (m_num m) (zn32 (m_nm m)) v)) (m_nm m + 1)
def m_rdig (m : MD) (k : Int32) : Bool × MD := if z_inl (m_code m).toInt64 48 (48 + k).toInt64 then (true, m_adv (m_push m (m_code m - 48))) else (false, m)
def m_rnl : Nat → Int32 → MD → Int32 × MD
  | 0, v, m => (v, m)
  | k + 1, v, m => if v ≤ 0 then (v, m) else if v < 1000 then (if m_isDig m then m_rnl k (10 * v + m_code m - 48) (m_adv m) else (v, m)) else (v, m)
def m_rnum (m : MD) : Bool × MD := if m_isDig m then (true, m_push (m_rnl 4 (m_code m - 48) (m_adv m)).2 (m_rnl 4 (m_code m - 48) (m_adv m)).1) else (false, m)
def m_ord (c : Int32) : Int32 := if c = 111 then 0 else if c = 114 then 1 else if c = 108 then 2 else if c = 112 then 3 else if c = 120 then 4 else if c = 104 then 5 else -6
def m_rpart (m : MD) (p : Int32) : Bool × MD := if p = 1 then m_rdig m 7 else if p = 2 then m_rdig m 9 else if p = 3 then m_rnum m else if p = 0 then (true, m) else if (m_reads m p).1 then (true, (m_reads m p).2) else (false, (m_reads m p).2)
def m_ro1 (m : MD) (kd : Int32) : MD := if kd = -6 then m_snm m 0 else m_snm (m_adv m) 0
def m_rol (kd : Int32) : Nat → Nat → Bool → MD → Bool × MD
  | 0, _, b, m => (b, m)
  | f + 1, k, b, m => if b then m_rol kd f (k + 1) (m_rpart m (m_forms (zn32 (7 * kd + nI k)))).1 (m_rpart m (m_forms (zn32 (7 * kd + nI k)))).2 else (b, m)
def m_ro2 (m : MD) : Bool × MD := m_rol (m_ord (m_code m)) 7 0 (!(decide (m_ord (m_code m) = -6))) (m_ro1 m (m_ord (m_code m)))
def m_ro (m : MD) : Int32 × MD := if (m_ro2 m).1 then (if m_ord (m_code m) = 1 then (m_ord (m_code m), m_push (m_reads (m_ro2 m).2 33).2 (zB (m_reads (m_ro2 m).2 33).1)) else (m_ord (m_code m), (m_ro2 m).2)) else (-6, (m_ro2 m).2)
def m_fl : Nat → MD → Bool × MD
  | 0, m => (true, m)
  | f + 1, m => if m_at m < m_len m then (if (m_reads m 59).1 then (if (m_ro (m_reads m 59).2).1 = -6 then (false, (m_ro (m_reads m 59).2).2) else m_fl f (m_ro (m_reads m 59).2).2) else (false, (m_reads m 59).2)) else (true, m)
def m_f0 (m : MD) : Int32 × MD := m_ro (m_sat m 0)
def m_fault (m : MD) : Int32 × MD := if (m_f0 m).1 = -6 then (m_at (m_f0 m).2, (m_f0 m).2) else if (m_fl 81 (m_f0 m).2).1 then (-6, (m_fl 81 (m_f0 m).2).2) else (m_at (m_fl 81 (m_f0 m).2).2, (m_fl 81 (m_f0 m).2).2)
def m_does (m : MD) (kd : Int32) : Bool × MD :=
  if kd = 0 then (if m_noOut m (m_num m 0) (m_num m 1) (m_num m 2) = 0 then (true, (m_doOut m (m_num m 0) (m_num m 1) (m_num m 2)).2) else (false, m))
  else if kd = 1 then (if (m_noRel m (m_num m 0) (m_num m 1) (m_num m 2)).1 = 0 then (true, (m_doRel (m_noRel m (m_num m 0) (m_num m 1) (m_num m 2)).2 (m_num m 0) (m_num m 1)).2) else (false, (m_noRel m (m_num m 0) (m_num m 1) (m_num m 2)).2))
  else if kd = 2 then (if (m_noLend m (m_num m 0) (m_num m 1) (m_num m 2) (m_num m 3)).1 = 0 then (true, (m_doLend (m_noLend m (m_num m 0) (m_num m 1) (m_num m 2) (m_num m 3)).2 (m_num m 0) (m_num m 1) (m_num m 2) (m_num m 3)).2) else (false, (m_noLend m (m_num m 0) (m_num m 1) (m_num m 2) (m_num m 3)).2))
  else if kd = 3 then (if m_noPlan m (m_num m 0) ((m_row m 8).toInt32 + m_num m 1) (m_num m 2) (m_num m 3) = 0 then (true, (m_doPlan m (m_num m 0) ((m_row m 8).toInt32 + m_num m 1) (m_num m 2) (m_num m 3)).2) else (false, m))
  else if kd = 4 then (if r_isP (m_row m) (m_num m 0) then (true, (m_doDrop m (m_num m 0)).2) else (false, m))
  else if z_inl (m_num m 0).toInt64 1 1000 then (true, (m_pass m (m_num m 0)).2) else (false, m)
def m_step (m : MD) : Bool × MD := m_does (m_ro m).2 (m_ro m).1
def m_cl : Nat → Nat → MD → Nat × MD
  | 0, i, m => (i, m)
  | f + 1, i, m => if m_at m < m_len m then (if (m_step m).1 then m_cl f (i + 1) (m_adv (m_step m).2) else (i, (m_step m).2)) else (i, m)
def m_c0 (m : MD) : MD := m_sat (m_rec (m_fault m).2) 0
def m_carry (m : MD) : Int32 × MD := if (m_fault m).1 = -6 then (nI (m_cl 82 0 (m_c0 m)).1, m_slen (m_cl 82 0 (m_c0 m)).2 0) else (-3, (m_fault m).2)
/-! what the reading keeps -/
def m_pok (m : MD) : Prop := zok (m_len m) 80 ∧ zok (m_at m) (zn32 (m_len m))
/-- only the reading has changed, and has not gone back -/
def m_rdk (m m2 : MD) : Prop := m_row m2 = m_row m ∧ m_sts m2 = m_sts m ∧ m_sav m2 = m_sav m ∧ m_rea m2 = m_rea m ∧ m_pad m2 = m_pad m ∧ m_len m2 = m_len m ∧ m_wat m2 = m_wat m ∧ m_wh m2 = m_wh m ∧ m_gone m2 = m_gone m ∧ m_seen m2 = m_seen m
def m_rd (m m2 : MD) : Prop := m_rdk m m2 ∧ zn32 (m_at m) ≤ zn32 (m_at m2)
theorem m_rdk.rf (m : MD) : m_rdk m m := ⟨rfl, rfl, rfl, rfl, rfl, rfl, rfl, rfl, rfl, rfl⟩
theorem m_rdk.tr {a b c : MD} (h : m_rdk a b) (k : m_rdk b c) : m_rdk a c := by
  obtain ⟨h1, h2, h3, h4, h5, h6, h7, h8, h9, h10⟩ := h
  obtain ⟨k1, k2, k3, k4, k5, k6, k7, k8, k9, k10⟩ := k
  exact ⟨k1.trans h1, k2.trans h2, k3.trans h3, k4.trans h4, k5.trans h5, k6.trans h6, k7.trans h7, k8.trans h8, k9.trans h9, k10.trans h10⟩
theorem m_rdk.adv (m : MD) : m_rdk m (m_adv m) := ⟨rfl, rfl, rfl, rfl, rfl, rfl, rfl, rfl, rfl, rfl⟩
theorem m_rdk.push (m : MD) (v : Int32) : m_rdk m (m_push m v) := ⟨rfl, rfl, rfl, rfl, rfl, rfl, rfl, rfl, rfl, rfl⟩
theorem m_rdk.snm (m : MD) (v : Int32) : m_rdk m (m_snm m v) := ⟨rfl, rfl, rfl, rfl, rfl, rfl, rfl, rfl, rfl, rfl⟩
theorem m_rdk.sat (m : MD) (v : Int32) : m_rdk m (m_sat m v) := ⟨rfl, rfl, rfl, rfl, rfl, rfl, rfl, rfl, rfl, rfl⟩
theorem m_rd.rf (m : MD) : m_rd m m := ⟨m_rdk.rf m, Nat.le_refl _⟩
theorem m_rd.tr {a b c : MD} (h : m_rd a b) (k : m_rd b c) : m_rd a c := ⟨h.1.tr k.1, Nat.le_trans h.2 k.2⟩
theorem m_rd.row {a b : MD} (h : m_rd a b) : m_row b = m_row a := h.1.1
theorem m_rd.len {a b : MD} (h : m_rd a b) : m_len b = m_len a := h.1.2.2.2.2.2.1
theorem m_rd.pad {a b : MD} (h : m_rd a b) : m_pad b = m_pad a := h.1.2.2.2.2.1
theorem m_rd.sts {a b : MD} (h : m_rd a b) : m_sts b = m_sts a := h.1.2.1
theorem m_code_of {a b : MD} (h : m_rdk a b) (e : m_at b = m_at a) : m_code b = m_code a := by
  unfold m_code; rw [e, h.2.2.2.2.1, h.2.2.2.2.2.1]
theorem m_pok_of {a b : MD} (h : m_rdk a b) (e : m_at b = m_at a) (hp : m_pok a) : m_pok b := by
  unfold m_pok; rw [e, h.2.2.2.2.2.1]; exact hp
theorem m_code_in {m : MD} (hp : m_pok m) (h : m_at m < m_len m) : vp_in (m_at m) 80 ∧ zn32 (m_at m) < zn32 (m_len m) := by
  have h1 := hp.1.2; have h2 := hp.2.2
  have hlt : zn32 (m_at m) < zn32 (m_len m) := by
    rcases Nat.lt_or_ge (zn32 (m_at m)) (zn32 (m_len m)) with z | z
    · exact z
    · rw [hp.1.1, hp.2.1] at h; exact absurd h (nI_nlt z (by omega))
  refine ⟨?_, hlt⟩
  rw [hp.2.1]; exact vp_in_nI (by omega) (by decide)
theorem m_code_0 {m : MD} (hp : m_pok m) (h : ¬ m_code m = 0) : zn32 (m_at m) < zn32 (m_len m) := by
  unfold m_code at h
  split at h
  · rename_i z; exact (m_code_in hp z).2
  · exact absurd rfl h
theorem m_at_s {m : MD} (hp : m_pok m) : zn32 (m_at m + 1) = zn32 (m_at m) + 1 ∧ m_at m + 1 = nI (zn32 (m_at m) + 1) := by
  have h1 := hp.1.2; have h2 := hp.2.2
  have e : m_at m + 1 = nI (zn32 (m_at m) + 1) := by rw [nI_succ, ← hp.2.1]
  exact ⟨by rw [e]; exact nI_clamp (by omega), e⟩
theorem m_adv_ok {m : MD} (hp : m_pok m) (h : ¬ m_code m = 0) : m_pok (m_adv m) ∧ m_rd m (m_adv m) ∧ zn32 (m_at m) < zn32 (m_at (m_adv m)) := by
  have h1 := m_code_0 hp h
  have h2 := m_at_s hp
  have h3 := hp.1.2
  have e : zn32 (m_at (m_adv m)) = zn32 (m_at m) + 1 := h2.1
  refine ⟨⟨hp.1, ?_⟩, ⟨m_rdk.adv m, by rw [e]; omega⟩, by rw [e]; omega⟩
  show zok (m_at m + 1) (zn32 (m_len m))
  rw [h2.2]; exact zok_nI h1 (by omega)
theorem m_reads_ok {m : MD} {c : Int32} (hp : m_pok m) (hc : ¬ c = 0) : m_pok (m_reads m c).2 ∧ m_rd m (m_reads m c).2 ∧ m_nm (m_reads m c).2 = m_nm m ∧ ((m_reads m c).1 = true → zn32 (m_at m) < zn32 (m_at (m_reads m c).2)) := by
  unfold m_reads; split
  · rename_i h
    have k := m_adv_ok hp (by rw [h]; exact hc)
    exact ⟨k.1, k.2.1, rfl, fun _ => k.2.2⟩
  · exact ⟨hp, m_rd.rf m, rfl, fun h => by cases h⟩
theorem m_dig_n {c : Int32} {k : Nat} (h : z_inl c.toInt64 (lN 48) (lN (48 + k)) = true) (hk : k < 100) : ¬ c = 0 ∧ ∃ n, n ≤ k ∧ c - 48 = nI n ∧ c = nI (48 + n) := by
  have h1 := z_inl_nn h (by omega) (by decide)
  have e : c = nI (48 + (zn32 c - 48)) := by rw [show 48 + (zn32 c - 48) = zn32 c by omega]; exact h1.1
  refine ⟨?_, zn32 c - 48, by omega, ?_, e⟩
  · intro z
    have := h1.2.1
    rw [z] at this; exact absurd this (by decide)
  · rw [h1.1, show (48 : Int32) = nI 48 from rfl, pk_sub h1.2.1, ← h1.1]
theorem m_push_rd {m : MD} {v : Int32} : m_rd m (m_push m v) := ⟨m_rdk.push m v, Nat.le_refl _⟩
theorem m_push_at (m : MD) (v : Int32) : m_at (m_push m v) = m_at m := rfl
theorem m_push_nm (m : MD) (v : Int32) : m_nm (m_push m v) = m_nm m + 1 := rfl
theorem m_push_num (m : MD) (v : Int32) : m_num (m_push m v) = upd (m_num m) (zn32 (m_nm m)) v := rfl
theorem m_adv_nm (m : MD) : m_nm (m_adv m) = m_nm m := rfl
theorem m_adv_num (m : MD) : m_num (m_adv m) = m_num m := rfl
theorem m_push_pok {m : MD} {v : Int32} (hp : m_pok m) : m_pok (m_push m v) := m_pok_of (m_rdk.push m v) (m_push_at m v) hp
theorem m_code_push (m : MD) (v : Int32) : m_code (m_push m v) = m_code m := m_code_of (m_rdk.push m v) (m_push_at m v)
theorem m_rdig_ok {m : MD} {k : Nat} (hk : k < 100) (hp : m_pok m) : m_pok (m_rdig m (nI k)).2 ∧ m_rd m (m_rdig m (nI k)).2 ∧ ((m_rdig m (nI k)).1 = true → m_nm (m_rdig m (nI k)).2 = m_nm m + 1) := by
  unfold m_rdig; split
  · rename_i h
    have e : (48 + nI k : Int32).toInt64 = lN (48 + k) := by rw [show (48 : Int32) = nI 48 from rfl, nI_add, nI_l (by omega)]
    rw [e] at h
    have h1 := m_dig_n h hk
    have k2 := m_adv_ok (m := m_push m (m_code m - 48)) (m_push_pok hp) (by rw [m_code_push]; exact h1.1)
    exact ⟨k2.1, m_push_rd.tr k2.2.1, fun _ => by rw [m_adv_nm, m_push_nm]⟩
  · exact ⟨hp, m_rd.rf m, fun h => by cases h⟩
theorem m_rnl_ok : ∀ (k : Nat) (v : Int32) (m : MD), m_pok m → m_pok (m_rnl k v m).2 ∧ m_rd m (m_rnl k v m).2 ∧ m_nm (m_rnl k v m).2 = m_nm m
  | 0, v, m, hp => ⟨hp, m_rd.rf m, rfl⟩
  | k + 1, v, m, hp => by
    rw [m_rnl]; split
    · exact ⟨hp, m_rd.rf m, rfl⟩
    · split
      · split
        · rename_i h
          have h1 := m_dig_n (c := m_code m) (k := 9) h (by decide)
          have k2 := m_adv_ok hp h1.1
          have k3 := m_rnl_ok k (10 * v + m_code m - 48) (m_adv m) k2.1
          exact ⟨k3.1, k2.2.1.tr k3.2.1, k3.2.2⟩
        · exact ⟨hp, m_rd.rf m, rfl⟩
      · exact ⟨hp, m_rd.rf m, rfl⟩
theorem m_rnum_ok {m : MD} (hp : m_pok m) : m_pok (m_rnum m).2 ∧ m_rd m (m_rnum m).2 ∧ ((m_rnum m).1 = true → m_nm (m_rnum m).2 = m_nm m + 1) := by
  unfold m_rnum; split
  · rename_i h
    have h1 := m_dig_n (c := m_code m) (k := 9) h (by decide)
    have k2 := m_adv_ok hp h1.1
    have k3 := m_rnl_ok 4 (m_code m - 48) (m_adv m) k2.1
    exact ⟨m_push_pok k3.1, (k2.2.1.tr k3.2.1).tr m_push_rd, fun _ => by rw [m_push_nm, k3.2.2, m_adv_nm]⟩
  · exact ⟨hp, m_rd.rf m, fun h => by cases h⟩
theorem m_rpart_ok {m : MD} {p : Int32} (hp : m_pok m) : m_pok (m_rpart m p).2 ∧ m_rd m (m_rpart m p).2 ∧ ((m_rpart m p).1 = true → m_nm (m_rpart m p).2 = if p = 1 ∨ p = 2 ∨ p = 3 then m_nm m + 1 else m_nm m) := by
  unfold m_rpart
  split
  · rename_i h
    have k := m_rdig_ok (k := 7) (by decide) hp
    exact ⟨k.1, k.2.1, fun z => by rw [if_pos (Or.inl h)]; exact k.2.2 z⟩
  · rename_i n1; split
    · rename_i h
      have k := m_rdig_ok (k := 9) (by decide) hp
      exact ⟨k.1, k.2.1, fun z => by rw [if_pos (Or.inr (Or.inl h))]; exact k.2.2 z⟩
    · rename_i n2; split
      · rename_i h
        have k := m_rnum_ok hp
        exact ⟨k.1, k.2.1, fun z => by rw [if_pos (Or.inr (Or.inr h))]; exact k.2.2 z⟩
      · rename_i n3
        have hn : ¬ (p = 1 ∨ p = 2 ∨ p = 3) := fun z => z.elim n1 (fun z => z.elim n2 n3)
        rw [if_neg hn]
        split
        · exact ⟨hp, m_rd.rf m, fun _ => rfl⟩
        · rename_i n0
          have k := m_reads_ok hp n0
          split <;> exact ⟨k.1, k.2.1, fun _ => k.2.2.1⟩
def m_fpart (j k : Nat) : Int32 := m_forms (7 * j + k)
def m_fcnt (j : Nat) : Nat → Nat
  | 0 => 0
  | k + 1 => if m_fpart j k = 1 ∨ m_fpart j k = 2 ∨ m_fpart j k = 3 then m_fcnt j k + 1 else m_fcnt j k
theorem m_fcnt_lt : ∀ j, j < 6 → ∀ k, k < 7 → (m_fpart j k = 1 ∨ m_fpart j k = 2 ∨ m_fpart j k = 3) → m_fcnt j k < 4 := by decide +kernel
theorem m_fcnt_7 : m_fcnt 1 7 = 2 := by decide +kernel
theorem m_ix7 {j k : Nat} (hj : j < 6) (hk : k < 7) : (7 : Int32) * nI j + nI k = nI (7 * j + k) ∧ zn32 (7 * nI j + nI k) = 7 * j + k := by
  have e : (7 : Int32) * nI j + nI k = nI (7 * j + k) := by rw [show (7 : Int32) = nI 7 from rfl, pk_mul, nI_add]
  exact ⟨e, by rw [e]; exact nI_clamp (by omega)⟩
theorem m_rol_ok {j : Nat} (hj : j < 6) : ∀ (f k : Nat) (b : Bool) (m : MD), k + f = 7 → m_pok m → (b = true → m_nm m = nI (m_fcnt j k)) → m_pok (m_rol (nI j) f k b m).2 ∧ m_rd m (m_rol (nI j) f k b m).2 ∧ ((m_rol (nI j) f k b m).1 = true → m_nm (m_rol (nI j) f k b m).2 = nI (m_fcnt j 7))
  | 0, k, b, m, hk, hp, hn => by
    have : k = 7 := by omega
    subst this; exact ⟨hp, m_rd.rf m, hn⟩
  | f + 1, k, b, m, hk, hp, hn => by
    rw [m_rol]; split
    · rename_i hb
      rw [(m_ix7 hj (by omega)).2]
      have k2 := m_rpart_ok (p := m_forms (7 * j + k)) hp
      have k3 := m_rol_ok hj f (k + 1) (m_rpart m (m_forms (7 * j + k))).1 (m_rpart m (m_forms (7 * j + k))).2 (by omega) k2.1 (fun z => by
        rw [k2.2.2 z, hn hb]
        show _ = nI (if m_fpart j k = 1 ∨ m_fpart j k = 2 ∨ m_fpart j k = 3 then m_fcnt j k + 1 else m_fcnt j k)
        unfold m_fpart; split
        · exact nI_1 _
        · rfl)
      exact ⟨k3.1, k2.2.1.tr k3.2.1, k3.2.2⟩
    · rename_i hb
      exact ⟨hp, m_rd.rf m, fun z => absurd z hb⟩
theorem m_ord_n (c : Int32) : m_ord c = -6 ∨ (¬ c = 0 ∧ ∃ j, j < 6 ∧ m_ord c = nI j) := by
  unfold m_ord
  split
  · rename_i h; exact Or.inr ⟨by rw [h]; decide, 0, by decide, rfl⟩
  · split
    · rename_i h; exact Or.inr ⟨by rw [h]; decide, 1, by decide, rfl⟩
    · split
      · rename_i h; exact Or.inr ⟨by rw [h]; decide, 2, by decide, rfl⟩
      · split
        · rename_i h; exact Or.inr ⟨by rw [h]; decide, 3, by decide, rfl⟩
        · split
          · rename_i h; exact Or.inr ⟨by rw [h]; decide, 4, by decide, rfl⟩
          · split
            · rename_i h; exact Or.inr ⟨by rw [h]; decide, 5, by decide, rfl⟩
            · exact Or.inl rfl
theorem m_ord_6 {c : Int32} (h : ¬ m_ord c = -6) : ¬ c = 0 ∧ ∃ j, j < 6 ∧ m_ord c = nI j := (m_ord_n c).elim (fun z => absurd z h) id
theorem m_ro1_ok {m : MD} {kd : Int32} (hk : kd = m_ord (m_code m)) (hp : m_pok m) : m_pok (m_ro1 m kd) ∧ m_rd m (m_ro1 m kd) ∧ m_nm (m_ro1 m kd) = 0 ∧ (¬ kd = -6 → zn32 (m_at m) < zn32 (m_at (m_ro1 m kd))) := by
  unfold m_ro1; split
  · rename_i h; exact ⟨hp, ⟨m_rdk.snm m 0, Nat.le_refl _⟩, rfl, fun z => absurd h z⟩
  · rename_i h
    rw [hk] at h
    have k := m_adv_ok hp (m_ord_6 h).1
    exact ⟨k.1, ⟨(m_rdk.adv m).tr (m_rdk.snm (m_adv m) 0), k.2.1.2⟩, rfl, fun _ => k.2.2⟩
theorem m_rol_f (kd : Int32) : ∀ (f k : Nat) (m : MD), m_rol kd f k false m = (false, m)
  | 0, _, _ => rfl
  | _ + 1, _, _ => rfl
theorem m_ro2_ok {m : MD} (hp : m_pok m) : m_pok (m_ro2 m).2 ∧ m_rd m (m_ro2 m).2 ∧ ((m_ro2 m).1 = true → ¬ m_ord (m_code m) = -6 ∧ zn32 (m_at m) < zn32 (m_at (m_ro2 m).2) ∧ (m_ord (m_code m) = 1 → m_nm (m_ro2 m).2 = 2)) := by
  have k1 := m_ro1_ok rfl hp
  unfold m_ro2
  by_cases h : m_ord (m_code m) = -6
  · rw [show (!(decide (m_ord (m_code m) = -6))) = false by rw [decide_eq_true h]; rfl, m_rol_f]
    exact ⟨k1.1, k1.2.1, fun z => by cases z⟩
  · obtain ⟨-, j, hj, e⟩ := m_ord_6 h
    rw [show (!(decide (m_ord (m_code m) = -6))) = true by rw [decide_eq_false h]; rfl]
    have k2 := m_rol_ok hj 7 0 true (m_ro1 m (m_ord (m_code m))) (by decide) k1.1 (fun _ => k1.2.2.1)
    rw [← e] at k2
    refine ⟨k2.1, k1.2.1.tr k2.2.1, fun z => ⟨h, Nat.lt_of_lt_of_le (k1.2.2.2 h) k2.2.1.2, fun z1 => ?_⟩⟩
    rw [k2.2.2 z]
    have : j = 1 := by
      rw [e] at z1
      exact (nI_eq (a := j) (b := 1) (by omega) (by decide)).mp z1
    rw [this, m_fcnt_7]; rfl
theorem m_ro_ok {m : MD} (hp : m_pok m) : m_pok (m_ro m).2 ∧ m_rd m (m_ro m).2 ∧ (¬ (m_ro m).1 = -6 → zn32 (m_at m) < zn32 (m_at (m_ro m).2)) := by
  have k := m_ro2_ok hp
  unfold m_ro; split
  · rename_i h
    have k2 := k.2.2 h
    split
    · have k3 := m_reads_ok (c := 33) k.1 (by decide)
      exact ⟨m_push_pok k3.1, (k.2.1.tr k3.2.1).tr m_push_rd, fun _ => Nat.lt_of_lt_of_le k2.2.1 (Nat.le_trans k3.2.1.2 m_push_rd.2)⟩
    · exact ⟨k.1, k.2.1, fun _ => k2.2.1⟩
  · exact ⟨k.1, k.2.1, fun z => absurd rfl z⟩
