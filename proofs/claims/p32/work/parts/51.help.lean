/-! Of the reference as functions: what the relation needs. -/
theorem z_inl_t {v a b : Int64} (h : z_inl v a b = true) : ¬ v < a ∧ v ≤ b := by
  unfold z_inl at h
  split at h
  · cases h
  · split at h
    · rename_i h1 h2; exact ⟨h1, h2⟩
    · cases h
theorem i64_le {a b : Int64} : a ≤ b ↔ a.toInt ≤ b.toInt := Int64.le_iff_toInt_le
theorem i64_lt {a b : Int64} : a < b ↔ a.toInt < b.toInt := Int64.lt_iff_toInt_lt
theorem i32_64 (s : Int32) : s.toInt64.toInt = s.toInt := Int32.toInt_toInt64 s
theorem lN_pred {n : Nat} (hn : n < 2 ^ 31) : (lN n - 1).toInt = (n : Int) - 1 := by
  rcases n with _ | n
  · decide
  · rw [show lN (n + 1) - 1 = lN n by rw [show (1 : Int64) = lN 1 from rfl, lN_sub (by omega)]; rfl, lN_toInt (by omega)]; omega
theorem r_mv1_ne {r : RW} {i j k : Nat} (h : k ≠ j) : r_mv1 r i j k = r k := pk_uLn h
theorem r_mv5_ne {r : RW} {i j k : Nat} (h : k < 134 + 5 * j ∨ 134 + 5 * j + 5 ≤ k) : r_mv5 r i j k = r k := by
  unfold r_mv5
  rw [r_mv1_ne (by omega), r_mv1_ne (by omega), r_mv1_ne (by omega), r_mv1_ne (by omega), r_mv1_ne (by omega)]
theorem vp_uLo {f : RW} {i j : Nat} {v : Int64} (h : i ≠ j) : vp_updL f i v j = f j := pk_uLn (fun e => h e.symm)
theorem r_add_o {r : RW} {i j : Nat} {v : Int64} (h : i ≠ j) : r_add r i v j = r j := vp_uLo h
def r_wgood : Nat → RW → Prop
  | 0, r => zokl (r 12) 40 ∧ r_nextL r = -6
  | k + 1, r => zokl (r 12) 40 ∧ (¬ r_nextL r = -6 → zinl (r (134 + 5 * zn32 (r_nextL r) + 0)) 8 ∧ zinl (r (134 + 5 * zn32 (r_nextL r) + 1)) 8 ∧ zokl (r_wlstep r (zn32 (r_nextL r)) 12) 40 ∧ r_wgood k (r_wlstep r (zn32 (r_nextL r))))
theorem r_wgood_k {k : Nat} {r : RW} (h : r_wgood k r) : zokl (r 12) 40 := by
  cases k with
  | zero => exact h.1
  | succ k => exact h.1
def r_bgood (r : RW) : Prop := zokl (r 11) 8 ∧ r_wgood 40 (r_bwg r (zn64 (r 11)))
theorem r_mv4_ne {r : RW} {i j k : Nat} (h : k < 334 + 4 * j ∨ 334 + 4 * j + 4 ≤ k) : r_mv4 r i j k = r k := by
  unfold r_mv4
  rw [r_mv1_ne (by omega), r_mv1_ne (by omega), r_mv1_ne (by omega), r_mv1_ne (by omega)]
def m_dgood : Nat → MD → Prop
  | 0, m => zokl (m_row m 13) 30 ∧ m_nextP m = -6
  | k + 1, m => zokl (m_row m 13) 30 ∧ (¬ m_nextP m = -6 → zinl (m_row m (334 + 4 * zn32 (m_nextP m) + 0)) 8 ∧ m_dgood k (m_dpstep m (zn32 (m_nextP m))))
def m_hgood (m : MD) : Prop := (m_row (m_hr1 m) 8 - m_row (m_hr1 m) 10 < m_row (m_hr1 m) 0 → m_dgood 30 (m_hr1 m)) ∧ (¬ m_row (m_hr1 m) 8 - m_row (m_hr1 m) 10 < m_row (m_hr1 m) 0 → r_bgood (m_row (m_hr1 m)) ∧ m_dgood 30 (m_srow (m_hr1 m) (r_begin (m_row (m_hr1 m)))))
theorem r_cp_in {r : RW} {a b k : Nat} (hk : k < 454) : r_cp r a b (b + k) = r (a + k) := by
  unfold r_cp r_cpn; rw [if_pos (by omega), Nat.add_sub_cancel_left]
theorem r_cp_out {r : RW} {a b j : Nat} (hj : j < b ∨ b + 454 ≤ j) : r_cp r a b j = r j := by
  unfold r_cp r_cpn; rw [if_neg (by omega)]
theorem m_sts5 {s : Int32} (hs : zok s 6) (h : ¬ s = 6) : zok s 5 := by
  refine ⟨hs.1, ?_⟩
  rcases Nat.lt_or_ge (zn32 s) 6 with z | z
  · omega
  · have := hs.2
    exact absurd (by rw [hs.1, show zn32 s = 6 by omega]; rfl) h
theorem m_cp_lo {m : MD} {a b k : Nat} (hk : k < 454) (hb : 454 ≤ b) : m_row (m_cp m a b) k = m_row m k := r_cp_out (Or.inl (by omega))
theorem m_rec1_lo {m : MD} {k : Nat} (hk : k < 454) : m_row (m_rec1 m) k = m_row m k := by
  unfold m_rec1; split
  · show m_row (m_shift m) k = _
    unfold m_shift
    rw [m_cp_lo hk (by decide), m_cp_lo hk (by decide), m_cp_lo hk (by decide), m_cp_lo hk (by decide), m_cp_lo hk (by decide)]
  · rfl
theorem m_rec_lo {m : MD} {k : Nat} (hk : k < 454) : m_row (m_rec m) k = m_row m k := by
  show m_row (m_cp (m_rec1 m) 0 (454 + 454 * zn32 (m_sts (m_rec1 m)))) k = _
  rw [m_cp_lo hk (by omega), m_rec1_lo hk]
theorem z_isSet_in {s v : Int32} (h : z_isSet s v = true) : vp_in s 8 ∧ s = nI (zn32 s) ∧ zn32 s < 8 := by
  unfold z_isSet at h
  have key : ∀ j : Nat, j < 8 → vp_in (nI j) 8 ∧ nI j = nI (zn32 (nI j)) ∧ zn32 (nI j) < 8 := by
    intro j hj
    have e : zn32 (nI j) = j := nI_clamp (by omega)
    rw [e]; exact ⟨vp_in_nI hj (by decide), rfl, hj⟩
  split at h
  · rename_i e; rw [e]; exact key 0 (by decide)
  · split at h
    · rename_i e; rw [e]; exact key 5 (by decide)
    · split at h
      · rename_i e; rw [e]; exact key 6 (by decide)
      · split at h
        · rename_i e; rw [e]; exact key 7 (by decide)
        · split at h
          · rename_i z
            obtain ⟨h1, h2⟩ := z_inl_t z
            rw [i64_lt, i32_64, show (1 : Int64).toInt = 1 by decide] at h1
            rw [i64_le, i32_64, show (4 : Int64).toInt = 4 by decide] at h2
            have h0 : ¬ s < 0 := by rw [Int32.lt_iff_toInt_lt, show (0 : Int32).toInt = 0 by decide]; omega
            obtain ⟨j, hj, rfl⟩ := nI_of h0
            rw [nI_toInt hj] at h1 h2
            exact key j (by omega)
          · cases h
theorem z_inl_nn {k : Int32} {a b : Nat} (h : z_inl k.toInt64 (lN a) (lN b) = true) (hb : b < 2 ^ 31) (ha : a < 2 ^ 31) : k = nI (zn32 k) ∧ a ≤ zn32 k ∧ zn32 k ≤ b := by
  obtain ⟨h1, h2⟩ := z_inl_t h
  rw [i64_lt, i32_64, lN_toInt ha] at h1
  rw [i64_le, i32_64, lN_toInt hb] at h2
  have h0 : ¬ k < 0 := by rw [Int32.lt_iff_toInt_lt, show (0 : Int32).toInt = 0 by decide]; omega
  obtain ⟨j, hj, rfl⟩ := nI_of h0
  rw [nI_toInt hj] at h1 h2
  have e : zn32 (nI j) = j := nI_clamp hj
  rw [e]; exact ⟨rfl, by omega, by omega⟩
