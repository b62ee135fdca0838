
/-! THE START: the new object and the new reference are related; the reference's carryOut where its text has no fault. -/
theorem zk_0 (n : Nat) : zok 0 n := ⟨by decide, by rw [show zn32 0 = 0 by decide]; exact Nat.zero_le n⟩
theorem r_new_at {j : Nat} (h : 8 ≤ j) : r_new j = 0 := by
  show ([168, 25, 10, 10, 20, 48, 3, 1] : List Int64).getD j 0 = 0
  rw [List.getD_eq_getElem?_getD, List.getElem?_eq_none (by exact h)]; rfl
theorem z_no {v : Int32} {k : Nat} (h : k < zn32 v) (h0 : v = 0) : False := by
  subst h0
  rw [show zn32 0 = 0 by decide] at h
  exact Nat.not_lt_zero _ h
theorem HA_new : HA 0 h_new r_new := by
  refine ⟨fun k hk => ?_, ⟨by decide +kernel, zk_0 _⟩, ⟨by decide +kernel, zk_0 _⟩, ⟨by decide +kernel, zk_0 _⟩, ⟨by decide +kernel, zk_0 _⟩⟩
  match k, hk with
  | 0, _ => exact ⟨by decide +kernel, by decide +kernel, by decide +kernel⟩
  | 1, _ => exact ⟨by decide +kernel, by decide +kernel, by decide +kernel⟩
  | 2, _ => exact ⟨by decide +kernel, by decide +kernel, by decide +kernel⟩
  | 3, _ => exact ⟨by decide +kernel, by decide +kernel, by decide +kernel⟩
  | 4, _ => exact ⟨by decide +kernel, by decide +kernel, by decide +kernel⟩
  | 5, _ => exact ⟨by decide +kernel, by decide +kernel, by decide +kernel⟩
  | 6, _ => exact ⟨by decide +kernel, by decide +kernel, by decide +kernel⟩
  | 7, _ => exact ⟨by decide +kernel, by decide +kernel, by decide +kernel⟩
  | _ + 8, h => exact absurd h (by omega)
theorem SV_new {s : Nat} (hs : s < 8) : SV h_new r_new s := by
  refine ⟨⟨(r_new_at (by omega)).trans (show (0 : Int64) = (0 : Int32).toInt64 by decide), zk_0 _⟩, r_new_at (by omega), ⟨(r_new_at (by omega)).trans (show (0 : Int64) = (0 : Int32).toInt64 by decide), zk_0 _⟩, Or.inl (r_new_at (by omega)), ?_, ?_, ?_, fun w hw => ?_⟩
  · rw [r_new_at (by omega)]; rfl
  · rw [r_new_at (by omega)]; rfl
  · rw [r_new_at (by omega)]; rfl
  · rw [r_new_at (by omega)]; rfl
theorem HH_new : HH 0 h_new r_new := by
  refine ⟨HA_new, ⟨⟨by decide +kernel, by decide +kernel, by decide +kernel⟩, by decide +kernel, fun s hs => SV_new hs⟩, fun s k _ hs hk => r_new_at (by omega), ⟨⟨by decide +kernel, zk_0 _⟩, fun l hl => (z_no hl rfl).elim⟩, fun l hl => (z_no hl rfl).elim, ⟨⟨by decide +kernel, zk_0 _⟩, fun p hp => (z_no hp rfl).elim⟩, fun p hp => (z_no hp rfl).elim, ?_⟩
  exact ⟨fun a h => (z_no h rfl).elim, fun a b _ h => (z_no h rfl).elim, fun p h => (z_no h rfl).elim⟩
theorem h_ok_new : h_ok h_new := ⟨zk_0 _, ⟨zk_0 _, fun i hi => (z_no hi rfl).elim⟩, zk_0 _, fun i hi => (z_no hi rfl).elim⟩
theorem e_ok_new : e_ok e_new := ⟨h_ok_new, h_ok_new, ⟨zk_0 _, zk_0 _⟩, fun _ _ => h_ok_new, fun _ _ => h_ok_new, zk_0 _, fun _ => rfl, fun _ => rfl, zk_0 _⟩
theorem RR_new : RR 0 e_new m_new :=
  ⟨e_ok_new, ⟨HH_new, rfl, fun _ _ => ⟨rfl, rfl⟩, rfl⟩, ⟨rfl, fun k hk => (z_no hk rfl).elim⟩, fun i _ => ⟨rfl, fun h => absurd rfl h⟩, rfl, rfl, fun i hi => (z_no hi rfl).elim⟩
/-- what the reference's methods ask, from the relation -/
theorem RR_pre {B : Nat} {e : ED} {m : MD} (h : RR B e m) : e_ok e ∧ zok (m_sts m) 6 ∧ r_ok (m_row m) ∧ zok (m_len m) 80 :=
  ⟨h.1, by rw [h.2.2.1.1]; exact h.1.2.2.1.2, HH_ok h.2.1.1, by rw [h.2.2.2.2.2.1]; exact h.1.2.2.2.2.2.1⟩
set_option maxHeartbeats 1000000 in
set_option maxRecDepth 100000 in
theorem c_X6_carryOut2 {l : Launch} {g : zG} (q : Nat → Nat) (m : MD)  (hs : zok (m_sts m) 6) (hl : zok (m_len m) 80) (hg0 : (m_fault m).1 = -6 → m_cgood 82 (m_c0 m)) : zM l g yX6_carryOut cX6_carryOut 2 (some .int) 9 0 0 [.ref (q 0)] (rW g q m (m_row m)) (zE (some (.int (m_carry m).1)) (rW g q ((m_carry m).2) (m_row ((m_carry m).2)))) := by
  refine zM_of (by decide +kernel) (Nat.le_of_ble_eq_true rfl) (fun x hl hn _ _ _ C => ?_)
  subst hl
  show zR x g _ (0, 0) 0 [(0, .ref (q 0))] [] _
  refine zR_aload_n C eX6_carryOut_0 0 rfl rfl ?_
  refine zR_callV1 C kX6_285 eX6_carryOut_1 (c_X6_faultOf q _ hl) rfl 0 6 rW_g0 rfl rfl _ rW_c rW_n rfl (by decide) (by decide) (Nat.le_of_ble_eq_true rfl) (Nat.zero_le _) (Nat.zero_le _) rW_f rW_r ?_
  refine zR_bipush (v := -6) C eX6_carryOut_4 (by decide) ?_
  refine zR_icmp_eq C eX6_carryOut_6 (fun h6 => ?_) (fun h6 => ?_)
  · skip
    refine zR_aload_n C eX6_carryOut_12 0 rfl rfl ?_
    refine zR_callVv C kX6_64 eX6_carryOut_13 (c_X6_record q _ (by rw [(m_fault_ok hl).2.2.1]; exact hs)) rfl 0 6 rW_g0 rfl rfl _ rW_c rW_n rfl (by decide) (by decide) (Nat.le_of_ble_eq_true rfl) (Nat.zero_le _) (Nat.zero_le _) rW_f rW_r ?_
    refine zR_aload_n C eX6_carryOut_16 0 rfl rfl ?_
    refine zR_iconst (v := 0) C eX6_carryOut_17 (by decide) ?_
    refine zR_put C pX6_252 eX6_carryOut_18 0 rW_g0 (Nat.le_of_ble_eq_true rfl) rW_s0_11 ?_
    refine zR_ws (rW g q (m_c0 m) (m_row (m_c0 m))) rW_sat ?_
    refine zR_iconst (v := 0) C eX6_carryOut_21 (by decide) ?_
    refine zR_istore_n (lv' := [(1, _), (0, _)]) C eX6_carryOut_22 rfl (by rw [hn]; decide) rfl ?_
    have e1 : m_carry m = (nI (m_cl 82 0 (m_c0 m)).1, m_slen (m_cl 82 0 (m_c0 m)).2 0) := if_pos h6
    rw [e1]
    refine zR_lv [(1, .int (nI 0)), (0, _)] [0, 1] rfl ?_
    have hg := hg0 h6
    generalize hF : (82 : Nat) = F at hg ⊢
    exact c_X6_carryOut_lp hn C F 0 _ hg
  · skip
    refine zR_bipush (v := -3) C eX6_carryOut_9 (by decide) ?_
    exact zR_iret C rfl rfl eX6_carryOut_11 (Nat.zero_le _) (Nat.zero_le _) ⟨(by first | (unfold m_carry; rw [if_neg h6]; first | done | rfl) | rfl | (simp only [m_carry, if_neg h6]; first | done | rfl)), (by first | (unfold m_carry; rw [if_neg h6]; first | done | rfl) | rfl | (simp only [m_carry, if_neg h6]; first | done | rfl))⟩
