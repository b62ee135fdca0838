/-! The law: low, cell. -/
def z_low (v n : Int32) : Int32 := (v &&& 2147483647) - (v &&& 2147483647) / n * n
def z_cell (g : zG) (k : Int32) : Int32 := if k < nI (g.2.2.2.1 1) then nI (g.2.2.2.2 (zn32 k)) else 7919 * (k + 5) * (k + 23)
theorem z_31 (x : Int32) : ∃ j, j < 2 ^ 31 ∧ x &&& 2147483647 = nI j := by
  refine ⟨(x &&& 2147483647).toBitVec.toNat, ?_, ?_⟩
  · have : (x &&& 2147483647).toBitVec = x.toBitVec &&& 2147483647#32 := rfl
    rw [this, BitVec.toNat_and]
    exact Nat.lt_of_le_of_lt Nat.and_le_right (by decide)
  · show _ = Int32.ofNat _
    apply Int32.toBitVec_inj.mp
    show _ = BitVec.ofNat 32 _
    rw [BitVec.ofNat_toNat, BitVec.setWidth_eq]
theorem z_low_r (v : Int32) {n : Nat} (h0 : 0 < n) (hn : n < 2 ^ 31) : ∃ j, j < n ∧ z_low v (nI n) = nI j := by
  obtain ⟨a, ha, e⟩ := z_31 v
  refine ⟨a % n, Nat.mod_lt _ h0, ?_⟩
  unfold z_low
  rw [e, pk_rem ha h0 hn]
section ZL
variable {x : zX} {g : zG} {own : String} {cc : ByteArray} {ret : Option FieldType} {f : Nat} {post : Option Value → va_W → Prop} {n : Nat × Nat} {pc pc' : Nat} {lv : List (Nat × Value)} {st rest : List Value} {ws : va_W}
theorem zC_scr (C : zC x g own cc ret f) : va_T .int (g.2.2.2.1 0) (g.2.2.2.1 1) (fun j => .int (nI (g.2.2.2.2 j))) (zA x) (zs x) (zs x).heap := C.2.2.2.2.2.2.2.2.2.2.2.2.2.2.1
theorem zR_scl (C : zC x g own cc ret f) (d : zD cc pc .arraylength 1 pc') (k : zR x g post n pc' lv (.int (nI (g.2.2.2.1 1)) :: st) ws) : zR x g post n pc lv (.ref (g.2.2.2.1 0) :: st) ws := by
  obtain ⟨d, rfl⟩ := d
  exact fun H locs ls hP hD hS hl' => va_tlen C.1.1 C.1.2.1 (zC_scr C) hS rfl d (k H locs ls hP hD hS hl')
theorem zR_scv (C : zC x g own cc ret f) {i : Int32} (d : zD cc pc .iaload 1 pc') (hi : vp_in i (g.2.2.2.1 1)) (k : zR x g post n pc' lv (.int (nI (g.2.2.2.2 (zn32 i))) :: st) ws) : zR x g post n pc lv (.int i :: .ref (g.2.2.2.1 0) :: st) ws := by
  obtain ⟨d, rfl⟩ := d
  exact fun H locs ls hP hD hS hl' => va_ti C.1.1 C.1.2.1 (zC_scr C) hS hi rfl d (k H locs ls hP hD hS hl')
end ZL

set_option maxHeartbeats 400000 in
set_option maxRecDepth 100000 in
theorem c_L_low {l : Launch} {g : zG} (v : Int32) (n : Int32) (hn0 : ¬ n = 0) : zM l g yL_low cL_low 2 (some .int) 0 0 0 [.int v, .int n] [] (zE (some (.int (z_low v n))) []) := by
  refine zM_of (by decide +kernel) (Nat.le_of_ble_eq_true rfl) (fun x hl hn _ _ _ C => ?_)
  subst hl
  show zR x g _ (0, 0) 0 [(0, .int v), (1, .int n)] [] _
  refine zR_iload_n C eL_low_0 0 rfl rfl ?_
  refine zR_ldc C qL_7 eL_low_1 ?_
  refine zR_iand C eL_low_3 ?_
  refine zR_iload_n C eL_low_4 1 rfl rfl ?_
  refine zR_irem C eL_low_5 hn0 ?_
  exact zR_iret C rfl rfl eL_low_6 (Nat.zero_le _) (Nat.zero_le _) ⟨(by first | rfl | (unfold z_low; rfl)), (by first | rfl | (unfold z_low; rfl))⟩
set_option maxHeartbeats 400000 in
theorem c_L_cell {l : Launch} {g : zG} (k : Int32) (hk : ¬ k < 0) (hL : g.2.2.2.1 1 < 2 ^ 31) : zM l g yL_cell cL_cell 2 (some .int) 0 0 0 [.ref (g.2.2.2.1 0), .int k] [] (zE (some (.int (z_cell g k))) []) := by
  refine zM_of (by decide +kernel) (Nat.le_of_ble_eq_true rfl) (fun x hl hn _ _ _ C => ?_)
  subst hl
  show zR x g _ (0, 0) 0 [(0, .ref (g.2.2.2.1 0)), (1, .int k)] [] _
  refine zR_iload_n C eL_cell_0 1 rfl rfl ?_
  refine zR_aload_n C eL_cell_1 0 rfl rfl ?_
  refine zR_scl C eL_cell_2 ?_
  refine zR_icmp_ge C eL_cell_3 (fun h3 => ?_) (fun h3 => ?_)
  · skip
    refine zR_sipush (v := 7919) C eL_cell_12 (by decide) ?_
    refine zR_iload_n C eL_cell_15 1 rfl rfl ?_
    refine zR_iconst (v := 5) C eL_cell_16 (by decide) ?_
    refine zR_iadd C eL_cell_17 ?_
    refine zR_imul C eL_cell_18 ?_
    refine zR_iload_n C eL_cell_19 1 rfl rfl ?_
    refine zR_bipush (v := 23) C eL_cell_20 (by decide) ?_
    refine zR_iadd C eL_cell_22 ?_
    refine zR_imul C eL_cell_23 ?_
    exact zR_iret C rfl rfl eL_cell_24 (Nat.zero_le _) (Nat.zero_le _) ⟨by unfold z_cell; rw [if_neg h3], rfl⟩
  · skip
    have hi : vp_in k (g.2.2.2.1 1) := by
      obtain ⟨j, hj, rfl⟩ := nI_of hk
      rcases Nat.lt_or_ge j (g.2.2.2.1 1) with z | z
      · exact vp_in_nI z hL
      · exact absurd h3 (nI_nlt z hj)
    refine zR_aload_n C eL_cell_6 0 rfl rfl ?_
    refine zR_iload_n C eL_cell_7 1 rfl rfl ?_
    refine zR_scv C eL_cell_8 hi ?_
    refine zR_goto C eL_cell_9 ?_
    exact zR_iret C rfl rfl eL_cell_24 (Nat.zero_le _) (Nat.zero_le _) ⟨by unfold z_cell; rw [if_pos h3], rfl⟩
/-- what acts does: one change -/
def AC (e : ED) (E : Int32 × ED) : Prop := (∃ b, E = e_service e b) ∨ (∃ s b, E = e_budget e s b) ∨ (∃ s v, E = e_set e s v) ∨ (∃ s i w, E = e_outage e s i w) ∨ (∃ s z x, E = e_release e s z x) ∨ (∃ a b i w, E = e_lend e a b i w) ∨ (∃ l, E = e_repay e l) ∨ (∃ s t z y, E = e_plan e s t z y) ∨ (∃ p, E = e_drop e p) ∨ (∃ k, E = e_hours e k)
theorem zok_s0 {v : Int32} {n : Nat} (h : zok v n) (hn : n + 1 < 2 ^ 31) : ¬ v + 1 = 0 ∧ ¬ 1 + v = 0 := by
  have h2 := h.2
  have e : v + 1 = nI (zn32 v + 1) := by rw [nI_succ, ← h.1]
  have := nI_ne0 (n := zn32 v + 1) (by omega) (by omega)
  exact ⟨by rw [e]; exact this, by rw [Int32.add_comm, e]; exact this⟩
set_option maxHeartbeats 1000000 in
set_option maxRecDepth 100000 in
theorem c_L_acts {l : Launch} {g : zG} (q : Nat → Nat) (e : ED) (y : Int32) (he : e_ok e) : zM l g yL_acts cL_acts 5 (some .int) 6 0 0 [.ref (q 0), .int y] (eW g q e) (fun r w => ∃ E, r = some (.int E.1) ∧ w = eW g q E.2 ∧ AC e E) := by
  refine zM_of (by decide +kernel) (Nat.le_of_ble_eq_true rfl) (fun x hl hn _ _ _ C => ?_)
  subst hl
  show zR x g _ (0, 0) 0 [(0, .ref (q 0)), (1, .int y)] [] _
  have h31 : ¬ e_count e 3 + 1 = 0 := (zok_s0 (show zok (e_count e 3) 8 from he.1.1) (by decide)).1
  have h51 : ¬ 1 + e_count e 5 = 0 := (zok_s0 (show zok (e_count e 5) 40 from he.1.2.1.1) (by decide)).2
  have h61 : ¬ 1 + e_count e 6 = 0 := (zok_s0 (show zok (e_count e 6) 30 from he.1.2.2.1) (by decide)).2
  refine zR_aload_n C eL_acts_0 0 rfl rfl ?_
  refine zR_iconst (v := 3) C eL_acts_1 (by decide) ?_
  refine zR_callV1 C kL_12 eL_acts_2 (c_X5_count q _ _ he) rfl 0 5 eW_g0 rfl rfl _ eW_call eW_nall rfl (by decide) (by decide) (Nat.le_of_ble_eq_true rfl) (Nat.zero_le _) (Nat.zero_le _) eW_f eW_rall ?_
  refine zR_istore_n (lv' := [(2, _), (0, _), (1, _)]) C eL_acts_5 rfl (by rw [hn]; decide) rfl ?_
  refine zR_iload_n C eL_acts_6 2 rfl rfl ?_
  refine zR_iconst (v := 4) C eL_acts_7 (by decide) ?_
  refine zR_ishr C eL_acts_8 ?_
  refine zR_iload_n C eL_acts_9 0 rfl rfl ?_
  refine zR_iconst (v := 1) C eL_acts_10 (by decide) ?_
  refine zR_iadd C eL_acts_11 ?_
  refine zR_callS1 C kL_46 eL_acts_12 (c_L_low _ _ h31) rfl rfl (by decide) (by decide) (Nat.le_of_ble_eq_true rfl) (Nat.zero_le _) (Nat.zero_le _) ?_
  refine zR_istore_n (lv' := [(3, _), (2, _), (0, _), (1, _)]) C eL_acts_15 rfl (by rw [hn]; decide) rfl ?_
  refine zR_iload_n C eL_acts_16 3 rfl rfl ?_
  refine zR_bipush (v := 8) C eL_acts_17 (by decide) ?_
  refine zR_ishr C eL_acts_19 ?_
  refine zR_iload_n C eL_acts_20 1 rfl rfl ?_
  refine zR_iconst (v := 1) C eL_acts_21 (by decide) ?_
  refine zR_iadd C eL_acts_22 ?_
  refine zR_callS1 C kL_46 eL_acts_23 (c_L_low _ _ h31) rfl rfl (by decide) (by decide) (Nat.le_of_ble_eq_true rfl) (Nat.zero_le _) (Nat.zero_le _) ?_
  refine zR_istore (lv' := [(4, _), (3, _), (2, _), (0, _), (1, _)]) C eL_acts_26 (by rw [hn]; decide) rfl ?_
  refine zR_iload_n C eL_acts_28 4 rfl rfl ?_
  refine zR_bipush (v := 20) C eL_acts_29 (by decide) ?_
  refine zR_callS1 C kL_46 eL_acts_31 (c_L_low _ _ (by decide)) rfl rfl (by decide) (by decide) (Nat.le_of_ble_eq_true rfl) (Nat.zero_le _) (Nat.zero_le _) ?_
  refine zR_caseK (0) (fun h34_0 => ?_) (fun h34_0 => ?_)
  · skip
    refine zR_tswIn (off := 78) (tgt := 112) C eL_acts_34 (by decide) (by decide) (by decide) (by decide) ?_
    refine zR_aload_n C eL_acts_112 3 rfl rfl ?_
    refine zR_iload_n C eL_acts_113 4 rfl rfl ?_
    refine zR_iconst (v := 4) C eL_acts_114 (by decide) ?_
    refine zR_ishr C eL_acts_115 ?_
    refine zR_iconst (v := 2) C eL_acts_116 (by decide) ?_
    refine zR_callS1 C kL_46 eL_acts_117 (c_L_low _ _ (by decide)) rfl rfl (by decide) (by decide) (Nat.le_of_ble_eq_true rfl) (Nat.zero_le _) (Nat.zero_le _) ?_
    refine zR_ifne C eL_acts_120 (fun h120 => ?_) (fun h120 => ?_)
    · skip
      refine zR_bipush (v := 10) C eL_acts_136 (by decide) ?_
      refine zR_iload_n C eL_acts_138 4 rfl rfl ?_
      refine zR_bipush (v := 9) C eL_acts_139 (by decide) ?_
      refine zR_ishr C eL_acts_141 ?_
      refine zR_bipush (v := 100) C eL_acts_142 (by decide) ?_
      refine zR_callS1 C kL_46 eL_acts_144 (c_L_low _ _ (by decide)) rfl rfl (by decide) (by decide) (Nat.le_of_ble_eq_true rfl) (Nat.zero_le _) (Nat.zero_le _) ?_
      refine zR_iadd C eL_acts_147 ?_
      refine zR_callV1 C kL_82 eL_acts_148 (c_X5_service q _ _ he) rfl 0 5 eW_g0 rfl rfl _ eW_call eW_nall rfl (by decide) (by decide) (Nat.le_of_ble_eq_true rfl) (Nat.zero_le _) (Nat.zero_le _) eW_f eW_rall ?_
      exact zR_iret C rfl rfl eL_acts_151 (Nat.zero_le _) (Nat.zero_le _) ⟨_, rfl, rfl, Or.inl ⟨_, rfl⟩⟩
    · skip
      refine zR_iload_n C eL_acts_123 4 rfl rfl ?_
      refine zR_bipush (v := 9) C eL_acts_124 (by decide) ?_
      refine zR_ishr C eL_acts_126 ?_
      refine zR_sipush (v := 400) C eL_acts_127 (by decide) ?_
      refine zR_callS1 C kL_46 eL_acts_130 (c_L_low _ _ (by decide)) rfl rfl (by decide) (by decide) (Nat.le_of_ble_eq_true rfl) (Nat.zero_le _) (Nat.zero_le _) ?_
      refine zR_goto C eL_acts_133 ?_
      refine zR_callV1 C kL_82 eL_acts_148 (c_X5_service q _ _ he) rfl 0 5 eW_g0 rfl rfl _ eW_call eW_nall rfl (by decide) (by decide) (Nat.le_of_ble_eq_true rfl) (Nat.zero_le _) (Nat.zero_le _) eW_f eW_rall ?_
      exact zR_iret C rfl rfl eL_acts_151 (Nat.zero_le _) (Nat.zero_le _) ⟨_, rfl, rfl, Or.inl ⟨_, rfl⟩⟩
  · skip
    refine zR_caseK (1) (fun h34_1 => ?_) (fun h34_1 => ?_)
    · skip
      refine zR_tswIn (off := 118) (tgt := 152) C eL_acts_34 (by decide) (by decide) (by decide) (by decide) ?_
      refine zR_aload_n C eL_acts_152 3 rfl rfl ?_
      refine zR_iload_n C eL_acts_153 1 rfl rfl ?_
      refine zR_iload_n C eL_acts_154 4 rfl rfl ?_
      refine zR_bipush (v := 9) C eL_acts_155 (by decide) ?_
      refine zR_ishr C eL_acts_157 ?_
      refine zR_sipush (v := 500) C eL_acts_158 (by decide) ?_
      refine zR_callS1 C kL_46 eL_acts_161 (c_L_low _ _ (by decide)) rfl rfl (by decide) (by decide) (Nat.le_of_ble_eq_true rfl) (Nat.zero_le _) (Nat.zero_le _) ?_
      refine zR_callV1 C kL_85 eL_acts_164 (c_X5_budget q _ _ _ he) rfl 0 5 eW_g0 rfl rfl _ eW_call eW_nall rfl (by decide) (by decide) (Nat.le_of_ble_eq_true rfl) (Nat.zero_le _) (Nat.zero_le _) eW_f eW_rall ?_
      exact zR_iret C rfl rfl eL_acts_167 (Nat.zero_le _) (Nat.zero_le _) ⟨_, rfl, rfl, Or.inr (Or.inl ⟨_, _, rfl⟩)⟩
    · skip
      refine zR_caseK (2) (fun h34_2 => ?_) (fun h34_2 => ?_)
      · skip
        refine zR_tswIn (off := 134) (tgt := 168) C eL_acts_34 (by decide) (by decide) (by decide) (by decide) ?_
        refine zR_aload_n C eL_acts_168 3 rfl rfl ?_
        refine zR_iload_n C eL_acts_169 4 rfl rfl ?_
        refine zR_iconst (v := 4) C eL_acts_170 (by decide) ?_
        refine zR_ishr C eL_acts_171 ?_
        refine zR_bipush (v := 9) C eL_acts_172 (by decide) ?_
        refine zR_callS1 C kL_46 eL_acts_174 (c_L_low _ _ (by decide)) rfl rfl (by decide) (by decide) (Nat.le_of_ble_eq_true rfl) (Nat.zero_le _) (Nat.zero_le _) ?_
        refine zR_iload_n C eL_acts_177 4 rfl rfl ?_
        refine zR_bipush (v := 9) C eL_acts_178 (by decide) ?_
        refine zR_ishr C eL_acts_180 ?_
        refine zR_bipush (v := 110) C eL_acts_181 (by decide) ?_
        refine zR_callS1 C kL_46 eL_acts_183 (c_L_low _ _ (by decide)) rfl rfl (by decide) (by decide) (Nat.le_of_ble_eq_true rfl) (Nat.zero_le _) (Nat.zero_le _) ?_
        refine zR_callV1 C kL_88 eL_acts_186 (c_X5_set q _ _ _ he) rfl 0 5 eW_g0 rfl rfl _ eW_call eW_nall rfl (by decide) (by decide) (Nat.le_of_ble_eq_true rfl) (Nat.zero_le _) (Nat.zero_le _) eW_f eW_rall ?_
        exact zR_iret C rfl rfl eL_acts_189 (Nat.zero_le _) (Nat.zero_le _) ⟨_, rfl, rfl, Or.inr (Or.inr (Or.inl ⟨_, _, rfl⟩))⟩
      · skip
        refine zR_caseK (3) (fun h34_3 => ?_) (fun h34_3 => ?_)
        · skip
          refine zR_tswIn (off := 156) (tgt := 190) C eL_acts_34 (by decide) (by decide) (by decide) (by decide) ?_
          refine zR_aload_n C eL_acts_190 3 rfl rfl ?_
          refine zR_iload_n C eL_acts_191 1 rfl rfl ?_
          refine zR_iconst (v := 1) C eL_acts_192 (by decide) ?_
          refine zR_iload_n C eL_acts_193 4 rfl rfl ?_
          refine zR_bipush (v := 9) C eL_acts_194 (by decide) ?_
          refine zR_ishr C eL_acts_196 ?_
          refine zR_sipush (v := 300) C eL_acts_197 (by decide) ?_
          refine zR_callS1 C kL_46 eL_acts_200 (c_L_low _ _ (by decide)) rfl rfl (by decide) (by decide) (Nat.le_of_ble_eq_true rfl) (Nat.zero_le _) (Nat.zero_le _) ?_
          refine zR_iadd C eL_acts_203 ?_
          refine zR_iconst (v := 1) C eL_acts_204 (by decide) ?_
          refine zR_iload_n C eL_acts_205 4 rfl rfl ?_
          refine zR_bipush (v := 18) C eL_acts_206 (by decide) ?_
          refine zR_ishr C eL_acts_208 ?_
          refine zR_bipush (v := 101) C eL_acts_209 (by decide) ?_
          refine zR_callS1 C kL_46 eL_acts_211 (c_L_low _ _ (by decide)) rfl rfl (by decide) (by decide) (Nat.le_of_ble_eq_true rfl) (Nat.zero_le _) (Nat.zero_le _) ?_
          refine zR_iadd C eL_acts_214 ?_
          refine zR_callV1 C kL_91 eL_acts_215 (c_X5_outage q _ _ _ _ he) rfl 0 5 eW_g0 rfl rfl _ eW_call eW_nall rfl (by decide) (by decide) (Nat.le_of_ble_eq_true rfl) (Nat.zero_le _) (Nat.zero_le _) eW_f eW_rall ?_
          exact zR_iret C rfl rfl eL_acts_218 (Nat.zero_le _) (Nat.zero_le _) ⟨_, rfl, rfl, Or.inr (Or.inr (Or.inr (Or.inl ⟨_, _, _, rfl⟩)))⟩
        · skip
          refine zR_caseK (4) (fun h34_4 => ?_) (fun h34_4 => ?_)
          · skip
            refine zR_tswIn (off := 156) (tgt := 190) C eL_acts_34 (by decide) (by decide) (by decide) (by decide) ?_
            refine zR_aload_n C eL_acts_190 3 rfl rfl ?_
            refine zR_iload_n C eL_acts_191 1 rfl rfl ?_
            refine zR_iconst (v := 1) C eL_acts_192 (by decide) ?_
            refine zR_iload_n C eL_acts_193 4 rfl rfl ?_
            refine zR_bipush (v := 9) C eL_acts_194 (by decide) ?_
            refine zR_ishr C eL_acts_196 ?_
            refine zR_sipush (v := 300) C eL_acts_197 (by decide) ?_
            refine zR_callS1 C kL_46 eL_acts_200 (c_L_low _ _ (by decide)) rfl rfl (by decide) (by decide) (Nat.le_of_ble_eq_true rfl) (Nat.zero_le _) (Nat.zero_le _) ?_
            refine zR_iadd C eL_acts_203 ?_
            refine zR_iconst (v := 1) C eL_acts_204 (by decide) ?_
            refine zR_iload_n C eL_acts_205 4 rfl rfl ?_
            refine zR_bipush (v := 18) C eL_acts_206 (by decide) ?_
            refine zR_ishr C eL_acts_208 ?_
            refine zR_bipush (v := 101) C eL_acts_209 (by decide) ?_
            refine zR_callS1 C kL_46 eL_acts_211 (c_L_low _ _ (by decide)) rfl rfl (by decide) (by decide) (Nat.le_of_ble_eq_true rfl) (Nat.zero_le _) (Nat.zero_le _) ?_
            refine zR_iadd C eL_acts_214 ?_
            refine zR_callV1 C kL_91 eL_acts_215 (c_X5_outage q _ _ _ _ he) rfl 0 5 eW_g0 rfl rfl _ eW_call eW_nall rfl (by decide) (by decide) (Nat.le_of_ble_eq_true rfl) (Nat.zero_le _) (Nat.zero_le _) eW_f eW_rall ?_
            exact zR_iret C rfl rfl eL_acts_218 (Nat.zero_le _) (Nat.zero_le _) ⟨_, rfl, rfl, Or.inr (Or.inr (Or.inr (Or.inl ⟨_, _, _, rfl⟩)))⟩
          · skip
            refine zR_caseK (5) (fun h34_5 => ?_) (fun h34_5 => ?_)
            · skip
              refine zR_tswIn (off := 156) (tgt := 190) C eL_acts_34 (by decide) (by decide) (by decide) (by decide) ?_
              refine zR_aload_n C eL_acts_190 3 rfl rfl ?_
              refine zR_iload_n C eL_acts_191 1 rfl rfl ?_
              refine zR_iconst (v := 1) C eL_acts_192 (by decide) ?_
              refine zR_iload_n C eL_acts_193 4 rfl rfl ?_
              refine zR_bipush (v := 9) C eL_acts_194 (by decide) ?_
              refine zR_ishr C eL_acts_196 ?_
              refine zR_sipush (v := 300) C eL_acts_197 (by decide) ?_
              refine zR_callS1 C kL_46 eL_acts_200 (c_L_low _ _ (by decide)) rfl rfl (by decide) (by decide) (Nat.le_of_ble_eq_true rfl) (Nat.zero_le _) (Nat.zero_le _) ?_
              refine zR_iadd C eL_acts_203 ?_
              refine zR_iconst (v := 1) C eL_acts_204 (by decide) ?_
              refine zR_iload_n C eL_acts_205 4 rfl rfl ?_
              refine zR_bipush (v := 18) C eL_acts_206 (by decide) ?_
              refine zR_ishr C eL_acts_208 ?_
              refine zR_bipush (v := 101) C eL_acts_209 (by decide) ?_
              refine zR_callS1 C kL_46 eL_acts_211 (c_L_low _ _ (by decide)) rfl rfl (by decide) (by decide) (Nat.le_of_ble_eq_true rfl) (Nat.zero_le _) (Nat.zero_le _) ?_
              refine zR_iadd C eL_acts_214 ?_
              refine zR_callV1 C kL_91 eL_acts_215 (c_X5_outage q _ _ _ _ he) rfl 0 5 eW_g0 rfl rfl _ eW_call eW_nall rfl (by decide) (by decide) (Nat.le_of_ble_eq_true rfl) (Nat.zero_le _) (Nat.zero_le _) eW_f eW_rall ?_
              exact zR_iret C rfl rfl eL_acts_218 (Nat.zero_le _) (Nat.zero_le _) ⟨_, rfl, rfl, Or.inr (Or.inr (Or.inr (Or.inl ⟨_, _, _, rfl⟩)))⟩
            · skip
              refine zR_caseK (6) (fun h34_6 => ?_) (fun h34_6 => ?_)
              · skip
                refine zR_tswIn (off := 185) (tgt := 219) C eL_acts_34 (by decide) (by decide) (by decide) (by decide) ?_
                refine zR_aload_n C eL_acts_219 3 rfl rfl ?_
                refine zR_iload_n C eL_acts_220 1 rfl rfl ?_
                refine zR_iconst (v := 1) C eL_acts_221 (by decide) ?_
                refine zR_iload_n C eL_acts_222 4 rfl rfl ?_
                refine zR_bipush (v := 9) C eL_acts_223 (by decide) ?_
                refine zR_ishr C eL_acts_225 ?_
                refine zR_sipush (v := 210) C eL_acts_226 (by decide) ?_
                refine zR_callS1 C kL_46 eL_acts_229 (c_L_low _ _ (by decide)) rfl rfl (by decide) (by decide) (Nat.le_of_ble_eq_true rfl) (Nat.zero_le _) (Nat.zero_le _) ?_
                refine zR_iadd C eL_acts_232 ?_
                refine zR_iload_n C eL_acts_233 4 rfl rfl ?_
                refine zR_bipush (v := 20) C eL_acts_234 (by decide) ?_
                refine zR_ishr C eL_acts_236 ?_
                refine zR_iconst (v := 1) C eL_acts_237 (by decide) ?_
                refine zR_iand C eL_acts_238 ?_
                refine zR_callV1 C kL_78 eL_acts_239 (c_X5_release q _ _ _ _ he) rfl 0 5 eW_g0 rfl rfl _ eW_call eW_nall rfl (by decide) (by decide) (Nat.le_of_ble_eq_true rfl) (Nat.zero_le _) (Nat.zero_le _) eW_f eW_rall ?_
                exact zR_iret C rfl rfl eL_acts_242 (Nat.zero_le _) (Nat.zero_le _) ⟨_, rfl, rfl, Or.inr (Or.inr (Or.inr (Or.inr (Or.inl ⟨_, _, _, rfl⟩))))⟩
              · skip
                refine zR_caseK (7) (fun h34_7 => ?_) (fun h34_7 => ?_)
                · skip
                  refine zR_tswIn (off := 185) (tgt := 219) C eL_acts_34 (by decide) (by decide) (by decide) (by decide) ?_
                  refine zR_aload_n C eL_acts_219 3 rfl rfl ?_
                  refine zR_iload_n C eL_acts_220 1 rfl rfl ?_
                  refine zR_iconst (v := 1) C eL_acts_221 (by decide) ?_
                  refine zR_iload_n C eL_acts_222 4 rfl rfl ?_
                  refine zR_bipush (v := 9) C eL_acts_223 (by decide) ?_
                  refine zR_ishr C eL_acts_225 ?_
                  refine zR_sipush (v := 210) C eL_acts_226 (by decide) ?_
                  refine zR_callS1 C kL_46 eL_acts_229 (c_L_low _ _ (by decide)) rfl rfl (by decide) (by decide) (Nat.le_of_ble_eq_true rfl) (Nat.zero_le _) (Nat.zero_le _) ?_
                  refine zR_iadd C eL_acts_232 ?_
                  refine zR_iload_n C eL_acts_233 4 rfl rfl ?_
                  refine zR_bipush (v := 20) C eL_acts_234 (by decide) ?_
                  refine zR_ishr C eL_acts_236 ?_
                  refine zR_iconst (v := 1) C eL_acts_237 (by decide) ?_
                  refine zR_iand C eL_acts_238 ?_
                  refine zR_callV1 C kL_78 eL_acts_239 (c_X5_release q _ _ _ _ he) rfl 0 5 eW_g0 rfl rfl _ eW_call eW_nall rfl (by decide) (by decide) (Nat.le_of_ble_eq_true rfl) (Nat.zero_le _) (Nat.zero_le _) eW_f eW_rall ?_
                  exact zR_iret C rfl rfl eL_acts_242 (Nat.zero_le _) (Nat.zero_le _) ⟨_, rfl, rfl, Or.inr (Or.inr (Or.inr (Or.inr (Or.inl ⟨_, _, _, rfl⟩))))⟩
                · skip
                  refine zR_caseK (8) (fun h34_8 => ?_) (fun h34_8 => ?_)
                  · skip
                    refine zR_tswIn (off := 185) (tgt := 219) C eL_acts_34 (by decide) (by decide) (by decide) (by decide) ?_
                    refine zR_aload_n C eL_acts_219 3 rfl rfl ?_
                    refine zR_iload_n C eL_acts_220 1 rfl rfl ?_
                    refine zR_iconst (v := 1) C eL_acts_221 (by decide) ?_
                    refine zR_iload_n C eL_acts_222 4 rfl rfl ?_
                    refine zR_bipush (v := 9) C eL_acts_223 (by decide) ?_
                    refine zR_ishr C eL_acts_225 ?_
                    refine zR_sipush (v := 210) C eL_acts_226 (by decide) ?_
                    refine zR_callS1 C kL_46 eL_acts_229 (c_L_low _ _ (by decide)) rfl rfl (by decide) (by decide) (Nat.le_of_ble_eq_true rfl) (Nat.zero_le _) (Nat.zero_le _) ?_
                    refine zR_iadd C eL_acts_232 ?_
                    refine zR_iload_n C eL_acts_233 4 rfl rfl ?_
                    refine zR_bipush (v := 20) C eL_acts_234 (by decide) ?_
                    refine zR_ishr C eL_acts_236 ?_
                    refine zR_iconst (v := 1) C eL_acts_237 (by decide) ?_
                    refine zR_iand C eL_acts_238 ?_
                    refine zR_callV1 C kL_78 eL_acts_239 (c_X5_release q _ _ _ _ he) rfl 0 5 eW_g0 rfl rfl _ eW_call eW_nall rfl (by decide) (by decide) (Nat.le_of_ble_eq_true rfl) (Nat.zero_le _) (Nat.zero_le _) eW_f eW_rall ?_
                    exact zR_iret C rfl rfl eL_acts_242 (Nat.zero_le _) (Nat.zero_le _) ⟨_, rfl, rfl, Or.inr (Or.inr (Or.inr (Or.inr (Or.inl ⟨_, _, _, rfl⟩))))⟩
                  · skip
                    refine zR_caseK (9) (fun h34_9 => ?_) (fun h34_9 => ?_)
                    · skip
                      refine zR_tswIn (off := 209) (tgt := 243) C eL_acts_34 (by decide) (by decide) (by decide) (by decide) ?_
                      refine zR_aload_n C eL_acts_243 3 rfl rfl ?_
                      refine zR_iload_n C eL_acts_244 1 rfl rfl ?_
                      refine zR_iload C eL_acts_245 0 rfl ?_
                      refine zR_iconst (v := 1) C eL_acts_247 (by decide) ?_
                      refine zR_iload_n C eL_acts_248 4 rfl rfl ?_
                      refine zR_bipush (v := 12) C eL_acts_249 (by decide) ?_
                      refine zR_ishr C eL_acts_251 ?_
                      refine zR_sipush (v := 200) C eL_acts_252 (by decide) ?_
                      refine zR_callS1 C kL_46 eL_acts_255 (c_L_low _ _ (by decide)) rfl rfl (by decide) (by decide) (Nat.le_of_ble_eq_true rfl) (Nat.zero_le _) (Nat.zero_le _) ?_
                      refine zR_iadd C eL_acts_258 ?_
                      refine zR_iconst (v := 1) C eL_acts_259 (by decide) ?_
                      refine zR_iload_n C eL_acts_260 4 rfl rfl ?_
                      refine zR_bipush (v := 20) C eL_acts_261 (by decide) ?_
                      refine zR_ishr C eL_acts_263 ?_
                      refine zR_iconst (v := 4) C eL_acts_264 (by decide) ?_
                      refine zR_callS1 C kL_46 eL_acts_265 (c_L_low _ _ (by decide)) rfl rfl (by decide) (by decide) (Nat.le_of_ble_eq_true rfl) (Nat.zero_le _) (Nat.zero_le _) ?_
                      refine zR_iadd C eL_acts_268 ?_
                      refine zR_callV1 C kL_72 eL_acts_269 (c_X5_lend q _ _ _ _ _ he) rfl 0 5 eW_g0 rfl rfl _ eW_call eW_nall rfl (by decide) (by decide) (Nat.le_of_ble_eq_true rfl) (Nat.zero_le _) (Nat.zero_le _) eW_f eW_rall ?_
                      exact zR_iret C rfl rfl eL_acts_272 (Nat.zero_le _) (Nat.zero_le _) ⟨_, rfl, rfl, Or.inr (Or.inr (Or.inr (Or.inr (Or.inr (Or.inl ⟨_, _, _, _, rfl⟩)))))⟩
                    · skip
                      refine zR_caseK (10) (fun h34_10 => ?_) (fun h34_10 => ?_)
                      · skip
                        refine zR_tswIn (off := 209) (tgt := 243) C eL_acts_34 (by decide) (by decide) (by decide) (by decide) ?_
                        refine zR_aload_n C eL_acts_243 3 rfl rfl ?_
                        refine zR_iload_n C eL_acts_244 1 rfl rfl ?_
                        refine zR_iload C eL_acts_245 0 rfl ?_
                        refine zR_iconst (v := 1) C eL_acts_247 (by decide) ?_
                        refine zR_iload_n C eL_acts_248 4 rfl rfl ?_
                        refine zR_bipush (v := 12) C eL_acts_249 (by decide) ?_
                        refine zR_ishr C eL_acts_251 ?_
                        refine zR_sipush (v := 200) C eL_acts_252 (by decide) ?_
                        refine zR_callS1 C kL_46 eL_acts_255 (c_L_low _ _ (by decide)) rfl rfl (by decide) (by decide) (Nat.le_of_ble_eq_true rfl) (Nat.zero_le _) (Nat.zero_le _) ?_
                        refine zR_iadd C eL_acts_258 ?_
                        refine zR_iconst (v := 1) C eL_acts_259 (by decide) ?_
                        refine zR_iload_n C eL_acts_260 4 rfl rfl ?_
                        refine zR_bipush (v := 20) C eL_acts_261 (by decide) ?_
                        refine zR_ishr C eL_acts_263 ?_
                        refine zR_iconst (v := 4) C eL_acts_264 (by decide) ?_
                        refine zR_callS1 C kL_46 eL_acts_265 (c_L_low _ _ (by decide)) rfl rfl (by decide) (by decide) (Nat.le_of_ble_eq_true rfl) (Nat.zero_le _) (Nat.zero_le _) ?_
                        refine zR_iadd C eL_acts_268 ?_
                        refine zR_callV1 C kL_72 eL_acts_269 (c_X5_lend q _ _ _ _ _ he) rfl 0 5 eW_g0 rfl rfl _ eW_call eW_nall rfl (by decide) (by decide) (Nat.le_of_ble_eq_true rfl) (Nat.zero_le _) (Nat.zero_le _) eW_f eW_rall ?_
                        exact zR_iret C rfl rfl eL_acts_272 (Nat.zero_le _) (Nat.zero_le _) ⟨_, rfl, rfl, Or.inr (Or.inr (Or.inr (Or.inr (Or.inr (Or.inl ⟨_, _, _, _, rfl⟩)))))⟩
                      · skip
                        refine zR_caseK (11) (fun h34_11 => ?_) (fun h34_11 => ?_)
                        · skip
                          refine zR_tswIn (off := 209) (tgt := 243) C eL_acts_34 (by decide) (by decide) (by decide) (by decide) ?_
                          refine zR_aload_n C eL_acts_243 3 rfl rfl ?_
                          refine zR_iload_n C eL_acts_244 1 rfl rfl ?_
                          refine zR_iload C eL_acts_245 0 rfl ?_
                          refine zR_iconst (v := 1) C eL_acts_247 (by decide) ?_
                          refine zR_iload_n C eL_acts_248 4 rfl rfl ?_
                          refine zR_bipush (v := 12) C eL_acts_249 (by decide) ?_
                          refine zR_ishr C eL_acts_251 ?_
                          refine zR_sipush (v := 200) C eL_acts_252 (by decide) ?_
                          refine zR_callS1 C kL_46 eL_acts_255 (c_L_low _ _ (by decide)) rfl rfl (by decide) (by decide) (Nat.le_of_ble_eq_true rfl) (Nat.zero_le _) (Nat.zero_le _) ?_
                          refine zR_iadd C eL_acts_258 ?_
                          refine zR_iconst (v := 1) C eL_acts_259 (by decide) ?_
                          refine zR_iload_n C eL_acts_260 4 rfl rfl ?_
                          refine zR_bipush (v := 20) C eL_acts_261 (by decide) ?_
                          refine zR_ishr C eL_acts_263 ?_
                          refine zR_iconst (v := 4) C eL_acts_264 (by decide) ?_
                          refine zR_callS1 C kL_46 eL_acts_265 (c_L_low _ _ (by decide)) rfl rfl (by decide) (by decide) (Nat.le_of_ble_eq_true rfl) (Nat.zero_le _) (Nat.zero_le _) ?_
                          refine zR_iadd C eL_acts_268 ?_
                          refine zR_callV1 C kL_72 eL_acts_269 (c_X5_lend q _ _ _ _ _ he) rfl 0 5 eW_g0 rfl rfl _ eW_call eW_nall rfl (by decide) (by decide) (Nat.le_of_ble_eq_true rfl) (Nat.zero_le _) (Nat.zero_le _) eW_f eW_rall ?_
                          exact zR_iret C rfl rfl eL_acts_272 (Nat.zero_le _) (Nat.zero_le _) ⟨_, rfl, rfl, Or.inr (Or.inr (Or.inr (Or.inr (Or.inr (Or.inl ⟨_, _, _, _, rfl⟩)))))⟩
                        · skip
                          refine zR_caseK (12) (fun h34_12 => ?_) (fun h34_12 => ?_)
                          · skip
                            refine zR_tswIn (off := 239) (tgt := 273) C eL_acts_34 (by decide) (by decide) (by decide) (by decide) ?_
                            refine zR_aload_n C eL_acts_273 3 rfl rfl ?_
                            refine zR_iload_n C eL_acts_274 4 rfl rfl ?_
                            refine zR_iconst (v := 4) C eL_acts_275 (by decide) ?_
                            refine zR_ishr C eL_acts_276 ?_
                            refine zR_iconst (v := 1) C eL_acts_277 (by decide) ?_
                            refine zR_aload_n C eL_acts_278 3 rfl rfl ?_
                            refine zR_iconst (v := 5) C eL_acts_279 (by decide) ?_
                            refine zR_callV1 C kL_12 eL_acts_280 (c_X5_count q _ _ he) rfl 0 5 eW_g0 rfl rfl _ eW_call eW_nall rfl (by decide) (by decide) (Nat.le_of_ble_eq_true rfl) (Nat.zero_le _) (Nat.zero_le _) eW_f eW_rall ?_
                            refine zR_iadd C eL_acts_283 ?_
                            refine zR_callS1 C kL_46 eL_acts_284 (c_L_low _ _ h51) rfl rfl (by decide) (by decide) (Nat.le_of_ble_eq_true rfl) (Nat.zero_le _) (Nat.zero_le _) ?_
                            refine zR_callV1 C kL_94 eL_acts_287 (c_X5_repay q _ _ he) rfl 0 5 eW_g0 rfl rfl _ eW_call eW_nall rfl (by decide) (by decide) (Nat.le_of_ble_eq_true rfl) (Nat.zero_le _) (Nat.zero_le _) eW_f eW_rall ?_
                            exact zR_iret C rfl rfl eL_acts_290 (Nat.zero_le _) (Nat.zero_le _) ⟨_, rfl, rfl, Or.inr (Or.inr (Or.inr (Or.inr (Or.inr (Or.inr (Or.inl ⟨_, rfl⟩))))))⟩
                          · skip
                            refine zR_caseK (13) (fun h34_13 => ?_) (fun h34_13 => ?_)
                            · skip
                              refine zR_tswIn (off := 257) (tgt := 291) C eL_acts_34 (by decide) (by decide) (by decide) (by decide) ?_
                              refine zR_aload_n C eL_acts_291 3 rfl rfl ?_
                              refine zR_iload_n C eL_acts_292 1 rfl rfl ?_
                              refine zR_aload_n C eL_acts_293 3 rfl rfl ?_
                              refine zR_iconst (v := 0) C eL_acts_294 (by decide) ?_
                              refine zR_callV1 C kL_12 eL_acts_295 (c_X5_count q _ _ he) rfl 0 5 eW_g0 rfl rfl _ eW_call eW_nall rfl (by decide) (by decide) (Nat.le_of_ble_eq_true rfl) (Nat.zero_le _) (Nat.zero_le _) eW_f eW_rall ?_
                              refine zR_iload_n C eL_acts_298 4 rfl rfl ?_
                              refine zR_bipush (v := 9) C eL_acts_299 (by decide) ?_
                              refine zR_ishr C eL_acts_301 ?_
                              refine zR_bipush (v := 100) C eL_acts_302 (by decide) ?_
                              refine zR_callS1 C kL_46 eL_acts_304 (c_L_low _ _ (by decide)) rfl rfl (by decide) (by decide) (Nat.le_of_ble_eq_true rfl) (Nat.zero_le _) (Nat.zero_le _) ?_
                              refine zR_iadd C eL_acts_307 ?_
                              refine zR_iconst (v := 1) C eL_acts_308 (by decide) ?_
                              refine zR_iload_n C eL_acts_309 4 rfl rfl ?_
                              refine zR_bipush (v := 16) C eL_acts_310 (by decide) ?_
                              refine zR_ishr C eL_acts_312 ?_
                              refine zR_bipush (v := 100) C eL_acts_313 (by decide) ?_
                              refine zR_callS1 C kL_46 eL_acts_315 (c_L_low _ _ (by decide)) rfl rfl (by decide) (by decide) (Nat.le_of_ble_eq_true rfl) (Nat.zero_le _) (Nat.zero_le _) ?_
                              refine zR_iadd C eL_acts_318 ?_
                              refine zR_iload_n C eL_acts_319 4 rfl rfl ?_
                              refine zR_bipush (v := 22) C eL_acts_320 (by decide) ?_
                              refine zR_ishr C eL_acts_322 ?_
                              refine zR_bipush (v := 11) C eL_acts_323 (by decide) ?_
                              refine zR_callS1 C kL_46 eL_acts_325 (c_L_low _ _ (by decide)) rfl rfl (by decide) (by decide) (Nat.le_of_ble_eq_true rfl) (Nat.zero_le _) (Nat.zero_le _) ?_
                              refine zR_callV1 C kL_97 eL_acts_328 (c_X5_plan q _ _ _ _ _ he) rfl 0 5 eW_g0 rfl rfl _ eW_call eW_nall rfl (by decide) (by decide) (Nat.le_of_ble_eq_true rfl) (Nat.zero_le _) (Nat.zero_le _) eW_f eW_rall ?_
                              exact zR_iret C rfl rfl eL_acts_331 (Nat.zero_le _) (Nat.zero_le _) ⟨_, rfl, rfl, Or.inr (Or.inr (Or.inr (Or.inr (Or.inr (Or.inr (Or.inr (Or.inl ⟨_, _, _, _, rfl⟩)))))))⟩
                            · skip
                              refine zR_caseK (14) (fun h34_14 => ?_) (fun h34_14 => ?_)
                              · skip
                                refine zR_tswIn (off := 257) (tgt := 291) C eL_acts_34 (by decide) (by decide) (by decide) (by decide) ?_
                                refine zR_aload_n C eL_acts_291 3 rfl rfl ?_
                                refine zR_iload_n C eL_acts_292 1 rfl rfl ?_
                                refine zR_aload_n C eL_acts_293 3 rfl rfl ?_
                                refine zR_iconst (v := 0) C eL_acts_294 (by decide) ?_
                                refine zR_callV1 C kL_12 eL_acts_295 (c_X5_count q _ _ he) rfl 0 5 eW_g0 rfl rfl _ eW_call eW_nall rfl (by decide) (by decide) (Nat.le_of_ble_eq_true rfl) (Nat.zero_le _) (Nat.zero_le _) eW_f eW_rall ?_
                                refine zR_iload_n C eL_acts_298 4 rfl rfl ?_
                                refine zR_bipush (v := 9) C eL_acts_299 (by decide) ?_
                                refine zR_ishr C eL_acts_301 ?_
                                refine zR_bipush (v := 100) C eL_acts_302 (by decide) ?_
                                refine zR_callS1 C kL_46 eL_acts_304 (c_L_low _ _ (by decide)) rfl rfl (by decide) (by decide) (Nat.le_of_ble_eq_true rfl) (Nat.zero_le _) (Nat.zero_le _) ?_
                                refine zR_iadd C eL_acts_307 ?_
                                refine zR_iconst (v := 1) C eL_acts_308 (by decide) ?_
                                refine zR_iload_n C eL_acts_309 4 rfl rfl ?_
                                refine zR_bipush (v := 16) C eL_acts_310 (by decide) ?_
                                refine zR_ishr C eL_acts_312 ?_
                                refine zR_bipush (v := 100) C eL_acts_313 (by decide) ?_
                                refine zR_callS1 C kL_46 eL_acts_315 (c_L_low _ _ (by decide)) rfl rfl (by decide) (by decide) (Nat.le_of_ble_eq_true rfl) (Nat.zero_le _) (Nat.zero_le _) ?_
                                refine zR_iadd C eL_acts_318 ?_
                                refine zR_iload_n C eL_acts_319 4 rfl rfl ?_
                                refine zR_bipush (v := 22) C eL_acts_320 (by decide) ?_
                                refine zR_ishr C eL_acts_322 ?_
                                refine zR_bipush (v := 11) C eL_acts_323 (by decide) ?_
                                refine zR_callS1 C kL_46 eL_acts_325 (c_L_low _ _ (by decide)) rfl rfl (by decide) (by decide) (Nat.le_of_ble_eq_true rfl) (Nat.zero_le _) (Nat.zero_le _) ?_
                                refine zR_callV1 C kL_97 eL_acts_328 (c_X5_plan q _ _ _ _ _ he) rfl 0 5 eW_g0 rfl rfl _ eW_call eW_nall rfl (by decide) (by decide) (Nat.le_of_ble_eq_true rfl) (Nat.zero_le _) (Nat.zero_le _) eW_f eW_rall ?_
                                exact zR_iret C rfl rfl eL_acts_331 (Nat.zero_le _) (Nat.zero_le _) ⟨_, rfl, rfl, Or.inr (Or.inr (Or.inr (Or.inr (Or.inr (Or.inr (Or.inr (Or.inl ⟨_, _, _, _, rfl⟩)))))))⟩
                              · skip
                                refine zR_caseK (15) (fun h34_15 => ?_) (fun h34_15 => ?_)
                                · skip
                                  refine zR_tswIn (off := 298) (tgt := 332) C eL_acts_34 (by decide) (by decide) (by decide) (by decide) ?_
                                  refine zR_aload_n C eL_acts_332 3 rfl rfl ?_
                                  refine zR_iload_n C eL_acts_333 4 rfl rfl ?_
                                  refine zR_iconst (v := 4) C eL_acts_334 (by decide) ?_
                                  refine zR_ishr C eL_acts_335 ?_
                                  refine zR_iconst (v := 1) C eL_acts_336 (by decide) ?_
                                  refine zR_aload_n C eL_acts_337 3 rfl rfl ?_
                                  refine zR_bipush (v := 6) C eL_acts_338 (by decide) ?_
                                  refine zR_callV1 C kL_12 eL_acts_340 (c_X5_count q _ _ he) rfl 0 5 eW_g0 rfl rfl _ eW_call eW_nall rfl (by decide) (by decide) (Nat.le_of_ble_eq_true rfl) (Nat.zero_le _) (Nat.zero_le _) eW_f eW_rall ?_
                                  refine zR_iadd C eL_acts_343 ?_
                                  refine zR_callS1 C kL_46 eL_acts_344 (c_L_low _ _ h61) rfl rfl (by decide) (by decide) (Nat.le_of_ble_eq_true rfl) (Nat.zero_le _) (Nat.zero_le _) ?_
                                  refine zR_callV1 C kL_100 eL_acts_347 (c_X5_drop q _ _ he) rfl 0 5 eW_g0 rfl rfl _ eW_call eW_nall rfl (by decide) (by decide) (Nat.le_of_ble_eq_true rfl) (Nat.zero_le _) (Nat.zero_le _) eW_f eW_rall ?_
                                  exact zR_iret C rfl rfl eL_acts_350 (Nat.zero_le _) (Nat.zero_le _) ⟨_, rfl, rfl, Or.inr (Or.inr (Or.inr (Or.inr (Or.inr (Or.inr (Or.inr (Or.inr (Or.inl ⟨_, rfl⟩))))))))⟩
                                · skip
                                  refine zR_tswD (tgt := 351) C eL_acts_34 (fun j hj => match j, hj with | 0, _ => Or.inr (zsw_ne h34_0 (by decide) (by decide)) | 1, _ => Or.inr (zsw_ne h34_1 (by decide) (by decide)) | 2, _ => Or.inr (zsw_ne h34_2 (by decide) (by decide)) | 3, _ => Or.inr (zsw_ne h34_3 (by decide) (by decide)) | 4, _ => Or.inr (zsw_ne h34_4 (by decide) (by decide)) | 5, _ => Or.inr (zsw_ne h34_5 (by decide) (by decide)) | 6, _ => Or.inr (zsw_ne h34_6 (by decide) (by decide)) | 7, _ => Or.inr (zsw_ne h34_7 (by decide) (by decide)) | 8, _ => Or.inr (zsw_ne h34_8 (by decide) (by decide)) | 9, _ => Or.inr (zsw_ne h34_9 (by decide) (by decide)) | 10, _ => Or.inr (zsw_ne h34_10 (by decide) (by decide)) | 11, _ => Or.inr (zsw_ne h34_11 (by decide) (by decide)) | 12, _ => Or.inr (zsw_ne h34_12 (by decide) (by decide)) | 13, _ => Or.inr (zsw_ne h34_13 (by decide) (by decide)) | 14, _ => Or.inr (zsw_ne h34_14 (by decide) (by decide)) | 15, _ => Or.inr (zsw_ne h34_15 (by decide) (by decide)) | _ + 16, hj => absurd hj (by simp)) (by decide) (by decide) ?_
                                  refine zR_aload_n C eL_acts_351 3 rfl rfl ?_
                                  refine zR_iconst (v := 1) C eL_acts_352 (by decide) ?_
                                  refine zR_iload_n C eL_acts_353 4 rfl rfl ?_
                                  refine zR_bipush (v := 9) C eL_acts_354 (by decide) ?_
                                  refine zR_ishr C eL_acts_356 ?_
                                  refine zR_iload_n C eL_acts_357 4 rfl rfl ?_
                                  refine zR_bipush (v := 20) C eL_acts_358 (by decide) ?_
                                  refine zR_ishr C eL_acts_360 ?_
                                  refine zR_iconst (v := 1) C eL_acts_361 (by decide) ?_
                                  refine zR_iand C eL_acts_362 ?_
                                  refine zR_ifne C eL_acts_363 (fun h363 => ?_) (fun h363 => ?_)
                                  · skip
                                    refine zR_sipush (v := 300) C eL_acts_371 (by decide) ?_
                                    refine zR_callS1 C kL_46 eL_acts_374 (c_L_low _ _ (by decide)) rfl rfl (by decide) (by decide) (Nat.le_of_ble_eq_true rfl) (Nat.zero_le _) (Nat.zero_le _) ?_
                                    refine zR_iadd C eL_acts_377 ?_
                                    refine zR_callV1 C kL_55 eL_acts_378 (c_X5_hours q _ _ he) rfl 0 5 eW_g0 rfl rfl _ eW_call eW_nall rfl (by decide) (by decide) (Nat.le_of_ble_eq_true rfl) (Nat.zero_le _) (Nat.zero_le _) eW_f eW_rall ?_
                                    exact zR_iret C rfl rfl eL_acts_381 (Nat.zero_le _) (Nat.zero_le _) ⟨_, rfl, rfl, Or.inr (Or.inr (Or.inr (Or.inr (Or.inr (Or.inr (Or.inr (Or.inr (Or.inr (⟨_, rfl⟩)))))))))⟩
                                  · skip
                                    refine zR_bipush (v := 30) C eL_acts_366 (by decide) ?_
                                    refine zR_goto C eL_acts_368 ?_
                                    refine zR_callS1 C kL_46 eL_acts_374 (c_L_low _ _ (by decide)) rfl rfl (by decide) (by decide) (Nat.le_of_ble_eq_true rfl) (Nat.zero_le _) (Nat.zero_le _) ?_
                                    refine zR_iadd C eL_acts_377 ?_
                                    refine zR_callV1 C kL_55 eL_acts_378 (c_X5_hours q _ _ he) rfl 0 5 eW_g0 rfl rfl _ eW_call eW_nall rfl (by decide) (by decide) (Nat.le_of_ble_eq_true rfl) (Nat.zero_le _) (Nat.zero_le _) eW_f eW_rall ?_
                                    exact zR_iret C rfl rfl eL_acts_381 (Nat.zero_le _) (Nat.zero_le _) ⟨_, rfl, rfl, Or.inr (Or.inr (Or.inr (Or.inr (Or.inr (Or.inr (Or.inr (Or.inr (Or.inr (⟨_, rfl⟩)))))))))⟩
