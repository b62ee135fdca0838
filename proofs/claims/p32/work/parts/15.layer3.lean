abbrev zn32 (x : Int32) : Nat := x.toNatClampNeg
def zKa (own : String) (idx : Nat) : Prop := Cond.methodLink own idx arraycopyName ∈ zTBL ∧ Cond.native arraycopyName ∈ zTBL ∧ Cond.static arraycopyName ∈ zTBL ∧ Cond.initialized "java/lang/System" ∈ zTBL

section ZR3
variable {x : zX} {g : zG} {own : String} {cc : ByteArray} {ret : Option FieldType} {f : Nat} {post : Option Value → va_W → Prop} {n : Nat × Nat} {pc pc' : Nat} {lv : List (Nat × Value)} {st rest : List Value} {ws : va_W}

theorem zR_callV1 (C : zC x g own cc ret f) {idx : Nat} {y : MethodName} {cc' : ByteArray} {nL' : Nat} {ret' : Option FieldType} {f' nn : Nat} {b : Nat} {As : List Value} {wc w0 ws1 : va_W} {v : Value} (K : zKv own idx y cc' nL' ret' nn) (d : zD cc pc (.invokevirtual idx) 3 pc')
    (M : zM (zl x) g y cc' nL' ret' f' 0 0 (.ref b :: As) wc (zE (some v) w0)) (hst : st = As.reverse ++ .ref b :: rest) (q0 ci : Nat) {fs : List Value} (he : ws[q0]? = some (b, .inr (ci, fs))) {rw : vw_C} (hci : vwCl[ci]? = some rw) (hcl : rw.1 = y.cls) (isC : List Nat) (hC : isC.map (fun i => ws[i]?) = wc.map some) (hnd : va_nd isC = true)
    (hn : As.length = nn) (hf : f' + 1 ≤ f) (hnl : nL' ≤ 17) (hcat : (rest.map fun v => v.category).sum ≤ 8) (hr1 : n.1 ≤ zmc x) (hr2 : n.2 ≤ zms x) (hfst : w0.map Prod.fst = wc.map Prod.fst) (hw : zrep ws isC w0 = ws1)
    (k : zR x g post n pc' lv (v :: rest) ws1) : zR x g post n pc lv st ws := zR_callV C K d M hst q0 ci he hci hcl isC hC hnd hn hf hnl hcat hr1 hr2 hfst hw k
theorem zR_callVv (C : zC x g own cc ret f) {idx : Nat} {y : MethodName} {cc' : ByteArray} {nL' : Nat} {ret' : Option FieldType} {f' nn : Nat} {b : Nat} {As : List Value} {wc w0 ws1 : va_W} (K : zKv own idx y cc' nL' ret' nn) (d : zD cc pc (.invokevirtual idx) 3 pc')
    (M : zM (zl x) g y cc' nL' ret' f' 0 0 (.ref b :: As) wc (zE none w0)) (hst : st = As.reverse ++ .ref b :: rest) (q0 ci : Nat) {fs : List Value} (he : ws[q0]? = some (b, .inr (ci, fs))) {rw : vw_C} (hci : vwCl[ci]? = some rw) (hcl : rw.1 = y.cls) (isC : List Nat) (hC : isC.map (fun i => ws[i]?) = wc.map some) (hnd : va_nd isC = true)
    (hn : As.length = nn) (hf : f' + 1 ≤ f) (hnl : nL' ≤ 17) (hcat : (rest.map fun v => v.category).sum ≤ 8) (hr1 : n.1 ≤ zmc x) (hr2 : n.2 ≤ zms x) (hfst : w0.map Prod.fst = wc.map Prod.fst) (hw : zrep ws isC w0 = ws1)
    (k : zR x g post n pc' lv (rest) ws1) : zR x g post n pc lv st ws := zR_callV C K d M hst q0 ci he hci hcl isC hC hnd hn hf hnl hcat hr1 hr2 hfst hw k
theorem zR_callS1 (C : zC x g own cc ret f) {idx : Nat} {y : MethodName} {cc' : ByteArray} {nL' : Nat} {ret' : Option FieldType} {f' nn : Nat} {As : List Value} {v : Value} (K : zKs own idx y cc' nL' ret' nn) (d : zD cc pc (.invokestatic idx) 3 pc')
    (M : zM (zl x) g y cc' nL' ret' f' 0 0 As [] (zE (some v) [])) (hst : st = As.reverse ++ rest) (hn : As.length = nn) (hf : f' + 1 ≤ f) (hnl : nL' ≤ 17) (hcat : (rest.map fun v => v.category).sum ≤ 8) (hr1 : n.1 ≤ zmc x) (hr2 : n.2 ≤ zms x)
    (k : zR x g post n pc' lv (v :: rest) ws) : zR x g post n pc lv st ws := zR_callS C K d M hst hn hf hnl hcat hr1 hr2 k
theorem zR_lshl (C : zC x g own cc ret f) {a : Int64} {b : Int32} (d : zD cc pc (.lshl) 1 pc') (k : zR x g post n pc' lv (.long (a <<< (b.toInt64 &&& 63)) :: st) ws) : zR x g post n pc lv (.int b :: .long a :: st) ws := by
  obtain ⟨d, rfl⟩ := d
  exact fun H locs ls hP hD hS hl => lv_lshl C.1.1 C.1.2.1 d rfl (k H locs ls hP hD hS hl)
theorem zR_lshr (C : zC x g own cc ret f) {a : Int64} {b : Int32} (d : zD cc pc (.lshr) 1 pc') (k : zR x g post n pc' lv (.long (a >>> (b.toInt64 &&& 63)) :: st) ws) : zR x g post n pc lv (.int b :: .long a :: st) ws := by
  obtain ⟨d, rfl⟩ := d
  exact fun H locs ls hP hD hS hl => lv_lshr C.1.1 C.1.2.1 d rfl (k H locs ls hP hD hS hl)
theorem zR_lushr (C : zC x g own cc ret f) {a : Int64} {b : Int32} {v : Int64} (d : zD cc pc (.lushr) 1 pc') (hv : (a.toUInt64 >>> (b.toInt64.toUInt64 &&& 63)).toInt64 = v) (k : zR x g post n pc' lv (.long v :: st) ws) : zR x g post n pc lv (.int b :: .long a :: st) ws := by
  obtain ⟨d, rfl⟩ := d
  exact fun H locs ls hP hD hS hl => lv_lushr C.1.1 C.1.2.1 d hv (k H locs ls hP hD hS hl)
theorem zR_i2c (C : zC x g own cc ret f) {a : Int32} {v : Int32} (d : zD cc pc (.i2c) 1 pc') (hv : a.toUInt32.toUInt16.toUInt32.toInt32 = v) (k : zR x g post n pc' lv (.int v :: st) ws) : zR x g post n pc lv (.int a :: st) ws := by
  obtain ⟨d, rfl⟩ := d
  exact fun H locs ls hP hD hS hl => lv_i2c C.1.1 C.1.2.1 d hv (k H locs ls hP hD hS hl)
theorem zR_acpi (C : zC x g own cc ret f) {idx a0 a1 N0 N1 : Nat} {h0 h1 : Nat → Int32} {v : Int32} {ws1 : va_W} (K : zKa own idx) (d : zD cc pc (.invokestatic idx) 3 pc') (p0 p1 : Nat) (ha0 : ws[p0]? = some (a0, .inl (g.2.1 0, N0, .inl h0))) (ha1 : ws[p1]? = some (a1, .inl (g.2.1 0, N1, .inl h1)))
    (hv : ¬ v < 0 ∧ zn32 v ≤ N0 ∧ zn32 v ≤ N1) (hf : 1 ≤ f) (hlo : (st.map fun v => v.category).sum + (nativeFrameWords "java/lang/System" "arraycopy" 5 + 11) ≤ 36 * f) (hw : ws.set p1 (a1, .inl (g.2.1 0, N1, .inl (va_cpy h0 h1 0 0 (zn32 v)))) = ws1) (k : zR x g post n pc' lv st ws1) : zR x g post n pc lv (.int v :: .int 0 :: .ref a1 :: .int 0 :: .ref a0 :: st) ws := by
  obtain ⟨d, rfl⟩ := d
  subst hw
  obtain ⟨k1, k2, k3, k4⟩ := K
  have hR := C.2.2.2.2.1
  exact fun H locs ls hP hD hS hl => va_copyi C.1.1 C.1.2.1 (C.1.2.2.1.trans (zlv_size hl)) C.1.2.2.2 (C.2.1 _ k1) (C.2.1 _ k2) (C.2.1 _ k3) (C.2.1 _ k4) C.2.2.1 hP hD hS p0 p1 0 0 ha0 ha1 rfl rfl rfl (by decide) (by decide) hv.1 (by rw [show (0 : Int32).toNatClampNeg = 0 from rfl, Nat.zero_add]; exact hv.2.1) (by rw [show (0 : Int32).toNatClampNeg = 0 from rfl, Nat.zero_add]; exact hv.2.2) (fun _ _ => rfl) (by rw [hR]; exact hf) (by rw [hR]; exact hlo) d (fun H1 locs1 hP hD hS => k H1 locs1 ls hP hD hS hl)
theorem zR_acpl (C : zC x g own cc ret f) {idx a0 a1 N0 N1 : Nat} {h0 h1 : Nat → Int64} {v : Int32} {ws1 : va_W} (K : zKa own idx) (d : zD cc pc (.invokestatic idx) 3 pc') (p0 p1 : Nat) (ha0 : ws[p0]? = some (a0, .inl (g.2.1 1, N0, .inr (.inl h0)))) (ha1 : ws[p1]? = some (a1, .inl (g.2.1 1, N1, .inr (.inl h1))))
    (hv : ¬ v < 0 ∧ zn32 v ≤ N0 ∧ zn32 v ≤ N1) (hf : 1 ≤ f) (hlo : (st.map fun v => v.category).sum + (nativeFrameWords "java/lang/System" "arraycopy" 5 + 11) ≤ 36 * f) (hw : ws.set p1 (a1, .inl (g.2.1 1, N1, .inr (.inl (va_cpy h0 h1 0 0 (zn32 v))))) = ws1) (k : zR x g post n pc' lv st ws1) : zR x g post n pc lv (.int v :: .int 0 :: .ref a1 :: .int 0 :: .ref a0 :: st) ws := by
  obtain ⟨d, rfl⟩ := d
  subst hw
  obtain ⟨k1, k2, k3, k4⟩ := K
  have hR := C.2.2.2.2.1
  exact fun H locs ls hP hD hS hl => va_copyl C.1.1 C.1.2.1 (C.1.2.2.1.trans (zlv_size hl)) C.1.2.2.2 (C.2.1 _ k1) (C.2.1 _ k2) (C.2.1 _ k3) (C.2.1 _ k4) C.2.2.1 hP hD hS p0 p1 1 1 ha0 ha1 rfl rfl rfl (by decide) (by decide) hv.1 (by rw [show (0 : Int32).toNatClampNeg = 0 from rfl, Nat.zero_add]; exact hv.2.1) (by rw [show (0 : Int32).toNatClampNeg = 0 from rfl, Nat.zero_add]; exact hv.2.2) (fun _ _ => rfl) (by rw [hR]; exact hf) (by rw [hR]; exact hlo) d (fun H1 locs1 hP hD hS => k H1 locs1 ls hP hD hS hl)
theorem zR_ialdN (C : zC x g own cc ret f) {a N i : Nat} {h : Nat → Int32} (d : zD cc pc .iaload 1 pc') (p : Nat) (ha : ws[p]? = some (a, .inl (g.2.1 0, N, .inl h))) (hi : i < N ∧ N < 2 ^ 31) (k : zR x g post n pc' lv (.int (h i) :: st) ws) : zR x g post n pc lv (.int (nI i) :: .ref a :: st) ws := zR_iald C d p ha (vp_in_nI hi.1 hi.2) (by rw [nI_clamp (Nat.lt_trans hi.1 hi.2)]; exact k)
theorem zR_zaldN (C : zC x g own cc ret f) {a N i : Nat} {h : Nat → Int32} (d : zD cc pc .baload 1 pc') (p : Nat) (ha : ws[p]? = some (a, .inl (g.2.1 2, N, .inl h))) (hi : i < N ∧ N < 2 ^ 31) (k : zR x g post n pc' lv (.int (h i) :: st) ws) : zR x g post n pc lv (.int (nI i) :: .ref a :: st) ws := zR_zald C d p ha (vp_in_nI hi.1 hi.2) (by rw [nI_clamp (Nat.lt_trans hi.1 hi.2)]; exact k)
theorem zR_caldN (C : zC x g own cc ret f) {a N i : Nat} {h : Nat → Int32} (d : zD cc pc .caload 1 pc') (p : Nat) (ha : ws[p]? = some (a, .inl (g.2.1 3, N, .inl h))) (hi : i < N ∧ N < 2 ^ 31) (k : zR x g post n pc' lv (.int (h i) :: st) ws) : zR x g post n pc lv (.int (nI i) :: .ref a :: st) ws := zR_cald C d p ha (vp_in_nI hi.1 hi.2) (by rw [nI_clamp (Nat.lt_trans hi.1 hi.2)]; exact k)
theorem zR_laldN (C : zC x g own cc ret f) {a N i : Nat} {h : Nat → Int64} (d : zD cc pc .laload 1 pc') (p : Nat) (ha : ws[p]? = some (a, .inl (g.2.1 1, N, .inr (.inl h)))) (hi : i < N ∧ N < 2 ^ 31) (k : zR x g post n pc' lv (.long (h i) :: st) ws) : zR x g post n pc lv (.int (nI i) :: .ref a :: st) ws := zR_lald C d p ha (vp_in_nI hi.1 hi.2) (by rw [nI_clamp (Nat.lt_trans hi.1 hi.2)]; exact k)
theorem zR_iastN (C : zC x g own cc ret f) {a N i : Nat} {h : Nat → Int32} {v : Int32} {ws1 : va_W} (d : zD cc pc .iastore 1 pc') (p : Nat) (ha : ws[p]? = some (a, .inl (g.2.1 0, N, .inl h))) (hi : i < N ∧ N < 2 ^ 31) (hw : ws.set p (a, .inl (g.2.1 0, N, .inl (upd h i v))) = ws1) (k : zR x g post n pc' lv st ws1) : zR x g post n pc lv (.int v :: .int (nI i) :: .ref a :: st) ws := zR_iast C d p ha (vp_in_nI hi.1 hi.2) (by rw [nI_clamp (Nat.lt_trans hi.1 hi.2)]; exact hw) k
theorem zR_lastN (C : zC x g own cc ret f) {a N i : Nat} {h : Nat → Int64} {v : Int64} {ws1 : va_W} (d : zD cc pc .lastore 1 pc') (p : Nat) (ha : ws[p]? = some (a, .inl (g.2.1 1, N, .inr (.inl h)))) (hi : i < N ∧ N < 2 ^ 31) (hw : ws.set p (a, .inl (g.2.1 1, N, .inr (.inl (vp_updL h i v)))) = ws1) (k : zR x g post n pc' lv st ws1) : zR x g post n pc lv (.long v :: .int (nI i) :: .ref a :: st) ws := zR_last C d p ha (vp_in_nI hi.1 hi.2) (by rw [nI_clamp (Nat.lt_trans hi.1 hi.2)]; exact hw) k
theorem zR_zastN (C : zC x g own cc ret f) {a N i : Nat} {h : Nat → Int32} {v : Int32} {ws1 : va_W} (d : zD cc pc .bastore 1 pc') (p : Nat) (ha : ws[p]? = some (a, .inl (g.2.1 2, N, .inl h))) (hi : i < N ∧ N < 2 ^ 31) {v' : Int32} (hv : vp_nar .boolean v = v') (hw : ws.set p (a, .inl (g.2.1 2, N, .inl (upd h i v'))) = ws1) (k : zR x g post n pc' lv st ws1) : zR x g post n pc lv (.int v :: .int (nI i) :: .ref a :: st) ws := zR_zast C d p ha (vp_in_nI hi.1 hi.2) hv (by rw [nI_clamp (Nat.lt_trans hi.1 hi.2)]; exact hw) k
theorem zR_castN (C : zC x g own cc ret f) {a N i : Nat} {h : Nat → Int32} {v : Int32} {ws1 : va_W} (d : zD cc pc .castore 1 pc') (p : Nat) (ha : ws[p]? = some (a, .inl (g.2.1 3, N, .inl h))) (hi : i < N ∧ N < 2 ^ 31) {v' : Int32} (hv : vp_nar .char v = v') (hw : ws.set p (a, .inl (g.2.1 3, N, .inl (upd h i v'))) = ws1) (k : zR x g post n pc' lv st ws1) : zR x g post n pc lv (.int v :: .int (nI i) :: .ref a :: st) ws := zR_cast C d p ha (vp_in_nI hi.1 hi.2) hv (by rw [nI_clamp (Nat.lt_trans hi.1 hi.2)]; exact hw) k
theorem zR_ialdK (C : zC x g own cc ret f) {a N : Nat} {i : Int32} {h : Nat → Int32} (d : zD cc pc .iaload 1 pc') (p : Nat) (ha : ws[p]? = some (a, .inl (g.2.1 0, N, .inl h))) (c : Nat) (hc : i.toNatClampNeg = c) (hi : vp_in i N) (k : zR x g post n pc' lv (.int (h c) :: st) ws) : zR x g post n pc lv (.int i :: .ref a :: st) ws := zR_iald C d p ha hi (by rw [hc]; exact k)
theorem zR_zaldK (C : zC x g own cc ret f) {a N : Nat} {i : Int32} {h : Nat → Int32} (d : zD cc pc .baload 1 pc') (p : Nat) (ha : ws[p]? = some (a, .inl (g.2.1 2, N, .inl h))) (c : Nat) (hc : i.toNatClampNeg = c) (hi : vp_in i N) (k : zR x g post n pc' lv (.int (h c) :: st) ws) : zR x g post n pc lv (.int i :: .ref a :: st) ws := zR_zald C d p ha hi (by rw [hc]; exact k)
theorem zR_caldK (C : zC x g own cc ret f) {a N : Nat} {i : Int32} {h : Nat → Int32} (d : zD cc pc .caload 1 pc') (p : Nat) (ha : ws[p]? = some (a, .inl (g.2.1 3, N, .inl h))) (c : Nat) (hc : i.toNatClampNeg = c) (hi : vp_in i N) (k : zR x g post n pc' lv (.int (h c) :: st) ws) : zR x g post n pc lv (.int i :: .ref a :: st) ws := zR_cald C d p ha hi (by rw [hc]; exact k)
theorem zR_laldK (C : zC x g own cc ret f) {a N : Nat} {i : Int32} {h : Nat → Int64} (d : zD cc pc .laload 1 pc') (p : Nat) (ha : ws[p]? = some (a, .inl (g.2.1 1, N, .inr (.inl h)))) (c : Nat) (hc : i.toNatClampNeg = c) (hi : vp_in i N) (k : zR x g post n pc' lv (.long (h c) :: st) ws) : zR x g post n pc lv (.int i :: .ref a :: st) ws := zR_lald C d p ha hi (by rw [hc]; exact k)
theorem zR_iastK (C : zC x g own cc ret f) {a N : Nat} {i : Int32} {h : Nat → Int32} {v : Int32} {ws1 : va_W} (d : zD cc pc .iastore 1 pc') (p : Nat) (ha : ws[p]? = some (a, .inl (g.2.1 0, N, .inl h))) (c : Nat) (hc : i.toNatClampNeg = c) (hi : vp_in i N) (hw : ws.set p (a, .inl (g.2.1 0, N, .inl (upd h c v))) = ws1) (k : zR x g post n pc' lv st ws1) : zR x g post n pc lv (.int v :: .int i :: .ref a :: st) ws := zR_iast C d p ha hi (by rw [hc]; exact hw) k
theorem zR_lastK (C : zC x g own cc ret f) {a N : Nat} {i : Int32} {h : Nat → Int64} {v : Int64} {ws1 : va_W} (d : zD cc pc .lastore 1 pc') (p : Nat) (ha : ws[p]? = some (a, .inl (g.2.1 1, N, .inr (.inl h)))) (c : Nat) (hc : i.toNatClampNeg = c) (hi : vp_in i N) (hw : ws.set p (a, .inl (g.2.1 1, N, .inr (.inl (vp_updL h c v)))) = ws1) (k : zR x g post n pc' lv st ws1) : zR x g post n pc lv (.long v :: .int i :: .ref a :: st) ws := zR_last C d p ha hi (by rw [hc]; exact hw) k
theorem zR_zastK (C : zC x g own cc ret f) {a N : Nat} {i : Int32} {h : Nat → Int32} {v : Int32} {ws1 : va_W} (d : zD cc pc .bastore 1 pc') (p : Nat) (ha : ws[p]? = some (a, .inl (g.2.1 2, N, .inl h))) (c : Nat) (hc : i.toNatClampNeg = c) (hi : vp_in i N) {v' : Int32} (hv : vp_nar .boolean v = v') (hw : ws.set p (a, .inl (g.2.1 2, N, .inl (upd h c v'))) = ws1) (k : zR x g post n pc' lv st ws1) : zR x g post n pc lv (.int v :: .int i :: .ref a :: st) ws := zR_zast C d p ha hi hv (by rw [hc]; exact hw) k
theorem zR_castK (C : zC x g own cc ret f) {a N : Nat} {i : Int32} {h : Nat → Int32} {v : Int32} {ws1 : va_W} (d : zD cc pc .castore 1 pc') (p : Nat) (ha : ws[p]? = some (a, .inl (g.2.1 3, N, .inl h))) (c : Nat) (hc : i.toNatClampNeg = c) (hi : vp_in i N) {v' : Int32} (hv : vp_nar .char v = v') (hw : ws.set p (a, .inl (g.2.1 3, N, .inl (upd h c v'))) = ws1) (k : zR x g post n pc' lv st ws1) : zR x g post n pc lv (.int v :: .int i :: .ref a :: st) ws := zR_cast C d p ha hi hv (by rw [hc]; exact hw) k
end ZR3
theorem zinc (i : Nat) : nI i + Int32.ofInt 1 = nI (i + 1) := nI_1 i
def zok (x : Int32) (n : Nat) : Prop := x = nI (zn32 x) ∧ zn32 x ≤ n
theorem zlp_in {v : Int32} {n i : Nat} (h : zok v n) (hn : n < 2 ^ 31) (hi : i < zn32 v) : nI i < v := by
  rw [h.1]; exact nI_lt hi (Nat.lt_of_le_of_lt h.2 hn)
theorem zlp_out {v : Int32} {n i : Nat} (h : zok v n) (hi : i = zn32 v) : ¬ nI i < v := by
  rw [hi, ← h.1]; exact Int32.lt_irrefl
theorem zok_succ {v : Int32} {n : Nat} (h : zok v n) (hn : n + 1 < 2 ^ 31) : zok (v + 1) (n + 1) := by
  have e : v + 1 = nI (zn32 v + 1) := by rw [nI_succ, ← h.1]
  have h2 := h.2
  have e2 : zn32 (v + 1) = zn32 v + 1 := by
    show (v + 1).toNatClampNeg = _
    rw [e, nI_clamp (by omega)]
  exact ⟨by rw [e2]; exact e, by rw [e2]; omega⟩
theorem zok_vp {v : Int32} {n : Nat} (h : zok v n) (hn : n + 1 < 2 ^ 31) : vp_in v (n + 1) := by
  rw [h.1]; exact vp_in_nI (Nat.lt_succ_of_le h.2) hn
theorem zok_lt {v : Int32} {n i : Nat} (h : zok v n) (hi : i < zn32 v) (hn : n < 2 ^ 31) : i < n ∧ n < 2 ^ 31 := ⟨Nat.lt_of_lt_of_le hi h.2, hn⟩
theorem zok_acp {v : Int32} {n m : Nat} (h : zok v n) (hn : n < 2 ^ 31) (hm : n ≤ m) : ¬ v < 0 ∧ zn32 v ≤ n ∧ zn32 v ≤ m := ⟨by rw [h.1]; exact nI_pos (Nat.lt_of_le_of_lt h.2 hn), h.2, Nat.le_trans h.2 hm⟩


theorem zsw_ne {v : Int32} {k : Int} (h : ¬ v = Int32.ofInt k) (h1 : -2147483648 ≤ k) (h2 : k < 2147483648) : ¬ v.toInt = k := by
  intro e
  exact h (by rw [← e]; exact (Int32.ofInt_toInt v).symm)

theorem kX1_72 : zKa RX1 72 := ⟨(zT_in 304 (by decide +kernel) rfl), (zT_in 306 (by decide +kernel) rfl), (zT_in 305 (by decide +kernel) rfl), (zT_in 49 (by decide +kernel) rfl)⟩
theorem kX2_31 : zKa RX2 31 := ⟨(zT_in 311 (by decide +kernel) rfl), (zT_in 306 (by decide +kernel) rfl), (zT_in 305 (by decide +kernel) rfl), (zT_in 49 (by decide +kernel) rfl)⟩
theorem kX4_40 : zKa RX4 40 := ⟨(zT_in 316 (by decide +kernel) rfl), (zT_in 306 (by decide +kernel) rfl), (zT_in 305 (by decide +kernel) rfl), (zT_in 49 (by decide +kernel) rfl)⟩
