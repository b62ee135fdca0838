
/-! The layer's rows for what constructors do: objects and arrays are made, final fields are put. -/
def zFi (own : String) (idx ci k : Nat) (ty : FieldType) : Prop := ∃ (C : String) (T : u_T) (N : Nat) (ty0 : Nat → FieldType), vwCl[ci]? = some (C, T, N) ∧ (∀ w ∈ u_ws C T N, w ∈ zTBL) ∧ k < N ∧
  Cond.fieldLink own idx (T k).1 (T k).2.1 (T k).2.2.1 ∈ zTBL ∧ (∀ k, k < N → parseFieldDescriptor (T k).2.2.1 = some (ty0 k)) ∧ (∀ a, a < N → ∀ b, b < N → a ≠ b → (T a).2.1 ≠ (T b).2.1) ∧ (T k).2.2.2 = true ∧ parseFieldDescriptor (T k).2.2.1 = some ty ∧ (T k).1 = own
def zKn (own : String) (idx ci N : Nat) (fs : List Value) : Prop := ∃ (C : String) (T : u_T) (ty0 : Nat → FieldType), vwCl[ci]? = some (C, T, N) ∧ (∀ w ∈ u_ws C T N, w ∈ zTBL) ∧ (∀ k, k < N → parseFieldDescriptor (T k).2.2.1 = some (ty0 k)) ∧
  Cond.classLink own idx C ∈ zTBL ∧ Cond.instantiable C N ∈ zTBL ∧ Cond.initialized C ∈ zTBL ∧ (∀ j, j < N → defaultValue (ty0 j) = vp_V fs j)
theorem zfit_I (N : Nat) (h : Nat → Int32) {cA : ClassId} (i : Nat) (v : Value) (hv : (vp_cell cA (N, .inl h)).slots[i]? = some v) : fits .int v = true :=
  va_fit (cA := cA) (n := N) (F := fun j => .int (h j)) (fun _ _ => rfl) i v hv
section ZN
variable {x : zX} {g : zG} {own : String} {cc : ByteArray} {ret : Option FieldType} {f : Nat} {post : Option Value → va_W → Prop} {n : Nat × Nat} {pc pc' : Nat} {lv : List (Nat × Value)} {st rest : List Value} {ws : va_W}
theorem zC_rm (C : zC x g own cc ret f) : (zRm x).cells = zmc x ∧ (zRm x).slots = zms x ∧ (zRm x).frames = f ∧ (zRm x).locals = 36 * f := by
  rw [C.2.2.2.2.1]; exact ⟨rfl, rfl, rfl, rfl⟩
theorem zR_objInit (C : zC x g own cc ret f) {idx a : Nat} (hl : Cond.methodLink own idx Lib.objectInit ∈ zTBL) (d : zD cc pc (.invokespecial idx) 3 pc') (hf : 1 ≤ f) (hcat : (st.map fun v => v.category).sum ≤ 8) (k : zR x g post n pc' lv st ws) : zR x g post n pc lv (.ref a :: st) ws := by
  obtain ⟨d, rfl⟩ := d
  intro H locs ls hP hD hS hl'
  refine W.objInit C.1.1 C.1.2.1 C.1.2.2.2 (C.2.1 _ hl) (C.2.1 _ (zT_in 57 (by decide +kernel) rfl)) (C.2.1 _ (zT_in 58 (by decide +kernel) rfl)) rfl (hl'.1.trans C.1.2.2.1.symm) rfl d (by rw [(zC_rm C).2.2.1]; exact hf) ?_ (W.eq (g2 := F0 (zm x) (pc + 3) ls st) rfl (k H locs ls hP hD hS hl'))
  rw [(zC_rm C).2.2.2]
  show 2 * 0 + (st.map fun v => v.category).sum + 12 ≤ 36 * f
  omega
theorem zR_new (C : zC x g own cc ret f) {idx ci N : Nat} {fs : List Value} (K : zKn own idx ci N fs) (d : zD cc pc (.new idx) 3 pc') (hr1 : n.1 + 1 ≤ zmc x) (hr2 : n.2 + N ≤ zms x) (k : ∀ q : Nat, zR x g post (n.1 + 1, n.2 + N) pc' lv (.ref q :: st) (ws ++ [(q, .inr (ci, fs))])) : zR x g post n pc lv st ws := by
  obtain ⟨d, rfl⟩ := d
  obtain ⟨Cn, T, ty0, hc, hin, hty, h1, h2, h3, hfs⟩ := K
  exact fun H locs ls hP hD hS hl => va_new C.1.1 C.1.2.1 C.2.1 hin ty0 hty C.1.2.2.2 (C.2.1 _ h1) (C.2.1 _ h2) (C.2.1 _ h3) C.2.2.1 hP hD hS C.2.2.2.2.2.2.2.1 hc hfs (by rw [(zC_rm C).1]; exact hr1) (by rw [(zC_rm C).2.1]; exact hr2) d (fun q H1 hP1 hD1 hS1 => k q H1 locs ls hP1 hD1 hS1 hl)
theorem zR_newa (C : zC x g own cc ret f) {atype : ArrayType} {ty : FieldType} (j : Nat) (hty : newarray.typeOf atype = ty) (hj : (zty g.2.1)[j]? = some (g.2.1 j, ty)) (hpr : ∀ cA, va_RA (zs x) cA ty → (zs x).vm.findClass ("[" ++ ty.toString) = some cA) (hw : Cond.arrayClass ty ∈ zTBL)
    {v : Int32} {N : Nat} {a0 : vp_A} (d : zD cc pc (.newarray atype) 2 pc') (ha : ∀ cA : ClassId, vp_cell cA a0 = arrV cA N (fun _ => defaultValue ty)) (hn : ¬ v < 0) (hN : v.toNatClampNeg = N) (hb : N * componentBytes ty ≤ 536870912) (hr1 : n.1 + 1 ≤ zmc x) (hr2 : n.2 + N ≤ zms x)
    (k : ∀ q : Nat, zR x g post (n.1 + 1, n.2 + N) pc' lv (.ref q :: st) (ws ++ [(q, .inl (g.2.1 j, a0))])) : zR x g post n pc lv (.int v :: st) ws := by
  obtain ⟨d, rfl⟩ := d
  intro H locs ls hP hD hS hl
  refine va_newa C.1.1 C.1.2.1 (by rw [hty]; exact C.2.1 _ hw) hty C.2.2.1 hP hD hS C.2.2.2.2.2.2.2.1 ha hn hN hb (by rw [(zC_rm C).1]; exact hr1) (by rw [(zC_rm C).2.1]; exact hr2) d fun q cA H1 hK hP1 hD1 hS1 => ?_
  have e : cA = g.2.1 j := by
    have h1 := hpr _ (hK.2 5 (cA, ty) rfl).2
    have h2 := hpr _ (C.2.2.1.2 j _ hj).2
    exact Option.some.inj (h1.symm.trans h2)
  rw [e] at hP1 hD1
  exact k q H1 locs ls hP1 hD1 hS1 hl
theorem zR_newI (C : zC x g own cc ret f) {v : Int32} {N : Nat} (d : zD cc pc (.newarray .int) 2 pc') (hn : ¬ v < 0) (hN : v.toNatClampNeg = N) (hb : N ≤ 5000) (hr1 : n.1 + 1 ≤ zmc x) (hr2 : n.2 + N ≤ zms x) (k : ∀ q : Nat, zR x g post (n.1 + 1, n.2 + N) pc' lv (.ref q :: st) (ws ++ [(q, .inl (g.2.1 0, N, .inl (fun _ => 0)))])) : zR x g post n pc lv (.int v :: st) ws :=
  zR_newa C (atype := .int) (ty := .int) 0 rfl rfl (fun _ h => h) (zT_in 110 (by decide +kernel) rfl) d (a0 := (N, .inl (fun _ => 0))) (fun _ => rfl) hn hN (by show N * 4 ≤ _; omega) hr1 hr2 k
theorem zR_newL (C : zC x g own cc ret f) {v : Int32} {N : Nat} (d : zD cc pc (.newarray .long) 2 pc') (hn : ¬ v < 0) (hN : v.toNatClampNeg = N) (hb : N ≤ 5000) (hr1 : n.1 + 1 ≤ zmc x) (hr2 : n.2 + N ≤ zms x) (k : ∀ q : Nat, zR x g post (n.1 + 1, n.2 + N) pc' lv (.ref q :: st) (ws ++ [(q, .inl (g.2.1 1, N, .inr (.inl (fun _ => 0))))])) : zR x g post n pc lv (.int v :: st) ws :=
  zR_newa C (atype := .long) (ty := .long) 1 rfl rfl (fun _ h => h) (zT_in 111 (by decide +kernel) rfl) d (a0 := (N, .inr (.inl (fun _ => 0)))) (fun _ => rfl) hn hN (by show N * 8 ≤ _; omega) hr1 hr2 k
theorem zR_newB (C : zC x g own cc ret f) {v : Int32} {N : Nat} (d : zD cc pc (.newarray .boolean) 2 pc') (hn : ¬ v < 0) (hN : v.toNatClampNeg = N) (hb : N ≤ 5000) (hr1 : n.1 + 1 ≤ zmc x) (hr2 : n.2 + N ≤ zms x) (k : ∀ q : Nat, zR x g post (n.1 + 1, n.2 + N) pc' lv (.ref q :: st) (ws ++ [(q, .inl (g.2.1 2, N, .inl (fun _ => 0)))])) : zR x g post n pc lv (.int v :: st) ws :=
  zR_newa C (atype := .boolean) (ty := .boolean) 2 rfl rfl (fun _ h => h) (zT_in 261 (by decide +kernel) rfl) d (a0 := (N, .inl (fun _ => 0))) (fun _ => rfl) hn hN (by show N * 1 ≤ _; omega) hr1 hr2 k
theorem zR_newC (C : zC x g own cc ret f) {v : Int32} {N : Nat} (d : zD cc pc (.newarray .char) 2 pc') (hn : ¬ v < 0) (hN : v.toNatClampNeg = N) (hb : N ≤ 5000) (hr1 : n.1 + 1 ≤ zmc x) (hr2 : n.2 + N ≤ zms x) (k : ∀ q : Nat, zR x g post (n.1 + 1, n.2 + N) pc' lv (.ref q :: st) (ws ++ [(q, .inl (g.2.1 3, N, .inl (fun _ => 0)))])) : zR x g post n pc lv (.int v :: st) ws :=
  zR_newa C (atype := .char) (ty := .char) 3 rfl rfl (fun _ h => h) (zT_in 262 (by decide +kernel) rfl) d (a0 := (N, .inl (fun _ => 0))) (fun _ => rfl) hn hN (by show N * 2 ≤ _; omega) hr1 hr2 k
theorem zR_newq (C : zC x g own cc ret f) {idx : Nat} (hw : Cond.classLink own idx "ErrorBudgets$House" ∈ zTBL) {v : Int32} {N : Nat} (d : zD cc pc (.anewarray idx) 3 pc') (hn : ¬ v < 0) (hN : v.toNatClampNeg = N) (hb : N ≤ 5000) (hr1 : n.1 + 1 ≤ zmc x) (hr2 : n.2 + N ≤ zms x)
    (k : ∀ q : Nat, zR x g post (n.1 + 1, n.2 + N) pc' lv (.ref q :: st) (ws ++ [(q, .inl (g.2.1 4, N, .inr (.inr (.inr (.inr (fun _ => none))))))])) : zR x g post n pc lv (.int v :: st) ws := by
  obtain ⟨d, rfl⟩ := d
  intro H locs ls hP hD hS hl
  obtain ⟨-, -, -, -, -, -, -, -, -, -, hov, -⟩ := C.2.2.2.2.2.2.2.2
  refine va_newq C.1.1 C.1.2.1 C.1.2.2.2 (C.2.1 _ hw) hov C.2.2.1 hP hD hS C.2.2.2.2.2.2.2.1 hn hN (by omega) (by rw [(zC_rm C).1]; exact hr1) (by rw [(zC_rm C).2.1]; exact hr2) d fun q cA H1 hK hP1 hD1 hS1 => ?_
  have e : cA = g.2.1 4 := by
    obtain ⟨_, _, -, -, -, h1⟩ := (hK.2 5 (cA, .object "ErrorBudgets$House") rfl).2
    obtain ⟨_, _, -, -, -, h2⟩ := (C.2.2.1.2 4 (g.2.1 4, .object "ErrorBudgets$House") rfl).2
    exact Option.some.inj (h1.symm.trans h2)
  rw [e] at hP1 hD1
  exact k q H1 locs ls hP1 hD1 hS1 hl
theorem zR_putf (C : zC x g own cc ret f) (hin2 : (zk x).name = "<init>") {idx ci k a : Nat} {fs : List Value} {v : Value} {ty : FieldType} {ws1 : va_W} (F : zFi own idx ci k ty) (d : zD cc pc (.putfield idx) 3 pc') (hnar : narrow ty v = v) (hfit : fits ty v = true) (p : Nat) (he : ws[p]? = some (a, .inr (ci, fs))) (hl0 : k < fs.length) (hw : ws.set p (a, .inr (ci, fs.set k v)) = ws1) (kk : zR x g post n pc' lv st ws1) : zR x g post n pc lv (v :: .ref a :: st) ws := by
  subst hw
  obtain ⟨d, rfl⟩ := d
  obtain ⟨Cn, T, N, ty0, hc, hin, hk, hlink, hty, hnm, hfin, hd, hdecl⟩ := F
  exact fun H locs ls hP hD hS hl => va_putF C.1.1 C.1.2.1 C.2.1 hin ty0 hty hnm C.1.2.2.2 C.2.2.1 hP hD hS p he hc k hk (C.2.1 _ hlink) (fun _ h => h) hfin hin2 hdecl hd hnar hfit hl0 d (fun H1 locs1 hP hD hS => kk H1 locs1 ls hP hD hS hl)
theorem zR_aast (C : zC x g own cc ret f) {a N b : Nat} {h : Nat → Option Nat} {i : Int32} {vs : List Value} {ws1 : va_W} (d : zD cc pc .aastore 1 pc') (p qk : Nat) (ha : ws[p]? = some (a, .inl (g.2.1 4, N, .inr (.inr (.inr (.inr h)))))) (hv : ws[qk]? = some (b, .inr (1, vs))) (hi : vp_in i N) (hw : ws.set p (a, .inl (g.2.1 4, N, .inr (.inr (.inr (.inr (va_up h i.toNatClampNeg (some b))))))) = ws1) (k : zR x g post n pc' lv st ws1) : zR x g post n pc lv (.ref b :: .int i :: .ref a :: st) ws := by
  obtain ⟨d, rfl⟩ := d
  subst hw
  exact fun H locs ls hP hD hS hl => va_astq C.1.1 C.1.2.1 C.2.2.1 hP hD hS p 4 qk 1 (r := (RX1, TX1, 14)) ha rfl hv rfl hi d (fun H1 locs1 hP hD hS => k H1 locs1 ls hP hD hS hl)
theorem zR_first (C : zC x g own cc ret f) {idx : Nat} {host : String} (hl : Cond.fieldLinkNest own idx "ErrorBudgets" "FIRST" "[I" host ∈ zNST) (d : zD cc pc (.getstatic idx) 3 pc') (k : zR x g post n pc' lv (.ref (g.2.2.1 0) :: st) ws) : zR x g post n pc lv st ws := by
  obtain ⟨d, rfl⟩ := d
  obtain ⟨h1, -⟩ := C.2.2.2.2.2.2.2.2
  exact fun H locs ls hP hD hS hl' => va_getsN C.1.1 C.1.2.1 h1 hS C.1.2.2.2 (va_Nw.use rfl (C.2.2.2.1 _ hl)) (fun _ h => h) d (k H locs ls hP hD hS hl')
theorem zR_clone (C : zC x g own cc ret f) {idx : Nat} (hl : Cond.methodLink own idx ⟨"[I", "clone", "()Ljava/lang/Object;"⟩ ∈ zTBL) (d : zD cc pc (.invokevirtual idx) 3 pc') (hf : 1 ≤ f) (hcat : (st.map fun v => v.category).sum ≤ 8) (hr1 : n.1 + 1 ≤ zmc x) (hr2 : n.2 + 8 ≤ zms x)
    (k : ∀ q : Nat, zR x g post (n.1 + 1, n.2 + 8) pc' lv (.ref q :: st) (ws ++ [(q, .inl (g.2.1 0, 8, .inl zFI))])) : zR x g post n pc lv (.ref (g.2.2.1 0) :: st) ws := by
  obtain ⟨d, rfl⟩ := d
  intro H locs ls hP hD hS hl' T hT X
  obtain ⟨-, hF, -, -, -, -, -, -, -, -, -, hca⟩ := C.2.2.2.2.2.2.2.2
  obtain ⟨cell, e1, e2, e3, e4, e5⟩ := hF
  have hA := C.2.2.2.2.2.2.2.1
  have hKi := C.2.2.1.2 0 (g.2.1 0, .int) rfl
  have hnm := va_nm_int hKi.2
  have hlt : g.2.2.1 0 < (zs x).heap.size := (Array.getElem?_eq_some_iff.mp e1).1
  have hcellT : T.heap[g.2.2.1 0]? = some cell := by rw [hT, hS.2.1 _ hlt e5, e1]
  have hsz : cell.slots.size = 8 := by rw [e4]; exact arrV_size _ _ _
  have hcellE : ({ cls := cell.cls, slots := cell.slots } : Cell) = vp_cell (g.2.1 0) (8, .inl zFI) := by rw [e2, e4]; rfl
  obtain ⟨c0, t0', f1, f2, f3⟩ := Cond.castable_spec (va_Nw.use (A := za x) rfl hca)
  have ec : c0 = g.2.1 0 := Option.some.inj (f1.symm.trans hnm)
  rw [ec] at f3
  obtain ⟨-, kA, hkA, comp, hkind⟩ := State.isArrayOf_alike X.warmed.alike (hKi.1 0 (fun _ => .null))
  obtain ⟨-, kS, hkS, compS, hkindS⟩ := hKi.1 0 (fun _ => .null)
  obtain ⟨vm', X', st'⟩ := X.cloneArray C.1.1 C.1.2.2.2 (C.2.1 _ hl) (C.2.1 _ (zT_in 68 (by decide +kernel) rfl)) (C.2.1 _ (zT_in 69 (by decide +kernel) rfl)) (C.2.1 _ (zT_in 70 (by decide +kernel) rfl)) (C.2.1 _ (zT_in 71 (by decide +kernel) rfl)) (a := g.2.2.1 0) (cell := cell) hcellT e3.2 e3.1 (by rw [e2]; exact hnm) f2 (by rw [e2]; exact f3)
    (fun i v hv => by
      rw [e2]
      have hk' : T.vm.classes[g.2.1 0]? = some kA := hkA
      rw [e4] at hv
      simpa [State.fitsSlot, State.slotType?, hk', hkind] using zfit_I 8 zFI i v hv)
    (g := F0 (zm x) pc ls (.ref (g.2.2.1 0) :: st)) rfl (by rw [C.1.2.2.1.trans (zlv_size hl')]) rfl (by rw [C.1.2.1]; exact d) (by rw [(zC_rm C).2.2.1]; exact hf) (by rw [(zC_rm C).2.2.2]; show 2 * 0 + _ + 14 ≤ _; omega) (by rw [(zC_rm C).1]; exact hr1) (by rw [hsz, (zC_rm C).2.1]; exact hr2) (hloader := by rw [e2]; exact Vm.clonesLoader_of_array hkS hkindS)
  rw [hcellE, hsz] at X'
  generalize hH1 : H.push (vp_cell (g.2.1 0) (8, .inl zFI)) = H1
  have z1 : H1.size = H.size + 1 := by rw [← hH1, Array.size_push]
  have g1 : H1[H.size]? = some (vp_cell (g.2.1 0) (8, .inl zFI)) := by rw [← hH1, Array.getElem?_push_size]
  have o1 : ∀ q : Nat, q < H.size → H1[q]? = H[q]? := fun q hq => by rw [← hH1, Array.getElem?_push, if_neg (Nat.ne_of_lt hq)]
  have hk : ∀ (k : Nat) (y : Nat × va_E), ws[k]? = some y → H1[y.1]? = H[y.1]? := fun k y hy => o1 y.1 ((hP k y hy).lt)
  obtain ⟨t, b1, b2⟩ := k H.size H1 locs ls ((hP.kept hk).app (fun k y hy => by
      have hz : k < 1 := (List.getElem?_eq_some_iff.mp hy).1
      rw [show k = 0 by omega] at hy
      cases hy
      exact g1)) (hD.push hP rfl (hA _ hS.1)) ⟨Nat.le_trans hS.1 (by omega), fun y h1 h2 => (o1 y (Nat.lt_of_lt_of_le h1 hS.1)).trans (hS.2.1 y h1 h2), hS.2.2⟩ hl'
    ((T.setVm vm').pushCell (vp_cell (g.2.1 0) (8, .inl zFI))) (by rw [← hH1, ← hT]; rfl) X'
  refine ⟨t, st' t ?_, b2⟩
  rw [hcellE, hT]
  exact b1
theorem zR_castA (C : zC x g own cc ret f) {idx a : Nat} {v : vp_A} (hl : Cond.classLink own idx "[I" ∈ zTBL) (d : zD cc pc (.checkcast idx) 3 pc') (p : Nat) (ha : ws[p]? = some (a, .inl (g.2.1 0, v))) (k : zR x g post n pc' lv (.ref a :: st) ws) : zR x g post n pc lv (.ref a :: st) ws := by
  obtain ⟨d, rfl⟩ := d
  exact fun H locs ls hP hD hS hl' => va_castA C.1.1 C.1.2.1 C.1.2.2.2 (C.2.1 _ hl) hP p ha (va_nm_int (C.2.2.1.2 0 (g.2.1 0, .int) rfl).2) d (k H locs ls hP hD hS hl')
end ZN
theorem qX0_11 : zFi RX0 11 0 0 (.array (.object "ErrorBudgets$House")) := ⟨RX0, TX0, 3, tyX0, rfl, uX0, by decide, (zT_in 224 (by decide +kernel) rfl), tyX0_ok, nmX0, rfl, by decide +kernel, rfl⟩
theorem qX1_18 : zFi RX1 18 1 0 (.array .int) := ⟨RX1, TX1, 14, tyX1, rfl, uX1, by decide, (zT_in 159 (by decide +kernel) rfl), tyX1_ok, nmX1, rfl, by decide +kernel, rfl⟩
theorem qX1_39 : zFi RX1 39 1 6 (.array .int) := ⟨RX1, TX1, 14, tyX1, rfl, uX1, by decide, (zT_in 171 (by decide +kernel) rfl), tyX1_ok, nmX1, rfl, by decide +kernel, rfl⟩
theorem qX1_42 : zFi RX1 42 1 7 (.array .int) := ⟨RX1, TX1, 14, tyX1, rfl, uX1, by decide, (zT_in 173 (by decide +kernel) rfl), tyX1_ok, nmX1, rfl, by decide +kernel, rfl⟩
theorem qX1_45 : zFi RX1 45 1 8 (.array .int) := ⟨RX1, TX1, 14, tyX1, rfl, uX1, by decide, (zT_in 175 (by decide +kernel) rfl), tyX1_ok, nmX1, rfl, by decide +kernel, rfl⟩
theorem qX1_48 : zFi RX1 48 1 9 (.array .int) := ⟨RX1, TX1, 14, tyX1, rfl, uX1, by decide, (zT_in 177 (by decide +kernel) rfl), tyX1_ok, nmX1, rfl, by decide +kernel, rfl⟩
theorem qX1_51 : zFi RX1 51 1 10 (.array .int) := ⟨RX1, TX1, 14, tyX1, rfl, uX1, by decide, (zT_in 179 (by decide +kernel) rfl), tyX1_ok, nmX1, rfl, by decide +kernel, rfl⟩
theorem qX1_54 : zFi RX1 54 1 11 (.array .long) := ⟨RX1, TX1, 14, tyX1, rfl, uX1, by decide, (zT_in 181 (by decide +kernel) rfl), tyX1_ok, nmX1, rfl, by decide +kernel, rfl⟩
theorem qX1_61 : zFi RX1 61 1 12 (.object "ErrorBudgets$Loans") := ⟨RX1, TX1, 14, tyX1, rfl, uX1, by decide, (zT_in 182 (by decide +kernel) rfl), tyX1_ok, nmX1, rfl, by decide +kernel, rfl⟩
theorem qX1_68 : zFi RX1 68 1 13 (.object "ErrorBudgets$Plans") := ⟨RX1, TX1, 14, tyX1, rfl, uX1, by decide, (zT_in 184 (by decide +kernel) rfl), tyX1_ok, nmX1, rfl, by decide +kernel, rfl⟩
theorem qX2_15 : zFi RX2 15 2 1 (.array .int) := ⟨RX2, TX2, 6, tyX2, rfl, uX2, by decide, (zT_in 83 (by decide +kernel) rfl), tyX2_ok, nmX2, rfl, by decide +kernel, rfl⟩
theorem qX2_19 : zFi RX2 19 2 2 (.array .int) := ⟨RX2, TX2, 6, tyX2, rfl, uX2, by decide, (zT_in 86 (by decide +kernel) rfl), tyX2_ok, nmX2, rfl, by decide +kernel, rfl⟩
theorem qX2_22 : zFi RX2 22 2 3 (.array .int) := ⟨RX2, TX2, 6, tyX2, rfl, uX2, by decide, (zT_in 89 (by decide +kernel) rfl), tyX2_ok, nmX2, rfl, by decide +kernel, rfl⟩
theorem qX2_25 : zFi RX2 25 2 4 (.array .int) := ⟨RX2, TX2, 6, tyX2, rfl, uX2, by decide, (zT_in 91 (by decide +kernel) rfl), tyX2_ok, nmX2, rfl, by decide +kernel, rfl⟩
theorem qX2_28 : zFi RX2 28 2 5 (.array .int) := ⟨RX2, TX2, 6, tyX2, rfl, uX2, by decide, (zT_in 94 (by decide +kernel) rfl), tyX2_ok, nmX2, rfl, by decide +kernel, rfl⟩
theorem qX3_9 : zFi RX3 9 3 0 (.array .char) := ⟨RX3, TX3, 6, tyX3, rfl, uX3, by decide, (zT_in 241 (by decide +kernel) rfl), tyX3_ok, nmX3, rfl, by decide +kernel, rfl⟩
theorem qX3_25 : zFi RX3 25 3 4 (.array .char) := ⟨RX3, TX3, 6, tyX3, rfl, uX3, by decide, (zT_in 246 (by decide +kernel) rfl), tyX3_ok, nmX3, rfl, by decide +kernel, rfl⟩
theorem qX3_28 : zFi RX3 28 3 5 (.array .int) := ⟨RX3, TX3, 6, tyX3, rfl, uX3, by decide, (zT_in 247 (by decide +kernel) rfl), tyX3_ok, nmX3, rfl, by decide +kernel, rfl⟩
theorem qX4_15 : zFi RX4 15 4 1 (.array .int) := ⟨RX4, TX4, 9, tyX4, rfl, uX4, by decide, (zT_in 121 (by decide +kernel) rfl), tyX4_ok, nmX4, rfl, by decide +kernel, rfl⟩
theorem qX4_19 : zFi RX4 19 4 2 (.array .int) := ⟨RX4, TX4, 9, tyX4, rfl, uX4, by decide, (zT_in 124 (by decide +kernel) rfl), tyX4_ok, nmX4, rfl, by decide +kernel, rfl⟩
theorem qX4_22 : zFi RX4 22 4 3 (.array .int) := ⟨RX4, TX4, 9, tyX4, rfl, uX4, by decide, (zT_in 127 (by decide +kernel) rfl), tyX4_ok, nmX4, rfl, by decide +kernel, rfl⟩
theorem qX4_25 : zFi RX4 25 4 4 (.array .int) := ⟨RX4, TX4, 9, tyX4, rfl, uX4, by decide, (zT_in 130 (by decide +kernel) rfl), tyX4_ok, nmX4, rfl, by decide +kernel, rfl⟩
theorem qX4_28 : zFi RX4 28 4 5 (.array .int) := ⟨RX4, TX4, 9, tyX4, rfl, uX4, by decide, (zT_in 132 (by decide +kernel) rfl), tyX4_ok, nmX4, rfl, by decide +kernel, rfl⟩
theorem qX4_31 : zFi RX4 31 4 6 (.array .int) := ⟨RX4, TX4, 9, tyX4, rfl, uX4, by decide, (zT_in 135 (by decide +kernel) rfl), tyX4_ok, nmX4, rfl, by decide +kernel, rfl⟩
theorem qX5_12 : zFi RX5 12 5 0 (.object "ErrorBudgets$House") := ⟨RX5, TX5, 7, tyX5, rfl, uX5, by decide, (zT_in 263 (by decide +kernel) rfl), tyX5_ok, nmX5, rfl, by decide +kernel, rfl⟩
theorem qX5_16 : zFi RX5 16 5 1 (.object "ErrorBudgets$House") := ⟨RX5, TX5, 7, tyX5, rfl, uX5, by decide, (zT_in 264 (by decide +kernel) rfl), tyX5_ok, nmX5, rfl, by decide +kernel, rfl⟩
theorem qX5_22 : zFi RX5 22 5 2 (.object "ErrorBudgets$History") := ⟨RX5, TX5, 7, tyX5, rfl, uX5, by decide, (zT_in 265 (by decide +kernel) rfl), tyX5_ok, nmX5, rfl, by decide +kernel, rfl⟩
theorem qX5_26 : zFi RX5 26 5 3 (.array (.object "ErrorBudgets$House")) := ⟨RX5, TX5, 7, tyX5, rfl, uX5, by decide, (zT_in 266 (by decide +kernel) rfl), tyX5_ok, nmX5, rfl, by decide +kernel, rfl⟩
theorem qX5_30 : zFi RX5 30 5 4 (.array .boolean) := ⟨RX5, TX5, 7, tyX5, rfl, uX5, by decide, (zT_in 267 (by decide +kernel) rfl), tyX5_ok, nmX5, rfl, by decide +kernel, rfl⟩
theorem qX5_37 : zFi RX5 37 5 5 (.object "ErrorBudgets$Pad") := ⟨RX5, TX5, 7, tyX5, rfl, uX5, by decide, (zT_in 268 (by decide +kernel) rfl), tyX5_ok, nmX5, rfl, by decide +kernel, rfl⟩
theorem nL_13 : zKn RL 13 5 7 [.null, .null, .null, .null, .null, .null, .int 0] := ⟨RX5, TX5, tyX5, rfl, uX5, tyX5_ok, (zT_in 51 (by decide +kernel) rfl), (zT_in 52 (by decide +kernel) rfl), (zT_in 43 (by decide +kernel) rfl), by decide⟩
theorem nX5_9 : zKn RX5 9 1 14 [.null, .int 0, .int 0, .int 0, .int 0, .int 0, .null, .null, .null, .null, .null, .null, .null, .null] := ⟨RX1, TX1, tyX1, rfl, uX1, tyX1_ok, (zT_in 59 (by decide +kernel) rfl), (zT_in 60 (by decide +kernel) rfl), (zT_in 44 (by decide +kernel) rfl), by decide⟩
theorem nX1_58 : zKn RX1 58 2 6 [.int 0, .null, .null, .null, .null, .null] := ⟨RX2, TX2, tyX2, rfl, uX2, tyX2_ok, (zT_in 74 (by decide +kernel) rfl), (zT_in 75 (by decide +kernel) rfl), (zT_in 45 (by decide +kernel) rfl), by decide⟩
theorem nX1_65 : zKn RX1 65 4 9 [.int 0, .null, .null, .null, .null, .null, .null, .int 0, .int 0] := ⟨RX4, TX4, tyX4, rfl, uX4, tyX4_ok, (zT_in 112 (by decide +kernel) rfl), (zT_in 113 (by decide +kernel) rfl), (zT_in 46 (by decide +kernel) rfl), by decide⟩
theorem nX5_19 : zKn RX5 19 0 3 [.null, .int 0, .int 0] := ⟨RX0, TX0, tyX0, rfl, uX0, tyX0_ok, (zT_in 215 (by decide +kernel) rfl), (zT_in 216 (by decide +kernel) rfl), (zT_in 47 (by decide +kernel) rfl), by decide⟩
theorem nX0_9 : zKn RX0 9 1 14 [.null, .int 0, .int 0, .int 0, .int 0, .int 0, .null, .null, .null, .null, .null, .null, .null, .null] := ⟨RX1, TX1, tyX1, rfl, uX1, tyX1_ok, (zT_in 221 (by decide +kernel) rfl), (zT_in 60 (by decide +kernel) rfl), (zT_in 44 (by decide +kernel) rfl), by decide⟩
theorem nX5_34 : zKn RX5 34 3 6 [.null, .int 0, .int 0, .int 0, .null, .null] := ⟨RX3, TX3, tyX3, rfl, uX3, tyX3_ok, (zT_in 235 (by decide +kernel) rfl), (zT_in 236 (by decide +kernel) rfl), (zT_in 48 (by decide +kernel) rfl), by decide⟩
