
/-! The layer's rows for what constructors do: objects and arrays are made, final fields are put. -/
def zFi (own : String) (idx ci k : Nat) (ty : FieldType) : Prop := ∃ (C : String) (T : u_T) (N : Nat) (ty0 : Nat → FieldType), vwCl[ci]? = some (C, T, N) ∧ (∀ w ∈ u_ws C T N, w ∈ zTBL) ∧ k < N ∧
  Cond.fieldLink own idx (T k).1 (T k).2.1 (T k).2.2.1 ∈ zTBL ∧ (∀ k, k < N → parseFieldDescriptor (T k).2.2.1 = some (ty0 k)) ∧ (∀ a, a < N → ∀ b, b < N → a ≠ b → (T a).2.1 ≠ (T b).2.1) ∧ (T k).2.2.2 = true ∧ parseFieldDescriptor (T k).2.2.1 = some ty ∧ (T k).1 = own
def zKn (own : String) (idx ci N : Nat) (fs : List Value) : Prop := ∃ (C : String) (T : u_T) (ty0 : Nat → FieldType), vwCl[ci]? = some (C, T, N) ∧ (∀ w ∈ u_ws C T N, w ∈ zTBL) ∧ (∀ k, k < N → parseFieldDescriptor (T k).2.2.1 = some (ty0 k)) ∧
  Cond.classLink own idx C ∈ zTBL ∧ Cond.instantiable C N ∈ zTBL ∧ Cond.initialized C ∈ zTBL ∧ (∀ j, j < N → defaultValue (ty0 j) = vp_V fs j)
section ZN
variable {x : zX} {g : zG} {own : String} {cc : ByteArray} {ret : Option FieldType} {f : Nat} {post : Option Value → va_W → Prop} {n : Nat × Nat} {pc pc' : Nat} {lv : List (Nat × Value)} {st rest : List Value} {ws : va_W}
theorem zC_rm (C : zC x g own cc ret f) : (zRm x).cells = zmc x ∧ (zRm x).slots = zms x ∧ (zRm x).frames = f ∧ (zRm x).locals = 36 * f := by
  rw [C.2.2.2.2.1]; exact ⟨rfl, rfl, rfl, rfl⟩
theorem zR_objInit (C : zC x g own cc ret f) {idx a : Nat} (hl : Cond.methodLink own idx Lib.objectInit ∈ zTBL) (d : zD cc pc (.invokespecial idx) 3 pc') (hf : 1 ≤ f) (hcat : (st.map fun v => v.category).sum ≤ 8) (k : zR x g post n pc' lv st ws) : zR x g post n pc lv (.ref a :: st) ws := by
  obtain ⟨d, rfl⟩ := d
  intro H locs ls hP hD hS hl'
  refine W.objInit C.1.1 C.1.2.1 C.1.2.2.2 (C.2.1 _ hl) (C.2.1 _ (zT_in 121 (by decide +kernel) rfl)) (C.2.1 _ (zT_in 122 (by decide +kernel) rfl)) rfl (hl'.1.trans C.1.2.2.1.symm) rfl d (by rw [(zC_rm C).2.2.1]; exact hf) ?_ (W.eq (g2 := F0 (zm x) (pc + 3) ls st) rfl (k H locs ls hP hD hS hl'))
  rw [(zC_rm C).2.2.2]
  show 2 * 0 + (st.map fun v => v.category).sum + 12 ≤ 36 * f
  omega
theorem zR_new (C : zC x g own cc ret f) {idx ci N : Nat} {fs : List Value} (K : zKn own idx ci N fs) (d : zD cc pc (.new idx) 3 pc') (hr1 : n.1 + 1 ≤ zmc x) (hr2 : n.2 + N ≤ zms x) (k : ∀ q : Nat, zR x g post (n.1 + 1, n.2 + N) pc' lv (.ref q :: st) (ws ++ [(q, .inr (ci, fs))])) : zR x g post n pc lv st ws := by
  obtain ⟨d, rfl⟩ := d
  obtain ⟨Cn, T, ty0, hc, hin, hty, h1, h2, h3, hfs⟩ := K
  exact fun H locs ls hP hD hS hl => va_new C.1.1 C.1.2.1 C.2.1 hin ty0 hty C.1.2.2.2 (C.2.1 _ h1) (C.2.1 _ h2) (C.2.1 _ h3) C.2.2.1 hP hD hS C.2.2.2.2.2.2.2.1 hc hfs (by rw [(zC_rm C).1]; exact hr1) (by rw [(zC_rm C).2.1]; exact hr2) d (fun q H1 hP1 hD1 hS1 => k q H1 locs ls hP1 hD1 hS1 hl)
theorem zR_newa (C : zC x g own cc ret f) {atype : ArrayType} {ty : FieldType} (j : Nat) (hty : newarray.typeOf atype = ty) (hj : (zty g.2.1)[j]? = some (g.2.1 j, ty)) (hpr : ∀ cA, va_RA (zs x) cA ty → (zs x).vm.findClass ("[" ++ ty.toString) = some cA) (hw : Cond.arrayClass ty ∈ zTBL)
    {v : Int32} {N : Nat} {a0 : vp_A} (d : zD cc pc (.newarray atype) 2 pc') (ha : ∀ cA : ClassId, vp_cell cA a0 = arrV cA N (fun _ => defaultValue ty)) (hn : ¬ v < 0) (hN : v.toNatClampNeg = N) (hb : N * componentBytes ty ≤ 536870912) (hr1 : n.1 + 1 ≤ zmc x) (hr2 : n.2 + N ≤ zms x)
    (k : ∀ q : Nat, zR x g post (n.1 + 1, n.2 + N) pc' lv (.ref q :: st) (ws ++ [(q, .inl (g.2.1 j, a0))])) : zR x g post n pc lv (.int v :: st) ws := by
  obtain ⟨d, rfl⟩ := d
  intro H locs ls hP hD hS hl
  refine va_newa C.1.1 C.1.2.1 (by rw [hty]; exact C.2.1 _ hw) hty C.2.2.1 hP hD hS C.2.2.2.2.2.2.2.1 ha hn hN hb (by rw [(zC_rm C).1]; exact hr1) (by rw [(zC_rm C).2.1]; exact hr2) d fun q cA H1 hK hP1 hD1 hS1 => ?_
  have e : cA = g.2.1 j := by
    have h1 := hpr _ (hK.2 5 (cA, ty) rfl).2
    have h2 := hpr _ (C.2.2.1.2 j _ hj).2
    exact Option.some.inj (h1.symm.trans h2)
  rw [e] at hP1 hD1
  exact k q H1 locs ls hP1 hD1 hS1 hl
theorem zR_newI (C : zC x g own cc ret f) {v : Int32} {N : Nat} (d : zD cc pc (.newarray .int) 2 pc') (hn : ¬ v < 0) (hN : v.toNatClampNeg = N) (hb : N ≤ 5000) (hr1 : n.1 + 1 ≤ zmc x) (hr2 : n.2 + N ≤ zms x) (k : ∀ q : Nat, zR x g post (n.1 + 1, n.2 + N) pc' lv (.ref q :: st) (ws ++ [(q, .inl (g.2.1 0, N, .inl (fun _ => 0)))])) : zR x g post n pc lv (.int v :: st) ws :=
  zR_newa C (atype := .int) (ty := .int) 0 rfl rfl (fun _ h => h) (zT_in 174 (by decide +kernel) rfl) d (a0 := (N, .inl (fun _ => 0))) (fun _ => rfl) hn hN (by show N * 4 ≤ _; omega) hr1 hr2 k
theorem zR_newL (C : zC x g own cc ret f) {v : Int32} {N : Nat} (d : zD cc pc (.newarray .long) 2 pc') (hn : ¬ v < 0) (hN : v.toNatClampNeg = N) (hb : N ≤ 5000) (hr1 : n.1 + 1 ≤ zmc x) (hr2 : n.2 + N ≤ zms x) (k : ∀ q : Nat, zR x g post (n.1 + 1, n.2 + N) pc' lv (.ref q :: st) (ws ++ [(q, .inl (g.2.1 1, N, .inr (.inl (fun _ => 0))))])) : zR x g post n pc lv (.int v :: st) ws :=
  zR_newa C (atype := .long) (ty := .long) 1 rfl rfl (fun _ h => h) (zT_in 175 (by decide +kernel) rfl) d (a0 := (N, .inr (.inl (fun _ => 0)))) (fun _ => rfl) hn hN (by show N * 8 ≤ _; omega) hr1 hr2 k
theorem zR_newB (C : zC x g own cc ret f) {v : Int32} {N : Nat} (d : zD cc pc (.newarray .boolean) 2 pc') (hn : ¬ v < 0) (hN : v.toNatClampNeg = N) (hb : N ≤ 5000) (hr1 : n.1 + 1 ≤ zmc x) (hr2 : n.2 + N ≤ zms x) (k : ∀ q : Nat, zR x g post (n.1 + 1, n.2 + N) pc' lv (.ref q :: st) (ws ++ [(q, .inl (g.2.1 2, N, .inl (fun _ => 0)))])) : zR x g post n pc lv (.int v :: st) ws :=
  zR_newa C (atype := .boolean) (ty := .boolean) 2 rfl rfl (fun _ h => h) (zT_in 326 (by decide +kernel) rfl) d (a0 := (N, .inl (fun _ => 0))) (fun _ => rfl) hn hN (by show N * 1 ≤ _; omega) hr1 hr2 k
theorem zR_newC (C : zC x g own cc ret f) {v : Int32} {N : Nat} (d : zD cc pc (.newarray .char) 2 pc') (hn : ¬ v < 0) (hN : v.toNatClampNeg = N) (hb : N ≤ 5000) (hr1 : n.1 + 1 ≤ zmc x) (hr2 : n.2 + N ≤ zms x) (k : ∀ q : Nat, zR x g post (n.1 + 1, n.2 + N) pc' lv (.ref q :: st) (ws ++ [(q, .inl (g.2.1 3, N, .inl (fun _ => 0)))])) : zR x g post n pc lv (.int v :: st) ws :=
  zR_newa C (atype := .char) (ty := .char) 3 rfl rfl (fun _ h => h) (zT_in 327 (by decide +kernel) rfl) d (a0 := (N, .inl (fun _ => 0))) (fun _ => rfl) hn hN (by show N * 2 ≤ _; omega) hr1 hr2 k
theorem zR_newq (C : zC x g own cc ret f) {idx : Nat} (hw : Cond.classLink own idx "ErrorBudgets$House" ∈ zTBL) {v : Int32} {N : Nat} (d : zD cc pc (.anewarray idx) 3 pc') (hn : ¬ v < 0) (hN : v.toNatClampNeg = N) (hb : N ≤ 5000) (hr1 : n.1 + 1 ≤ zmc x) (hr2 : n.2 + N ≤ zms x)
    (k : ∀ q : Nat, zR x g post (n.1 + 1, n.2 + N) pc' lv (.ref q :: st) (ws ++ [(q, .inl (g.2.1 4, N, .inr (.inr (.inr (.inr (fun _ => none))))))])) : zR x g post n pc lv (.int v :: st) ws := by
  obtain ⟨d, rfl⟩ := d
  intro H locs ls hP hD hS hl
  obtain ⟨-, -, -, -, -, -, -, -, -, -, hov, -⟩ := C.2.2.2.2.2.2.2.2
  refine va_newq C.1.1 C.1.2.1 C.1.2.2.2 (C.2.1 _ hw) hov C.2.2.1 hP hD hS C.2.2.2.2.2.2.2.1 hn hN (by omega) (by rw [(zC_rm C).1]; exact hr1) (by rw [(zC_rm C).2.1]; exact hr2) d fun q cA H1 hK hP1 hD1 hS1 => ?_
  have e : cA = g.2.1 4 := by
    obtain ⟨_, _, -, -, -, h1⟩ := (hK.2 5 (cA, .object "ErrorBudgets$House") rfl).2
    obtain ⟨_, _, -, -, -, h2⟩ := (C.2.2.1.2 4 (g.2.1 4, .object "ErrorBudgets$House") rfl).2
    exact Option.some.inj (h1.symm.trans h2)
  rw [e] at hP1 hD1
  exact k q H1 locs ls hP1 hD1 hS1 hl
theorem zR_putf (C : zC x g own cc ret f) (hin2 : (zk x).name = "<init>") {idx ci k a : Nat} {fs : List Value} {v : Value} {ty : FieldType} {ws1 : va_W} (F : zFi own idx ci k ty) (d : zD cc pc (.putfield idx) 3 pc') (hnar : narrow ty v = v) (hfit : fits ty v = true) (p : Nat) (he : ws[p]? = some (a, .inr (ci, fs))) (hl0 : k < fs.length) (hw : ws.set p (a, .inr (ci, fs.set k v)) = ws1) (kk : zR x g post n pc' lv st ws1) : zR x g post n pc lv (v :: .ref a :: st) ws := by
  subst hw
  obtain ⟨d, rfl⟩ := d
  obtain ⟨Cn, T, N, ty0, hc, hin, hk, hlink, hty, hnm, hfin, hd, hdecl⟩ := F
  exact fun H locs ls hP hD hS hl => va_putF C.1.1 C.1.2.1 C.2.1 hin ty0 hty hnm C.1.2.2.2 C.2.2.1 hP hD hS p he hc k hk (C.2.1 _ hlink) (fun _ h => h) hfin hin2 hdecl hd hnar hfit hl0 d (fun H1 locs1 hP hD hS => kk H1 locs1 ls hP hD hS hl)
theorem zR_aast (C : zC x g own cc ret f) {a N b : Nat} {h : Nat → Option Nat} {i : Int32} {vs : List Value} {ws1 : va_W} (d : zD cc pc .aastore 1 pc') (p qk : Nat) (ha : ws[p]? = some (a, .inl (g.2.1 4, N, .inr (.inr (.inr (.inr h)))))) (hv : ws[qk]? = some (b, .inr (1, vs))) (hi : vp_in i N) (hw : ws.set p (a, .inl (g.2.1 4, N, .inr (.inr (.inr (.inr (va_up h i.toNatClampNeg (some b))))))) = ws1) (k : zR x g post n pc' lv st ws1) : zR x g post n pc lv (.ref b :: .int i :: .ref a :: st) ws := by
  obtain ⟨d, rfl⟩ := d
  subst hw
  exact fun H locs ls hP hD hS hl => va_astq C.1.1 C.1.2.1 C.2.2.1 hP hD hS p 4 qk 1 (r := (RX1, TX1, 14)) ha rfl hv rfl hi d (fun H1 locs1 hP hD hS => k H1 locs1 ls hP hD hS hl)
theorem zR_first (C : zC x g own cc ret f) {idx : Nat} {host : String} (hl : Cond.fieldLinkNest own idx "ErrorBudgets" "FIRST" "[I" host ∈ zNST) (d : zD cc pc (.getstatic idx) 3 pc') (k : zR x g post n pc' lv (.ref (g.2.2.1 0) :: st) ws) : zR x g post n pc lv st ws := by
  obtain ⟨d, rfl⟩ := d
  obtain ⟨h1, -⟩ := C.2.2.2.2.2.2.2.2
  exact fun H locs ls hP hD hS hl' => va_getsN C.1.1 C.1.2.1 h1.1 hS C.1.2.2.2 (va_Nw.use rfl (C.2.2.2.1 _ hl)) (fun _ h => h) d (k H locs ls hP hD hS hl')
theorem zR_clone (C : zC x g own cc ret f) {idx : Nat} (hl : Cond.methodLink own idx ⟨"[I", "clone", "()Ljava/lang/Object;"⟩ ∈ zTBL) (d : zD cc pc (.invokevirtual idx) 3 pc') (hf : 1 ≤ f) (hcat : (st.map fun v => v.category).sum ≤ 8) (hr1 : n.1 + 1 ≤ zmc x) (hr2 : n.2 + 8 ≤ zms x)
    (k : ∀ q : Nat, zR x g post (n.1 + 1, n.2 + 8) pc' lv (.ref q :: st) (ws ++ [(q, .inl (g.2.1 0, 8, .inl zFI))])) : zR x g post n pc lv (.ref (g.2.2.1 0) :: st) ws := by
  obtain ⟨d, rfl⟩ := d
  intro H locs ls hP hD hS hl'
  obtain ⟨-, hF, -, -, -, -, -, -, -, -, -, hca⟩ := C.2.2.2.2.2.2.2.2.2
  obtain ⟨cell, e1, e2, e3, e4, e5⟩ := hF
  have hA := C.2.2.2.2.2.2.2.1
  have ecell : cell = vp_cell (g.2.1 0) (8, .inl zFI) := by
    cases cell
    simp only at e2 e3 e4
    subst e2 e3 e4
    rfl
  have hlt : g.2.2.1 0 < (zs x).heap.size := (Array.getElem?_eq_some_iff.mp e1).1
  have eH : H[g.2.2.1 0]? = some (vp_cell (g.2.1 0) (8, .inl zFI)) := by rw [hS.2.1 _ hlt e5, e1, ecell]
  generalize g.2.2.1 0 = t at e1 e5 hlt eH
  have hP2 : va_P g.1 vwCl (ws ++ [(t, .inl (g.2.1 0, 8, .inl zFI))]) H := hP.app (fun k q hk => by
    have hz : k < 1 := (List.getElem?_eq_some_iff.mp hk).1
    rw [show k = 0 by omega] at hk
    cases hk
    exact eH)
  have hD2 : va_D (fun a => zA x a ∨ a = t) (ws ++ [(t, .inl (g.2.1 0, 8, .inl zFI))]) := va_D.app (hD.weaken (fun _ _ _ h => Or.inl h)) ⟨fun i j p q hp hq _ => by
      have h1 : i < 1 := (List.getElem?_eq_some_iff.mp hp).1
      have h2 : j < 1 := (List.getElem?_eq_some_iff.mp hq).1
      omega, fun k q hk => by
      have hz : k < 1 := (List.getElem?_eq_some_iff.mp hk).1
      rw [show k = 0 by omega] at hk
      cases hk
      exact Or.inr rfl⟩ (fun i j p q hp hq hpq => by
      have hz : j < 1 := (List.getElem?_eq_some_iff.mp hq).1
      rw [show j = 0 by omega] at hq
      cases hq
      exact e5 (hpq ▸ hD.2 i p hp))
  have hS2 : va_S (fun a => zA x a ∨ a = t) (zs x).heap H locs := ⟨hS.1, fun q h1 h2 => hS.2.1 q h1 (fun z => h2 (Or.inl z)), fun l hl => Or.inl (hS.2.2 l hl)⟩
  refine va_clone C.1.1 C.1.2.1 (C.1.2.2.1.trans (zlv_size hl')) C.1.2.2.2 (C.2.1 _ hl) (C.2.1 _ (zT_in 132 (by decide +kernel) rfl)) (C.2.1 _ (zT_in 133 (by decide +kernel) rfl)) (C.2.1 _ (zT_in 134 (by decide +kernel) rfl)) (C.2.1 _ (zT_in 135 (by decide +kernel) rfl)) hca C.2.2.1 hP2 hD2 hS2 (fun q h => Or.inl (hA q h)) ws.length 0 (by rw [List.getElem?_append_right (Nat.le_refl _), Nat.sub_self]; rfl) rfl (va_nm_int (C.2.2.1.2 0 (g.2.1 0, .int) rfl).2) (va_fit (fun _ _ => rfl)) (by rw [(zC_rm C).2.2.1]; exact hf) (by rw [(zC_rm C).2.2.2]; omega) (by rw [(zC_rm C).1]; exact hr1) (by rw [(zC_rm C).2.1]; exact hr2) d fun q H1 hK hP1 hD1 hS1 => ?_
  have gw : ∀ (i : Nat) (p : Nat × va_E), ws[i]? = some p → (ws ++ [(t, .inl (g.2.1 0, 8, .inl zFI))] ++ [(q, .inl (g.2.1 0, 8, .inl zFI))])[i]? = some p := fun i p hp => by
    have h1 := (List.getElem?_eq_some_iff.mp hp).1
    rw [List.getElem?_append_left (by simp; omega), List.getElem?_append_left h1]; exact hp
  have gt : (ws ++ [(t, .inl (g.2.1 0, 8, .inl zFI))] ++ [(q, .inl (g.2.1 0, 8, .inl zFI))])[ws.length]? = some (t, .inl (g.2.1 0, 8, .inl zFI)) := by
    rw [List.getElem?_append_left (by simp), List.getElem?_append_right (Nat.le_refl _), Nat.sub_self]; rfl
  have gq : (ws ++ [(t, .inl (g.2.1 0, 8, .inl zFI))] ++ [(q, .inl (g.2.1 0, 8, .inl zFI))])[ws.length + 1]? = some (q, .inl (g.2.1 0, 8, .inl zFI)) := by
    rw [List.getElem?_append_right (by simp)]; simp
  have hqt : ¬ q = t := fun z => by
    have := hD1.1 _ _ _ _ gq gt z
    omega
  have hqA : zA x q := (hD1.2 _ _ gq).resolve_right hqt
  refine k q H1 locs ls (va_P.app (fun i p hp => hP1 i p (gw i p hp)) (fun i p hp => ?_)) (va_D.app hD ⟨fun i j p q hp hq _ => ?_, fun i p hp => ?_⟩ (fun i j p r hp hr hpr => ?_)) ⟨hS1.1, fun y h1 h2 => ?_, fun l hl => hS.2.2 l hl⟩ hl'
  · have hz : i < 1 := (List.getElem?_eq_some_iff.mp hp).1
    rw [show i = 0 by omega] at hp
    cases hp
    exact hP1 _ _ gq
  · have h1 : i < 1 := (List.getElem?_eq_some_iff.mp hp).1
    have h2 : j < 1 := (List.getElem?_eq_some_iff.mp hq).1
    omega
  · have hz : i < 1 := (List.getElem?_eq_some_iff.mp hp).1
    rw [show i = 0 by omega] at hp
    cases hp
    exact hqA
  · have hz : j < 1 := (List.getElem?_eq_some_iff.mp hr).1
    rw [show j = 0 by omega] at hr
    cases hr
    have := hD1.1 _ _ _ _ (gw i p hp) gq hpr
    have h1 := (List.getElem?_eq_some_iff.mp hp).1
    omega
  · by_cases hy : y = t
    · rw [hy, e1, ecell]
      exact hP1 _ _ gt
    · exact hS1.2.1 y h1 (fun z => z.elim h2 hy)
theorem zR_castA (C : zC x g own cc ret f) {idx a : Nat} {v : vp_A} (hl : Cond.classLink own idx "[I" ∈ zTBL) (d : zD cc pc (.checkcast idx) 3 pc') (p : Nat) (ha : ws[p]? = some (a, .inl (g.2.1 0, v))) (k : zR x g post n pc' lv (.ref a :: st) ws) : zR x g post n pc lv (.ref a :: st) ws := by
  obtain ⟨d, rfl⟩ := d
  exact fun H locs ls hP hD hS hl' => va_castA C.1.1 C.1.2.1 C.1.2.2.2 (C.2.1 _ hl) hP p ha (va_nm_int (C.2.2.1.2 0 (g.2.1 0, .int) rfl).2) d (k H locs ls hP hD hS hl')
end ZN
theorem qX0_11 : zFi RX0 11 0 0 (.array (.object "ErrorBudgets$House")) := ⟨RX0, TX0, 3, tyX0, rfl, uX0, by decide, (zT_in 288 (by decide +kernel) rfl), tyX0_ok, nmX0, rfl, by decide +kernel, rfl⟩
theorem qX1_18 : zFi RX1 18 1 0 (.array .int) := ⟨RX1, TX1, 14, tyX1, rfl, uX1, by decide, (zT_in 223 (by decide +kernel) rfl), tyX1_ok, nmX1, rfl, by decide +kernel, rfl⟩
theorem qX1_39 : zFi RX1 39 1 6 (.array .int) := ⟨RX1, TX1, 14, tyX1, rfl, uX1, by decide, (zT_in 235 (by decide +kernel) rfl), tyX1_ok, nmX1, rfl, by decide +kernel, rfl⟩
theorem qX1_42 : zFi RX1 42 1 7 (.array .int) := ⟨RX1, TX1, 14, tyX1, rfl, uX1, by decide, (zT_in 237 (by decide +kernel) rfl), tyX1_ok, nmX1, rfl, by decide +kernel, rfl⟩
theorem qX1_45 : zFi RX1 45 1 8 (.array .int) := ⟨RX1, TX1, 14, tyX1, rfl, uX1, by decide, (zT_in 239 (by decide +kernel) rfl), tyX1_ok, nmX1, rfl, by decide +kernel, rfl⟩
theorem qX1_48 : zFi RX1 48 1 9 (.array .int) := ⟨RX1, TX1, 14, tyX1, rfl, uX1, by decide, (zT_in 241 (by decide +kernel) rfl), tyX1_ok, nmX1, rfl, by decide +kernel, rfl⟩
theorem qX1_51 : zFi RX1 51 1 10 (.array .int) := ⟨RX1, TX1, 14, tyX1, rfl, uX1, by decide, (zT_in 243 (by decide +kernel) rfl), tyX1_ok, nmX1, rfl, by decide +kernel, rfl⟩
theorem qX1_54 : zFi RX1 54 1 11 (.array .long) := ⟨RX1, TX1, 14, tyX1, rfl, uX1, by decide, (zT_in 245 (by decide +kernel) rfl), tyX1_ok, nmX1, rfl, by decide +kernel, rfl⟩
theorem qX1_61 : zFi RX1 61 1 12 (.object "ErrorBudgets$Loans") := ⟨RX1, TX1, 14, tyX1, rfl, uX1, by decide, (zT_in 246 (by decide +kernel) rfl), tyX1_ok, nmX1, rfl, by decide +kernel, rfl⟩
theorem qX1_68 : zFi RX1 68 1 13 (.object "ErrorBudgets$Plans") := ⟨RX1, TX1, 14, tyX1, rfl, uX1, by decide, (zT_in 248 (by decide +kernel) rfl), tyX1_ok, nmX1, rfl, by decide +kernel, rfl⟩
theorem qX2_15 : zFi RX2 15 2 1 (.array .int) := ⟨RX2, TX2, 6, tyX2, rfl, uX2, by decide, (zT_in 147 (by decide +kernel) rfl), tyX2_ok, nmX2, rfl, by decide +kernel, rfl⟩
theorem qX2_19 : zFi RX2 19 2 2 (.array .int) := ⟨RX2, TX2, 6, tyX2, rfl, uX2, by decide, (zT_in 150 (by decide +kernel) rfl), tyX2_ok, nmX2, rfl, by decide +kernel, rfl⟩
theorem qX2_22 : zFi RX2 22 2 3 (.array .int) := ⟨RX2, TX2, 6, tyX2, rfl, uX2, by decide, (zT_in 153 (by decide +kernel) rfl), tyX2_ok, nmX2, rfl, by decide +kernel, rfl⟩
theorem qX2_25 : zFi RX2 25 2 4 (.array .int) := ⟨RX2, TX2, 6, tyX2, rfl, uX2, by decide, (zT_in 155 (by decide +kernel) rfl), tyX2_ok, nmX2, rfl, by decide +kernel, rfl⟩
theorem qX2_28 : zFi RX2 28 2 5 (.array .int) := ⟨RX2, TX2, 6, tyX2, rfl, uX2, by decide, (zT_in 158 (by decide +kernel) rfl), tyX2_ok, nmX2, rfl, by decide +kernel, rfl⟩
theorem qX3_9 : zFi RX3 9 3 0 (.array .char) := ⟨RX3, TX3, 6, tyX3, rfl, uX3, by decide, (zT_in 305 (by decide +kernel) rfl), tyX3_ok, nmX3, rfl, by decide +kernel, rfl⟩
theorem qX3_25 : zFi RX3 25 3 4 (.array .char) := ⟨RX3, TX3, 6, tyX3, rfl, uX3, by decide, (zT_in 311 (by decide +kernel) rfl), tyX3_ok, nmX3, rfl, by decide +kernel, rfl⟩
theorem qX3_28 : zFi RX3 28 3 5 (.array .int) := ⟨RX3, TX3, 6, tyX3, rfl, uX3, by decide, (zT_in 312 (by decide +kernel) rfl), tyX3_ok, nmX3, rfl, by decide +kernel, rfl⟩
theorem qX4_15 : zFi RX4 15 4 1 (.array .int) := ⟨RX4, TX4, 9, tyX4, rfl, uX4, by decide, (zT_in 185 (by decide +kernel) rfl), tyX4_ok, nmX4, rfl, by decide +kernel, rfl⟩
theorem qX4_19 : zFi RX4 19 4 2 (.array .int) := ⟨RX4, TX4, 9, tyX4, rfl, uX4, by decide, (zT_in 188 (by decide +kernel) rfl), tyX4_ok, nmX4, rfl, by decide +kernel, rfl⟩
theorem qX4_22 : zFi RX4 22 4 3 (.array .int) := ⟨RX4, TX4, 9, tyX4, rfl, uX4, by decide, (zT_in 191 (by decide +kernel) rfl), tyX4_ok, nmX4, rfl, by decide +kernel, rfl⟩
theorem qX4_25 : zFi RX4 25 4 4 (.array .int) := ⟨RX4, TX4, 9, tyX4, rfl, uX4, by decide, (zT_in 194 (by decide +kernel) rfl), tyX4_ok, nmX4, rfl, by decide +kernel, rfl⟩
theorem qX4_28 : zFi RX4 28 4 5 (.array .int) := ⟨RX4, TX4, 9, tyX4, rfl, uX4, by decide, (zT_in 196 (by decide +kernel) rfl), tyX4_ok, nmX4, rfl, by decide +kernel, rfl⟩
theorem qX4_31 : zFi RX4 31 4 6 (.array .int) := ⟨RX4, TX4, 9, tyX4, rfl, uX4, by decide, (zT_in 199 (by decide +kernel) rfl), tyX4_ok, nmX4, rfl, by decide +kernel, rfl⟩
theorem qX5_12 : zFi RX5 12 5 0 (.object "ErrorBudgets$House") := ⟨RX5, TX5, 7, tyX5, rfl, uX5, by decide, (zT_in 328 (by decide +kernel) rfl), tyX5_ok, nmX5, rfl, by decide +kernel, rfl⟩
theorem qX5_16 : zFi RX5 16 5 1 (.object "ErrorBudgets$House") := ⟨RX5, TX5, 7, tyX5, rfl, uX5, by decide, (zT_in 329 (by decide +kernel) rfl), tyX5_ok, nmX5, rfl, by decide +kernel, rfl⟩
theorem qX5_22 : zFi RX5 22 5 2 (.object "ErrorBudgets$History") := ⟨RX5, TX5, 7, tyX5, rfl, uX5, by decide, (zT_in 330 (by decide +kernel) rfl), tyX5_ok, nmX5, rfl, by decide +kernel, rfl⟩
theorem qX5_26 : zFi RX5 26 5 3 (.array (.object "ErrorBudgets$House")) := ⟨RX5, TX5, 7, tyX5, rfl, uX5, by decide, (zT_in 331 (by decide +kernel) rfl), tyX5_ok, nmX5, rfl, by decide +kernel, rfl⟩
theorem qX5_30 : zFi RX5 30 5 4 (.array .boolean) := ⟨RX5, TX5, 7, tyX5, rfl, uX5, by decide, (zT_in 332 (by decide +kernel) rfl), tyX5_ok, nmX5, rfl, by decide +kernel, rfl⟩
theorem qX5_37 : zFi RX5 37 5 5 (.object "ErrorBudgets$Pad") := ⟨RX5, TX5, 7, tyX5, rfl, uX5, by decide, (zT_in 333 (by decide +kernel) rfl), tyX5_ok, nmX5, rfl, by decide +kernel, rfl⟩
theorem qX6_7 : zFi RX6 7 6 0 (.array .long) := ⟨RX6, TX6, 14, tyX6, rfl, uX6, by decide, (zT_in 804 (by decide +kernel) rfl), tyX6_ok, nmX6, rfl, by decide +kernel, rfl⟩
theorem qX6_13 : zFi RX6 13 6 2 (.array .boolean) := ⟨RX6, TX6, 14, tyX6, rfl, uX6, by decide, (zT_in 806 (by decide +kernel) rfl), tyX6_ok, nmX6, rfl, by decide +kernel, rfl⟩
theorem qX6_17 : zFi RX6 17 6 4 (.array .int) := ⟨RX6, TX6, 14, tyX6, rfl, uX6, by decide, (zT_in 808 (by decide +kernel) rfl), tyX6_ok, nmX6, rfl, by decide +kernel, rfl⟩
theorem qX6_25 : zFi RX6 25 6 8 (.array .boolean) := ⟨RX6, TX6, 14, tyX6, rfl, uX6, by decide, (zT_in 812 (by decide +kernel) rfl), tyX6_ok, nmX6, rfl, by decide +kernel, rfl⟩
theorem qX6_28 : zFi RX6 28 6 9 (.array .boolean) := ⟨RX6, TX6, 14, tyX6, rfl, uX6, by decide, (zT_in 813 (by decide +kernel) rfl), tyX6_ok, nmX6, rfl, by decide +kernel, rfl⟩
theorem qX6_31 : zFi RX6 31 6 10 (.array .int) := ⟨RX6, TX6, 14, tyX6, rfl, uX6, by decide, (zT_in 814 (by decide +kernel) rfl), tyX6_ok, nmX6, rfl, by decide +kernel, rfl⟩
theorem qX6_34 : zFi RX6 34 6 12 (.array .int) := ⟨RX6, TX6, 14, tyX6, rfl, uX6, by decide, (zT_in 816 (by decide +kernel) rfl), tyX6_ok, nmX6, rfl, by decide +kernel, rfl⟩
theorem nL_7 : zKn RL 7 5 7 [.null, .null, .null, .null, .null, .null, .int 0] := ⟨RX5, TX5, tyX5, rfl, uX5, tyX5_ok, (zT_in 115 (by decide +kernel) rfl), (zT_in 116 (by decide +kernel) rfl), (zT_in 102 (by decide +kernel) rfl), by decide⟩
theorem nX5_9 : zKn RX5 9 1 14 [.null, .int 0, .int 0, .int 0, .int 0, .int 0, .null, .null, .null, .null, .null, .null, .null, .null] := ⟨RX1, TX1, tyX1, rfl, uX1, tyX1_ok, (zT_in 123 (by decide +kernel) rfl), (zT_in 124 (by decide +kernel) rfl), (zT_in 103 (by decide +kernel) rfl), by decide⟩
theorem nX1_58 : zKn RX1 58 2 6 [.int 0, .null, .null, .null, .null, .null] := ⟨RX2, TX2, tyX2, rfl, uX2, tyX2_ok, (zT_in 138 (by decide +kernel) rfl), (zT_in 139 (by decide +kernel) rfl), (zT_in 104 (by decide +kernel) rfl), by decide⟩
theorem nX1_65 : zKn RX1 65 4 9 [.int 0, .null, .null, .null, .null, .null, .null, .int 0, .int 0] := ⟨RX4, TX4, tyX4, rfl, uX4, tyX4_ok, (zT_in 176 (by decide +kernel) rfl), (zT_in 177 (by decide +kernel) rfl), (zT_in 105 (by decide +kernel) rfl), by decide⟩
theorem nX5_19 : zKn RX5 19 0 3 [.null, .int 0, .int 0] := ⟨RX0, TX0, tyX0, rfl, uX0, tyX0_ok, (zT_in 279 (by decide +kernel) rfl), (zT_in 280 (by decide +kernel) rfl), (zT_in 106 (by decide +kernel) rfl), by decide⟩
theorem nX0_9 : zKn RX0 9 1 14 [.null, .int 0, .int 0, .int 0, .int 0, .int 0, .null, .null, .null, .null, .null, .null, .null, .null] := ⟨RX1, TX1, tyX1, rfl, uX1, tyX1_ok, (zT_in 285 (by decide +kernel) rfl), (zT_in 124 (by decide +kernel) rfl), (zT_in 103 (by decide +kernel) rfl), by decide⟩
theorem nX5_34 : zKn RX5 34 3 6 [.null, .int 0, .int 0, .int 0, .null, .null] := ⟨RX3, TX3, tyX3, rfl, uX3, tyX3_ok, (zT_in 299 (by decide +kernel) rfl), (zT_in 300 (by decide +kernel) rfl), (zT_in 107 (by decide +kernel) rfl), by decide⟩
theorem nL_10 : zKn RL 10 6 14 [.null, .int 0, .null, .int 0, .null, .int 0, .int 0, .int 0, .null, .null, .null, .int 0, .null, .int 0] := ⟨RX6, TX6, tyX6, rfl, uX6, tyX6_ok, (zT_in 792 (by decide +kernel) rfl), (zT_in 793 (by decide +kernel) rfl), (zT_in 108 (by decide +kernel) rfl), by decide⟩
