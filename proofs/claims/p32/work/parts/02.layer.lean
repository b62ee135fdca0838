
/-! The layer: a method's body over a world of cells, as a predicate of its pc, locals, operands and cells. -/
def zTBL : List Cond := lw_tbl.filter goodWord
def zNst : Cond → Bool
  | .fieldLinkNest .. => true
  | .methodLinkNest .. => true
  | _ => false
def zNST : List Cond := tables_1.filter zNst
theorem zT_in {w : Cond} (i : Nat) (h : lw_tbl[i]? = some w) (hg : goodWord w = true) : w ∈ zTBL := List.mem_filter.mpr ⟨List.mem_of_getElem? h, hg⟩
theorem zN_in {w : Cond} (i : Nat) (h : tables_1[i]? = some w) (hg : zNst w = true) : w ∈ zNST := List.mem_filter.mpr ⟨List.mem_of_getElem? h, hg⟩
theorem zNst_tab {w : Cond} (h : zNst w = true) : w.onTables = true := by
  cases w <;> first | rfl | (simp [zNst] at h; done)
theorem zN_tab {w : Cond} (h : w ∈ zNST) : w.onTables = true := zNst_tab (List.mem_filter.mp h).2
theorem zN_warm {s U : State} (hW : s.WarmedH U.vm) (h : ∀ w ∈ zNST, va_Nw w s) : ∀ w ∈ zNST, va_Nw w U := by
  intro w hw
  have h1 := h w hw
  have h2 := (List.mem_filter.mp hw).2
  cases w <;> first | exact va_Nw.warmF hW h1 | exact va_Nw.warmM hW h1 | (simp [zNst] at h2; done)
/-- the launch's class numbers, its array classes, the addresses of the three static arrays, of the String constants and their bytes -/
abbrev zG : Type := va_G × (Nat → ClassId) × (Nat → Nat) × (Nat → Nat) × (Nat → Nat)
def zty (c : Nat → ClassId) : List (ClassId × FieldType) := [(c 0, .int), (c 1, .long), (c 2, .boolean), (c 3, .char), (c 4, .object "ErrorBudgets$House")]
def zFI : Nat → Int32 := fun j => ([168, 25, 10, 10, 20, 48, 3, 1] : List Int32).getD j 0
def zLO : Nat → Int32 := fun j => ([12, 0, 0, 0, 0, 0, 0, 0] : List Int32).getD j 0
def zHI : Nat → Int32 := fun j => ([720, 100, 100, 100, 100, 300, 10, 9] : List Int32).getD j 0
def zFc (t : Nat) (cA : ClassId) (A : Nat → Prop) (H : Heap) : Prop := ∃ cell : Cell, H[t]? = some cell ∧ cell.cls = cA ∧ (cell.vm ≠ .unknown ∧ ∀ k, cell.vm ≠ .statics k) ∧ cell.slots = (vp_cell cA (8, .inl zFI)).slots ∧ ¬ A t
def zZ (g : zG) (A : Nat → Prop) (U : State) (H : Heap) : Prop :=
  va_Z "ErrorBudgets" "FIRST" "[I" (.ref (g.2.2.1 0)) A U H ∧ zFc (g.2.2.1 0) (g.2.1 0) A H ∧
  va_Z "ErrorBudgets" "LOWEST" "[I" (.ref (g.2.2.1 1)) A U H ∧ va_T .int (g.2.2.1 1) 8 (fun j => .int (zLO j)) A U H ∧
  va_Z "ErrorBudgets" "HIGHEST" "[I" (.ref (g.2.2.1 2)) A U H ∧ va_T .int (g.2.2.1 2) 8 (fun j => .int (zHI j)) A U H ∧
  va_T .int (g.2.2.2.1 0) (g.2.2.2.1 1) (fun j => .int (nI (g.2.2.2.2 j))) A U H ∧ True ∧ True ∧ True ∧
  va_AO "ErrorBudgets$House" U ∧ va_Nw (.castable "[I" "java/lang/Cloneable") U
theorem zFc.kept {t : Nat} {cA : ClassId} {A : Nat → Prop} {H H1 : Heap} (h : zFc t cA A H) (hq : ∀ a : Nat, a < H.size → ¬ A a → H1[a]? = H[a]?) : zFc t cA A H1 := by
  obtain ⟨cell, h1, h2, h3, h4, h5⟩ := h
  exact ⟨cell, by rw [hq t (Array.getElem?_eq_some_iff.mp h1).1 h5]; exact h1, h2, h3, h4, h5⟩
theorem zFc.narrow {t : Nat} {cA : ClassId} {A B : Nat → Prop} {H : Heap} (h : zFc t cA A H) (hAB : ∀ q, B q → A q) : zFc t cA B H := by
  obtain ⟨cell, h1, h2, h3, h4, h5⟩ := h
  exact ⟨cell, h1, h2, h3, h4, fun z => h5 (hAB _ z)⟩
theorem zZ.call {g : zG} {A B : Nat → Prop} {s U : State} {H : Heap} {locs : List Loc} (h : zZ g A s s.heap) (hW : s.WarmedH U.vm) (hS : va_S A s.heap H locs) (hAB : ∀ q, B q → A q) : zZ g B U H := by
  obtain ⟨h1, h2, h3, h4, h5, h6, h7, h8, h9, h10, h11, h12⟩ := h
  have hq := hS.2.1
  exact ⟨((h1.moved hW.alike).kept hq).narrow hAB, (h2.kept hq).narrow hAB, ((h3.moved hW.alike).kept hq).narrow hAB, ((h4.moved hW.alike).kept hq).narrow hAB, ((h5.moved hW.alike).kept hq).narrow hAB, ((h6.moved hW.alike).kept hq).narrow hAB,
    ((h7.moved hW.alike).kept hq).narrow hAB, h8, h9, h10, h11.moved hW.alike, va_Nw.warmC hW h12⟩
theorem zZ.same {g : zG} {A : Nat → Prop} {s U : State} {H : Heap} (h : zZ g A s H) (hv : s.vm = U.vm) : zZ g A U H := by
  obtain ⟨h1, h2, h3, h4, h5, h6, h7, h8, h9, h10, h11, h12⟩ := h
  have ha : s.vm.Alike U.vm := by rw [hv]; exact Vm.Alike.refl _
  exact ⟨h1.moved ha, h2, h3.moved ha, h4.moved ha, h5.moved ha, h6.moved ha, h7.moved ha, h8, h9, h10, h11.moved ha, va_Nw.same rfl hv h12⟩
/-- the walk's fixed things: machine, method, the cells that may change, the locals' number, the cells and slots that may be made -/
abbrev zX : Type := (Program × Launch × Env × Room × State) × (MethodId × Array Value × List Frame × Method × Code) × (Nat → Prop) × Nat × Nat × Nat
abbrev zp (x : zX) : Program := x.1.1
abbrev zl (x : zX) : Launch := x.1.2.1
abbrev ze (x : zX) : Env := x.1.2.2.1
abbrev zRm (x : zX) : Room := x.1.2.2.2.1
abbrev zs (x : zX) : State := x.1.2.2.2.2
abbrev zm (x : zX) : MethodId := x.2.1.1
abbrev za (x : zX) : Array Value := x.2.1.2.1
abbrev zb (x : zX) : List Frame := x.2.1.2.2.1
abbrev zk (x : zX) : Method := x.2.1.2.2.2.1
abbrev zc (x : zX) : Code := x.2.1.2.2.2.2
abbrev zA (x : zX) : Nat → Prop := x.2.2.1
abbrev zn (x : zX) : Nat := x.2.2.2.1
abbrev zmc (x : zX) : Nat := x.2.2.2.2.1
abbrev zms (x : zX) : Nat := x.2.2.2.2.2
def zrm (f mc ms : Nat) : Room := { frames := f, cells := mc, slots := ms, locals := 36 * f }
def zPst (g : zG) (A : Nat → Prop) (post : Option Value → va_W → Prop) : Array Value → State → Outcome → State → Prop := fun _ st oc t =>
  (∃ (r : Option Value) (w : va_W), oc = .returned r ∧ post r w ∧ va_P g.1 vwCl w t.heap ∧ va_K g.1 vwCl (zty g.2.1) t ∧ va_D A w) ∧ va_F A st t
def zPre (g : zG) (ws : va_W) (sz : Nat) : State → Prop := fun U =>
  U.heap.size = sz ∧ va_P g.1 vwCl ws U.heap ∧ va_K g.1 vwCl (zty g.2.1) U ∧ va_D (fun _ => True) ws ∧ (∀ w ∈ zNST, va_Nw w U) ∧ zZ g (va_A ws sz) U U.heap
/-- a contract: from the cells ws the method y of these arguments comes back, and 'post' says of its answer and of the cells -/
def zM (l : Launch) (g : zG) (y : MethodName) (cc : ByteArray) (nL : Nat) (ret : Option FieldType) (f mc ms : Nat) (args : List Value) (ws : va_W) (post : Option Value → va_W → Prop) : Prop :=
  ∀ sz : Nat, Met l y (.code y cc nL ret :: zTBL) (zrm f mc ms) (va_Pc args (zPre g ws sz)) (zPst g (va_A ws sz) post) mc ms (va_A ws sz)
abbrev zE (r : Option Value) (w : va_W) : Option Value → va_W → Prop := fun r1 w1 => r1 = r ∧ w1 = w
def zC (x : zX) (g : zG) (own : String) (cc : ByteArray) (ret : Option FieldType) (f : Nat) : Prop :=
  ((zp x).tables.exec = Jvm.exec ∧ (zc x).code = cc ∧ (zc x).maxLocals = zn x ∧ (zs x).vm.findClass own = some (zm x).cls) ∧ (∀ w ∈ zTBL, w.before (za x) (zs x) = true) ∧
  va_K g.1 vwCl (zty g.2.1) (zs x) ∧ (∀ w ∈ zNST, va_Nw w (zs x)) ∧ zRm x = zrm f (zmc x) (zms x) ∧ (zk x).locks = false ∧ (zk x).sig.returnType = ret ∧ (∀ q, (zs x).heap.size ≤ q → zA x q) ∧ zZ g (zA x) (zs x) (zs x).heap
def zR (x : zX) (g : zG) (post : Option Value → va_W → Prop) (n : Nat × Nat) (pc : Nat) (lv : List (Nat × Value)) (st : List Value) (ws : va_W) : Prop :=
  ∀ (H : Heap) (locs : List Loc) (ls : Array Slot), va_P g.1 vwCl ws H → va_D (zA x) ws → va_S (zA x) (zs x).heap H locs → lv_has ls (zn x) lv →
    W (zp x) (zl x) (ze x) (zRm x) (zs x) (zm x) (za x) (zb x) (zk x) (zc x) H locs n.1 n.2 (MQ (zb x) (zPst g (zA x) post) (za x) (zs x) (zmc x) (zms x) (zA x)) (F0 (zm x) pc ls st)
def zD (cc : ByteArray) (pc : Nat) (i : Instr) (len pc2 : Nat) : Prop := decode cc pc = .ok (i, len) ∧ pc2 = pc + len
def zJ (cc : ByteArray) (pc : Nat) (i : Instr) (off : Int) (tgt len pc2 : Nat) : Prop := decode cc pc = .ok (i, len) ∧ pc2 = pc + len ∧ (pc : Int) + off = (tgt : Int)
/-- a contract, from the walk of its body -/
theorem zM_of {l : Launch} {g : zG} {y : MethodName} {cc : ByteArray} {nL : Nat} {ret : Option FieldType} {f mc ms : Nat} {args : List Value} {ws : va_W} {post : Option Value → va_W → Prop} (hy : plainName y.cls = true) (hlen : (lg_sl args).length ≤ nL)
    (k : ∀ x : zX, zl x = l → zn x = nL → zmc x = mc → zms x = ms → ((zk x).name = y.name) → zC x g y.cls cc ret f → zR x g post (0, 0) 0 (lv_args 0 args) [] ws) : zM l g y cc nL ret f mc ms args ws post := by
  intro sz
  refine Met.ofW (cc := cc) (maxL := nL) (ret := ret) hy rfl ?_
  intro p e s m av below meth c s₁ B hml hv
  obtain ⟨rfl, hsz, hP, hK, hD0, hN, hZ⟩ := hv
  subst hsz
  have hts : ∀ w ∈ zTBL, w.before args.toArray s = true := fun w hw => atoms_spec (ws := .code y cc nL ret :: zTBL) B.pre w (List.mem_cons_of_mem _ hw)
  have hin : meth.name = y.name := (name_of_methodNamed B.named B.method).1
  have hl := lv_entry args (n := nL) hlen
  rw [lg_entry_eq]
  exact k ((p, l, e, zrm f mc ms, s), (m, args.toArray, below, meth, c), va_A ws s.heap.size, nL, mc, ms) rfl rfl rfl rfl hin
    ⟨⟨B.exec, B.bytes, hml, findClass_of_methodNamed B.named⟩, hts, hK, hN, rfl, B.notSynchronized, B.returns, fun q h => Or.inr h, hZ⟩ s.heap [] _ hP hD0.self va_S.rf hl
section ZR
variable {x : zX} {g : zG} {own : String} {cc : ByteArray} {ret : Option FieldType} {f : Nat} {post : Option Value → va_W → Prop} {n : Nat × Nat} {pc pc' : Nat} {lv : List (Nat × Value)} {st : List Value} {ws : va_W}
theorem zR_case {v : Int32} (c : Int32) (kt : v = c → zR x g post n pc lv (.int v :: st) ws) (kf : ¬ v = c → zR x g post n pc lv (.int v :: st) ws) : zR x g post n pc lv (.int v :: st) ws := if h : v = c then kt h else kf h
theorem zR_by {p : Prop} (kt : p → zR x g post n pc lv st ws) (kf : ¬ p → zR x g post n pc lv st ws) : zR x g post n pc lv st ws := (Classical.em p).elim kt kf
theorem zR_lv (lv' : List (Nat × Value)) (ks : List Nat) (h : lv_pick lv ks = lv') (k : zR x g post n pc lv' st ws) : zR x g post n pc lv st ws := fun H locs ls hP hD hS hl => k H locs ls hP hD hS (lv_sub hl ks h)
theorem zR_eq {lv' : List (Nat × Value)} {st' : List Value} {ws' : va_W} (h1 : lv = lv') (h2 : st = st') (h3 : ws = ws') (k : zR x g post n pc lv' st' ws') : zR x g post n pc lv st ws := by subst h1 h2 h3; exact k
theorem zR_topi {a : Int32} {b : Int32} (h : a = b) (k : zR x g post n pc lv (.int b :: st) ws) : zR x g post n pc lv (.int a :: st) ws := by subst h; exact k
theorem zR_topl {a : Int64} {b : Int64} (h : a = b) (k : zR x g post n pc lv (.long b :: st) ws) : zR x g post n pc lv (.long a :: st) ws := by subst h; exact k
theorem zR_ws (ws' : va_W) (h : ws = ws') (k : zR x g post n pc lv st ws') : zR x g post n pc lv st ws := by subst h; exact k

theorem zR_iconst (C : zC x g own cc ret f) {i : Int} {v : Int32} (d : zD cc pc (.iconst i) 1 pc') (hv : Int32.ofInt i = v) (k : zR x g post n pc' lv (.int v :: st) ws) : zR x g post n pc lv st ws := by
  obtain ⟨d, rfl⟩ := d
  exact fun H locs ls hP hD hS hl => lv_iconst C.1.1 C.1.2.1 d hv (k H locs ls hP hD hS hl)
theorem zR_bipush (C : zC x g own cc ret f) {i : Int} {v : Int32} (d : zD cc pc (.bipush i) 2 pc') (hv : (Int8.ofInt i).toInt32 = v) (k : zR x g post n pc' lv (.int v :: st) ws) : zR x g post n pc lv st ws := by
  obtain ⟨d, rfl⟩ := d
  exact fun H locs ls hP hD hS hl => lv_bipush C.1.1 C.1.2.1 d hv (k H locs ls hP hD hS hl)
theorem zR_sipush (C : zC x g own cc ret f) {i : Int} {v : Int32} (d : zD cc pc (.sipush i) 3 pc') (hv : (Int16.ofInt i).toInt32 = v) (k : zR x g post n pc' lv (.int v :: st) ws) : zR x g post n pc lv st ws := by
  obtain ⟨d, rfl⟩ := d
  exact fun H locs ls hP hD hS hl => lv_sipush C.1.1 C.1.2.1 d hv (k H locs ls hP hD hS hl)
theorem zR_lconst (C : zC x g own cc ret f) {i : Fin 2} {v : Int64} (d : zD cc pc (.lconst i) 1 pc') (hv : Int64.ofNat (i : Nat) = v) (k : zR x g post n pc' lv (.long v :: st) ws) : zR x g post n pc lv st ws := by
  obtain ⟨d, rfl⟩ := d
  exact fun H locs ls hP hD hS hl => lv_lconst C.1.1 C.1.2.1 d hv (k H locs ls hP hD hS hl)
theorem zR_iload_n (C : zC x g own cc ret f) {q : Fin 4} {j : Nat} {v : Int32} (d : zD cc pc (.iload_n q) 1 pc') (p : Nat) (hj : lv[p]? = some (j, .int v)) (hq : (q : Nat) = j) (k : zR x g post n pc' lv (.int v :: st) ws) : zR x g post n pc lv st ws := by
  obtain ⟨d, rfl⟩ := d
  exact fun H locs ls hP hD hS hl => lv_iload_n C.1.1 C.1.2.1 d hq (lv_at hl p hj) (k H locs ls hP hD hS hl)
theorem zR_iload (C : zC x g own cc ret f) {j : Nat} {v : Int32} (d : zD cc pc (.iload j) 2 pc') (p : Nat) (hj : lv[p]? = some (j, .int v)) (k : zR x g post n pc' lv (.int v :: st) ws) : zR x g post n pc lv st ws := by
  obtain ⟨d, rfl⟩ := d
  exact fun H locs ls hP hD hS hl => lv_iload C.1.1 C.1.2.1 d (lv_at hl p hj) (k H locs ls hP hD hS hl)
theorem zR_lload_n (C : zC x g own cc ret f) {q : Fin 4} {j : Nat} {v : Int64} (d : zD cc pc (.lload_n q) 1 pc') (p : Nat) (hj : lv[p]? = some (j, .long v)) (hq : (q : Nat) = j) (k : zR x g post n pc' lv (.long v :: st) ws) : zR x g post n pc lv st ws := by
  obtain ⟨d, rfl⟩ := d
  exact fun H locs ls hP hD hS hl => lv_lload_n C.1.1 C.1.2.1 d hq (lv_at hl p hj) (k H locs ls hP hD hS hl)
theorem zR_lload (C : zC x g own cc ret f) {j : Nat} {v : Int64} (d : zD cc pc (.lload j) 2 pc') (p : Nat) (hj : lv[p]? = some (j, .long v)) (k : zR x g post n pc' lv (.long v :: st) ws) : zR x g post n pc lv st ws := by
  obtain ⟨d, rfl⟩ := d
  exact fun H locs ls hP hD hS hl => lv_lload C.1.1 C.1.2.1 d (lv_at hl p hj) (k H locs ls hP hD hS hl)
theorem zR_aload_n (C : zC x g own cc ret f) {q : Fin 4} {j v : Nat} (d : zD cc pc (.aload_n q) 1 pc') (p : Nat) (hj : lv[p]? = some (j, .ref v)) (hq : (q : Nat) = j) (k : zR x g post n pc' lv (.ref v :: st) ws) : zR x g post n pc lv st ws := by
  obtain ⟨d, rfl⟩ := d
  exact fun H locs ls hP hD hS hl => lv_aload_n C.1.1 C.1.2.1 d hq (lv_at hl p hj) (k H locs ls hP hD hS hl)
theorem zR_aload (C : zC x g own cc ret f) {j v : Nat} (d : zD cc pc (.aload j) 2 pc') (p : Nat) (hj : lv[p]? = some (j, .ref v)) (k : zR x g post n pc' lv (.ref v :: st) ws) : zR x g post n pc lv st ws := by
  obtain ⟨d, rfl⟩ := d
  exact fun H locs ls hP hD hS hl => lv_aload C.1.1 C.1.2.1 d (lv_at hl p hj) (k H locs ls hP hD hS hl)
theorem zR_istore_n (C : zC x g own cc ret f) {q : Fin 4} {i : Nat} {v : Int32} {lv' : List (Nat × Value)} (d : zD cc pc (.istore_n q) 1 pc') (hq : (q : Nat) = i) (hi : i < zn x) (hlv : (i, Value.int v) :: lv.filter (fun q => !(q.1 == i) && !(q.1 + 1 == i && q.2.category == 2)) = lv') (k : zR x g post n pc' lv' st ws) : zR x g post n pc lv (.int v :: st) ws := by
  obtain ⟨d, rfl⟩ := d
  exact fun H locs ls hP hD hS hl => lv_istore_n C.1.1 C.1.2.1 d hq hl hi hlv (fun ls' hl' => k H locs ls' hP hD hS hl')
theorem zR_istore (C : zC x g own cc ret f) {i : Nat} {v : Int32} {lv' : List (Nat × Value)} (d : zD cc pc (.istore i) 2 pc') (hi : i < zn x) (hlv : (i, Value.int v) :: lv.filter (fun q => !(q.1 == i) && !(q.1 + 1 == i && q.2.category == 2)) = lv') (k : zR x g post n pc' lv' st ws) : zR x g post n pc lv (.int v :: st) ws := by
  obtain ⟨d, rfl⟩ := d
  exact fun H locs ls hP hD hS hl => lv_istore C.1.1 C.1.2.1 d hl hi hlv (fun ls' hl' => k H locs ls' hP hD hS hl')
theorem zR_lstore_n (C : zC x g own cc ret f) {q : Fin 4} {i : Nat} {v : Int64} {lv' : List (Nat × Value)} (d : zD cc pc (.lstore_n q) 1 pc') (hq : (q : Nat) = i) (hi : i + 1 < zn x) (hlv : (i, Value.long v) :: lv.filter (fun q => !(q.1 == i) && (!(q.1 == i + 1) && !(q.1 + 1 == i && q.2.category == 2))) = lv') (k : zR x g post n pc' lv' st ws) : zR x g post n pc lv (.long v :: st) ws := by
  obtain ⟨d, rfl⟩ := d
  exact fun H locs ls hP hD hS hl => lv_lstore_n C.1.1 C.1.2.1 d hq hl hi hlv (fun ls' hl' => k H locs ls' hP hD hS hl')
theorem zR_lstore (C : zC x g own cc ret f) {i : Nat} {v : Int64} {lv' : List (Nat × Value)} (d : zD cc pc (.lstore i) 2 pc') (hi : i + 1 < zn x) (hlv : (i, Value.long v) :: lv.filter (fun q => !(q.1 == i) && (!(q.1 == i + 1) && !(q.1 + 1 == i && q.2.category == 2))) = lv') (k : zR x g post n pc' lv' st ws) : zR x g post n pc lv (.long v :: st) ws := by
  obtain ⟨d, rfl⟩ := d
  exact fun H locs ls hP hD hS hl => lv_lstore C.1.1 C.1.2.1 d hl hi hlv (fun ls' hl' => k H locs ls' hP hD hS hl')
theorem zR_astore_n (C : zC x g own cc ret f) {q : Fin 4} {i : Nat} {v : Nat} {lv' : List (Nat × Value)} (d : zD cc pc (.astore_n q) 1 pc') (hq : (q : Nat) = i) (hi : i < zn x) (hlv : (i, Value.ref v) :: lv.filter (fun q => !(q.1 == i) && !(q.1 + 1 == i && q.2.category == 2)) = lv') (k : zR x g post n pc' lv' st ws) : zR x g post n pc lv (.ref v :: st) ws := by
  obtain ⟨d, rfl⟩ := d
  exact fun H locs ls hP hD hS hl => lv_astore_n C.1.1 C.1.2.1 d hq hl hi hlv (fun ls' hl' => k H locs ls' hP hD hS hl')
theorem zR_astore (C : zC x g own cc ret f) {i : Nat} {v : Nat} {lv' : List (Nat × Value)} (d : zD cc pc (.astore i) 2 pc') (hi : i < zn x) (hlv : (i, Value.ref v) :: lv.filter (fun q => !(q.1 == i) && !(q.1 + 1 == i && q.2.category == 2)) = lv') (k : zR x g post n pc' lv' st ws) : zR x g post n pc lv (.ref v :: st) ws := by
  obtain ⟨d, rfl⟩ := d
  exact fun H locs ls hP hD hS hl => lv_astore C.1.1 C.1.2.1 d hl hi hlv (fun ls' hl' => k H locs ls' hP hD hS hl')
theorem zR_iinc (C : zC x g own cc ret f) {i : Nat} {a : Int} {v v' : Int32} {lv' : List (Nat × Value)} (d : zD cc pc (.iinc i a) 3 pc') (p : Nat) (hj : lv[p]? = some (i, .int v)) (hv : v + Int32.ofInt a = v') (hi : i < zn x) (hlv : (i, Value.int v') :: lv.filter (fun q => !(q.1 == i) && !(q.1 + 1 == i && q.2.category == 2)) = lv') (k : zR x g post n pc' lv' st ws) : zR x g post n pc lv st ws := by
  obtain ⟨d, rfl⟩ := d
  exact fun H locs ls hP hD hS hl => lv_iinc C.1.1 C.1.2.1 d hl hj hv hi hlv (fun ls' hl' => k H locs ls' hP hD hS hl')
theorem zR_iadd (C : zC x g own cc ret f) {a b : Int32} (d : zD cc pc (.iadd) 1 pc') (k : zR x g post n pc' lv (.int (a + b) :: st) ws) : zR x g post n pc lv (.int b :: .int a :: st) ws := by
  obtain ⟨d, rfl⟩ := d
  exact fun H locs ls hP hD hS hl => lv_iadd C.1.1 C.1.2.1 d (k H locs ls hP hD hS hl)
theorem zR_isub (C : zC x g own cc ret f) {a b : Int32} (d : zD cc pc (.isub) 1 pc') (k : zR x g post n pc' lv (.int (a - b) :: st) ws) : zR x g post n pc lv (.int b :: .int a :: st) ws := by
  obtain ⟨d, rfl⟩ := d
  exact fun H locs ls hP hD hS hl => lv_isub C.1.1 C.1.2.1 d (k H locs ls hP hD hS hl)
theorem zR_imul (C : zC x g own cc ret f) {a b : Int32} (d : zD cc pc (.imul) 1 pc') (k : zR x g post n pc' lv (.int (a * b) :: st) ws) : zR x g post n pc lv (.int b :: .int a :: st) ws := by
  obtain ⟨d, rfl⟩ := d
  exact fun H locs ls hP hD hS hl => lv_imul C.1.1 C.1.2.1 d (k H locs ls hP hD hS hl)
theorem zR_iand (C : zC x g own cc ret f) {a b : Int32} (d : zD cc pc (.iand) 1 pc') (k : zR x g post n pc' lv (.int (a &&& b) :: st) ws) : zR x g post n pc lv (.int b :: .int a :: st) ws := by
  obtain ⟨d, rfl⟩ := d
  exact fun H locs ls hP hD hS hl => lv_iand C.1.1 C.1.2.1 d (k H locs ls hP hD hS hl)
theorem zR_ior (C : zC x g own cc ret f) {a b : Int32} (d : zD cc pc (.ior) 1 pc') (k : zR x g post n pc' lv (.int (a ||| b) :: st) ws) : zR x g post n pc lv (.int b :: .int a :: st) ws := by
  obtain ⟨d, rfl⟩ := d
  exact fun H locs ls hP hD hS hl => lv_ior C.1.1 C.1.2.1 d (k H locs ls hP hD hS hl)
theorem zR_ixor (C : zC x g own cc ret f) {a b : Int32} (d : zD cc pc (.ixor) 1 pc') (k : zR x g post n pc' lv (.int (a ^^^ b) :: st) ws) : zR x g post n pc lv (.int b :: .int a :: st) ws := by
  obtain ⟨d, rfl⟩ := d
  exact fun H locs ls hP hD hS hl => lv_ixor C.1.1 C.1.2.1 d (k H locs ls hP hD hS hl)
theorem zR_ladd (C : zC x g own cc ret f) {a b : Int64} (d : zD cc pc (.ladd) 1 pc') (k : zR x g post n pc' lv (.long (a + b) :: st) ws) : zR x g post n pc lv (.long b :: .long a :: st) ws := by
  obtain ⟨d, rfl⟩ := d
  exact fun H locs ls hP hD hS hl => lv_ladd C.1.1 C.1.2.1 d (k H locs ls hP hD hS hl)
theorem zR_lsub (C : zC x g own cc ret f) {a b : Int64} (d : zD cc pc (.lsub) 1 pc') (k : zR x g post n pc' lv (.long (a - b) :: st) ws) : zR x g post n pc lv (.long b :: .long a :: st) ws := by
  obtain ⟨d, rfl⟩ := d
  exact fun H locs ls hP hD hS hl => lv_lsub C.1.1 C.1.2.1 d (k H locs ls hP hD hS hl)
theorem zR_lmul (C : zC x g own cc ret f) {a b : Int64} (d : zD cc pc (.lmul) 1 pc') (k : zR x g post n pc' lv (.long (a * b) :: st) ws) : zR x g post n pc lv (.long b :: .long a :: st) ws := by
  obtain ⟨d, rfl⟩ := d
  exact fun H locs ls hP hD hS hl => lv_lmul C.1.1 C.1.2.1 d (k H locs ls hP hD hS hl)
theorem zR_land (C : zC x g own cc ret f) {a b : Int64} (d : zD cc pc (.land) 1 pc') (k : zR x g post n pc' lv (.long (a &&& b) :: st) ws) : zR x g post n pc lv (.long b :: .long a :: st) ws := by
  obtain ⟨d, rfl⟩ := d
  exact fun H locs ls hP hD hS hl => lv_land C.1.1 C.1.2.1 d (k H locs ls hP hD hS hl)
theorem zR_lor (C : zC x g own cc ret f) {a b : Int64} (d : zD cc pc (.lor) 1 pc') (k : zR x g post n pc' lv (.long (a ||| b) :: st) ws) : zR x g post n pc lv (.long b :: .long a :: st) ws := by
  obtain ⟨d, rfl⟩ := d
  exact fun H locs ls hP hD hS hl => lv_lor C.1.1 C.1.2.1 d (k H locs ls hP hD hS hl)
theorem zR_idiv (C : zC x g own cc ret f) {a b : Int32} (d : zD cc pc (.idiv) 1 pc') (h0 : ¬ b = 0) (k : zR x g post n pc' lv (.int (a / b) :: st) ws) : zR x g post n pc lv (.int b :: .int a :: st) ws := by
  obtain ⟨d, rfl⟩ := d
  exact fun H locs ls hP hD hS hl => lv_idiv C.1.1 C.1.2.1 d h0 (k H locs ls hP hD hS hl)
theorem zR_irem (C : zC x g own cc ret f) {a b : Int32} (d : zD cc pc (.irem) 1 pc') (h0 : ¬ b = 0) (k : zR x g post n pc' lv (.int (a - a / b * b) :: st) ws) : zR x g post n pc lv (.int b :: .int a :: st) ws := by
  obtain ⟨d, rfl⟩ := d
  exact fun H locs ls hP hD hS hl => lv_irem C.1.1 C.1.2.1 d h0 (k H locs ls hP hD hS hl)
theorem zR_ldiv (C : zC x g own cc ret f) {a b : Int64} (d : zD cc pc (.ldiv) 1 pc') (h0 : ¬ b = 0) (k : zR x g post n pc' lv (.long (a / b) :: st) ws) : zR x g post n pc lv (.long b :: .long a :: st) ws := by
  obtain ⟨d, rfl⟩ := d
  exact fun H locs ls hP hD hS hl => lv_ldiv C.1.1 C.1.2.1 d h0 (k H locs ls hP hD hS hl)
theorem zR_ineg (C : zC x g own cc ret f) {a : Int32} (d : zD cc pc (.ineg) 1 pc') (k : zR x g post n pc' lv (.int (-a) :: st) ws) : zR x g post n pc lv (.int a :: st) ws := by
  obtain ⟨d, rfl⟩ := d
  exact fun H locs ls hP hD hS hl => lv_ineg C.1.1 C.1.2.1 d (k H locs ls hP hD hS hl)
theorem zR_lneg (C : zC x g own cc ret f) {a : Int64} (d : zD cc pc (.lneg) 1 pc') (k : zR x g post n pc' lv (.long (-a) :: st) ws) : zR x g post n pc lv (.long a :: st) ws := by
  obtain ⟨d, rfl⟩ := d
  exact fun H locs ls hP hD hS hl => lv_lneg C.1.1 C.1.2.1 d (k H locs ls hP hD hS hl)
theorem zR_ishl (C : zC x g own cc ret f) {a b : Int32} (d : zD cc pc (.ishl) 1 pc') (k : zR x g post n pc' lv (.int (a <<< (b &&& 31)) :: st) ws) : zR x g post n pc lv (.int b :: .int a :: st) ws := by
  obtain ⟨d, rfl⟩ := d
  exact fun H locs ls hP hD hS hl => lv_ishl C.1.1 C.1.2.1 d (k H locs ls hP hD hS hl)
theorem zR_ishr (C : zC x g own cc ret f) {a b : Int32} (d : zD cc pc (.ishr) 1 pc') (k : zR x g post n pc' lv (.int (a >>> (b &&& 31)) :: st) ws) : zR x g post n pc lv (.int b :: .int a :: st) ws := by
  obtain ⟨d, rfl⟩ := d
  exact fun H locs ls hP hD hS hl => lv_ishr C.1.1 C.1.2.1 d (k H locs ls hP hD hS hl)
theorem zR_i2l (C : zC x g own cc ret f) {a : Int32} (d : zD cc pc (.i2l) 1 pc') (k : zR x g post n pc' lv (.long a.toInt64 :: st) ws) : zR x g post n pc lv (.int a :: st) ws := by
  obtain ⟨d, rfl⟩ := d
  exact fun H locs ls hP hD hS hl => lv_i2l C.1.1 C.1.2.1 d rfl (k H locs ls hP hD hS hl)
theorem zR_l2i (C : zC x g own cc ret f) {a : Int64} {v : Int32} (d : zD cc pc (.l2i) 1 pc') (hv : a.toInt32 = v) (k : zR x g post n pc' lv (.int v :: st) ws) : zR x g post n pc lv (.long a :: st) ws := by
  obtain ⟨d, rfl⟩ := d
  exact fun H locs ls hP hD hS hl => lv_l2i C.1.1 C.1.2.1 d hv (k H locs ls hP hD hS hl)
theorem zR_dup (C : zC x g own cc ret f) {v : Value} (d : zD cc pc (.dup) 1 pc') (hc : v.category = 1) (k : zR x g post n pc' lv (v :: v :: st) ws) : zR x g post n pc lv (v :: st) ws := by
  obtain ⟨d, rfl⟩ := d
  exact fun H locs ls hP hD hS hl => lv_dup C.1.1 C.1.2.1 d hc (k H locs ls hP hD hS hl)
theorem zR_pop (C : zC x g own cc ret f) {v : Value} (d : zD cc pc (.pop) 1 pc') (hc : v.category = 1) (k : zR x g post n pc' lv st ws) : zR x g post n pc lv (v :: st) ws := by
  obtain ⟨d, rfl⟩ := d
  exact fun H locs ls hP hD hS hl => lv_pop C.1.1 C.1.2.1 d hc (k H locs ls hP hD hS hl)
theorem zR_dup2 (C : zC x g own cc ret f) {v w : Value} (d : zD cc pc (.dup2) 1 pc') (hc : v.category = 1) (hw : w.category = 1) (k : zR x g post n pc' lv (v :: w :: v :: w :: st) ws) : zR x g post n pc lv (v :: w :: st) ws := by
  obtain ⟨d, rfl⟩ := d
  exact fun H locs ls hP hD hS hl => lv_dup2_11 C.1.1 C.1.2.1 d hc hw (k H locs ls hP hD hS hl)
theorem zR_goto (C : zC x g own cc ret f) {off : Int} {tgt : Nat} (d : zJ cc pc (.goto off) off tgt 3 pc') (k : zR x g post n tgt lv st ws) : zR x g post n pc lv st ws := fun H locs ls hP hD hS hl => lv_goto C.1.1 C.1.2.1 d.1 d.2.2 (k H locs ls hP hD hS hl)
theorem zR_ifeq (C : zC x g own cc ret f) {a : Int32} {off : Int} {tgt : Nat} (d : zJ cc pc (.ifCond .eq off) off tgt 3 pc') (kt : a = 0 → zR x g post n tgt lv st ws) (kf : ¬ a = 0 → zR x g post n pc' lv st ws) : zR x g post n pc lv (.int a :: st) ws := by
  obtain ⟨d, rfl, dj⟩ := d
  exact fun H locs ls hP hD hS hl => lv_if_eq C.1.1 C.1.2.1 d dj (fun h => kt (h) H locs ls hP hD hS hl) (fun h => kf (h) H locs ls hP hD hS hl)
theorem zR_ifne (C : zC x g own cc ret f) {a : Int32} {off : Int} {tgt : Nat} (d : zJ cc pc (.ifCond .ne off) off tgt 3 pc') (kt : ¬ a = 0 → zR x g post n tgt lv st ws) (kf : a = 0 → zR x g post n pc' lv st ws) : zR x g post n pc lv (.int a :: st) ws := by
  obtain ⟨d, rfl, dj⟩ := d
  exact fun H locs ls hP hD hS hl => lv_if_ne C.1.1 C.1.2.1 d dj (fun h => kt (h) H locs ls hP hD hS hl) (fun h => kf (h) H locs ls hP hD hS hl)
theorem zR_iflt (C : zC x g own cc ret f) {a : Int32} {off : Int} {tgt : Nat} (d : zJ cc pc (.ifCond .lt off) off tgt 3 pc') (kt : a < 0 → zR x g post n tgt lv st ws) (kf : ¬ a < 0 → zR x g post n pc' lv st ws) : zR x g post n pc lv (.int a :: st) ws := by
  obtain ⟨d, rfl, dj⟩ := d
  exact fun H locs ls hP hD hS hl => lv_if_lt C.1.1 C.1.2.1 d dj (fun h => kt (h) H locs ls hP hD hS hl) (fun h => kf (h) H locs ls hP hD hS hl)
theorem zR_ifge (C : zC x g own cc ret f) {a : Int32} {off : Int} {tgt : Nat} (d : zJ cc pc (.ifCond .ge off) off tgt 3 pc') (kt : ¬ a < 0 → zR x g post n tgt lv st ws) (kf : a < 0 → zR x g post n pc' lv st ws) : zR x g post n pc lv (.int a :: st) ws := by
  obtain ⟨d, rfl, dj⟩ := d
  exact fun H locs ls hP hD hS hl => lv_if_ge C.1.1 C.1.2.1 d dj (fun h => kt (Int32.not_lt.mpr h) H locs ls hP hD hS hl) (fun h => kf (Int32.not_le.mp h) H locs ls hP hD hS hl)
theorem zR_ifgt (C : zC x g own cc ret f) {a : Int32} {off : Int} {tgt : Nat} (d : zJ cc pc (.ifCond .gt off) off tgt 3 pc') (kt : ¬ a ≤ 0 → zR x g post n tgt lv st ws) (kf : a ≤ 0 → zR x g post n pc' lv st ws) : zR x g post n pc lv (.int a :: st) ws := by
  obtain ⟨d, rfl, dj⟩ := d
  exact fun H locs ls hP hD hS hl => lv_if_gt C.1.1 C.1.2.1 d dj (fun h => kt (Int32.not_le.mpr h) H locs ls hP hD hS hl) (fun h => kf (Int32.not_lt.mp h) H locs ls hP hD hS hl)
theorem zR_ifle (C : zC x g own cc ret f) {a : Int32} {off : Int} {tgt : Nat} (d : zJ cc pc (.ifCond .le off) off tgt 3 pc') (kt : a ≤ 0 → zR x g post n tgt lv st ws) (kf : ¬ a ≤ 0 → zR x g post n pc' lv st ws) : zR x g post n pc lv (.int a :: st) ws := by
  obtain ⟨d, rfl, dj⟩ := d
  exact fun H locs ls hP hD hS hl => lv_if_le C.1.1 C.1.2.1 d dj (fun h => kt (h) H locs ls hP hD hS hl) (fun h => kf (h) H locs ls hP hD hS hl)
theorem zR_icmp_eq (C : zC x g own cc ret f) {a b : Int32} {off : Int} {tgt : Nat} (d : zJ cc pc (.if_icmp .eq off) off tgt 3 pc') (kt : a = b → zR x g post n tgt lv st ws) (kf : ¬ a = b → zR x g post n pc' lv st ws) : zR x g post n pc lv (.int b :: .int a :: st) ws := by
  obtain ⟨d, rfl, dj⟩ := d
  exact fun H locs ls hP hD hS hl => lv_icmp_eq C.1.1 C.1.2.1 d dj (fun h => kt (h) H locs ls hP hD hS hl) (fun h => kf (h) H locs ls hP hD hS hl)
theorem zR_icmp_ne (C : zC x g own cc ret f) {a b : Int32} {off : Int} {tgt : Nat} (d : zJ cc pc (.if_icmp .ne off) off tgt 3 pc') (kt : ¬ a = b → zR x g post n tgt lv st ws) (kf : a = b → zR x g post n pc' lv st ws) : zR x g post n pc lv (.int b :: .int a :: st) ws := by
  obtain ⟨d, rfl, dj⟩ := d
  exact fun H locs ls hP hD hS hl => lv_icmp_ne C.1.1 C.1.2.1 d dj (fun h => kt (h) H locs ls hP hD hS hl) (fun h => kf (h) H locs ls hP hD hS hl)
theorem zR_icmp_lt (C : zC x g own cc ret f) {a b : Int32} {off : Int} {tgt : Nat} (d : zJ cc pc (.if_icmp .lt off) off tgt 3 pc') (kt : a < b → zR x g post n tgt lv st ws) (kf : ¬ a < b → zR x g post n pc' lv st ws) : zR x g post n pc lv (.int b :: .int a :: st) ws := by
  obtain ⟨d, rfl, dj⟩ := d
  exact fun H locs ls hP hD hS hl => lv_icmp_lt C.1.1 C.1.2.1 d dj (fun h => kt (h) H locs ls hP hD hS hl) (fun h => kf (h) H locs ls hP hD hS hl)
theorem zR_icmp_ge (C : zC x g own cc ret f) {a b : Int32} {off : Int} {tgt : Nat} (d : zJ cc pc (.if_icmp .ge off) off tgt 3 pc') (kt : ¬ a < b → zR x g post n tgt lv st ws) (kf : a < b → zR x g post n pc' lv st ws) : zR x g post n pc lv (.int b :: .int a :: st) ws := by
  obtain ⟨d, rfl, dj⟩ := d
  exact fun H locs ls hP hD hS hl => lv_icmp_ge C.1.1 C.1.2.1 d dj (fun h => kt (Int32.not_lt.mpr h) H locs ls hP hD hS hl) (fun h => kf (Int32.not_le.mp h) H locs ls hP hD hS hl)
theorem zR_icmp_gt (C : zC x g own cc ret f) {a b : Int32} {off : Int} {tgt : Nat} (d : zJ cc pc (.if_icmp .gt off) off tgt 3 pc') (kt : ¬ a ≤ b → zR x g post n tgt lv st ws) (kf : a ≤ b → zR x g post n pc' lv st ws) : zR x g post n pc lv (.int b :: .int a :: st) ws := by
  obtain ⟨d, rfl, dj⟩ := d
  exact fun H locs ls hP hD hS hl => lv_icmp_gt C.1.1 C.1.2.1 d dj (fun h => kt (Int32.not_le.mpr h) H locs ls hP hD hS hl) (fun h => kf (Int32.not_lt.mp h) H locs ls hP hD hS hl)
theorem zR_icmp_le (C : zC x g own cc ret f) {a b : Int32} {off : Int} {tgt : Nat} (d : zJ cc pc (.if_icmp .le off) off tgt 3 pc') (kt : a ≤ b → zR x g post n tgt lv st ws) (kf : ¬ a ≤ b → zR x g post n pc' lv st ws) : zR x g post n pc lv (.int b :: .int a :: st) ws := by
  obtain ⟨d, rfl, dj⟩ := d
  exact fun H locs ls hP hD hS hl => lv_icmp_le C.1.1 C.1.2.1 d dj (fun h => kt (h) H locs ls hP hD hS hl) (fun h => kf (h) H locs ls hP hD hS hl)
def zB (b : Bool) : Int32 := cond b 1 0
theorem zB_0 {b : Bool} : zB b = 0 ↔ ¬ b = true := by cases b <;> decide
theorem zB_nar (b : Bool) : narrow .boolean (.int (zB b)) = .int (zB b) := by cases b <;> rfl
theorem zR_bfeq (C : zC x g own cc ret f) {b : Bool} {off : Int} {tgt : Nat} (d : zJ cc pc (.ifCond .eq off) off tgt 3 pc') (kt : ¬ b = true → zR x g post n tgt lv st ws) (kf : b = true → zR x g post n pc' lv st ws) : zR x g post n pc lv (.int (zB b) :: st) ws := zR_ifeq C d (fun h => kt (zB_0.mp h)) (fun h => kf (Classical.byContradiction fun q => h (zB_0.mpr q)))
theorem zR_bfne (C : zC x g own cc ret f) {b : Bool} {off : Int} {tgt : Nat} (d : zJ cc pc (.ifCond .ne off) off tgt 3 pc') (kt : b = true → zR x g post n tgt lv st ws) (kf : ¬ b = true → zR x g post n pc' lv st ws) : zR x g post n pc lv (.int (zB b) :: st) ws := zR_ifne C d (fun h => kt (Classical.byContradiction fun q => h (zB_0.mpr q))) (fun h => kf (zB_0.mp h))
theorem zR_ifeq_t (C : zC x g own cc ret f) {a : Int32} {off : Int} {tgt : Nat} (d : zJ cc pc (.ifCond .eq off) off tgt 3 pc') (h0 : a = 0) (k : zR x g post n tgt lv st ws) : zR x g post n pc lv (.int a :: st) ws := zR_ifeq C d (fun _ => k) (fun h => absurd h0 h)
theorem zR_ifeq_f (C : zC x g own cc ret f) {a : Int32} {off : Int} {tgt : Nat} (d : zJ cc pc (.ifCond .eq off) off tgt 3 pc') (h0 : ¬ a = 0) (k : zR x g post n pc' lv st ws) : zR x g post n pc lv (.int a :: st) ws := zR_ifeq C d (fun h => absurd h h0) (fun _ => k)
theorem zR_ifne_t (C : zC x g own cc ret f) {a : Int32} {off : Int} {tgt : Nat} (d : zJ cc pc (.ifCond .ne off) off tgt 3 pc') (h0 : ¬ a = 0) (k : zR x g post n tgt lv st ws) : zR x g post n pc lv (.int a :: st) ws := zR_ifne C d (fun _ => k) (fun h => absurd h h0)
theorem zR_ifne_f (C : zC x g own cc ret f) {a : Int32} {off : Int} {tgt : Nat} (d : zJ cc pc (.ifCond .ne off) off tgt 3 pc') (h0 : a = 0) (k : zR x g post n pc' lv st ws) : zR x g post n pc lv (.int a :: st) ws := zR_ifne C d (fun h => absurd h0 h) (fun _ => k)
theorem zR_iflt_t (C : zC x g own cc ret f) {a : Int32} {off : Int} {tgt : Nat} (d : zJ cc pc (.ifCond .lt off) off tgt 3 pc') (h0 : a < 0) (k : zR x g post n tgt lv st ws) : zR x g post n pc lv (.int a :: st) ws := zR_iflt C d (fun _ => k) (fun h => absurd h0 h)
theorem zR_iflt_f (C : zC x g own cc ret f) {a : Int32} {off : Int} {tgt : Nat} (d : zJ cc pc (.ifCond .lt off) off tgt 3 pc') (h0 : ¬ a < 0) (k : zR x g post n pc' lv st ws) : zR x g post n pc lv (.int a :: st) ws := zR_iflt C d (fun h => absurd h h0) (fun _ => k)
theorem zR_ifge_t (C : zC x g own cc ret f) {a : Int32} {off : Int} {tgt : Nat} (d : zJ cc pc (.ifCond .ge off) off tgt 3 pc') (h0 : ¬ a < 0) (k : zR x g post n tgt lv st ws) : zR x g post n pc lv (.int a :: st) ws := zR_ifge C d (fun _ => k) (fun h => absurd h h0)
theorem zR_ifge_f (C : zC x g own cc ret f) {a : Int32} {off : Int} {tgt : Nat} (d : zJ cc pc (.ifCond .ge off) off tgt 3 pc') (h0 : a < 0) (k : zR x g post n pc' lv st ws) : zR x g post n pc lv (.int a :: st) ws := zR_ifge C d (fun h => absurd h0 h) (fun _ => k)
theorem zR_lcmp (C : zC x g own cc ret f) {a b : Int64} (d : zD cc pc (.lcmp) 1 pc') (k : zR x g post n pc' lv (.int (lg_cmp a b) :: st) ws) : zR x g post n pc lv (.long b :: .long a :: st) ws := by
  obtain ⟨d, rfl⟩ := d
  exact fun H locs ls hP hD hS hl => W.lcmp C.1.1 C.1.2.1 d (k H locs ls hP hD hS hl)
theorem zR_cifeq (C : zC x g own cc ret f) {a b : Int64} {off : Int} {tgt p2 : Nat} (d : zD cc pc .lcmp 1 pc') (d2 : zJ cc pc' (.ifCond .eq off) off tgt 3 p2) (kt : a = b → zR x g post n tgt lv st ws) (kf : ¬ a = b → zR x g post n p2 lv st ws) : zR x g post n pc lv (.long b :: .long a :: st) ws := zR_lcmp C d (zR_ifeq C d2 (fun h => kt ((lg_cmp_eq a b).mp h)) (fun h => kf (fun q => h ((lg_cmp_eq a b).mpr q))))
theorem zR_cifne (C : zC x g own cc ret f) {a b : Int64} {off : Int} {tgt p2 : Nat} (d : zD cc pc .lcmp 1 pc') (d2 : zJ cc pc' (.ifCond .ne off) off tgt 3 p2) (kt : ¬ a = b → zR x g post n tgt lv st ws) (kf : a = b → zR x g post n p2 lv st ws) : zR x g post n pc lv (.long b :: .long a :: st) ws := zR_lcmp C d (zR_ifne C d2 (fun h => kt (fun q => h ((lg_cmp_eq a b).mpr q))) (fun h => kf ((lg_cmp_eq a b).mp h)))
theorem zR_ciflt (C : zC x g own cc ret f) {a b : Int64} {off : Int} {tgt p2 : Nat} (d : zD cc pc .lcmp 1 pc') (d2 : zJ cc pc' (.ifCond .lt off) off tgt 3 p2) (kt : a < b → zR x g post n tgt lv st ws) (kf : ¬ a < b → zR x g post n p2 lv st ws) : zR x g post n pc lv (.long b :: .long a :: st) ws := zR_lcmp C d (zR_iflt C d2 (fun h => kt ((lg_cmp_lt a b).mp h)) (fun h => kf (fun q => h ((lg_cmp_lt a b).mpr q))))
theorem zR_cifge (C : zC x g own cc ret f) {a b : Int64} {off : Int} {tgt p2 : Nat} (d : zD cc pc .lcmp 1 pc') (d2 : zJ cc pc' (.ifCond .ge off) off tgt 3 p2) (kt : ¬ a < b → zR x g post n tgt lv st ws) (kf : a < b → zR x g post n p2 lv st ws) : zR x g post n pc lv (.long b :: .long a :: st) ws := zR_lcmp C d (zR_ifge C d2 (fun h => kt (fun q => h ((lg_cmp_lt a b).mpr q))) (fun h => kf ((lg_cmp_lt a b).mp h)))
theorem zR_cifgt (C : zC x g own cc ret f) {a b : Int64} {off : Int} {tgt p2 : Nat} (d : zD cc pc .lcmp 1 pc') (d2 : zJ cc pc' (.ifCond .gt off) off tgt 3 p2) (kt : ¬ a ≤ b → zR x g post n tgt lv st ws) (kf : a ≤ b → zR x g post n p2 lv st ws) : zR x g post n pc lv (.long b :: .long a :: st) ws := zR_lcmp C d (zR_ifgt C d2 (fun h => kt (fun q => h ((lg_cmp_le a b).mpr q))) (fun h => kf ((lg_cmp_le a b).mp h)))
theorem zR_cifle (C : zC x g own cc ret f) {a b : Int64} {off : Int} {tgt p2 : Nat} (d : zD cc pc .lcmp 1 pc') (d2 : zJ cc pc' (.ifCond .le off) off tgt 3 p2) (kt : a ≤ b → zR x g post n tgt lv st ws) (kf : ¬ a ≤ b → zR x g post n p2 lv st ws) : zR x g post n pc lv (.long b :: .long a :: st) ws := zR_lcmp C d (zR_ifle C d2 (fun h => kt ((lg_cmp_le a b).mp h)) (fun h => kf (fun q => h ((lg_cmp_le a b).mpr q))))
end ZR
