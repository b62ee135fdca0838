
/-! THE START: what the Statement gives, in the layer's words. -/
theorem zRoom_mono {s : State} {pl : Platform} {r r' : Room} (hf : r.frames ≤ r'.frames) (hl : r.locals ≤ r'.locals) (hc : r.cells ≤ r'.cells) (hs : r.slots ≤ r'.slots) (h : s.hasRoom pl r' = true) : s.hasRoom pl r = true := by
  simp only [State.hasRoom, Bool.and_eq_true, decide_eq_true_eq] at h ⊢
  obtain ⟨⟨⟨⟨y, a, b, c, d, e⟩, f⟩, g⟩, i⟩ := h
  exact ⟨⟨⟨⟨by omega, by omega, by omega, by omega, by omega, e⟩, by omega⟩, by omega⟩, i⟩
theorem zarr {args : Array Value} {s : State} {ty : FieldType} (h : (Cond.arrayClass ty).before args s = true) : ∃ c : ClassId, s.vm.findClass ("[" ++ ty.toString) = some c ∧ ArrOfT s c ty := by
  obtain ⟨c, k, comp, h1, h2, h3⟩ := Cond.arrayClass_spec (args := args) (first := s) (o := none) (s := s) (idx := []) h
  exact ⟨c, h1, fun n z => ⟨fun k h => (by cases h), k, h2, comp, h3⟩⟩
theorem zarrO {C : String} {args : Array Value} {s : State} (h : (Cond.arrayOver (.object C)).before args s = true) : ∃ c : ClassId, ArrOfT s c (.object C) ∧ va_RA s c (.object C) := by
  obtain ⟨comp, c, k, h1, h2, h3, h4, h5⟩ := Cond.arrayOver_spec (args := args) (first := s) (o := none) (s := s) (idx := []) h
  exact ⟨c, fun n z => ⟨fun k h => (by cases h), k, h3, comp, h4⟩, k, comp, h3, h4, h1, h5⟩
theorem zlen_lt {args : Array Value} {s : State} {tm : Term} {t : Nat} {cell : Cell} {v : Value} (ht : tm.eval args s none [] s = some (.ref t)) (hc : s.heap[t]? = some cell) (hv : (Term.length tm).eval args s none [] s = some v) : cell.slots.size < 2 ^ 31 ∧ v = .int cell.slots.size.toInt32 := by
  obtain ⟨b, c2, h1, h2, h3⟩ := Term.length_spec hv
  cases ht.symm.trans h1
  have hcell := (State.arrayAt?_spec h2).1
  cases hc.symm.trans hcell
  refine ⟨?_, h3⟩
  simp only [Term.eval, h1, h2, Option.bind_eq_bind, Option.bind_some] at hv
  by_cases hlt : cell.slots.size < 2147483648
  · exact hlt
  · simp [hlt] at hv
theorem zFc_of {args : Array Value} {s : State} {tm : Term} {t : Nat} {cA : ClassId} {A : Nat → Prop} (ht : tm.eval args s none [] s = some (.ref t)) (hT : va_T .int t 8 (fun j => .int (zFI j)) A s s.heap) (hl : (Term.length tm).eval args s none [] s = some (.int 8)) (hex : (Cond.exactly tm "[I").before args s = true) (hcA : s.vm.findClass "[I" = some cA) : zFc t cA A s.heap := by
  obtain ⟨cell, h1, h2, h3, h4, h5, h6, h7⟩ := hT
  obtain ⟨a, c, cell2, k, q1, q2, q3, q4, q5, q6, -⟩ := Cond.exactly_spec (args := args) (first := s) (o := none) (s := s) (idx := []) hex
  cases ht.symm.trans q1
  cases h1.symm.trans q3
  obtain ⟨hsz, hv⟩ := zlen_lt ht h1 hl
  have h8 : cell.slots.size = 8 := by
    have e := congrArg Int32.toNatClampNeg (Value.int.inj hv)
    rw [show (8 : Int32).toNatClampNeg = 8 by decide, show cell.slots.size.toInt32 = nI cell.slots.size from rfl, nI_clamp hsz] at e
    exact e.symm
  refine ⟨cell, h1, q6.trans (Option.some.inj (q2.symm.trans hcA)), ⟨h3, h2.1⟩, ?_, h7⟩
  apply Array.ext_getElem?
  intro j
  rw [vp_cell_i]
  by_cases hj : j < 8
  · rw [h6 j hj, arrV_read _ _ hj]
  · rw [Array.getElem?_eq_none (by omega), Array.getElem?_eq_none (by rw [arrV_size]; omega)]
/-! THE CLAIM OUT OF ONE WALK OF THE LAW'S BODY. Your part is whole_start (and what it stands on); all else here is the same for every law, but numbers. -/
def R_law : String := "ErrorBudgetsLaw"
def lw_P (b : Addr) (xs : List Int32) (args : Array Value) (s : State) : Prop := args = #[.ref b] ∧ s.IntsAt b xs ∧ xs.length ≤ 260 ∧ (Jvm.Cond.and given_1 narrow_1).before args s = true
def lw_Q (_ : Array Value) (s : State) (o : Outcome) (t : State) : Prop := o = .returned (some (.int 1)) ∧ Framed s o t [] 600000 7302250
def lw_Z (below : List Frame) (a : Array Value) (s : State) : State → Prop := fun t => ∃ o, t.status = .running ∧ Ended t below o ∧ lw_Q a s o t
/-- the law's own end, with 1 on the stack, nothing written that was there before, its room as the claim has it -/
theorem lw_ret {p : Program} {l : Launch} {e : Env} {s : State} {m : MethodId} {below : List Frame} {meth : Method} {c : Code} {b : Nat} (hx : p.tables.exec = Jvm.exec) (hb : c.code = code) (hr : meth.sig.returnType = ret) (hlocks : meth.locks = false) {pc : Nat} {H : Heap} {ls : Array Slot} (hdg : decode code pc = .ok (.ireturn, 1)) : W p l e room_1 s m #[Value.ref b] below meth c H [] 600000 7302250 (lw_Z below #[Value.ref b] s) (F0 m pc ls [.int 1]) := by
  intro T hT X
  obtain ⟨fs, hret, hrun, hended, hW, hframe⟩ := X.leave (v := some (.int 1)) (hlocks := hlocks) (fun h => by rw [hr] at h; cases h)
  have hmeth' : T.vm.method? m = some meth := X.method'
  refine ⟨T.setFrames fs, ?_, .returned (some (.int 1)), hrun, hended, rfl, ⟨_, rfl⟩, hW, hframe⟩
  jvm_step X.here [X.here.top, hx, hb, hdg, hmeth', hr, ret, narrow_b1]
  (try refine ⟨rfl, ?_⟩); (try refine ⟨rfl, ?_⟩)
  first | (intro acts; rw [hret _ acts rfl rfl rfl]) | rw [hret _ _ rfl rfl rfl]
  exact Steps.refl _
/-- what holds at the law's entry: the machine, the code, the tables' words (any of lw_tbl by 'hts w (by decide +kernel)'), the script of L ints xs at the cell b, what the Statement gives of the start (any of its parts by flat_of_before) -/
def lw_At (p : Program) (s : State) (m : MethodId) (meth : Method) (c : Code) (b L : Nat) (xs : Nat → Int32) : Prop :=
  p.tables.exec = Jvm.exec ∧ c.code = code ∧ meth.sig.returnType = ret ∧ c.maxLocals = 8 ∧ s.vm.findClass R_law = some m.cls ∧ (∀ w ∈ lw_tbl, w.before #[Value.ref b] s = true) ∧ va_X b L xs s s.heap ∧ b < s.heap.size ∧ meth.locks = false ∧ (Jvm.Cond.and given_1 narrow_1).before #[Value.ref b] s = true

theorem zT_of {args : Array Value} {s : State} {tm : Term} {f : Nat → Int32} {A : Nat → Prop} (harr : (Cond.arrayOf tm .int).before args s = true) (hlen : (Cond.eq (.length tm) (.int 8)).before args s = true) (hel : ∀ j : Nat, j < 8 → (Cond.eq (.elem tm (.int (Int32.ofNat j))) (.int (f j))).before args s = true) (hA : ∀ a : Nat, a < s.heap.size → ¬ A a) : ∃ t : Nat, tm.eval args s none [] s = some (.ref t) ∧ va_T .int t 8 (fun j => .int (f j)) A s s.heap :=
  va_Tof (by decide) harr (va_eqt hlen) (fun j hj => va_eqt (hel j hj)) hA
set_option maxRecDepth 100000 in
set_option maxHeartbeats 4000000 in
theorem zG_of {args : Array Value} {s : State} {b L : Nat} {xs : Nat → Int32} (hX : va_X b L xs s s.heap) (hbl : b < s.heap.size) (hL260 : L ≤ 260) (hts : ∀ w ∈ lw_tbl, w.before args s = true) (hgv : (Jvm.Cond.and given_1 narrow_1).before args s = true) : ∃ g : zG, va_K g.1 vwCl (zty g.2.1) s ∧ zZ g (fun q => s.heap.size ≤ q) s s.heap ∧ g.2.2.2.1 0 = b ∧ g.2.2.2.1 1 = L := by
  have hz : ∀ w ∈ zTBL, w.before args s = true := fun w hw => hts w (List.mem_filter.mp hw).1
  have hq := flat_of_before _ hgv
  have hA : ∀ a : Nat, a < s.heap.size → ¬ (fun q => s.heap.size ≤ q) a := fun a h => Nat.not_le.mpr h
  obtain ⟨k0, i0, hk0⟩ := u_known (C := RX0) (T := TX0) (N := 3) (n := 3) hz uX0 (hz _ (zT_in 216 (by decide +kernel) rfl))
  obtain ⟨k1, i1, hk1⟩ := u_known (C := RX1) (T := TX1) (N := 14) (n := 14) hz uX1 (hz _ (zT_in 60 (by decide +kernel) rfl))
  obtain ⟨k2, i2, hk2⟩ := u_known (C := RX2) (T := TX2) (N := 6) (n := 6) hz uX2 (hz _ (zT_in 75 (by decide +kernel) rfl))
  obtain ⟨k3, i3, hk3⟩ := u_known (C := RX3) (T := TX3) (N := 6) (n := 6) hz uX3 (hz _ (zT_in 236 (by decide +kernel) rfl))
  obtain ⟨k4, i4, hk4⟩ := u_known (C := RX4) (T := TX4) (N := 9) (n := 9) hz uX4 (hz _ (zT_in 113 (by decide +kernel) rfl))
  obtain ⟨k5, i5, hk5⟩ := u_known (C := RX5) (T := TX5) (N := 7) (n := 7) hz uX5 (hz _ (zT_in 52 (by decide +kernel) rfl))
  obtain ⟨a0, na0, ha0⟩ := zarr (hts _ (List.mem_of_getElem? (i := 110) (by decide +kernel)) : (Cond.arrayClass .int).before args s = true)
  obtain ⟨a1, na1, ha1⟩ := zarr (hts _ (List.mem_of_getElem? (i := 111) (by decide +kernel)) : (Cond.arrayClass .long).before args s = true)
  obtain ⟨a2, na2, ha2⟩ := zarr (hts _ (List.mem_of_getElem? (i := 261) (by decide +kernel)) : (Cond.arrayClass .boolean).before args s = true)
  obtain ⟨a3, na3, ha3⟩ := zarr (hts _ (List.mem_of_getElem? (i := 262) (by decide +kernel)) : (Cond.arrayClass .char).before args s = true)
  have hov := (hts _ (List.mem_of_getElem? (i := 222) (by decide +kernel)) : (Cond.arrayOver (.object "ErrorBudgets$House")).before args s = true)
  obtain ⟨a4, ha4, na4⟩ := zarrO hov
  obtain ⟨tFIRST, eFIRST, TFIRST⟩ := zT_of (tm := (Term.static "ErrorBudgets" "FIRST" "[I")) (f := zFI) (A := fun q => s.heap.size ≤ q) (hq _ (by decide +kernel)) (hq _ (by decide +kernel)) (fun j hj => by
      match j, hj with
      | 0, _ => exact hq (Cond.eq (.elem (Term.static "ErrorBudgets" "FIRST" "[I") (.int 0)) (.int 168)) (by decide +kernel)
      | 1, _ => exact hq (Cond.eq (.elem (Term.static "ErrorBudgets" "FIRST" "[I") (.int 1)) (.int 25)) (by decide +kernel)
      | 2, _ => exact hq (Cond.eq (.elem (Term.static "ErrorBudgets" "FIRST" "[I") (.int 2)) (.int 10)) (by decide +kernel)
      | 3, _ => exact hq (Cond.eq (.elem (Term.static "ErrorBudgets" "FIRST" "[I") (.int 3)) (.int 10)) (by decide +kernel)
      | 4, _ => exact hq (Cond.eq (.elem (Term.static "ErrorBudgets" "FIRST" "[I") (.int 4)) (.int 20)) (by decide +kernel)
      | 5, _ => exact hq (Cond.eq (.elem (Term.static "ErrorBudgets" "FIRST" "[I") (.int 5)) (.int 48)) (by decide +kernel)
      | 6, _ => exact hq (Cond.eq (.elem (Term.static "ErrorBudgets" "FIRST" "[I") (.int 6)) (.int 3)) (by decide +kernel)
      | 7, _ => exact hq (Cond.eq (.elem (Term.static "ErrorBudgets" "FIRST" "[I") (.int 7)) (.int 1)) (by decide +kernel)
      | _ + 8, h => exact absurd h (by omega)) hA
  obtain ⟨tLOWEST, eLOWEST, TLOWEST⟩ := zT_of (tm := (Term.static "ErrorBudgets" "LOWEST" "[I")) (f := zLO) (A := fun q => s.heap.size ≤ q) (hq _ (by decide +kernel)) (hq _ (by decide +kernel)) (fun j hj => by
      match j, hj with
      | 0, _ => exact hq (Cond.eq (.elem (Term.static "ErrorBudgets" "LOWEST" "[I") (.int 0)) (.int 12)) (by decide +kernel)
      | 1, _ => exact hq (Cond.eq (.elem (Term.static "ErrorBudgets" "LOWEST" "[I") (.int 1)) (.int 0)) (by decide +kernel)
      | 2, _ => exact hq (Cond.eq (.elem (Term.static "ErrorBudgets" "LOWEST" "[I") (.int 2)) (.int 0)) (by decide +kernel)
      | 3, _ => exact hq (Cond.eq (.elem (Term.static "ErrorBudgets" "LOWEST" "[I") (.int 3)) (.int 0)) (by decide +kernel)
      | 4, _ => exact hq (Cond.eq (.elem (Term.static "ErrorBudgets" "LOWEST" "[I") (.int 4)) (.int 0)) (by decide +kernel)
      | 5, _ => exact hq (Cond.eq (.elem (Term.static "ErrorBudgets" "LOWEST" "[I") (.int 5)) (.int 0)) (by decide +kernel)
      | 6, _ => exact hq (Cond.eq (.elem (Term.static "ErrorBudgets" "LOWEST" "[I") (.int 6)) (.int 0)) (by decide +kernel)
      | 7, _ => exact hq (Cond.eq (.elem (Term.static "ErrorBudgets" "LOWEST" "[I") (.int 7)) (.int 0)) (by decide +kernel)
      | _ + 8, h => exact absurd h (by omega)) hA
  obtain ⟨tHIGHEST, eHIGHEST, THIGHEST⟩ := zT_of (tm := (Term.static "ErrorBudgets" "HIGHEST" "[I")) (f := zHI) (A := fun q => s.heap.size ≤ q) (hq _ (by decide +kernel)) (hq _ (by decide +kernel)) (fun j hj => by
      match j, hj with
      | 0, _ => exact hq (Cond.eq (.elem (Term.static "ErrorBudgets" "HIGHEST" "[I") (.int 0)) (.int 720)) (by decide +kernel)
      | 1, _ => exact hq (Cond.eq (.elem (Term.static "ErrorBudgets" "HIGHEST" "[I") (.int 1)) (.int 100)) (by decide +kernel)
      | 2, _ => exact hq (Cond.eq (.elem (Term.static "ErrorBudgets" "HIGHEST" "[I") (.int 2)) (.int 100)) (by decide +kernel)
      | 3, _ => exact hq (Cond.eq (.elem (Term.static "ErrorBudgets" "HIGHEST" "[I") (.int 3)) (.int 100)) (by decide +kernel)
      | 4, _ => exact hq (Cond.eq (.elem (Term.static "ErrorBudgets" "HIGHEST" "[I") (.int 4)) (.int 100)) (by decide +kernel)
      | 5, _ => exact hq (Cond.eq (.elem (Term.static "ErrorBudgets" "HIGHEST" "[I") (.int 5)) (.int 300)) (by decide +kernel)
      | 6, _ => exact hq (Cond.eq (.elem (Term.static "ErrorBudgets" "HIGHEST" "[I") (.int 6)) (.int 10)) (by decide +kernel)
      | 7, _ => exact hq (Cond.eq (.elem (Term.static "ErrorBudgets" "HIGHEST" "[I") (.int 7)) (.int 9)) (by decide +kernel)
      | _ + 8, h => exact absurd h (by omega)) hA
  have hScr : va_T .int b L (fun j => .int (nI ((xs j).toBitVec.toNat))) (fun q => s.heap.size ≤ q) s s.heap := by
    obtain ⟨scr, x1, x2, x3, x4, x5⟩ := hX
    refine ⟨scr, x1, x2, x3, by omega, by rw [x4], fun j hj => ?_, hA b hbl⟩
    rw [x5 j hj]
    have e : nI ((xs j).toBitVec.toNat) = xs j := by
      show Int32.ofNat _ = _
      apply Int32.toBitVec_inj.mp
      show BitVec.ofNat 32 _ = _
      rw [BitVec.ofNat_toNat, BitVec.setWidth_eq]
    show some (Value.int (xs j)) = some (Value.int (nI ((xs j).toBitVec.toNat)))
    rw [e]
  refine ⟨((fun k => ([k0, k1, k2, k3, k4, k5] : List ClassId).getD k k0, fun k => ([i0, i1, i2, i3, i4, i5] : List (Nat → Nat)).getD k i0), (fun k => ([a0, a1, a2, a3, a4] : List ClassId).getD k a0), (fun k => ([tFIRST, tLOWEST, tHIGHEST] : List Nat).getD k 0), (fun k => ([b, L] : List Nat).getD k 0), (fun j => (xs j).toBitVec.toNat)), ⟨fun k r hr => ?_, fun k r hr => ?_⟩, ?_, rfl, rfl⟩
  · match k, hr with
    | 0, hr => cases hr; exact hk0
    | 1, hr => cases hr; exact hk1
    | 2, hr => cases hr; exact hk2
    | 3, hr => cases hr; exact hk3
    | 4, hr => cases hr; exact hk4
    | 5, hr => cases hr; exact hk5
    | _ + 6, hr => simp [vwCl] at hr
  · match k, hr with
    | 0, hr => cases (show some ((a0, .int) : ClassId × FieldType) = some r from hr); exact ⟨ha0, na0⟩
    | 1, hr => cases (show some ((a1, .long) : ClassId × FieldType) = some r from hr); exact ⟨ha1, na1⟩
    | 2, hr => cases (show some ((a2, .boolean) : ClassId × FieldType) = some r from hr); exact ⟨ha2, na2⟩
    | 3, hr => cases (show some ((a3, .char) : ClassId × FieldType) = some r from hr); exact ⟨ha3, na3⟩
    | 4, hr => cases (show some ((a4, .object "ErrorBudgets$House") : ClassId × FieldType) = some r from hr); exact ⟨ha4, na4⟩
    | _ + 5, hr => simp [zty] at hr
  · exact ⟨va_Zref (hts _ (List.mem_of_getElem? (i := 66) (by decide +kernel))) (hts _ (List.mem_of_getElem? (i := 43) (by decide +kernel))) eFIRST hA, zFc_of eFIRST TFIRST (va_eqt (hq _ (by decide +kernel))) (hq _ (by decide +kernel)) (va_nm_int (show va_RA s a0 .int from na0)),
      va_Zref (hts _ (List.mem_of_getElem? (i := 290) (by decide +kernel))) (hts _ (List.mem_of_getElem? (i := 43) (by decide +kernel))) eLOWEST hA, TLOWEST, va_Zref (hts _ (List.mem_of_getElem? (i := 292) (by decide +kernel))) (hts _ (List.mem_of_getElem? (i := 43) (by decide +kernel))) eHIGHEST hA, THIGHEST, hScr, trivial, trivial, trivial, va_AO.of hov, va_Nw.of rfl (hts _ (List.mem_of_getElem? (i := 72) (by decide +kernel)))⟩
def lawx (p : Program) (l : Launch) (e : Env) (s : State) (m : MethodId) (b : Nat) (below : List Frame) (meth : Method) (c : Code) (k n : Nat) : zX := ((p, l, e, zrm 9 k n, s), (m, #[Value.ref b], below, meth, c), (fun q => s.heap.size ≤ q), 8, k, n)
theorem lawx_C {p : Program} {l : Launch} {e : Env} {s : State} {m : MethodId} {below : List Frame} {meth : Method} {c : Code} {b L k n : Nat} {xs : Nat → Int32} (C0 : lw_At p s m meth c b L xs) {g : zG} (hK : va_K g.1 vwCl (zty g.2.1) s) (hZ : zZ g (fun q => s.heap.size ≤ q) s s.heap) : zC (lawx p l e s m b below meth c k n) g RL cL_law (some .boolean) 9 := by
  obtain ⟨hx, hb, hr, hml, hown, hts, hX, hbl, hlocks, hgv⟩ := C0
  exact ⟨⟨hx, hb, hml, hown⟩, fun w hw => hts w (List.mem_filter.mp hw).1, hK, fun w hw => va_Nw.of (zN_tab hw) (hts w (List.mem_append_right _ (List.mem_filter.mp hw).1)), rfl, hlocks, hr, fun q h => h, hZ⟩
theorem lawx_W {p : Program} {l : Launch} {e : Env} {s : State} {m : MethodId} {below : List Frame} {meth : Method} {c : Code} {b k n : Nat} {R : Room} {g : zG} {ls : Array Slot} (hf : 9 ≤ R.frames) (hlo : 324 ≤ R.locals) (hk : k ≤ R.cells) (hn : n ≤ R.slots) (hl : lv_has ls 8 [(0, .ref b)]) (K : zR (lawx p l e s m b below meth c k n) g (fun r _ => r = some (.int 1)) (0, 0) 0 [(0, .ref b)] [] []) :
    W p l e R s m #[Value.ref b] below meth c s.heap [] 0 0 (fun t => ∃ o, t.status = .running ∧ Ended t below o ∧ o = .returned (some (.int 1)) ∧ Framed s o t [] k n) (F0 m 0 ls []) := by
  have K := K s.heap [] ls (fun k q h => by simp at h) ⟨fun i j p q h => by simp at h, fun k q h => by simp at h⟩ va_S.rf hl
  intro T hT X
  obtain ⟨t, a1, o, b1, b2, ⟨⟨r, w, ho, hp, -⟩, -⟩, Lc, hfe, hfree⟩ := K T hT ⟨X.admits, X.cas, X.clock, X.frames, zRoom_mono (r := zrm 9 k n) hf hlo hk hn X.room, X.hears, X.method, X.code, X.here, X.tail, X.warmed, X.limits, X.bytes, X.same⟩
  have hp : r = some (.int 1) := hp
  refine ⟨t, a1, o, b1, b2, by rw [ho, hp], hfe.1, hfe.2.1, hfe.2.2.weaken (fun y hy hlt => absurd hlt (Nat.not_lt.mpr (hfree y hy))) (Nat.le_refl _) (Nat.le_refl _)⟩
set_option maxHeartbeats 4000000 in
theorem whole_start {p : Program} {e : Env} {s : State} {m : MethodId} {below : List Frame} {meth : Method} {c : Code} (l : Launch) (hflags : l.flags = flags0) {b L : Nat} {xs : Nat → Int32} (hL : L ≤ 260) (C0 : lw_At p s m meth c b L xs) : W p l e room_1 s m #[Value.ref b] below meth c s.heap [] 0 0 (lw_Z below #[Value.ref b] s) (entryFrame m ([Value.ref b] : List Value).toArray 8) := by
  obtain ⟨g, hK, hZ, gb, gL⟩ := zG_of C0.2.2.2.2.2.2.1 C0.2.2.2.2.2.2.2.1 hL C0.2.2.2.2.2.1 C0.2.2.2.2.2.2.2.2.2
  have C := lawx_C (l := l) (e := e) (below := below) (k := 600000) (n := 7302250) C0 hK hZ
  have hl := lv_entry ([.ref b]) (n := 8) (Nat.le_of_ble_eq_true rfl)
  have K := law_body rfl C (by rw [gL]; omega) rfl rfl
  rw [gb] at K
  rw [lg_entry_eq]
  exact lawx_W (R := room_1) (Nat.le_of_ble_eq_true rfl) (Nat.le_of_ble_eq_true rfl) (Nat.le_refl _) (Nat.le_refl _) hl K
-- ===== YOUR PART ENDS =====
set_option maxHeartbeats 4000000 in
theorem lw_walk (l : Launch) (hflags : l.flags = flags0) (b : Addr) (xs : List Int32) : MetFree l x (headSpec (Jvm.Cond.code x code maxLocals ret :: tables_1) room_1) (lw_P b xs) (fun _ _ _ _ _ => True) lw_Q := by
  refine MetFree.of_bodyS (code := code) (maxLocals := maxLocals) (ret := ret) (by decide) ?_ ?_
  · intro args s m h hn
    obtain ⟨meth, c, h1, h2, h3, h4, h5, h6, -, -⟩ := Cond.code_spec hn (atoms_spec (ws := Jvm.Cond.code x code maxLocals ret :: tables_1) h _ List.mem_cons_self)
    exact ⟨meth, c, h1, h2, h3, h4, h5, h6⟩
  · intro p e s m args below meth c s₁ B hml0 hP _
    obtain ⟨rfl, hx, hbd, hgv⟩ := hP
    obtain ⟨scr, harrAt, hlist, hof, hsmall⟩ := hx
    obtain ⟨hcb, hkn, -, -⟩ := State.arrayAt?_spec harrAt
    have hown : s.vm.findClass R_law = some m.cls := findClass_of_methodNamed B.named
    have hts0 : ∀ c ∈ (Jvm.Cond.code x code maxLocals ret :: tables_1), c.before #[Value.ref b] s = true := atoms_spec (ws := Jvm.Cond.code x code maxLocals ret :: tables_1) B.pre
    have hts : ∀ w ∈ lw_tbl, w.before #[Value.ref b] s = true := k2_hts_sels lw_privs (fun w hw => hts0 w (List.mem_cons_of_mem _ hw)) lw_privs_ok
    have hml : c.maxLocals = 8 := B.maxLocals_eq (hts0 _ List.mem_cons_self)
    have X₀ : Stand p l e room_1 s m #[Value.ref b] below meth c s₁ [] 0 0 := Stand.of_body B
    have hh0 : s₁.heap = s.heap := by rw [B.state]; rfl
    have hsz : scr.slots.size = xs.length := by rw [← Array.length_toList, hlist, List.length_map]
    have hval : ∀ j : Nat, j < xs.length → scr.slots[j]? = some (.int (xs.getD j 0)) := fun j hj => by
      rw [← Array.getElem?_toList, hlist]
      simp [hj]
    have hbl : b < s.heap.size := (Array.getElem?_eq_some_iff.mp hcb).1
    have hX : va_X b xs.length (fun j => xs.getD j 0) s s.heap := ⟨scr, hcb, hof, hkn, hsz, hval⟩
    have K : W p l e room_1 s m #[Value.ref b] below meth c s₁.heap [] 0 0 (lw_Z below #[Value.ref b] s) (entryFrame m ([Value.ref b] : List Value).toArray 8) := by
      rw [hh0]
      exact whole_start l hflags hbd ⟨B.exec, B.bytes, B.returns, hml, hown, hts, hX, hbl, B.notSynchronized, hgv⟩
    obtain ⟨t, a1, o, b1, b2, b3⟩ := K s₁ rfl X₀
    exact ⟨t, o, a1, b1, b2, b3⟩
theorem lw_pre_spec {args : Array Value} {s : State} (h : (Jvm.Cond.and given_1 narrow_1).before args s = true) (hr : rest_1_c.before args s = true) : ∃ (b : Addr) (xs : List Int32), lw_P b xs args s := by
  have hs := flat_of_before _ h
  have hq := flat_of_before _ hr
  have hc : (Cond.count 1).before args s = true := hs _ (by decide +kernel)
  have harr : (Cond.arrayOf (.arg 0) .int).before args s = true := hs _ (by decide +kernel)
  have hle : (Cond.le (.length (.arg 0)) (.int 260)).before args s = true := hs _ (by decide +kernel)
  have hlen : (Cond.isInt (.length (.arg 0))).before args s = true := hq _ (by decide +kernel)
  have hall : (Cond.all (.arg 0) (.isInt (.elem (.arg 0) (.index 0)))).before args s = true := hq _ (by decide +kernel)
  obtain ⟨b, xs, hb, hx⟩ := State.ints_of_pre rfl harr hlen hall
  have hsm : xs.length < 2 ^ 31 := hx.choose_spec.2.2.2
  have hev : (Term.length (.arg 0)).eval args s none [] s = some (.int xs.length.toInt32) := hx.length_eval hb
  have hv := Cond.le_ints hev (show (Term.int 260).eval args s none [] s = some (.int 260) from rfl)
  have hd : xs.length.toInt32 ≤ 260 := by
    simpa [Cond.before, Cond.holds, hv] using hle
  have hN : xs.length ≤ 260 := (Int32.ofNat_le_ofNat hsm (by decide)).mp (show Int32.ofNat xs.length ≤ Int32.ofNat 260 from hd)
  exact ⟨b, xs, Cond.one_arg hc (show args[0]? = some (.ref b) from hb), hx, hN, h⟩
theorem lw_comes (l : Launch) (hflags : l.flags = flags0) : Comes l x (Jvm.Cond.code x code maxLocals ret :: tables_1) room_1 (fun tb e args s => Calls_1 tb e args s ∧ rest_1 tb e args s ∧ Pre_1 tb e args s)
    (fun _ _ args s o t => lw_Q args s o t) := by
  intro p e ha hc hk s m args below hf hfit hheap happ hpre
  obtain ⟨b, xs, hP⟩ := lw_pre_spec hpre.2.2 hpre.2.1
  obtain ⟨k, o, h1, h2, h3, hQ⟩ := lw_walk l hflags b xs p e ha hc hk s m args below hf ((Spec.applies_iff_loose hf).mp happ).1 hP trivial
  exact ⟨k, o, h1, h2, h3, hQ⟩
theorem lw_frame {s t : State} {o : Outcome} {args : Array Value} (h : Framed s o t [] 600000 7302250) :
    Framed s o t (fieldLocs frame_1_writes args s ++ arrayLocs frame_1_arrays args s ++ staticLocs frame_1_statics s) 600000 7302250 := h
theorem lw_limb (L : Cond) (hL : ∀ (args : Array Value) (s t : State), L.after args s (.returned (some (.int 1))) t = true) :
    ArmFor flags0 classFile x code maxLocals ret World_1 tables_1 room_1 Calls_1 rest_1 Pre_1
      (fun tb e a s o t => postC L tb e a s o t ∧ Framed s o t (fieldLocs frame_1_writes a s ++ arrayLocs frame_1_arrays a s ++ staticLocs frame_1_statics s) 600000 7302250) := by
  intro l hflags _ _ p e ha hc hk s m args below hf hfit hheap happ hpre
  obtain ⟨k, o, h1, h2, h3, rfl, hF⟩ := lw_comes l hflags p e ha hc hk s m args below hf hfit hheap happ hpre
  exact ⟨k, _, h1, h2, h3, hL args s _, lw_frame hF⟩
theorem i_vc : Claimed_1_1 ∧ Claimed_1_2 := ⟨lw_limb limb_1_1 (fun args s t => by simp [limb_1_1, Cond.after, Cond.holds, Cond.value]), lw_limb limb_1_2 (fun args s t => Cond.after_iff.mpr (by
  first | (rw [show limb_1_2 = Cond.eq .result (.int 1) from rfl, Cond.eq_ints (x := 1) (y := 1) rfl rfl]; simp; done) | (simp [limb_1_2, Cond.value, Term.eval]; done)))⟩

