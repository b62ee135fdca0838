
/-! The layer's rows of cells, calls and ends. -/
def zF (own : String) (idx ci k : Nat) : Prop := ∃ (C : String) (T : u_T) (N : Nat), vwCl[ci]? = some (C, T, N) ∧ (∀ w ∈ u_ws C T N, w ∈ zTBL) ∧ k < N ∧
  (Cond.fieldLink own idx (T k).1 (T k).2.1 (T k).2.2.1 ∈ zTBL ∨ ∃ host : String, Cond.fieldLinkNest own idx (T k).1 (T k).2.1 (T k).2.2.1 host ∈ zNST)
def zFp (own : String) (idx ci k : Nat) (ty : FieldType) (fin : Bool) : Prop := ∃ (C : String) (T : u_T) (N : Nat) (ty0 : Nat → FieldType), vwCl[ci]? = some (C, T, N) ∧ (∀ w ∈ u_ws C T N, w ∈ zTBL) ∧ k < N ∧
  (Cond.fieldLink own idx (T k).1 (T k).2.1 (T k).2.2.1 ∈ zTBL ∨ ∃ host : String, Cond.fieldLinkNest own idx (T k).1 (T k).2.1 (T k).2.2.1 host ∈ zNST) ∧
  (∀ k, k < N → parseFieldDescriptor (T k).2.2.1 = some (ty0 k)) ∧ (∀ a, a < N → ∀ b, b < N → a ≠ b → (T a).2.1 ≠ (T b).2.1) ∧ (T k).2.2.2 = fin ∧ parseFieldDescriptor (T k).2.2.1 = some ty ∧ ((T k).1 = own ∨ fin = false)
def zrep (ws : va_W) : List Nat → va_W → va_W
  | i :: is, e :: es => zrep (ws.set i e) is es
  | _, _ => ws
theorem zrep_fst : ∀ (is : List Nat) (es : va_W) (ws : va_W), is.map (fun i => (ws[i]?).map Prod.fst) = es.map (fun e => some e.1) → (zrep ws is es).map Prod.fst = ws.map Prod.fst
  | [], [], ws, _ => rfl
  | [], _ :: _, ws, h => by simp at h
  | _ :: _, [], ws, h => by simp at h
  | i :: is, e :: es, ws, h => by
    simp only [List.map_cons, List.cons.injEq] at h
    have h1 : (ws.set i e).map Prod.fst = ws.map Prod.fst := by
      apply List.ext_getElem?
      intro j
      rw [List.getElem?_map, List.getElem?_map, List.getElem?_set]
      by_cases hij : i = j
      · subst hij
        by_cases hl : i < ws.length
        · simp only [if_true, if_pos hl, Option.map_some]; exact h.1.symm
        · have : ws[i]? = none := List.getElem?_eq_none (Nat.not_lt.mp hl)
          rw [this] at h; simp at h
      · simp [hij]
    have h2 := zrep_fst is es (ws.set i e) (by
      rw [← h.2]
      apply List.map_congr_left
      intro j _
      have := congrArg (fun l => l[j]?) h1
      simpa only [List.getElem?_map] using this)
    show (zrep (ws.set i e) is es).map Prod.fst = _
    rw [h2, h1]
theorem zrep_get : ∀ (is : List Nat) (es : va_W) (ws : va_W), is.length = es.length → ∀ (k : Nat) (q : Nat × va_E), (zrep ws is es)[k]? = some q → q ∈ es ∨ (ws[k]? = some q ∧ k ∉ is)
  | [], [], ws, _, k, q, h => Or.inr ⟨h, by simp⟩
  | [], _ :: _, ws, hl, k, q, h => by simp at hl
  | _ :: _, [], ws, hl, k, q, h => by simp at hl
  | i :: is, e :: es, ws, hl, k, q, h => by
    rcases zrep_get is es (ws.set i e) (by simpa using hl) k q h with h1 | ⟨h1, h2⟩
    · exact Or.inl (List.mem_cons_of_mem _ h1)
    · rw [List.getElem?_set] at h1
      by_cases hij : i = k
      · rw [if_pos hij] at h1
        split at h1
        · cases h1; exact Or.inl List.mem_cons_self
        · cases h1
      · rw [if_neg hij] at h1
        exact Or.inr ⟨h1, by simp only [List.mem_cons, not_or]; exact ⟨fun z => hij z.symm, h2⟩⟩
theorem zD_fst {A : Nat → Prop} {w1 w2 : va_W} (h : va_D A w1) (e : w2.map Prod.fst = w1.map Prod.fst) : va_D A w2 := by
  have key : ∀ (k : Nat) (q : Nat × va_E), w2[k]? = some q → ∃ q1, w1[k]? = some q1 ∧ q1.1 = q.1 := by
    intro k q hq
    have := congrArg (fun l => l[k]?) e
    simp only [List.getElem?_map, hq, Option.map_some] at this
    obtain ⟨q1, h1, h2⟩ := Option.map_eq_some_iff.mp this.symm
    exact ⟨q1, h1, h2⟩
  refine ⟨fun i j p q hp hq hpq => ?_, fun k q hq => ?_⟩
  · obtain ⟨p1, h1, h2⟩ := key i p hp
    obtain ⟨q1, h3, h4⟩ := key j q hq
    exact h.1 i j p1 q1 h1 h3 (by rw [h2, h4, hpq])
  · obtain ⟨q1, h1, h2⟩ := key k q hq
    rw [← h2]; exact h.2 k q1 h1
/-- behind a call: the callee's cells in their places, those that it made at the end -/
theorem zjoin {A0 : Nat → Prop} {D : va_G} {ws wc wa wn : va_W} {H H1 : Heap} (hP : va_P D vwCl ws H) (hD : va_D A0 ws) (isC : List Nat) (hC : isC.map (fun i => ws[i]?) = wc.map some) (hfst : wa.map Prod.fst = wc.map Prod.fst)
    (hk : ∀ q : Nat, q < H.size → ¬ va_A wc H.size q → H1[q]? = H[q]?) (hF : ∀ q, va_A wc H.size q → A0 q) (hP1 : va_P D vwCl (wa ++ wn) H1) (hD1 : va_D (va_A wc H.size) (wa ++ wn)) :
    va_P D vwCl (zrep ws isC wa ++ wn) H1 ∧ va_D A0 (zrep ws isC wa ++ wn) := by
  have hlen : isC.length = wa.length := by
    have h1 := congrArg List.length hC
    have h2 := congrArg List.length hfst
    simp only [List.length_map] at h1 h2
    omega
  have hfst2 : (zrep ws isC wa).map Prod.fst = ws.map Prod.fst := by
    apply zrep_fst
    have h1 := congrArg (List.map (Option.map Prod.fst)) hC
    simp only [List.map_map] at h1
    rw [show (isC.map fun i => (ws[i]?).map Prod.fst) = isC.map (Option.map Prod.fst ∘ fun i => ws[i]?) from rfl, h1]
    have h2 := congrArg (List.map some) hfst
    simp only [List.map_map] at h2
    rw [show (wa.map fun e => some e.1) = wa.map (some ∘ Prod.fst) from rfl, h2]
    rfl
  have hwc : ∀ (j : Nat) (q : Nat × va_E), wc[j]? = some q → ∃ i, isC[j]? = some i ∧ ws[i]? = some q := by
    intro j q hq
    have := congrArg (fun l => l[j]?) hC
    simp only [List.getElem?_map, hq, Option.map_some] at this
    obtain ⟨i, h1, h2⟩ := Option.map_eq_some_iff.mp this
    exact ⟨i, h1, h2⟩
  have hDr : va_D A0 (zrep ws isC wa) := zD_fst hD hfst2
  have hold : ∀ (k : Nat) (q : Nat × va_E), (zrep ws isC wa)[k]? = some q → q.1 < H.size := by
    intro k q hq
    have := congrArg (fun l => l[k]?) hfst2
    simp only [List.getElem?_map, hq, Option.map_some] at this
    obtain ⟨q1, h1, h2⟩ := Option.map_eq_some_iff.mp this.symm
    rw [← h2]; exact (hP k q1 h1).lt
  refine ⟨va_P.app (fun k q hq => ?_) (fun k q hq => hP1 (wa.length + k) q (by rw [List.getElem?_append_right (Nat.le_add_right _ _), Nat.add_sub_cancel_left]; exact hq)), va_D.app hDr ?_ ?_⟩
  · rcases zrep_get isC wa ws hlen k q hq with h1 | ⟨h1, h2⟩
    · obtain ⟨j, hj⟩ := List.mem_iff_getElem?.mp h1
      exact hP1 j q (by rw [List.getElem?_append_left (List.getElem?_eq_some_iff.mp hj).1]; exact hj)
    · refine (hP k q h1).kept (hk q.1 (hP k q h1).lt ?_)
      rintro (⟨j, e, hj⟩ | hge)
      · obtain ⟨i, h3, h4⟩ := hwc j _ hj
        have := hD.1 k i q _ h1 h4 rfl
        subst this
        exact h2 (List.mem_of_getElem? h3)
      · exact absurd (hP k q h1).lt (Nat.not_lt.mpr hge)
  · refine ⟨fun i j p q hp hq hpq => ?_, fun k q hq => hF _ (hD1.2 (wa.length + k) q (by rw [List.getElem?_append_right (Nat.le_add_right _ _), Nat.add_sub_cancel_left]; exact hq))⟩
    have := hD1.1 (wa.length + i) (wa.length + j) p q (by rw [List.getElem?_append_right (Nat.le_add_right _ _), Nat.add_sub_cancel_left]; exact hp) (by rw [List.getElem?_append_right (Nat.le_add_right _ _), Nat.add_sub_cancel_left]; exact hq) hpq
    omega
  · intro i j p q hp hq hpq
    have hlt := hold i p hp
    have hqn : (wa ++ wn)[wa.length + j]? = some q := by rw [List.getElem?_append_right (Nat.le_add_right _ _), Nat.add_sub_cancel_left]; exact hq
    rcases hD1.2 _ q hqn with ⟨j2, e2, hj2⟩ | hge
    · have := congrArg (fun l => l[j2]?) hfst
      simp only [List.getElem?_map, hj2, Option.map_some] at this
      obtain ⟨q2, h5, h6⟩ := Option.map_eq_some_iff.mp this
      have hlt2 := (List.getElem?_eq_some_iff.mp h5).1
      have := hD1.1 j2 (wa.length + j) q2 q (by rw [List.getElem?_append_left hlt2]; exact h5) hqn h6
      omega
    · omega
theorem zPre_blind {args : List Value} {g : zG} {ws : va_W} {sz : Nat} : FrameBlind (va_Pc args (zPre g ws sz)) := by
  intro a U fr mk q
  obtain ⟨q0, q1, qP, qK, qD, qN, qZ⟩ := q
  exact ⟨q0, q1, qP, va_K.moved (u := U) (U := U.calling fr mk a) (Vm.Alike.refl U.vm) qK, qD, fun w hw => va_Nw.same (zN_tab hw) (u := U) (U := U.calling fr mk a) rfl (qN w hw), zZ.same (s := U) (U := U.calling fr mk a) qZ rfl⟩
theorem zGood {y : MethodName} {cc : ByteArray} {nL : Nat} {ret : Option FieldType} (h : Cond.code y cc nL ret ∈ zTBL) : GoodIn zTBL (.code y cc nL ret :: zTBL) := by
  intro w hw
  rcases List.mem_cons.mp hw with rfl | hw
  · exact ⟨h, good_of_word (List.mem_filter.mp h).2⟩
  · exact ⟨hw, good_of_word (List.mem_filter.mp hw).2⟩
def zK0 (y : MethodName) (cc : ByteArray) (nL : Nat) (ret : Option FieldType) (n : Nat) : Prop :=
  Cond.code y cc nL ret ∈ zTBL ∧ Cond.initialized y.cls ∈ zTBL ∧ (y.cls ≠ "java/lang/invoke/MethodHandle" ∧ y.cls ≠ "java/lang/invoke/VarHandle") ∧ (parseMethodDescriptor y.desc).map (fun d => d.parameters.length) = some n
def zKl (own : String) (idx : Nat) (y : MethodName) : Prop := Cond.methodLink own idx y ∈ zTBL ∨ ∃ host : String, Cond.methodLinkNest own idx y host ∈ zNST
def zKv (own : String) (idx : Nat) (y : MethodName) (cc : ByteArray) (nL : Nat) (ret : Option FieldType) (n : Nat) : Prop := zK0 y cc nL ret n ∧ zKl own idx y ∧ Cond.instanceMethod y ∈ zTBL ∧ Cond.selects y.cls y y ∈ zTBL
def zKs (own : String) (idx : Nat) (y : MethodName) (cc : ByteArray) (nL : Nat) (ret : Option FieldType) (n : Nat) : Prop := zK0 y cc nL ret n ∧ zKl own idx y ∧ Cond.static y ∈ zTBL
def zKi (own : String) (idx : Nat) (y : MethodName) (cc : ByteArray) (nL : Nat) (n : Nat) : Prop := zK0 y cc nL none n ∧ zKl own idx y ∧ Cond.instanceMethod y ∈ zTBL ∧ y.name = "<init>"
section ZR2
variable {x : zX} {g : zG} {own : String} {cc : ByteArray} {ret : Option FieldType} {f : Nat} {post : Option Value → va_W → Prop} {n : Nat × Nat} {pc pc' : Nat} {lv : List (Nat × Value)} {st rest : List Value} {ws : va_W}
theorem zR_caseK {v : Int32} (c : Int32) (kt : v = c → zR x g post n pc lv (.int c :: st) ws) (kf : ¬ v = c → zR x g post n pc lv (.int v :: st) ws) : zR x g post n pc lv (.int v :: st) ws := if h : v = c then (by have k := kt h; subst h; exact k) else kf h
theorem zR_get (C : zC x g own cc ret f) {idx ci k a : Nat} {fs : List Value} {v : Value} (F : zF own idx ci k) (d : zD cc pc (.getfield idx) 3 pc') (p : Nat) (he : ws[p]? = some (a, .inr (ci, fs))) (hv : fs[k]? = some v) (kk : zR x g post n pc' lv (v :: st) ws) : zR x g post n pc lv (.ref a :: st) ws := by
  obtain ⟨d, rfl⟩ := d
  obtain ⟨⟨hx, hb, hml, hown⟩, hts, hK, hN, -⟩ := C
  obtain ⟨cl, T, N, hc, hin, hk, hlink | ⟨host, hlink⟩⟩ := F
  · exact fun H locs ls hP hD hS hl => va_get hx hb hts hin hown hK hP p he hc k hk (hts _ hlink) (fun _ h => h) hv d (kk H locs ls hP hD hS hl)
  · exact fun H locs ls hP hD hS hl => va_getN hx hb hts hin hown hK hP p he hc k hk (va_Nw.use rfl (hN _ hlink)) (fun _ h => h) hv d (kk H locs ls hP hD hS hl)
theorem zR_put (C : zC x g own cc ret f) {idx ci k a : Nat} {fs : List Value} {v : Int32} {ws1 : va_W} (F : zFp own idx ci k .int false) (d : zD cc pc (.putfield idx) 3 pc') (p : Nat) (he : ws[p]? = some (a, .inr (ci, fs))) (hl0 : k < fs.length) (hw : ws.set p (a, .inr (ci, fs.set k (.int v))) = ws1) (kk : zR x g post n pc' lv st ws1) : zR x g post n pc lv (.int v :: .ref a :: st) ws := by
  subst hw
  obtain ⟨d, rfl⟩ := d
  obtain ⟨⟨hx, hb, hml, hown⟩, hts, hK, hN, -⟩ := C
  obtain ⟨cl, T, N, ty0, hc, hin, hk, hlink | ⟨host, hlink⟩, hty, hnm, hfin, hd, -⟩ := F
  · exact fun H locs ls hP hD hS hl => va_put hx hb hts hin ty0 hty hnm hown hK hP hD hS p he hc k hk (hts _ hlink) (fun _ h => h) hfin hd rfl rfl hl0 d (fun H1 locs1 hP hD hS => kk H1 locs1 ls hP hD hS hl)
  · exact fun H locs ls hP hD hS hl => va_putN hx hb hts hin ty0 hty hnm hown hK hP hD hS p he hc k hk (va_Nw.use rfl (hN _ hlink)) (fun _ h => h) hfin hd rfl rfl hl0 d (fun H1 locs1 hP hD hS => kk H1 locs1 ls hP hD hS hl)

theorem zR_iald (C : zC x g own cc ret f) {a N : Nat} {h : Nat → Int32} {i : Int32} (d : zD cc pc .iaload 1 pc') (p : Nat) (ha : ws[p]? = some (a, .inl (g.2.1 0, N, .inl h))) (hi : vp_in i N) (k : zR x g post n pc' lv (.int (h i.toNatClampNeg) :: st) ws) : zR x g post n pc lv (.int i :: .ref a :: st) ws := by
  obtain ⟨d, rfl⟩ := d
  exact fun H locs ls hP hD hS hl => va_iald C.1.1 C.1.2.1 C.2.2.1 hP p 0 ha rfl hi d (k H locs ls hP hD hS hl)
theorem zR_zald (C : zC x g own cc ret f) {a N : Nat} {h : Nat → Int32} {i : Int32} (d : zD cc pc .baload 1 pc') (p : Nat) (ha : ws[p]? = some (a, .inl (g.2.1 2, N, .inl h))) (hi : vp_in i N) (k : zR x g post n pc' lv (.int (h i.toNatClampNeg) :: st) ws) : zR x g post n pc lv (.int i :: .ref a :: st) ws := by
  obtain ⟨d, rfl⟩ := d
  exact fun H locs ls hP hD hS hl => va_zald C.1.1 C.1.2.1 C.2.2.1 hP p 2 ha rfl hi d (k H locs ls hP hD hS hl)
theorem zR_cald (C : zC x g own cc ret f) {a N : Nat} {h : Nat → Int32} {i : Int32} (d : zD cc pc .caload 1 pc') (p : Nat) (ha : ws[p]? = some (a, .inl (g.2.1 3, N, .inl h))) (hi : vp_in i N) (k : zR x g post n pc' lv (.int (h i.toNatClampNeg) :: st) ws) : zR x g post n pc lv (.int i :: .ref a :: st) ws := by
  obtain ⟨d, rfl⟩ := d
  exact fun H locs ls hP hD hS hl => va_cald C.1.1 C.1.2.1 C.2.2.1 hP p 3 ha rfl hi d (k H locs ls hP hD hS hl)
theorem zR_lald (C : zC x g own cc ret f) {a N : Nat} {h : Nat → Int64} {i : Int32} (d : zD cc pc .laload 1 pc') (p : Nat) (ha : ws[p]? = some (a, .inl (g.2.1 1, N, .inr (.inl h)))) (hi : vp_in i N) (k : zR x g post n pc' lv (.long (h i.toNatClampNeg) :: st) ws) : zR x g post n pc lv (.int i :: .ref a :: st) ws := by
  obtain ⟨d, rfl⟩ := d
  exact fun H locs ls hP hD hS hl => va_lald C.1.1 C.1.2.1 C.2.2.1 hP p 1 ha rfl hi d (k H locs ls hP hD hS hl)
theorem zR_aald (C : zC x g own cc ret f) {a N : Nat} {h : Nat → Option Nat} {i : Int32} {v : Value} (d : zD cc pc .aaload 1 pc') (p : Nat) (ha : ws[p]? = some (a, .inl (g.2.1 4, N, .inr (.inr (.inr (.inr h)))))) (hi : vp_in i N) (hv : va_rf (h i.toNatClampNeg) = v) (k : zR x g post n pc' lv (v :: st) ws) : zR x g post n pc lv (.int i :: .ref a :: st) ws := by
  obtain ⟨d, rfl⟩ := d
  subst hv
  exact fun H locs ls hP hD hS hl => va_aldq C.1.1 C.1.2.1 C.2.2.1 hP p 4 ha rfl hi d (k H locs ls hP hD hS hl)
theorem zR_iast (C : zC x g own cc ret f) {a N : Nat} {h : Nat → Int32} {i : Int32} {v : Int32} {ws1 : va_W} (d : zD cc pc .iastore 1 pc') (p : Nat) (ha : ws[p]? = some (a, .inl (g.2.1 0, N, .inl h))) (hi : vp_in i N) (hw : ws.set p (a, .inl (g.2.1 0, N, .inl (upd h i.toNatClampNeg v))) = ws1) (k : zR x g post n pc' lv st ws1) : zR x g post n pc lv (.int v :: .int i :: .ref a :: st) ws := by
  obtain ⟨d, rfl⟩ := d
  subst hw
  exact fun H locs ls hP hD hS hl => va_iast C.1.1 C.1.2.1 C.2.2.1 hP hD hS p 0 ha rfl hi d (fun H1 locs1 hP hD hS => k H1 locs1 ls hP hD hS hl)
theorem zR_last (C : zC x g own cc ret f) {a N : Nat} {h : Nat → Int64} {i : Int32} {v : Int64} {ws1 : va_W} (d : zD cc pc .lastore 1 pc') (p : Nat) (ha : ws[p]? = some (a, .inl (g.2.1 1, N, .inr (.inl h)))) (hi : vp_in i N) (hw : ws.set p (a, .inl (g.2.1 1, N, .inr (.inl (vp_updL h i.toNatClampNeg v)))) = ws1) (k : zR x g post n pc' lv st ws1) : zR x g post n pc lv (.long v :: .int i :: .ref a :: st) ws := by
  obtain ⟨d, rfl⟩ := d
  subst hw
  exact fun H locs ls hP hD hS hl => va_last C.1.1 C.1.2.1 C.2.2.1 hP hD hS p 1 ha rfl hi d (fun H1 locs1 hP hD hS => k H1 locs1 ls hP hD hS hl)
theorem zR_zast (C : zC x g own cc ret f) {a N : Nat} {h : Nat → Int32} {i : Int32} {v : Int32} {ws1 : va_W} (d : zD cc pc .bastore 1 pc') (p : Nat) (ha : ws[p]? = some (a, .inl (g.2.1 2, N, .inl h))) (hi : vp_in i N) {v' : Int32} (hv : vp_nar .boolean v = v') (hw : ws.set p (a, .inl (g.2.1 2, N, .inl (upd h i.toNatClampNeg v'))) = ws1) (k : zR x g post n pc' lv st ws1) : zR x g post n pc lv (.int v :: .int i :: .ref a :: st) ws := by
  obtain ⟨d, rfl⟩ := d
  subst hw
  exact fun H locs ls hP hD hS hl => va_zast C.1.1 C.1.2.1 C.2.2.1 hP hD hS p 2 ha rfl hi d (fun H1 locs1 hP hD hS => k H1 locs1 ls (by rw [← hv]; exact hP) (by rw [← hv]; exact hD) hS hl)
theorem zR_cast (C : zC x g own cc ret f) {a N : Nat} {h : Nat → Int32} {i : Int32} {v : Int32} {ws1 : va_W} (d : zD cc pc .castore 1 pc') (p : Nat) (ha : ws[p]? = some (a, .inl (g.2.1 3, N, .inl h))) (hi : vp_in i N) {v' : Int32} (hv : vp_nar .char v = v') (hw : ws.set p (a, .inl (g.2.1 3, N, .inl (upd h i.toNatClampNeg v'))) = ws1) (k : zR x g post n pc' lv st ws1) : zR x g post n pc lv (.int v :: .int i :: .ref a :: st) ws := by
  obtain ⟨d, rfl⟩ := d
  subst hw
  exact fun H locs ls hP hD hS hl => va_cast C.1.1 C.1.2.1 C.2.2.1 hP hD hS p 3 ha rfl hi d (fun H1 locs1 hP hD hS => k H1 locs1 ls (by rw [← hv]; exact hP) (by rw [← hv]; exact hD) hS hl)

theorem zR_ldc (C : zC x g own cc ret f) {idx : Nat} {v : Int32} (hw : Cond.constant own idx v ∈ zTBL) (d : zD cc pc (.ldc idx) 2 pc') (k : zR x g post n pc' lv (.int v :: st) ws) : zR x g post n pc lv st ws := by
  obtain ⟨d, rfl⟩ := d
  exact fun H locs ls hP hD hS hl => lv_ldc C.1.1 C.1.2.1 C.1.2.2.2 (C.2.1 _ hw) d (k H locs ls hP hD hS hl)
theorem zR_ldc2 (C : zC x g own cc ret f) {idx : Nat} {v : Int64} (hw : Cond.constantLong own idx v ∈ zTBL) (d : zD cc pc (.ldc2_w idx) 3 pc') (k : zR x g post n pc' lv (.long v :: st) ws) : zR x g post n pc lv st ws := by
  obtain ⟨d, rfl⟩ := d
  exact fun H locs ls hP hD hS hl => lv_ldc2 C.1.1 C.1.2.1 C.1.2.2.2 (C.2.1 _ hw) d (k H locs ls hP hD hS hl)
theorem zR_tswIn (C : zC x g own cc ret f) {dflt lo hi off : Int} {offs : Array Int} {len tgt : Nat} {v : Int32} (d : zD cc pc (.tableswitch dflt lo hi offs) len pc') (h1 : ¬ v.toInt < lo) (h2 : ¬ hi < v.toInt) (ho : offs[(v.toInt - lo).toNat]? = some off) (ht : (pc : Int) + off = (tgt : Int)) (k : zR x g post n tgt lv st ws) : zR x g post n pc lv (.int v :: st) ws :=
  fun H locs ls hP hD hS hl => lv_tableIn C.1.1 C.1.2.1 d.1 h1 h2 ho ht (k H locs ls hP hD hS hl)
theorem zR_tswOut (C : zC x g own cc ret f) {dflt lo hi : Int} {offs : Array Int} {len tgt : Nat} {v : Int32} (d : zD cc pc (.tableswitch dflt lo hi offs) len pc') (h : v.toInt < lo ∨ hi < v.toInt) (ht : (pc : Int) + dflt = (tgt : Int)) (k : zR x g post n tgt lv st ws) : zR x g post n pc lv (.int v :: st) ws :=
  fun H locs ls hP hD hS hl => lv_tableOut C.1.1 C.1.2.1 d.1 h ht (k H locs ls hP hD hS hl)
theorem zR_lsw (C : zC x g own cc ret f) {dflt off : Int} {ps : Array (Int × Int)} {len tgt : Nat} {v : Int32} (d : zD cc pc (.lookupswitch dflt ps) len pc') (hp : (ps.toList.zip (ps.toList.drop 1)).all (fun (a, next) => a.1 < next.1) = true) (ho : Op.lookupswitch.offset ps.toList dflt v.toInt = off) (ht : (pc : Int) + off = (tgt : Int)) (k : zR x g post n tgt lv st ws) : zR x g post n pc lv (.int v :: st) ws :=
  fun H locs ls hP hD hS hl => lv_lookup C.1.1 C.1.2.1 d.1 hp ho ht (k H locs ls hP hD hS hl)
theorem zPst_end {r : Option Value} {ws : va_W} {H : Heap} {locs : List Loc} (C : zC x g own cc ret f) (hP : va_P g.1 vwCl ws H) (hD : va_D (zA x) ws) (hS : va_S (zA x) (zs x).heap H locs) (hp : post r ws) : ∀ t : State, t.heap = H → (zs x).WarmedH t.vm → zPst g (zA x) post (za x) (zs x) (.returned r) t :=
  fun t ht hW => ⟨⟨r, ws, rfl, hp, by rw [ht]; exact hP, va_K.moved hW.alike C.2.2.1, hD⟩, hS.F ht⟩
theorem zR_vret (C : zC x g own cc ret f) (hr : ret = none) (d : zD cc pc .return_ 1 pc') (hn1 : n.1 ≤ zmc x) (hn2 : n.2 ≤ zms x) (hp : post none ws) : zR x g post n pc lv [] ws :=
  fun H locs ls hP hD hS hl => W.widen hn1 hn2 (W.vret C.1.1 C.1.2.1 (C.2.2.2.2.2.2.1.trans hr) (zPst_end C hP hD hS hp) hS.2.2 d.1 C.2.2.2.2.2.1)
theorem zR_iret (C : zC x g own cc ret f) {ty : FieldType} {v : Int32} (hr : ret = some ty) (hnar : narrow ty (.int v) = .int v) (d : zD cc pc .ireturn 1 pc') (hn1 : n.1 ≤ zmc x) (hn2 : n.2 ≤ zms x) (hp : post (some (.int v)) ws) : zR x g post n pc lv [.int v] ws :=
  fun H locs ls hP hD hS hl => W.widen hn1 hn2 (W.zret C.1.1 C.1.2.1 (C.2.2.2.2.2.2.1.trans hr) hnar (zPst_end C hP hD hS hp) hS.2.2 d.1 C.2.2.2.2.2.1)
theorem zR_lret (C : zC x g own cc ret f) {v : Int64} (hr : ret = some .long) (d : zD cc pc .lreturn 1 pc') (hn1 : n.1 ≤ zmc x) (hn2 : n.2 ≤ zms x) (hp : post (some (.long v)) ws) : zR x g post n pc lv [.long v] ws :=
  fun H locs ls hP hD hS hl => W.widen hn1 hn2 (W.lret C.1.1 C.1.2.1 (C.2.2.2.2.2.2.1.trans hr) (zPst_end C hP hD hS hp) hS.2.2 d.1 C.2.2.2.2.2.1)
theorem zR_aret (C : zC x g own cc ret f) {a : Nat} {nm : String} (hr : ret = some (.object nm)) (d : zD cc pc .areturn 1 pc') (hn1 : n.1 ≤ zmc x) (hn2 : n.2 ≤ zms x) (hp : post (some (.ref a)) ws) : zR x g post n pc lv [.ref a] ws :=
  fun H locs ls hP hD hS hl => W.widen hn1 hn2 (W.aret C.1.1 C.1.2.1 (C.2.2.2.2.2.2.1.trans hr) (Or.inl ⟨nm, rfl⟩) (Or.inr ⟨a, rfl⟩) (zPst_end C hP hD hS hp) hS.2.2 d.1 C.2.2.2.2.2.1)
/-- what a call's contract asks at the call -/
theorem zPre_at (C : zC x g own cc ret f) {wc : va_W} {isC : List Nat} {args : List Value} (hC : isC.map (fun i => ws[i]?) = wc.map some) (hnd : va_nd isC = true) {H : Heap} {locs : List Loc} (hP : va_P g.1 vwCl ws H) (hD : va_D (zA x) ws) (hS : va_S (zA x) (zs x).heap H locs) :
    ∀ U : State, U.heap = H → (zs x).WarmedH U.vm → va_Pc args (zPre g wc H.size) args.toArray U := by
  intro U hU hW
  have hPc : va_P g.1 vwCl wc H := by
    intro k q hq
    have := congrArg (fun l => l[k]?) hC
    simp only [List.getElem?_map, hq, Option.map_some] at this
    obtain ⟨i, -, h2⟩ := Option.map_eq_some_iff.mp this
    exact hP i q h2
  exact ⟨rfl, by rw [hU], by rw [hU]; exact hPc, va_K.moved hW.alike C.2.2.1, (hD.sub isC hnd hC).weaken (fun _ _ _ _ => trivial), zN_warm hW C.2.2.2.1, by
    rw [hU]; exact C.2.2.2.2.2.2.2.2.call hW hS (va_free hD hS C.2.2.2.2.2.2.2.1 isC hC)⟩
/-- behind a call -/
theorem zR_run (C : zC x g own cc ret f) {mc ms : Nat} {wc : va_W} {isC : List Nat} {cpost : Option Value → va_W → Prop} {a : Array Value} (hC : isC.map (fun i => ws[i]?) = wc.map some)
    (hrun : ∀ (H : Heap) (locs : List Loc) (ls : Array Slot), va_P g.1 vwCl ws H → va_D (zA x) ws → va_S (zA x) (zs x).heap H locs → lv_has ls (zn x) lv →
      va_Run (zp x) (zl x) (ze x) (zRm x) (zs x) (zm x) (za x) (zb x) (zk x) (zc x) H locs n.1 n.2 mc ms (F0 (zm x) pc ls st) rest (zPst g (va_A wc H.size) cpost a) (va_A wc H.size))
    (hw : ∀ r w, cpost r w → ∃ wa wn : va_W, w = wa ++ wn ∧ wa.map Prod.fst = wc.map Prod.fst ∧ zR x g post (n.1 + mc, n.2 + ms) (pc + 3) lv (r.toList ++ rest) (zrep ws isC wa ++ wn)) : zR x g post n pc lv st ws := by
  intro H locs ls hP hD hS hl T hT X
  have hF := va_free hD hS C.2.2.2.2.2.2.2.1 isC hC
  obtain ⟨v, st₀, t, T', L, h0, X', hL, e1, e2, ⟨⟨r, w, hv, hp, hP1, hK1, hD1⟩, hz, hk⟩, stp⟩ := hrun H locs ls hP hD hS hl T hT X
  cases hv
  rw [h0] at hz hk
  obtain ⟨wa, wn, rfl, hfst, kk⟩ := hw v w hp
  have hj := zjoin hP hD isC hC hfst (fun q h1 h2 => hk q h1 h2) hF hP1 hD1
  obtain ⟨t2, a1, b1⟩ := kk T'.heap (locs ++ L) ls (by rw [e1]; exact hj.1) hj.2 ⟨Nat.le_trans hS.1 (by rw [e1]; exact hz), fun q h1 h2 => by rw [e1, hk q (Nat.lt_of_lt_of_le h1 hS.1) (fun z => h2 (hF q z))]; exact hS.2.1 q h1 h2, fun q hq => by
      rcases List.mem_append.mp hq with h | h
      · exact hS.2.2 q h
      · exact hF _ (hL q h)⟩ hl T' rfl X'
  exact ⟨t2, stp t2 a1, b1⟩
theorem zCallB (C : zC x g own cc ret f) {idx : Nat} {y : MethodName} {cc' : ByteArray} {nL' : Nat} {ret' : Option FieldType} {f' mc ms nn : Nat} (K : zK0 y cc' nL' ret' nn) (hl : Cond.methodLink own idx y ∈ zTBL) (hf : f' + 1 ≤ f) (hnl : nL' ≤ 17) :
    CallB (zRm x) (zs x) (za x) own idx y cc' nL' ret' (.code y cc' nL' ret' :: zTBL) (zrm f' mc ms) mc ms nn := by
  obtain ⟨k1, k2, k3, k4⟩ := K
  rw [C.2.2.2.2.1]
  exact ⟨rfl, rfl, hf, (show 8 + (nL' + 11) + 36 * f' ≤ 36 * f by omega), pay_in C.2.1 (zGood k1), List.mem_cons_self, C.2.1 _ k1, C.2.1 _ k2, k3, fun sig h => by rw [h] at k4; exact (Option.some.inj k4).symm, C.2.1 _ hl⟩
theorem zCallN (C : zC x g own cc ret f) {idx : Nat} {y : MethodName} {cc' : ByteArray} {nL' : Nat} {ret' : Option FieldType} {f' mc ms nn : Nat} {host : String} (K : zK0 y cc' nL' ret' nn) (hl : Cond.methodLinkNest own idx y host ∈ zNST) (hf : f' + 1 ≤ f) (hnl : nL' ≤ 17) :
    va_CN (zRm x) (zs x) (za x) own idx y host cc' nL' ret' (.code y cc' nL' ret' :: zTBL) (zrm f' mc ms) mc ms nn := by
  obtain ⟨k1, k2, k3, k4⟩ := K
  rw [C.2.2.2.2.1]
  exact ⟨⟨rfl, rfl, hf, (show 8 + (nL' + 11) + 36 * f' ≤ 36 * f by omega), pay_in C.2.1 (zGood k1), List.mem_cons_self⟩, C.2.1 _ k1, C.2.1 _ k2, k3, fun sig h => by rw [h] at k4; exact (Option.some.inj k4).symm, va_Nw.use rfl (C.2.2.2.1 _ hl)⟩
theorem zFits (C : zC x g own cc ret f) {mc ms : Nat} (h1 : n.1 + mc ≤ zmc x) (h2 : n.2 + ms ≤ zms x) : n.1 + mc ≤ (zRm x).cells ∧ n.2 + ms ≤ (zRm x).slots := by
  rw [C.2.2.2.2.1]; exact ⟨h1, h2⟩
/-- invokevirtual, any contract -/
theorem zR_callV0 (C : zC x g own cc ret f) {idx : Nat} {y : MethodName} {cc' : ByteArray} {nL' : Nat} {ret' : Option FieldType} {f' mc ms nn : Nat} {b : Nat} {As : List Value} {wc : va_W} {cpost : Option Value → va_W → Prop} (K : zKv own idx y cc' nL' ret' nn) (d : zD cc pc (.invokevirtual idx) 3 pc')
    (M : zM (zl x) g y cc' nL' ret' f' mc ms (.ref b :: As) wc cpost) (q0 ci : Nat) {fs : List Value} (he : ws[q0]? = some (b, .inr (ci, fs))) {rw : vw_C} (hci : vwCl[ci]? = some rw) (hcl : rw.1 = y.cls) (isC : List Nat) (hC : isC.map (fun i => ws[i]?) = wc.map some) (hnd : va_nd isC = true)
    (hst : st = As.reverse ++ .ref b :: rest) (hn : As.length = nn) (hf : f' + 1 ≤ f) (hnl : nL' ≤ 17) (hcat : (rest.map fun v => v.category).sum ≤ 8) (hr1 : n.1 + mc ≤ zmc x) (hr2 : n.2 + ms ≤ zms x)
    (hw : ∀ r w, cpost r w → ∃ wa wn : va_W, w = wa ++ wn ∧ wa.map Prod.fst = wc.map Prod.fst ∧ zR x g post (n.1 + mc, n.2 + ms) pc' lv (r.toList ++ rest) (zrep ws isC wa ++ wn)) : zR x g post n pc lv st ws := by
  obtain ⟨d, rfl⟩ := d
  obtain ⟨K0, hl | ⟨host, hl⟩, ki, ks⟩ := K
  · exact zR_run C hC (fun H locs ls hP hD hS hl' => va_runV ⟨C.1.1, C.1.2.1, C.1.2.2.1, C.1.2.2.2, C.2.1⟩ (M H.size) ⟨zCallB C K0 hl hf hnl, C.2.1 _ ki, C.2.1 _ ks⟩ ⟨zPre_blind, by rw [← hcl]; exact va_recv C.2.2.1 hP hci he, zPre_at C hC hnd hP hD hS⟩ rfl hn hl'.1 hst (lv_room hcat) d (zFits C hr1 hr2)) hw
  · exact zR_run C hC (fun H locs ls hP hD hS hl' => va_runVN ⟨C.1.1, C.1.2.1, C.1.2.2.1, C.1.2.2.2, C.2.1⟩ (M H.size) ⟨zCallN C K0 hl hf hnl, C.2.1 _ ki, C.2.1 _ ks⟩ ⟨zPre_blind, by rw [← hcl]; exact va_recv C.2.2.1 hP hci he, zPre_at C hC hnd hP hD hS⟩ rfl hn hl'.1 hst (lv_room hcat) d (zFits C hr1 hr2)) hw
theorem zR_callS0 (C : zC x g own cc ret f) {idx : Nat} {y : MethodName} {cc' : ByteArray} {nL' : Nat} {ret' : Option FieldType} {f' mc ms nn : Nat} {As : List Value} {wc : va_W} {cpost : Option Value → va_W → Prop} (K : zKs own idx y cc' nL' ret' nn) (d : zD cc pc (.invokestatic idx) 3 pc')
    (M : zM (zl x) g y cc' nL' ret' f' mc ms As wc cpost) (isC : List Nat) (hC : isC.map (fun i => ws[i]?) = wc.map some) (hnd : va_nd isC = true)
    (hst : st = As.reverse ++ rest) (hn : As.length = nn) (hf : f' + 1 ≤ f) (hnl : nL' ≤ 17) (hcat : (rest.map fun v => v.category).sum ≤ 8) (hr1 : n.1 + mc ≤ zmc x) (hr2 : n.2 + ms ≤ zms x)
    (hw : ∀ r w, cpost r w → ∃ wa wn : va_W, w = wa ++ wn ∧ wa.map Prod.fst = wc.map Prod.fst ∧ zR x g post (n.1 + mc, n.2 + ms) pc' lv (r.toList ++ rest) (zrep ws isC wa ++ wn)) : zR x g post n pc lv st ws := by
  obtain ⟨d, rfl⟩ := d
  obtain ⟨K0, hl | ⟨host, hl⟩, ks⟩ := K
  · exact zR_run C hC (fun H locs ls hP hD hS hl' => va_runS ⟨C.1.1, C.1.2.1, C.1.2.2.1, C.1.2.2.2, C.2.1⟩ (M H.size) ⟨zCallB C K0 hl hf hnl, C.2.1 _ ks⟩ ⟨zPre_blind, zPre_at C hC hnd hP hD hS⟩ rfl hn hl'.1 hst (lv_room hcat) d (zFits C hr1 hr2)) hw
  · exact zR_run C hC (fun H locs ls hP hD hS hl' => va_runSN ⟨C.1.1, C.1.2.1, C.1.2.2.1, C.1.2.2.2, C.2.1⟩ (M H.size) ⟨zCallN C K0 hl hf hnl, C.2.1 _ ks, trivial⟩ ⟨zPre_blind, zPre_at C hC hnd hP hD hS⟩ rfl hn hl'.1 hst (lv_room hcat) d (zFits C hr1 hr2)) hw
theorem zR_callI0 (C : zC x g own cc ret f) {idx : Nat} {y : MethodName} {cc' : ByteArray} {nL' : Nat} {f' mc ms nn : Nat} {b : Nat} {As : List Value} {wc : va_W} {cpost : Option Value → va_W → Prop} (K : zKi own idx y cc' nL' nn) (d : zD cc pc (.invokespecial idx) 3 pc')
    (M : zM (zl x) g y cc' nL' none f' mc ms (.ref b :: As) wc cpost) (isC : List Nat) (hC : isC.map (fun i => ws[i]?) = wc.map some) (hnd : va_nd isC = true)
    (hst : st = As.reverse ++ .ref b :: rest) (hn : As.length = nn) (hf : f' + 1 ≤ f) (hnl : nL' ≤ 17) (hcat : (rest.map fun v => v.category).sum ≤ 8) (hr1 : n.1 + mc ≤ zmc x) (hr2 : n.2 + ms ≤ zms x)
    (hw : ∀ r w, cpost r w → ∃ wa wn : va_W, w = wa ++ wn ∧ wa.map Prod.fst = wc.map Prod.fst ∧ zR x g post (n.1 + mc, n.2 + ms) pc' lv (r.toList ++ rest) (zrep ws isC wa ++ wn)) : zR x g post n pc lv st ws := by
  obtain ⟨d, rfl⟩ := d
  obtain ⟨K0, hl | ⟨host, hl⟩, ki, kn⟩ := K
  · exact zR_run C hC (fun H locs ls hP hD hS hl' => va_runI ⟨C.1.1, C.1.2.1, C.1.2.2.1, C.1.2.2.2, C.2.1⟩ (M H.size) ⟨zCallB C K0 hl hf hnl, kn, C.2.1 _ ki⟩ ⟨zPre_blind, zPre_at C hC hnd hP hD hS⟩ rfl hn hl'.1 hst (lv_room hcat) d (zFits C hr1 hr2)) hw
  · exact zR_run C hC (fun H locs ls hP hD hS hl' => va_runIN ⟨C.1.1, C.1.2.1, C.1.2.2.1, C.1.2.2.2, C.2.1⟩ (M H.size) ⟨zCallN C K0 hl hf hnl, kn, C.2.1 _ ki⟩ ⟨zPre_blind, zPre_at C hC hnd hP hD hS⟩ rfl hn hl'.1 hst (lv_room hcat) d (zFits C hr1 hr2)) hw
/-- invokevirtual of a contract that tells its answer and its cells -/
theorem zR_callV (C : zC x g own cc ret f) {idx : Nat} {y : MethodName} {cc' : ByteArray} {nL' : Nat} {ret' : Option FieldType} {f' nn : Nat} {b : Nat} {As : List Value} {wc w0 ws1 : va_W} {r0 : Option Value} (K : zKv own idx y cc' nL' ret' nn) (d : zD cc pc (.invokevirtual idx) 3 pc')
    (M : zM (zl x) g y cc' nL' ret' f' 0 0 (.ref b :: As) wc (zE r0 w0)) (hst : st = As.reverse ++ .ref b :: rest) (q0 ci : Nat) {fs : List Value} (he : ws[q0]? = some (b, .inr (ci, fs))) {rw : vw_C} (hci : vwCl[ci]? = some rw) (hcl : rw.1 = y.cls) (isC : List Nat) (hC : isC.map (fun i => ws[i]?) = wc.map some) (hnd : va_nd isC = true)
    (hn : As.length = nn) (hf : f' + 1 ≤ f) (hnl : nL' ≤ 17) (hcat : (rest.map fun v => v.category).sum ≤ 8) (hr1 : n.1 ≤ zmc x) (hr2 : n.2 ≤ zms x) (hfst : w0.map Prod.fst = wc.map Prod.fst) (hw : zrep ws isC w0 = ws1)
    (k : zR x g post n pc' lv (r0.toList ++ rest) ws1) : zR x g post n pc lv st ws :=
  zR_callV0 C K d M q0 ci he hci hcl isC hC hnd hst hn hf hnl hcat hr1 hr2 (fun r w h => ⟨w, [], (List.append_nil _).symm, by rw [h.2]; exact hfst, by rw [List.append_nil, h.1, h.2, hw]; exact k⟩)
theorem zR_callS (C : zC x g own cc ret f) {idx : Nat} {y : MethodName} {cc' : ByteArray} {nL' : Nat} {ret' : Option FieldType} {f' nn : Nat} {As : List Value} {r0 : Option Value} (K : zKs own idx y cc' nL' ret' nn) (d : zD cc pc (.invokestatic idx) 3 pc')
    (M : zM (zl x) g y cc' nL' ret' f' 0 0 As [] (zE r0 [])) (hst : st = As.reverse ++ rest) (hn : As.length = nn) (hf : f' + 1 ≤ f) (hnl : nL' ≤ 17) (hcat : (rest.map fun v => v.category).sum ≤ 8) (hr1 : n.1 ≤ zmc x) (hr2 : n.2 ≤ zms x)
    (k : zR x g post n pc' lv (r0.toList ++ rest) ws) : zR x g post n pc lv st ws :=
  zR_callS0 C K d M [] rfl rfl hst hn hf hnl hcat hr1 hr2 (fun r w h => ⟨[], [], by rw [h.2]; rfl, rfl, by rw [List.append_nil, h.1]; exact k⟩)
def zKm (own : String) (idx : Nat) (y : MethodName) (cc : ByteArray) (nL : Nat) (ret : Option FieldType) : Prop := Cond.methodLink own idx y ∈ zTBL ∧ Cond.static y ∈ zTBL ∧ Cond.initialized "java/lang/Math" ∈ zTBL ∧ Cond.code y cc nL ret ∈ zTBL
theorem zlv_size {ls : Array Slot} {nL : Nat} {lv : List (Nat × Value)} (h : lv_has ls nL lv) : nL = ls.size := h.1.symm
theorem zR_mmaxi (C : zC x g own cc ret f) {idx : Nat} {a b : Int32} (K : zKm own idx Lib.Math.max.name Lib.Math.max.code 2 (some .int)) (d : zD cc pc (.invokestatic idx) 3 pc') (hf : 1 ≤ f) (hcat : (st.map fun v => v.category).sum ≤ 8) (hr1 : n.1 ≤ zmc x) (hr2 : n.2 ≤ zms x) (k : zR x g post n pc' lv (.int (if a < b then b else a) :: st) ws) : zR x g post n pc lv (.int b :: .int a :: st) ws := by
  obtain ⟨d, rfl⟩ := d
  obtain ⟨k1, k2, k3, k4⟩ := K
  have hR := C.2.2.2.2.1
  exact fun H locs ls hP hD hS hl => va_mmax C.1.1 C.1.2.1 (C.1.2.2.1.trans (zlv_size hl)) C.1.2.2.2 (C.2.1 _ k1) (C.2.1 _ k2) (C.2.1 _ k3) (C.2.1 _ k4) (by rw [hR]; exact hf) (by rw [hR]; show _ ≤ 36 * f; omega) (by rw [hR]; exact hr1) (by rw [hR]; exact hr2) d (k H locs ls hP hD hS hl)
theorem zR_mmaxl (C : zC x g own cc ret f) {idx : Nat} {a b : Int64} (K : zKm own idx Lib.MathLoose.max_long.x Lib.MathLoose.max_long.code 4 (some .long)) (d : zD cc pc (.invokestatic idx) 3 pc') (hf : 1 ≤ f) (hcat : (st.map fun v => v.category).sum ≤ 8) (hr1 : n.1 ≤ zmc x) (hr2 : n.2 ≤ zms x) (k : zR x g post n pc' lv (.long (if b < a then a else b) :: st) ws) : zR x g post n pc lv (.long b :: .long a :: st) ws := by
  obtain ⟨d, rfl⟩ := d
  obtain ⟨k1, k2, k3, k4⟩ := K
  have hR := C.2.2.2.2.1
  exact fun H locs ls hP hD hS hl => va_mmax_long C.1.1 C.1.2.1 (C.1.2.2.1.trans (zlv_size hl)) C.1.2.2.2 (C.2.1 _ k1) (C.2.1 _ k2) (C.2.1 _ k3) (C.2.1 _ k4) (by rw [hR]; exact hf) (by rw [hR]; show _ ≤ 36 * f; omega) (by rw [hR]; exact hr1) (by rw [hR]; exact hr2) d (k H locs ls hP hD hS hl)
theorem zR_mminl (C : zC x g own cc ret f) {idx : Nat} {a b : Int64} (K : zKm own idx Lib.MathLoose.min_long.x Lib.MathLoose.min_long.code 4 (some .long)) (d : zD cc pc (.invokestatic idx) 3 pc') (hf : 1 ≤ f) (hcat : (st.map fun v => v.category).sum ≤ 8) (hr1 : n.1 ≤ zmc x) (hr2 : n.2 ≤ zms x) (k : zR x g post n pc' lv (.long (if b < a then b else a) :: st) ws) : zR x g post n pc lv (.long b :: .long a :: st) ws := by
  obtain ⟨d, rfl⟩ := d
  obtain ⟨k1, k2, k3, k4⟩ := K
  have hR := C.2.2.2.2.1
  exact fun H locs ls hP hD hS hl => va_mmin_long C.1.1 C.1.2.1 (C.1.2.2.1.trans (zlv_size hl)) C.1.2.2.2 (C.2.1 _ k1) (C.2.1 _ k2) (C.2.1 _ k3) (C.2.1 _ k4) (by rw [hR]; exact hf) (by rw [hR]; show _ ≤ 36 * f; omega) (by rw [hR]; exact hr1) (by rw [hR]; exact hr2) d (k H locs ls hP hD hS hl)
theorem zR_mmini (C : zC x g own cc ret f) {idx : Nat} {a b : Int32} (K : zKm own idx Lib.Math.min.name Lib.Math.min.code 2 (some .int)) (d : zD cc pc (.invokestatic idx) 3 pc') (hf : 1 ≤ f) (hcat : (st.map fun v => v.category).sum ≤ 8) (hr1 : n.1 ≤ zmc x) (hr2 : n.2 ≤ zms x) (k : zR x g post n pc' lv (.int (if b < a then b else a) :: st) ws) : zR x g post n pc lv (.int b :: .int a :: st) ws := by
  obtain ⟨d, rfl⟩ := d
  obtain ⟨k1, k2, k3, k4⟩ := K
  have hR := C.2.2.2.2.1
  exact fun H locs ls hP hD hS hl => va_mmin C.1.1 C.1.2.1 (C.1.2.2.1.trans (zlv_size hl)) C.1.2.2.2 (C.2.1 _ k1) (C.2.1 _ k2) (C.2.1 _ k3) (C.2.1 _ k4) (by rw [hR]; exact hf) (by rw [hR]; show _ ≤ 36 * f; omega) (by rw [hR]; exact hr1) (by rw [hR]; exact hr2) d (k H locs ls hP hD hS hl)
end ZR2

