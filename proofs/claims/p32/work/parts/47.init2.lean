
/-! An array's content, changed where it is not seen; the history. -/
theorem zR_same {x : zX} {g : zG} {post : Option Value → va_W → Prop} {n : Nat × Nat} {pc : Nat} {lv : List (Nat × Value)} {st : List Value} {ws ws1 : va_W} (p : Nat) {a : Nat} {cA : ClassId} {u v : vp_A} (ha : ws[p]? = some (a, .inl (cA, u))) (he : vp_cell cA u = vp_cell cA v) (hw : ws.set p (a, .inl (cA, v)) = ws1) (k : zR x g post n pc lv st ws1) : zR x g post n pc lv st ws := by
  subst hw
  intro H locs ls hP hD hS hl
  refine k H locs ls (hP.set hD ha ?_ (fun _ _ => rfl)) (hD.set ha) hS hl
  show H[a]? = some (vp_cell cA v)
  rw [← he]
  exact hP p _ ha
theorem vp_refs {cA : ClassId} {N : Nat} {h k : Nat → Option Nat} (e : ∀ i, i < N → h i = k i) : vp_cell cA (N, .inr (.inr (.inr (.inr h)))) = vp_cell cA (N, .inr (.inr (.inr (.inr k)))) := by
  rw [vp_cell_q, vp_cell_q]
  unfold arrV
  congr 1
  apply congrArg
  funext j
  show va_rf (h j.val) = va_rf (k j.val)
  rw [e j.val j.isLt]
theorem zrep_last {W t : va_W} {x y : Nat × va_E} {p : Nat} (hp : p = W.length) : zrep (W ++ [x]) [p] [y] ++ t = W ++ (y :: t) := by
  subst hp
  show (W ++ [x]).set W.length y ++ t = _
  rw [List.set_append_right _ _ (Nat.le_refl _), Nat.sub_self, List.append_assoc]
  rfl
theorem zlast_get {W : va_W} {x : Nat × va_E} {p : Nat} (hp : p = W.length) : [p].map (fun i => (W ++ [x])[i]?) = [x].map some := by
  subst hp
  show [(W ++ [x])[W.length]?] = [some x]
  rw [List.getElem?_append_right (Nat.le_refl _), Nat.sub_self]
  rfl
def y_new : YD := (0, 0, fun _ => h_new)
