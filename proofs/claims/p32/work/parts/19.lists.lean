
def zfrom (a : Nat) : Nat → List Nat
  | 0 => []
  | n + 1 => a :: zfrom (a + 1) n
theorem zrep_mid : ∀ (B A C B' : va_W), B.length = B'.length → zrep (A ++ (B ++ C)) (zfrom A.length B.length) B' = A ++ (B' ++ C)
  | [], A, C, [], _ => rfl
  | [], A, C, _ :: _, h => by simp at h
  | _ :: _, A, C, [], h => by simp at h
  | b :: B, A, C, b' :: B', h => by
    show zrep ((A ++ (b :: B ++ C)).set A.length b') (zfrom (A.length + 1) B.length) B' = _
    have e : (A ++ (b :: B ++ C)).set A.length b' = (A ++ [b']) ++ (B ++ C) := by
      rw [List.set_append_right _ _ (Nat.le_refl _)]
      simp
    have l : A.length + 1 = (A ++ [b']).length := by simp
    rw [e, l, zrep_mid B (A ++ [b']) C B' (by simpa using h)]
    simp
theorem zget_mid : ∀ (B A C : va_W), (zfrom A.length B.length).map (fun i => (A ++ (B ++ C))[i]?) = B.map some
  | [], A, C => rfl
  | b :: B, A, C => by
    show (A ++ (b :: B ++ C))[A.length]? :: (zfrom (A.length + 1) B.length).map (fun i => (A ++ (b :: B ++ C))[i]?) = some b :: B.map some
    have l : A.length + 1 = (A ++ [b]).length := by simp
    have e : A ++ (b :: B ++ C) = (A ++ [b]) ++ (B ++ C) := by simp
    rw [List.getElem?_append_right (Nat.le_refl _)]
    rw [l, e, zget_mid B (A ++ [b]) C]
    simp
theorem zrep_m {ws : va_W} {is : List Nat} {B' w2 : va_W} (A B C : va_W) (h1 : ws = A ++ (B ++ C)) (h2 : is = zfrom A.length B.length) (h3 : B.length = B'.length) (h4 : A ++ (B' ++ C) = w2) : zrep ws is B' = w2 := by
  subst h1 h2 h4; exact zrep_mid B A C B' h3
theorem zget_m {ws : va_W} {is : List Nat} (A B C : va_W) (h1 : ws = A ++ (B ++ C)) (h2 : is = zfrom A.length B.length) : is.map (fun i => ws[i]?) = B.map some := by
  subst h1 h2; exact zget_mid B A C
theorem zrep_a {ws w2 : va_W} {is : List Nat} (h2 : is = zfrom 0 ws.length) (h3 : ws.length = w2.length) : zrep ws is w2 = w2 :=
  zrep_m [] ws [] (by simp) h2 h3 (by simp)
theorem zget_a {ws : va_W} {is : List Nat} (h2 : is = zfrom 0 ws.length) : is.map (fun i => ws[i]?) = ws.map some :=
  zget_m [] ws [] (by simp) h2
