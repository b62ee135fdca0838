
/-! The reference's constructor: its rows by lists. -/
theorem zup_l (L : List Int32) (v : Int32) : upd (fun j => L.getD j 0) L.length v = fun j => (L ++ [v]).getD j 0 := by
  funext j
  show (if j = L.length then v else L.getD j 0) = (L ++ [v]).getD j 0
  by_cases h : j = L.length
  · subst h
    rw [if_pos rfl, List.getD_eq_getElem?_getD, List.getElem?_append_right (Nat.le_refl _), Nat.sub_self]; rfl
  · rw [if_neg h, List.getD_eq_getElem?_getD, List.getD_eq_getElem?_getD]
    by_cases h1 : j < L.length
    · rw [List.getElem?_append_left h1]
    · rw [List.getElem?_eq_none (by omega), List.getElem?_eq_none (by rw [List.length_append]; show L.length + 1 ≤ j; omega)]
theorem zup_ll (L : List Int64) (v : Int64) : vp_updL (fun j => L.getD j 0) L.length v = fun j => (L ++ [v]).getD j 0 := by
  funext j
  show (if j = L.length then v else L.getD j 0) = (L ++ [v]).getD j 0
  by_cases h : j = L.length
  · subst h
    rw [if_pos rfl, List.getD_eq_getElem?_getD, List.getElem?_append_right (Nat.le_refl _), Nat.sub_self]; rfl
  · rw [if_neg h, List.getD_eq_getElem?_getD, List.getD_eq_getElem?_getD]
    by_cases h1 : j < L.length
    · rw [List.getElem?_append_left h1]
    · rw [List.getElem?_eq_none (by omega), List.getElem?_eq_none (by rw [List.length_append]; show L.length + 1 ≤ j; omega)]
section ZL
variable {x : zX} {g : zG} {own : String} {cc : ByteArray} {ret : Option FieldType} {f : Nat} {post : Option Value → va_W → Prop} {n : Nat × Nat} {pc pc' : Nat} {lv : List (Nat × Value)} {st : List Value} {ws : va_W}
theorem zR_iastL (C : zC x g own cc ret f) {a N : Nat} (L : List Int32) {i v : Int32} {ws1 : va_W} (d : zD cc pc .iastore 1 pc') (p : Nat) (ha : ws[p]? = some (a, .inl (g.2.1 0, N, .inl (fun j => L.getD j 0)))) (hc : i.toNatClampNeg = L.length) (hi : vp_in i N) (hw : ws.set p (a, .inl (g.2.1 0, N, .inl (fun j => (L ++ [v]).getD j 0))) = ws1) (k : zR x g post n pc' lv st ws1) : zR x g post n pc lv (.int v :: .int i :: .ref a :: st) ws :=
  zR_iast C d p ha hi (by rw [hc, zup_l]; exact hw) k
theorem zR_lastL (C : zC x g own cc ret f) {a N : Nat} (L : List Int64) {i : Int32} {v : Int64} {ws1 : va_W} (d : zD cc pc .lastore 1 pc') (p : Nat) (ha : ws[p]? = some (a, .inl (g.2.1 1, N, .inr (.inl (fun j => L.getD j 0))))) (hc : i.toNatClampNeg = L.length) (hi : vp_in i N) (hw : ws.set p (a, .inl (g.2.1 1, N, .inr (.inl (fun j => (L ++ [v]).getD j 0)))) = ws1) (k : zR x g post n pc' lv st ws1) : zR x g post n pc lv (.long v :: .int i :: .ref a :: st) ws :=
  zR_last C d p ha hi (by rw [hc, zup_ll]; exact hw) k
end ZL
def r_new : Nat → Int64 := fun j => ([168, 25, 10, 10, 20, 48, 3, 1] : List Int64).getD j 0
def m_new : MD := (r_new, 0, fun _ => 0, 0, fun _ => 0, 0, -6, 0, fun _ => 0, fun _ => 0, 0, fun _ => 0, 0)
set_option maxRecDepth 100000 in
set_option maxHeartbeats 4000000 in
theorem c_X6_init {l : Launch} {g : zG} (b : Nat) : zM l g yX6_init cX6_init 1 none 2 7 4728 [.ref b] [(b, .inr (6, [.null, .int 0, .null, .int 0, .null, .int 0, .int 0, .int 0, .null, .null, .null, .int 0, .null, .int 0]))] (fun r w => r = none ∧ ∃ q : Nat → Nat, q 0 = b ∧ w = mW g q m_new) := by
  refine zM_of (by decide +kernel) (Nat.le_of_ble_eq_true rfl) (fun x hl hn hmc hms hin C => ?_)
  subst hl
  show zR x g _ (0, 0) 0 [(0, .ref b)] [] _
  refine zR_aload_n C eX6_init_0 0 rfl rfl ?_
  refine zR_objInit C (zT_in 797 (by decide +kernel) rfl) eX6_init_1 (by decide) (by decide) ?_
  refine zR_aload_n C eX6_init_4 0 rfl rfl ?_
  refine zR_sipush (v := 4540) C eX6_init_5 (by decide) ?_
  refine zR_newL (N := 4540) C eX6_init_8 (by decide) (by rfl) (by decide) (by rw [hmc]; exact Nat.le_of_ble_eq_true rfl) (by rw [hms]; exact Nat.le_of_ble_eq_true rfl) (fun a0 => ?_)
  refine zR_ws ([(b, .inr (6, [.null, .int 0, .null, .int 0, .null, .int 0, .int 0, .int 0, .null, .null, .null, .int 0, .null, .int 0])), (a0, .inl (g.2.1 1, 4540, .inr (.inl (fun j => ([] : List Int64).getD j 0))))]) rfl ?_
  refine zR_putf C hin qX6_7 eX6_init_10 rfl rfl 0 rfl (Nat.le_of_ble_eq_true rfl) (ws1 := [(b, .inr (6, [.ref a0, .int 0, .null, .int 0, .null, .int 0, .int 0, .int 0, .null, .null, .null, .int 0, .null, .int 0])), (a0, .inl (g.2.1 1, 4540, .inr (.inl (fun j => ([] : List Int64).getD j 0))))]) rfl ?_
  refine zR_aload_n C eX6_init_13 0 rfl rfl ?_
  refine zR_iconst (v := 2) C eX6_init_14 (by decide) ?_
  refine zR_newB (N := 2) C eX6_init_15 (by decide) (by rfl) (by decide) (by rw [hmc]; exact Nat.le_of_ble_eq_true rfl) (by rw [hms]; exact Nat.le_of_ble_eq_true rfl) (fun a1 => ?_)
  refine zR_ws ([(b, .inr (6, [.ref a0, .int 0, .null, .int 0, .null, .int 0, .int 0, .int 0, .null, .null, .null, .int 0, .null, .int 0])), (a0, .inl (g.2.1 1, 4540, .inr (.inl (fun j => ([] : List Int64).getD j 0)))), (a1, .inl (g.2.1 2, 2, .inl (fun _ => 0)))]) rfl ?_
  refine zR_putf C hin qX6_13 eX6_init_17 rfl rfl 0 rfl (Nat.le_of_ble_eq_true rfl) (ws1 := [(b, .inr (6, [.ref a0, .int 0, .ref a1, .int 0, .null, .int 0, .int 0, .int 0, .null, .null, .null, .int 0, .null, .int 0])), (a0, .inl (g.2.1 1, 4540, .inr (.inl (fun j => ([] : List Int64).getD j 0)))), (a1, .inl (g.2.1 2, 2, .inl (fun _ => 0)))]) rfl ?_
  refine zR_aload_n C eX6_init_20 0 rfl rfl ?_
  refine zR_bipush (v := 80) C eX6_init_21 (by decide) ?_
  refine zR_newI (N := 80) C eX6_init_23 (by decide) (by rfl) (by decide) (by rw [hmc]; exact Nat.le_of_ble_eq_true rfl) (by rw [hms]; exact Nat.le_of_ble_eq_true rfl) (fun a2 => ?_)
  refine zR_ws ([(b, .inr (6, [.ref a0, .int 0, .ref a1, .int 0, .null, .int 0, .int 0, .int 0, .null, .null, .null, .int 0, .null, .int 0])), (a0, .inl (g.2.1 1, 4540, .inr (.inl (fun j => ([] : List Int64).getD j 0)))), (a1, .inl (g.2.1 2, 2, .inl (fun _ => 0))), (a2, .inl (g.2.1 0, 80, .inl (fun _ => 0)))]) rfl ?_
  refine zR_putf C hin qX6_17 eX6_init_25 rfl rfl 0 rfl (Nat.le_of_ble_eq_true rfl) (ws1 := [(b, .inr (6, [.ref a0, .int 0, .ref a1, .int 0, .ref a2, .int 0, .int 0, .int 0, .null, .null, .null, .int 0, .null, .int 0])), (a0, .inl (g.2.1 1, 4540, .inr (.inl (fun j => ([] : List Int64).getD j 0)))), (a1, .inl (g.2.1 2, 2, .inl (fun _ => 0))), (a2, .inl (g.2.1 0, 80, .inl (fun _ => 0)))]) rfl ?_
  refine zR_aload_n C eX6_init_28 0 rfl rfl ?_
  refine zR_bipush (v := -6) C eX6_init_29 (by decide) ?_
  refine zR_put C pX6_21 eX6_init_31 0 rfl (Nat.le_of_ble_eq_true rfl) (ws1 := [(b, .inr (6, [.ref a0, .int 0, .ref a1, .int 0, .ref a2, .int 0, .int (-6), .int 0, .null, .null, .null, .int 0, .null, .int 0])), (a0, .inl (g.2.1 1, 4540, .inr (.inl (fun j => ([] : List Int64).getD j 0)))), (a1, .inl (g.2.1 2, 2, .inl (fun _ => 0))), (a2, .inl (g.2.1 0, 80, .inl (fun _ => 0)))]) rfl ?_
  refine zR_aload_n C eX6_init_34 0 rfl rfl ?_
  refine zR_bipush (v := 30) C eX6_init_35 (by decide) ?_
  refine zR_newB (N := 30) C eX6_init_37 (by decide) (by rfl) (by decide) (by rw [hmc]; exact Nat.le_of_ble_eq_true rfl) (by rw [hms]; exact Nat.le_of_ble_eq_true rfl) (fun a3 => ?_)
  refine zR_ws ([(b, .inr (6, [.ref a0, .int 0, .ref a1, .int 0, .ref a2, .int 0, .int (-6), .int 0, .null, .null, .null, .int 0, .null, .int 0])), (a0, .inl (g.2.1 1, 4540, .inr (.inl (fun j => ([] : List Int64).getD j 0)))), (a1, .inl (g.2.1 2, 2, .inl (fun _ => 0))), (a2, .inl (g.2.1 0, 80, .inl (fun _ => 0))), (a3, .inl (g.2.1 2, 30, .inl (fun _ => 0)))]) rfl ?_
  refine zR_putf C hin qX6_25 eX6_init_39 rfl rfl 0 rfl (Nat.le_of_ble_eq_true rfl) (ws1 := [(b, .inr (6, [.ref a0, .int 0, .ref a1, .int 0, .ref a2, .int 0, .int (-6), .int 0, .ref a3, .null, .null, .int 0, .null, .int 0])), (a0, .inl (g.2.1 1, 4540, .inr (.inl (fun j => ([] : List Int64).getD j 0)))), (a1, .inl (g.2.1 2, 2, .inl (fun _ => 0))), (a2, .inl (g.2.1 0, 80, .inl (fun _ => 0))), (a3, .inl (g.2.1 2, 30, .inl (fun _ => 0)))]) rfl ?_
  refine zR_aload_n C eX6_init_42 0 rfl rfl ?_
  refine zR_bipush (v := 30) C eX6_init_43 (by decide) ?_
  refine zR_newB (N := 30) C eX6_init_45 (by decide) (by rfl) (by decide) (by rw [hmc]; exact Nat.le_of_ble_eq_true rfl) (by rw [hms]; exact Nat.le_of_ble_eq_true rfl) (fun a4 => ?_)
  refine zR_ws ([(b, .inr (6, [.ref a0, .int 0, .ref a1, .int 0, .ref a2, .int 0, .int (-6), .int 0, .ref a3, .null, .null, .int 0, .null, .int 0])), (a0, .inl (g.2.1 1, 4540, .inr (.inl (fun j => ([] : List Int64).getD j 0)))), (a1, .inl (g.2.1 2, 2, .inl (fun _ => 0))), (a2, .inl (g.2.1 0, 80, .inl (fun _ => 0))), (a3, .inl (g.2.1 2, 30, .inl (fun _ => 0))), (a4, .inl (g.2.1 2, 30, .inl (fun _ => 0)))]) rfl ?_
  refine zR_putf C hin qX6_28 eX6_init_47 rfl rfl 0 rfl (Nat.le_of_ble_eq_true rfl) (ws1 := [(b, .inr (6, [.ref a0, .int 0, .ref a1, .int 0, .ref a2, .int 0, .int (-6), .int 0, .ref a3, .ref a4, .null, .int 0, .null, .int 0])), (a0, .inl (g.2.1 1, 4540, .inr (.inl (fun j => ([] : List Int64).getD j 0)))), (a1, .inl (g.2.1 2, 2, .inl (fun _ => 0))), (a2, .inl (g.2.1 0, 80, .inl (fun _ => 0))), (a3, .inl (g.2.1 2, 30, .inl (fun _ => 0))), (a4, .inl (g.2.1 2, 30, .inl (fun _ => 0)))]) rfl ?_
  refine zR_aload_n C eX6_init_50 0 rfl rfl ?_
  refine zR_bipush (v := 42) C eX6_init_51 (by decide) ?_
  refine zR_newI (N := 42) C eX6_init_53 (by decide) (by rfl) (by decide) (by rw [hmc]; exact Nat.le_of_ble_eq_true rfl) (by rw [hms]; exact Nat.le_of_ble_eq_true rfl) (fun a5 => ?_)
  refine zR_ws ([(b, .inr (6, [.ref a0, .int 0, .ref a1, .int 0, .ref a2, .int 0, .int (-6), .int 0, .ref a3, .ref a4, .null, .int 0, .null, .int 0])), (a0, .inl (g.2.1 1, 4540, .inr (.inl (fun j => ([] : List Int64).getD j 0)))), (a1, .inl (g.2.1 2, 2, .inl (fun _ => 0))), (a2, .inl (g.2.1 0, 80, .inl (fun _ => 0))), (a3, .inl (g.2.1 2, 30, .inl (fun _ => 0))), (a4, .inl (g.2.1 2, 30, .inl (fun _ => 0))), (a5, .inl (g.2.1 0, 42, .inl (fun j => ([] : List Int32).getD j 0)))]) rfl ?_
  refine zR_dup C eX6_init_55 rfl ?_
  refine zR_iconst (v := 0) C eX6_init_56 (by decide) ?_
  refine zR_iconst (v := 1) C eX6_init_57 (by decide) ?_
  refine zR_iastL C [] eX6_init_58 6 rfl (by decide) (by unfold vp_in; decide) (ws1 := [(b, .inr (6, [.ref a0, .int 0, .ref a1, .int 0, .ref a2, .int 0, .int (-6), .int 0, .ref a3, .ref a4, .null, .int 0, .null, .int 0])), (a0, .inl (g.2.1 1, 4540, .inr (.inl (fun j => ([] : List Int64).getD j 0)))), (a1, .inl (g.2.1 2, 2, .inl (fun _ => 0))), (a2, .inl (g.2.1 0, 80, .inl (fun _ => 0))), (a3, .inl (g.2.1 2, 30, .inl (fun _ => 0))), (a4, .inl (g.2.1 2, 30, .inl (fun _ => 0))), (a5, .inl (g.2.1 0, 42, .inl (fun j => ([1] : List Int32).getD j 0)))]) rfl ?_
  refine zR_dup C eX6_init_59 rfl ?_
  refine zR_iconst (v := 1) C eX6_init_60 (by decide) ?_
  refine zR_bipush (v := 42) C eX6_init_61 (by decide) ?_
  refine zR_iastL C [1] eX6_init_63 6 rfl (by decide) (by unfold vp_in; decide) (ws1 := [(b, .inr (6, [.ref a0, .int 0, .ref a1, .int 0, .ref a2, .int 0, .int (-6), .int 0, .ref a3, .ref a4, .null, .int 0, .null, .int 0])), (a0, .inl (g.2.1 1, 4540, .inr (.inl (fun j => ([] : List Int64).getD j 0)))), (a1, .inl (g.2.1 2, 2, .inl (fun _ => 0))), (a2, .inl (g.2.1 0, 80, .inl (fun _ => 0))), (a3, .inl (g.2.1 2, 30, .inl (fun _ => 0))), (a4, .inl (g.2.1 2, 30, .inl (fun _ => 0))), (a5, .inl (g.2.1 0, 42, .inl (fun j => ([1, 42] : List Int32).getD j 0)))]) rfl ?_
  refine zR_dup C eX6_init_64 rfl ?_
  refine zR_iconst (v := 2) C eX6_init_65 (by decide) ?_
  refine zR_iconst (v := 3) C eX6_init_66 (by decide) ?_
  refine zR_iastL C [1, 42] eX6_init_67 6 rfl (by decide) (by unfold vp_in; decide) (ws1 := [(b, .inr (6, [.ref a0, .int 0, .ref a1, .int 0, .ref a2, .int 0, .int (-6), .int 0, .ref a3, .ref a4, .null, .int 0, .null, .int 0])), (a0, .inl (g.2.1 1, 4540, .inr (.inl (fun j => ([] : List Int64).getD j 0)))), (a1, .inl (g.2.1 2, 2, .inl (fun _ => 0))), (a2, .inl (g.2.1 0, 80, .inl (fun _ => 0))), (a3, .inl (g.2.1 2, 30, .inl (fun _ => 0))), (a4, .inl (g.2.1 2, 30, .inl (fun _ => 0))), (a5, .inl (g.2.1 0, 42, .inl (fun j => ([1, 42, 3] : List Int32).getD j 0)))]) rfl ?_
  refine zR_dup C eX6_init_68 rfl ?_
  refine zR_iconst (v := 3) C eX6_init_69 (by decide) ?_
  refine zR_bipush (v := 37) C eX6_init_70 (by decide) ?_
  refine zR_iastL C [1, 42, 3] eX6_init_72 6 rfl (by decide) (by unfold vp_in; decide) (ws1 := [(b, .inr (6, [.ref a0, .int 0, .ref a1, .int 0, .ref a2, .int 0, .int (-6), .int 0, .ref a3, .ref a4, .null, .int 0, .null, .int 0])), (a0, .inl (g.2.1 1, 4540, .inr (.inl (fun j => ([] : List Int64).getD j 0)))), (a1, .inl (g.2.1 2, 2, .inl (fun _ => 0))), (a2, .inl (g.2.1 0, 80, .inl (fun _ => 0))), (a3, .inl (g.2.1 2, 30, .inl (fun _ => 0))), (a4, .inl (g.2.1 2, 30, .inl (fun _ => 0))), (a5, .inl (g.2.1 0, 42, .inl (fun j => ([1, 42, 3, 37] : List Int32).getD j 0)))]) rfl ?_
  refine zR_dup C eX6_init_73 rfl ?_
  refine zR_iconst (v := 4) C eX6_init_74 (by decide) ?_
  refine zR_iconst (v := 3) C eX6_init_75 (by decide) ?_
  refine zR_iastL C [1, 42, 3, 37] eX6_init_76 6 rfl (by decide) (by unfold vp_in; decide) (ws1 := [(b, .inr (6, [.ref a0, .int 0, .ref a1, .int 0, .ref a2, .int 0, .int (-6), .int 0, .ref a3, .ref a4, .null, .int 0, .null, .int 0])), (a0, .inl (g.2.1 1, 4540, .inr (.inl (fun j => ([] : List Int64).getD j 0)))), (a1, .inl (g.2.1 2, 2, .inl (fun _ => 0))), (a2, .inl (g.2.1 0, 80, .inl (fun _ => 0))), (a3, .inl (g.2.1 2, 30, .inl (fun _ => 0))), (a4, .inl (g.2.1 2, 30, .inl (fun _ => 0))), (a5, .inl (g.2.1 0, 42, .inl (fun j => ([1, 42, 3, 37, 3] : List Int32).getD j 0)))]) rfl ?_
  refine zR_dup C eX6_init_77 rfl ?_
  refine zR_iconst (v := 5) C eX6_init_78 (by decide) ?_
  refine zR_iconst (v := 0) C eX6_init_79 (by decide) ?_
  refine zR_iastL C [1, 42, 3, 37, 3] eX6_init_80 6 rfl (by decide) (by unfold vp_in; decide) (ws1 := [(b, .inr (6, [.ref a0, .int 0, .ref a1, .int 0, .ref a2, .int 0, .int (-6), .int 0, .ref a3, .ref a4, .null, .int 0, .null, .int 0])), (a0, .inl (g.2.1 1, 4540, .inr (.inl (fun j => ([] : List Int64).getD j 0)))), (a1, .inl (g.2.1 2, 2, .inl (fun _ => 0))), (a2, .inl (g.2.1 0, 80, .inl (fun _ => 0))), (a3, .inl (g.2.1 2, 30, .inl (fun _ => 0))), (a4, .inl (g.2.1 2, 30, .inl (fun _ => 0))), (a5, .inl (g.2.1 0, 42, .inl (fun j => ([1, 42, 3, 37, 3, 0] : List Int32).getD j 0)))]) rfl ?_
  refine zR_dup C eX6_init_81 rfl ?_
  refine zR_bipush (v := 6) C eX6_init_82 (by decide) ?_
  refine zR_iconst (v := 0) C eX6_init_84 (by decide) ?_
  refine zR_iastL C [1, 42, 3, 37, 3, 0] eX6_init_85 6 rfl (by decide) (by unfold vp_in; decide) (ws1 := [(b, .inr (6, [.ref a0, .int 0, .ref a1, .int 0, .ref a2, .int 0, .int (-6), .int 0, .ref a3, .ref a4, .null, .int 0, .null, .int 0])), (a0, .inl (g.2.1 1, 4540, .inr (.inl (fun j => ([] : List Int64).getD j 0)))), (a1, .inl (g.2.1 2, 2, .inl (fun _ => 0))), (a2, .inl (g.2.1 0, 80, .inl (fun _ => 0))), (a3, .inl (g.2.1 2, 30, .inl (fun _ => 0))), (a4, .inl (g.2.1 2, 30, .inl (fun _ => 0))), (a5, .inl (g.2.1 0, 42, .inl (fun j => ([1, 42, 3, 37, 3, 0, 0] : List Int32).getD j 0)))]) rfl ?_
  refine zR_dup C eX6_init_86 rfl ?_
  refine zR_bipush (v := 7) C eX6_init_87 (by decide) ?_
  refine zR_iconst (v := 1) C eX6_init_89 (by decide) ?_
  refine zR_iastL C [1, 42, 3, 37, 3, 0, 0] eX6_init_90 6 rfl (by decide) (by unfold vp_in; decide) (ws1 := [(b, .inr (6, [.ref a0, .int 0, .ref a1, .int 0, .ref a2, .int 0, .int (-6), .int 0, .ref a3, .ref a4, .null, .int 0, .null, .int 0])), (a0, .inl (g.2.1 1, 4540, .inr (.inl (fun j => ([] : List Int64).getD j 0)))), (a1, .inl (g.2.1 2, 2, .inl (fun _ => 0))), (a2, .inl (g.2.1 0, 80, .inl (fun _ => 0))), (a3, .inl (g.2.1 2, 30, .inl (fun _ => 0))), (a4, .inl (g.2.1 2, 30, .inl (fun _ => 0))), (a5, .inl (g.2.1 0, 42, .inl (fun j => ([1, 42, 3, 37, 3, 0, 0, 1] : List Int32).getD j 0)))]) rfl ?_
  refine zR_dup C eX6_init_91 rfl ?_
  refine zR_bipush (v := 8) C eX6_init_92 (by decide) ?_
  refine zR_bipush (v := 42) C eX6_init_94 (by decide) ?_
  refine zR_iastL C [1, 42, 3, 37, 3, 0, 0, 1] eX6_init_96 6 rfl (by decide) (by unfold vp_in; decide) (ws1 := [(b, .inr (6, [.ref a0, .int 0, .ref a1, .int 0, .ref a2, .int 0, .int (-6), .int 0, .ref a3, .ref a4, .null, .int 0, .null, .int 0])), (a0, .inl (g.2.1 1, 4540, .inr (.inl (fun j => ([] : List Int64).getD j 0)))), (a1, .inl (g.2.1 2, 2, .inl (fun _ => 0))), (a2, .inl (g.2.1 0, 80, .inl (fun _ => 0))), (a3, .inl (g.2.1 2, 30, .inl (fun _ => 0))), (a4, .inl (g.2.1 2, 30, .inl (fun _ => 0))), (a5, .inl (g.2.1 0, 42, .inl (fun j => ([1, 42, 3, 37, 3, 0, 0, 1, 42] : List Int32).getD j 0)))]) rfl ?_
  refine zR_dup C eX6_init_97 rfl ?_
  refine zR_bipush (v := 9) C eX6_init_98 (by decide) ?_
  refine zR_iconst (v := 3) C eX6_init_100 (by decide) ?_
  refine zR_iastL C [1, 42, 3, 37, 3, 0, 0, 1, 42] eX6_init_101 6 rfl (by decide) (by unfold vp_in; decide) (ws1 := [(b, .inr (6, [.ref a0, .int 0, .ref a1, .int 0, .ref a2, .int 0, .int (-6), .int 0, .ref a3, .ref a4, .null, .int 0, .null, .int 0])), (a0, .inl (g.2.1 1, 4540, .inr (.inl (fun j => ([] : List Int64).getD j 0)))), (a1, .inl (g.2.1 2, 2, .inl (fun _ => 0))), (a2, .inl (g.2.1 0, 80, .inl (fun _ => 0))), (a3, .inl (g.2.1 2, 30, .inl (fun _ => 0))), (a4, .inl (g.2.1 2, 30, .inl (fun _ => 0))), (a5, .inl (g.2.1 0, 42, .inl (fun j => ([1, 42, 3, 37, 3, 0, 0, 1, 42, 3] : List Int32).getD j 0)))]) rfl ?_
  refine zR_dup C eX6_init_102 rfl ?_
  refine zR_bipush (v := 10) C eX6_init_103 (by decide) ?_
  refine zR_iconst (v := 0) C eX6_init_105 (by decide) ?_
  refine zR_iastL C [1, 42, 3, 37, 3, 0, 0, 1, 42, 3] eX6_init_106 6 rfl (by decide) (by unfold vp_in; decide) (ws1 := [(b, .inr (6, [.ref a0, .int 0, .ref a1, .int 0, .ref a2, .int 0, .int (-6), .int 0, .ref a3, .ref a4, .null, .int 0, .null, .int 0])), (a0, .inl (g.2.1 1, 4540, .inr (.inl (fun j => ([] : List Int64).getD j 0)))), (a1, .inl (g.2.1 2, 2, .inl (fun _ => 0))), (a2, .inl (g.2.1 0, 80, .inl (fun _ => 0))), (a3, .inl (g.2.1 2, 30, .inl (fun _ => 0))), (a4, .inl (g.2.1 2, 30, .inl (fun _ => 0))), (a5, .inl (g.2.1 0, 42, .inl (fun j => ([1, 42, 3, 37, 3, 0, 0, 1, 42, 3, 0] : List Int32).getD j 0)))]) rfl ?_
  refine zR_dup C eX6_init_107 rfl ?_
  refine zR_bipush (v := 11) C eX6_init_108 (by decide) ?_
  refine zR_iconst (v := 0) C eX6_init_110 (by decide) ?_
  refine zR_iastL C [1, 42, 3, 37, 3, 0, 0, 1, 42, 3, 0] eX6_init_111 6 rfl (by decide) (by unfold vp_in; decide) (ws1 := [(b, .inr (6, [.ref a0, .int 0, .ref a1, .int 0, .ref a2, .int 0, .int (-6), .int 0, .ref a3, .ref a4, .null, .int 0, .null, .int 0])), (a0, .inl (g.2.1 1, 4540, .inr (.inl (fun j => ([] : List Int64).getD j 0)))), (a1, .inl (g.2.1 2, 2, .inl (fun _ => 0))), (a2, .inl (g.2.1 0, 80, .inl (fun _ => 0))), (a3, .inl (g.2.1 2, 30, .inl (fun _ => 0))), (a4, .inl (g.2.1 2, 30, .inl (fun _ => 0))), (a5, .inl (g.2.1 0, 42, .inl (fun j => ([1, 42, 3, 37, 3, 0, 0, 1, 42, 3, 0, 0] : List Int32).getD j 0)))]) rfl ?_
  refine zR_dup C eX6_init_112 rfl ?_
  refine zR_bipush (v := 12) C eX6_init_113 (by decide) ?_
  refine zR_iconst (v := 0) C eX6_init_115 (by decide) ?_
  refine zR_iastL C [1, 42, 3, 37, 3, 0, 0, 1, 42, 3, 0, 0] eX6_init_116 6 rfl (by decide) (by unfold vp_in; decide) (ws1 := [(b, .inr (6, [.ref a0, .int 0, .ref a1, .int 0, .ref a2, .int 0, .int (-6), .int 0, .ref a3, .ref a4, .null, .int 0, .null, .int 0])), (a0, .inl (g.2.1 1, 4540, .inr (.inl (fun j => ([] : List Int64).getD j 0)))), (a1, .inl (g.2.1 2, 2, .inl (fun _ => 0))), (a2, .inl (g.2.1 0, 80, .inl (fun _ => 0))), (a3, .inl (g.2.1 2, 30, .inl (fun _ => 0))), (a4, .inl (g.2.1 2, 30, .inl (fun _ => 0))), (a5, .inl (g.2.1 0, 42, .inl (fun j => ([1, 42, 3, 37, 3, 0, 0, 1, 42, 3, 0, 0, 0] : List Int32).getD j 0)))]) rfl ?_
  refine zR_dup C eX6_init_117 rfl ?_
  refine zR_bipush (v := 13) C eX6_init_118 (by decide) ?_
  refine zR_iconst (v := 0) C eX6_init_120 (by decide) ?_
  refine zR_iastL C [1, 42, 3, 37, 3, 0, 0, 1, 42, 3, 0, 0, 0] eX6_init_121 6 rfl (by decide) (by unfold vp_in; decide) (ws1 := [(b, .inr (6, [.ref a0, .int 0, .ref a1, .int 0, .ref a2, .int 0, .int (-6), .int 0, .ref a3, .ref a4, .null, .int 0, .null, .int 0])), (a0, .inl (g.2.1 1, 4540, .inr (.inl (fun j => ([] : List Int64).getD j 0)))), (a1, .inl (g.2.1 2, 2, .inl (fun _ => 0))), (a2, .inl (g.2.1 0, 80, .inl (fun _ => 0))), (a3, .inl (g.2.1 2, 30, .inl (fun _ => 0))), (a4, .inl (g.2.1 2, 30, .inl (fun _ => 0))), (a5, .inl (g.2.1 0, 42, .inl (fun j => ([1, 42, 3, 37, 3, 0, 0, 1, 42, 3, 0, 0, 0, 0] : List Int32).getD j 0)))]) rfl ?_
  refine zR_dup C eX6_init_122 rfl ?_
  refine zR_bipush (v := 14) C eX6_init_123 (by decide) ?_
  refine zR_iconst (v := 1) C eX6_init_125 (by decide) ?_
  refine zR_iastL C [1, 42, 3, 37, 3, 0, 0, 1, 42, 3, 0, 0, 0, 0] eX6_init_126 6 rfl (by decide) (by unfold vp_in; decide) (ws1 := [(b, .inr (6, [.ref a0, .int 0, .ref a1, .int 0, .ref a2, .int 0, .int (-6), .int 0, .ref a3, .ref a4, .null, .int 0, .null, .int 0])), (a0, .inl (g.2.1 1, 4540, .inr (.inl (fun j => ([] : List Int64).getD j 0)))), (a1, .inl (g.2.1 2, 2, .inl (fun _ => 0))), (a2, .inl (g.2.1 0, 80, .inl (fun _ => 0))), (a3, .inl (g.2.1 2, 30, .inl (fun _ => 0))), (a4, .inl (g.2.1 2, 30, .inl (fun _ => 0))), (a5, .inl (g.2.1 0, 42, .inl (fun j => ([1, 42, 3, 37, 3, 0, 0, 1, 42, 3, 0, 0, 0, 0, 1] : List Int32).getD j 0)))]) rfl ?_
  refine zR_dup C eX6_init_127 rfl ?_
  refine zR_bipush (v := 15) C eX6_init_128 (by decide) ?_
  refine zR_bipush (v := 62) C eX6_init_130 (by decide) ?_
  refine zR_iastL C [1, 42, 3, 37, 3, 0, 0, 1, 42, 3, 0, 0, 0, 0, 1] eX6_init_132 6 rfl (by decide) (by unfold vp_in; decide) (ws1 := [(b, .inr (6, [.ref a0, .int 0, .ref a1, .int 0, .ref a2, .int 0, .int (-6), .int 0, .ref a3, .ref a4, .null, .int 0, .null, .int 0])), (a0, .inl (g.2.1 1, 4540, .inr (.inl (fun j => ([] : List Int64).getD j 0)))), (a1, .inl (g.2.1 2, 2, .inl (fun _ => 0))), (a2, .inl (g.2.1 0, 80, .inl (fun _ => 0))), (a3, .inl (g.2.1 2, 30, .inl (fun _ => 0))), (a4, .inl (g.2.1 2, 30, .inl (fun _ => 0))), (a5, .inl (g.2.1 0, 42, .inl (fun j => ([1, 42, 3, 37, 3, 0, 0, 1, 42, 3, 0, 0, 0, 0, 1, 62] : List Int32).getD j 0)))]) rfl ?_
  refine zR_dup C eX6_init_133 rfl ?_
  refine zR_bipush (v := 16) C eX6_init_134 (by decide) ?_
  refine zR_iconst (v := 1) C eX6_init_136 (by decide) ?_
  refine zR_iastL C [1, 42, 3, 37, 3, 0, 0, 1, 42, 3, 0, 0, 0, 0, 1, 62] eX6_init_137 6 rfl (by decide) (by unfold vp_in; decide) (ws1 := [(b, .inr (6, [.ref a0, .int 0, .ref a1, .int 0, .ref a2, .int 0, .int (-6), .int 0, .ref a3, .ref a4, .null, .int 0, .null, .int 0])), (a0, .inl (g.2.1 1, 4540, .inr (.inl (fun j => ([] : List Int64).getD j 0)))), (a1, .inl (g.2.1 2, 2, .inl (fun _ => 0))), (a2, .inl (g.2.1 0, 80, .inl (fun _ => 0))), (a3, .inl (g.2.1 2, 30, .inl (fun _ => 0))), (a4, .inl (g.2.1 2, 30, .inl (fun _ => 0))), (a5, .inl (g.2.1 0, 42, .inl (fun j => ([1, 42, 3, 37, 3, 0, 0, 1, 42, 3, 0, 0, 0, 0, 1, 62, 1] : List Int32).getD j 0)))]) rfl ?_
  refine zR_dup C eX6_init_138 rfl ?_
  refine zR_bipush (v := 17) C eX6_init_139 (by decide) ?_
  refine zR_bipush (v := 42) C eX6_init_141 (by decide) ?_
  refine zR_iastL C [1, 42, 3, 37, 3, 0, 0, 1, 42, 3, 0, 0, 0, 0, 1, 62, 1] eX6_init_143 6 rfl (by decide) (by unfold vp_in; decide) (ws1 := [(b, .inr (6, [.ref a0, .int 0, .ref a1, .int 0, .ref a2, .int 0, .int (-6), .int 0, .ref a3, .ref a4, .null, .int 0, .null, .int 0])), (a0, .inl (g.2.1 1, 4540, .inr (.inl (fun j => ([] : List Int64).getD j 0)))), (a1, .inl (g.2.1 2, 2, .inl (fun _ => 0))), (a2, .inl (g.2.1 0, 80, .inl (fun _ => 0))), (a3, .inl (g.2.1 2, 30, .inl (fun _ => 0))), (a4, .inl (g.2.1 2, 30, .inl (fun _ => 0))), (a5, .inl (g.2.1 0, 42, .inl (fun j => ([1, 42, 3, 37, 3, 0, 0, 1, 42, 3, 0, 0, 0, 0, 1, 62, 1, 42] : List Int32).getD j 0)))]) rfl ?_
  refine zR_dup C eX6_init_144 rfl ?_
  refine zR_bipush (v := 18) C eX6_init_145 (by decide) ?_
  refine zR_iconst (v := 3) C eX6_init_147 (by decide) ?_
  refine zR_iastL C [1, 42, 3, 37, 3, 0, 0, 1, 42, 3, 0, 0, 0, 0, 1, 62, 1, 42] eX6_init_148 6 rfl (by decide) (by unfold vp_in; decide) (ws1 := [(b, .inr (6, [.ref a0, .int 0, .ref a1, .int 0, .ref a2, .int 0, .int (-6), .int 0, .ref a3, .ref a4, .null, .int 0, .null, .int 0])), (a0, .inl (g.2.1 1, 4540, .inr (.inl (fun j => ([] : List Int64).getD j 0)))), (a1, .inl (g.2.1 2, 2, .inl (fun _ => 0))), (a2, .inl (g.2.1 0, 80, .inl (fun _ => 0))), (a3, .inl (g.2.1 2, 30, .inl (fun _ => 0))), (a4, .inl (g.2.1 2, 30, .inl (fun _ => 0))), (a5, .inl (g.2.1 0, 42, .inl (fun j => ([1, 42, 3, 37, 3, 0, 0, 1, 42, 3, 0, 0, 0, 0, 1, 62, 1, 42, 3] : List Int32).getD j 0)))]) rfl ?_
  refine zR_dup C eX6_init_149 rfl ?_
  refine zR_bipush (v := 19) C eX6_init_150 (by decide) ?_
  refine zR_bipush (v := 47) C eX6_init_152 (by decide) ?_
  refine zR_iastL C [1, 42, 3, 37, 3, 0, 0, 1, 42, 3, 0, 0, 0, 0, 1, 62, 1, 42, 3] eX6_init_154 6 rfl (by decide) (by unfold vp_in; decide) (ws1 := [(b, .inr (6, [.ref a0, .int 0, .ref a1, .int 0, .ref a2, .int 0, .int (-6), .int 0, .ref a3, .ref a4, .null, .int 0, .null, .int 0])), (a0, .inl (g.2.1 1, 4540, .inr (.inl (fun j => ([] : List Int64).getD j 0)))), (a1, .inl (g.2.1 2, 2, .inl (fun _ => 0))), (a2, .inl (g.2.1 0, 80, .inl (fun _ => 0))), (a3, .inl (g.2.1 2, 30, .inl (fun _ => 0))), (a4, .inl (g.2.1 2, 30, .inl (fun _ => 0))), (a5, .inl (g.2.1 0, 42, .inl (fun j => ([1, 42, 3, 37, 3, 0, 0, 1, 42, 3, 0, 0, 0, 0, 1, 62, 1, 42, 3, 47] : List Int32).getD j 0)))]) rfl ?_
  refine zR_dup C eX6_init_155 rfl ?_
  refine zR_bipush (v := 20) C eX6_init_156 (by decide) ?_
  refine zR_iconst (v := 2) C eX6_init_158 (by decide) ?_
  refine zR_iastL C [1, 42, 3, 37, 3, 0, 0, 1, 42, 3, 0, 0, 0, 0, 1, 62, 1, 42, 3, 47] eX6_init_159 6 rfl (by decide) (by unfold vp_in; decide) (ws1 := [(b, .inr (6, [.ref a0, .int 0, .ref a1, .int 0, .ref a2, .int 0, .int (-6), .int 0, .ref a3, .ref a4, .null, .int 0, .null, .int 0])), (a0, .inl (g.2.1 1, 4540, .inr (.inl (fun j => ([] : List Int64).getD j 0)))), (a1, .inl (g.2.1 2, 2, .inl (fun _ => 0))), (a2, .inl (g.2.1 0, 80, .inl (fun _ => 0))), (a3, .inl (g.2.1 2, 30, .inl (fun _ => 0))), (a4, .inl (g.2.1 2, 30, .inl (fun _ => 0))), (a5, .inl (g.2.1 0, 42, .inl (fun j => ([1, 42, 3, 37, 3, 0, 0, 1, 42, 3, 0, 0, 0, 0, 1, 62, 1, 42, 3, 47, 2] : List Int32).getD j 0)))]) rfl ?_
  refine zR_dup C eX6_init_160 rfl ?_
  refine zR_bipush (v := 21) C eX6_init_161 (by decide) ?_
  refine zR_iconst (v := 1) C eX6_init_163 (by decide) ?_
  refine zR_iastL C [1, 42, 3, 37, 3, 0, 0, 1, 42, 3, 0, 0, 0, 0, 1, 62, 1, 42, 3, 47, 2] eX6_init_164 6 rfl (by decide) (by unfold vp_in; decide) (ws1 := [(b, .inr (6, [.ref a0, .int 0, .ref a1, .int 0, .ref a2, .int 0, .int (-6), .int 0, .ref a3, .ref a4, .null, .int 0, .null, .int 0])), (a0, .inl (g.2.1 1, 4540, .inr (.inl (fun j => ([] : List Int64).getD j 0)))), (a1, .inl (g.2.1 2, 2, .inl (fun _ => 0))), (a2, .inl (g.2.1 0, 80, .inl (fun _ => 0))), (a3, .inl (g.2.1 2, 30, .inl (fun _ => 0))), (a4, .inl (g.2.1 2, 30, .inl (fun _ => 0))), (a5, .inl (g.2.1 0, 42, .inl (fun j => ([1, 42, 3, 37, 3, 0, 0, 1, 42, 3, 0, 0, 0, 0, 1, 62, 1, 42, 3, 47, 2, 1] : List Int32).getD j 0)))]) rfl ?_
  refine zR_dup C eX6_init_165 rfl ?_
  refine zR_bipush (v := 22) C eX6_init_166 (by decide) ?_
  refine zR_bipush (v := 64) C eX6_init_168 (by decide) ?_
  refine zR_iastL C [1, 42, 3, 37, 3, 0, 0, 1, 42, 3, 0, 0, 0, 0, 1, 62, 1, 42, 3, 47, 2, 1] eX6_init_170 6 rfl (by decide) (by unfold vp_in; decide) (ws1 := [(b, .inr (6, [.ref a0, .int 0, .ref a1, .int 0, .ref a2, .int 0, .int (-6), .int 0, .ref a3, .ref a4, .null, .int 0, .null, .int 0])), (a0, .inl (g.2.1 1, 4540, .inr (.inl (fun j => ([] : List Int64).getD j 0)))), (a1, .inl (g.2.1 2, 2, .inl (fun _ => 0))), (a2, .inl (g.2.1 0, 80, .inl (fun _ => 0))), (a3, .inl (g.2.1 2, 30, .inl (fun _ => 0))), (a4, .inl (g.2.1 2, 30, .inl (fun _ => 0))), (a5, .inl (g.2.1 0, 42, .inl (fun j => ([1, 42, 3, 37, 3, 0, 0, 1, 42, 3, 0, 0, 0, 0, 1, 62, 1, 42, 3, 47, 2, 1, 64] : List Int32).getD j 0)))]) rfl ?_
  refine zR_dup C eX6_init_171 rfl ?_
  refine zR_bipush (v := 23) C eX6_init_172 (by decide) ?_
  refine zR_iconst (v := 3) C eX6_init_174 (by decide) ?_
  refine zR_iastL C [1, 42, 3, 37, 3, 0, 0, 1, 42, 3, 0, 0, 0, 0, 1, 62, 1, 42, 3, 47, 2, 1, 64] eX6_init_175 6 rfl (by decide) (by unfold vp_in; decide) (ws1 := [(b, .inr (6, [.ref a0, .int 0, .ref a1, .int 0, .ref a2, .int 0, .int (-6), .int 0, .ref a3, .ref a4, .null, .int 0, .null, .int 0])), (a0, .inl (g.2.1 1, 4540, .inr (.inl (fun j => ([] : List Int64).getD j 0)))), (a1, .inl (g.2.1 2, 2, .inl (fun _ => 0))), (a2, .inl (g.2.1 0, 80, .inl (fun _ => 0))), (a3, .inl (g.2.1 2, 30, .inl (fun _ => 0))), (a4, .inl (g.2.1 2, 30, .inl (fun _ => 0))), (a5, .inl (g.2.1 0, 42, .inl (fun j => ([1, 42, 3, 37, 3, 0, 0, 1, 42, 3, 0, 0, 0, 0, 1, 62, 1, 42, 3, 47, 2, 1, 64, 3] : List Int32).getD j 0)))]) rfl ?_
  refine zR_dup C eX6_init_176 rfl ?_
  refine zR_bipush (v := 24) C eX6_init_177 (by decide) ?_
  refine zR_bipush (v := 42) C eX6_init_179 (by decide) ?_
  refine zR_iastL C [1, 42, 3, 37, 3, 0, 0, 1, 42, 3, 0, 0, 0, 0, 1, 62, 1, 42, 3, 47, 2, 1, 64, 3] eX6_init_181 6 rfl (by decide) (by unfold vp_in; decide) (ws1 := [(b, .inr (6, [.ref a0, .int 0, .ref a1, .int 0, .ref a2, .int 0, .int (-6), .int 0, .ref a3, .ref a4, .null, .int 0, .null, .int 0])), (a0, .inl (g.2.1 1, 4540, .inr (.inl (fun j => ([] : List Int64).getD j 0)))), (a1, .inl (g.2.1 2, 2, .inl (fun _ => 0))), (a2, .inl (g.2.1 0, 80, .inl (fun _ => 0))), (a3, .inl (g.2.1 2, 30, .inl (fun _ => 0))), (a4, .inl (g.2.1 2, 30, .inl (fun _ => 0))), (a5, .inl (g.2.1 0, 42, .inl (fun j => ([1, 42, 3, 37, 3, 0, 0, 1, 42, 3, 0, 0, 0, 0, 1, 62, 1, 42, 3, 47, 2, 1, 64, 3, 42] : List Int32).getD j 0)))]) rfl ?_
  refine zR_dup C eX6_init_182 rfl ?_
  refine zR_bipush (v := 25) C eX6_init_183 (by decide) ?_
  refine zR_iconst (v := 3) C eX6_init_185 (by decide) ?_
  refine zR_iastL C [1, 42, 3, 37, 3, 0, 0, 1, 42, 3, 0, 0, 0, 0, 1, 62, 1, 42, 3, 47, 2, 1, 64, 3, 42] eX6_init_186 6 rfl (by decide) (by unfold vp_in; decide) (ws1 := [(b, .inr (6, [.ref a0, .int 0, .ref a1, .int 0, .ref a2, .int 0, .int (-6), .int 0, .ref a3, .ref a4, .null, .int 0, .null, .int 0])), (a0, .inl (g.2.1 1, 4540, .inr (.inl (fun j => ([] : List Int64).getD j 0)))), (a1, .inl (g.2.1 2, 2, .inl (fun _ => 0))), (a2, .inl (g.2.1 0, 80, .inl (fun _ => 0))), (a3, .inl (g.2.1 2, 30, .inl (fun _ => 0))), (a4, .inl (g.2.1 2, 30, .inl (fun _ => 0))), (a5, .inl (g.2.1 0, 42, .inl (fun j => ([1, 42, 3, 37, 3, 0, 0, 1, 42, 3, 0, 0, 0, 0, 1, 62, 1, 42, 3, 47, 2, 1, 64, 3, 42, 3] : List Int32).getD j 0)))]) rfl ?_
  refine zR_dup C eX6_init_187 rfl ?_
  refine zR_bipush (v := 26) C eX6_init_188 (by decide) ?_
  refine zR_bipush (v := 94) C eX6_init_190 (by decide) ?_
  refine zR_iastL C [1, 42, 3, 37, 3, 0, 0, 1, 42, 3, 0, 0, 0, 0, 1, 62, 1, 42, 3, 47, 2, 1, 64, 3, 42, 3] eX6_init_192 6 rfl (by decide) (by unfold vp_in; decide) (ws1 := [(b, .inr (6, [.ref a0, .int 0, .ref a1, .int 0, .ref a2, .int 0, .int (-6), .int 0, .ref a3, .ref a4, .null, .int 0, .null, .int 0])), (a0, .inl (g.2.1 1, 4540, .inr (.inl (fun j => ([] : List Int64).getD j 0)))), (a1, .inl (g.2.1 2, 2, .inl (fun _ => 0))), (a2, .inl (g.2.1 0, 80, .inl (fun _ => 0))), (a3, .inl (g.2.1 2, 30, .inl (fun _ => 0))), (a4, .inl (g.2.1 2, 30, .inl (fun _ => 0))), (a5, .inl (g.2.1 0, 42, .inl (fun j => ([1, 42, 3, 37, 3, 0, 0, 1, 42, 3, 0, 0, 0, 0, 1, 62, 1, 42, 3, 47, 2, 1, 64, 3, 42, 3, 94] : List Int32).getD j 0)))]) rfl ?_
  refine zR_dup C eX6_init_193 rfl ?_
  refine zR_bipush (v := 27) C eX6_init_194 (by decide) ?_
  refine zR_iconst (v := 2) C eX6_init_196 (by decide) ?_
  refine zR_iastL C [1, 42, 3, 37, 3, 0, 0, 1, 42, 3, 0, 0, 0, 0, 1, 62, 1, 42, 3, 47, 2, 1, 64, 3, 42, 3, 94] eX6_init_197 6 rfl (by decide) (by unfold vp_in; decide) (ws1 := [(b, .inr (6, [.ref a0, .int 0, .ref a1, .int 0, .ref a2, .int 0, .int (-6), .int 0, .ref a3, .ref a4, .null, .int 0, .null, .int 0])), (a0, .inl (g.2.1 1, 4540, .inr (.inl (fun j => ([] : List Int64).getD j 0)))), (a1, .inl (g.2.1 2, 2, .inl (fun _ => 0))), (a2, .inl (g.2.1 0, 80, .inl (fun _ => 0))), (a3, .inl (g.2.1 2, 30, .inl (fun _ => 0))), (a4, .inl (g.2.1 2, 30, .inl (fun _ => 0))), (a5, .inl (g.2.1 0, 42, .inl (fun j => ([1, 42, 3, 37, 3, 0, 0, 1, 42, 3, 0, 0, 0, 0, 1, 62, 1, 42, 3, 47, 2, 1, 64, 3, 42, 3, 94, 2] : List Int32).getD j 0)))]) rfl ?_
  refine zR_dup C eX6_init_198 rfl ?_
  refine zR_bipush (v := 28) C eX6_init_199 (by decide) ?_
  refine zR_iconst (v := 3) C eX6_init_201 (by decide) ?_
  refine zR_iastL C [1, 42, 3, 37, 3, 0, 0, 1, 42, 3, 0, 0, 0, 0, 1, 62, 1, 42, 3, 47, 2, 1, 64, 3, 42, 3, 94, 2] eX6_init_202 6 rfl (by decide) (by unfold vp_in; decide) (ws1 := [(b, .inr (6, [.ref a0, .int 0, .ref a1, .int 0, .ref a2, .int 0, .int (-6), .int 0, .ref a3, .ref a4, .null, .int 0, .null, .int 0])), (a0, .inl (g.2.1 1, 4540, .inr (.inl (fun j => ([] : List Int64).getD j 0)))), (a1, .inl (g.2.1 2, 2, .inl (fun _ => 0))), (a2, .inl (g.2.1 0, 80, .inl (fun _ => 0))), (a3, .inl (g.2.1 2, 30, .inl (fun _ => 0))), (a4, .inl (g.2.1 2, 30, .inl (fun _ => 0))), (a5, .inl (g.2.1 0, 42, .inl (fun j => ([1, 42, 3, 37, 3, 0, 0, 1, 42, 3, 0, 0, 0, 0, 1, 62, 1, 42, 3, 47, 2, 1, 64, 3, 42, 3, 94, 2, 3] : List Int32).getD j 0)))]) rfl ?_
  refine zR_dup C eX6_init_203 rfl ?_
  refine zR_bipush (v := 29) C eX6_init_204 (by decide) ?_
  refine zR_iconst (v := 0) C eX6_init_206 (by decide) ?_
  refine zR_iastL C [1, 42, 3, 37, 3, 0, 0, 1, 42, 3, 0, 0, 0, 0, 1, 62, 1, 42, 3, 47, 2, 1, 64, 3, 42, 3, 94, 2, 3] eX6_init_207 6 rfl (by decide) (by unfold vp_in; decide) (ws1 := [(b, .inr (6, [.ref a0, .int 0, .ref a1, .int 0, .ref a2, .int 0, .int (-6), .int 0, .ref a3, .ref a4, .null, .int 0, .null, .int 0])), (a0, .inl (g.2.1 1, 4540, .inr (.inl (fun j => ([] : List Int64).getD j 0)))), (a1, .inl (g.2.1 2, 2, .inl (fun _ => 0))), (a2, .inl (g.2.1 0, 80, .inl (fun _ => 0))), (a3, .inl (g.2.1 2, 30, .inl (fun _ => 0))), (a4, .inl (g.2.1 2, 30, .inl (fun _ => 0))), (a5, .inl (g.2.1 0, 42, .inl (fun j => ([1, 42, 3, 37, 3, 0, 0, 1, 42, 3, 0, 0, 0, 0, 1, 62, 1, 42, 3, 47, 2, 1, 64, 3, 42, 3, 94, 2, 3, 0] : List Int32).getD j 0)))]) rfl ?_
  refine zR_dup C eX6_init_208 rfl ?_
  refine zR_bipush (v := 30) C eX6_init_209 (by decide) ?_
  refine zR_iconst (v := 0) C eX6_init_211 (by decide) ?_
  refine zR_iastL C [1, 42, 3, 37, 3, 0, 0, 1, 42, 3, 0, 0, 0, 0, 1, 62, 1, 42, 3, 47, 2, 1, 64, 3, 42, 3, 94, 2, 3, 0] eX6_init_212 6 rfl (by decide) (by unfold vp_in; decide) (ws1 := [(b, .inr (6, [.ref a0, .int 0, .ref a1, .int 0, .ref a2, .int 0, .int (-6), .int 0, .ref a3, .ref a4, .null, .int 0, .null, .int 0])), (a0, .inl (g.2.1 1, 4540, .inr (.inl (fun j => ([] : List Int64).getD j 0)))), (a1, .inl (g.2.1 2, 2, .inl (fun _ => 0))), (a2, .inl (g.2.1 0, 80, .inl (fun _ => 0))), (a3, .inl (g.2.1 2, 30, .inl (fun _ => 0))), (a4, .inl (g.2.1 2, 30, .inl (fun _ => 0))), (a5, .inl (g.2.1 0, 42, .inl (fun j => ([1, 42, 3, 37, 3, 0, 0, 1, 42, 3, 0, 0, 0, 0, 1, 62, 1, 42, 3, 47, 2, 1, 64, 3, 42, 3, 94, 2, 3, 0, 0] : List Int32).getD j 0)))]) rfl ?_
  refine zR_dup C eX6_init_213 rfl ?_
  refine zR_bipush (v := 31) C eX6_init_214 (by decide) ?_
  refine zR_iconst (v := 0) C eX6_init_216 (by decide) ?_
  refine zR_iastL C [1, 42, 3, 37, 3, 0, 0, 1, 42, 3, 0, 0, 0, 0, 1, 62, 1, 42, 3, 47, 2, 1, 64, 3, 42, 3, 94, 2, 3, 0, 0] eX6_init_217 6 rfl (by decide) (by unfold vp_in; decide) (ws1 := [(b, .inr (6, [.ref a0, .int 0, .ref a1, .int 0, .ref a2, .int 0, .int (-6), .int 0, .ref a3, .ref a4, .null, .int 0, .null, .int 0])), (a0, .inl (g.2.1 1, 4540, .inr (.inl (fun j => ([] : List Int64).getD j 0)))), (a1, .inl (g.2.1 2, 2, .inl (fun _ => 0))), (a2, .inl (g.2.1 0, 80, .inl (fun _ => 0))), (a3, .inl (g.2.1 2, 30, .inl (fun _ => 0))), (a4, .inl (g.2.1 2, 30, .inl (fun _ => 0))), (a5, .inl (g.2.1 0, 42, .inl (fun j => ([1, 42, 3, 37, 3, 0, 0, 1, 42, 3, 0, 0, 0, 0, 1, 62, 1, 42, 3, 47, 2, 1, 64, 3, 42, 3, 94, 2, 3, 0, 0, 0] : List Int32).getD j 0)))]) rfl ?_
  refine zR_dup C eX6_init_218 rfl ?_
  refine zR_bipush (v := 32) C eX6_init_219 (by decide) ?_
  refine zR_iconst (v := 0) C eX6_init_221 (by decide) ?_
  refine zR_iastL C [1, 42, 3, 37, 3, 0, 0, 1, 42, 3, 0, 0, 0, 0, 1, 62, 1, 42, 3, 47, 2, 1, 64, 3, 42, 3, 94, 2, 3, 0, 0, 0] eX6_init_222 6 rfl (by decide) (by unfold vp_in; decide) (ws1 := [(b, .inr (6, [.ref a0, .int 0, .ref a1, .int 0, .ref a2, .int 0, .int (-6), .int 0, .ref a3, .ref a4, .null, .int 0, .null, .int 0])), (a0, .inl (g.2.1 1, 4540, .inr (.inl (fun j => ([] : List Int64).getD j 0)))), (a1, .inl (g.2.1 2, 2, .inl (fun _ => 0))), (a2, .inl (g.2.1 0, 80, .inl (fun _ => 0))), (a3, .inl (g.2.1 2, 30, .inl (fun _ => 0))), (a4, .inl (g.2.1 2, 30, .inl (fun _ => 0))), (a5, .inl (g.2.1 0, 42, .inl (fun j => ([1, 42, 3, 37, 3, 0, 0, 1, 42, 3, 0, 0, 0, 0, 1, 62, 1, 42, 3, 47, 2, 1, 64, 3, 42, 3, 94, 2, 3, 0, 0, 0, 0] : List Int32).getD j 0)))]) rfl ?_
  refine zR_dup C eX6_init_223 rfl ?_
  refine zR_bipush (v := 33) C eX6_init_224 (by decide) ?_
  refine zR_iconst (v := 0) C eX6_init_226 (by decide) ?_
  refine zR_iastL C [1, 42, 3, 37, 3, 0, 0, 1, 42, 3, 0, 0, 0, 0, 1, 62, 1, 42, 3, 47, 2, 1, 64, 3, 42, 3, 94, 2, 3, 0, 0, 0, 0] eX6_init_227 6 rfl (by decide) (by unfold vp_in; decide) (ws1 := [(b, .inr (6, [.ref a0, .int 0, .ref a1, .int 0, .ref a2, .int 0, .int (-6), .int 0, .ref a3, .ref a4, .null, .int 0, .null, .int 0])), (a0, .inl (g.2.1 1, 4540, .inr (.inl (fun j => ([] : List Int64).getD j 0)))), (a1, .inl (g.2.1 2, 2, .inl (fun _ => 0))), (a2, .inl (g.2.1 0, 80, .inl (fun _ => 0))), (a3, .inl (g.2.1 2, 30, .inl (fun _ => 0))), (a4, .inl (g.2.1 2, 30, .inl (fun _ => 0))), (a5, .inl (g.2.1 0, 42, .inl (fun j => ([1, 42, 3, 37, 3, 0, 0, 1, 42, 3, 0, 0, 0, 0, 1, 62, 1, 42, 3, 47, 2, 1, 64, 3, 42, 3, 94, 2, 3, 0, 0, 0, 0, 0] : List Int32).getD j 0)))]) rfl ?_
  refine zR_dup C eX6_init_228 rfl ?_
  refine zR_bipush (v := 34) C eX6_init_229 (by decide) ?_
  refine zR_iconst (v := 0) C eX6_init_231 (by decide) ?_
  refine zR_iastL C [1, 42, 3, 37, 3, 0, 0, 1, 42, 3, 0, 0, 0, 0, 1, 62, 1, 42, 3, 47, 2, 1, 64, 3, 42, 3, 94, 2, 3, 0, 0, 0, 0, 0] eX6_init_232 6 rfl (by decide) (by unfold vp_in; decide) (ws1 := [(b, .inr (6, [.ref a0, .int 0, .ref a1, .int 0, .ref a2, .int 0, .int (-6), .int 0, .ref a3, .ref a4, .null, .int 0, .null, .int 0])), (a0, .inl (g.2.1 1, 4540, .inr (.inl (fun j => ([] : List Int64).getD j 0)))), (a1, .inl (g.2.1 2, 2, .inl (fun _ => 0))), (a2, .inl (g.2.1 0, 80, .inl (fun _ => 0))), (a3, .inl (g.2.1 2, 30, .inl (fun _ => 0))), (a4, .inl (g.2.1 2, 30, .inl (fun _ => 0))), (a5, .inl (g.2.1 0, 42, .inl (fun j => ([1, 42, 3, 37, 3, 0, 0, 1, 42, 3, 0, 0, 0, 0, 1, 62, 1, 42, 3, 47, 2, 1, 64, 3, 42, 3, 94, 2, 3, 0, 0, 0, 0, 0, 0] : List Int32).getD j 0)))]) rfl ?_
  refine zR_dup C eX6_init_233 rfl ?_
  refine zR_bipush (v := 35) C eX6_init_234 (by decide) ?_
  refine zR_iconst (v := 3) C eX6_init_236 (by decide) ?_
  refine zR_iastL C [1, 42, 3, 37, 3, 0, 0, 1, 42, 3, 0, 0, 0, 0, 1, 62, 1, 42, 3, 47, 2, 1, 64, 3, 42, 3, 94, 2, 3, 0, 0, 0, 0, 0, 0] eX6_init_237 6 rfl (by decide) (by unfold vp_in; decide) (ws1 := [(b, .inr (6, [.ref a0, .int 0, .ref a1, .int 0, .ref a2, .int 0, .int (-6), .int 0, .ref a3, .ref a4, .null, .int 0, .null, .int 0])), (a0, .inl (g.2.1 1, 4540, .inr (.inl (fun j => ([] : List Int64).getD j 0)))), (a1, .inl (g.2.1 2, 2, .inl (fun _ => 0))), (a2, .inl (g.2.1 0, 80, .inl (fun _ => 0))), (a3, .inl (g.2.1 2, 30, .inl (fun _ => 0))), (a4, .inl (g.2.1 2, 30, .inl (fun _ => 0))), (a5, .inl (g.2.1 0, 42, .inl (fun j => ([1, 42, 3, 37, 3, 0, 0, 1, 42, 3, 0, 0, 0, 0, 1, 62, 1, 42, 3, 47, 2, 1, 64, 3, 42, 3, 94, 2, 3, 0, 0, 0, 0, 0, 0, 3] : List Int32).getD j 0)))]) rfl ?_
  refine zR_dup C eX6_init_238 rfl ?_
  refine zR_bipush (v := 36) C eX6_init_239 (by decide) ?_
  refine zR_iconst (v := 0) C eX6_init_241 (by decide) ?_
  refine zR_iastL C [1, 42, 3, 37, 3, 0, 0, 1, 42, 3, 0, 0, 0, 0, 1, 62, 1, 42, 3, 47, 2, 1, 64, 3, 42, 3, 94, 2, 3, 0, 0, 0, 0, 0, 0, 3] eX6_init_242 6 rfl (by decide) (by unfold vp_in; decide) (ws1 := [(b, .inr (6, [.ref a0, .int 0, .ref a1, .int 0, .ref a2, .int 0, .int (-6), .int 0, .ref a3, .ref a4, .null, .int 0, .null, .int 0])), (a0, .inl (g.2.1 1, 4540, .inr (.inl (fun j => ([] : List Int64).getD j 0)))), (a1, .inl (g.2.1 2, 2, .inl (fun _ => 0))), (a2, .inl (g.2.1 0, 80, .inl (fun _ => 0))), (a3, .inl (g.2.1 2, 30, .inl (fun _ => 0))), (a4, .inl (g.2.1 2, 30, .inl (fun _ => 0))), (a5, .inl (g.2.1 0, 42, .inl (fun j => ([1, 42, 3, 37, 3, 0, 0, 1, 42, 3, 0, 0, 0, 0, 1, 62, 1, 42, 3, 47, 2, 1, 64, 3, 42, 3, 94, 2, 3, 0, 0, 0, 0, 0, 0, 3, 0] : List Int32).getD j 0)))]) rfl ?_
  refine zR_dup C eX6_init_243 rfl ?_
  refine zR_bipush (v := 37) C eX6_init_244 (by decide) ?_
  refine zR_iconst (v := 0) C eX6_init_246 (by decide) ?_
  refine zR_iastL C [1, 42, 3, 37, 3, 0, 0, 1, 42, 3, 0, 0, 0, 0, 1, 62, 1, 42, 3, 47, 2, 1, 64, 3, 42, 3, 94, 2, 3, 0, 0, 0, 0, 0, 0, 3, 0] eX6_init_247 6 rfl (by decide) (by unfold vp_in; decide) (ws1 := [(b, .inr (6, [.ref a0, .int 0, .ref a1, .int 0, .ref a2, .int 0, .int (-6), .int 0, .ref a3, .ref a4, .null, .int 0, .null, .int 0])), (a0, .inl (g.2.1 1, 4540, .inr (.inl (fun j => ([] : List Int64).getD j 0)))), (a1, .inl (g.2.1 2, 2, .inl (fun _ => 0))), (a2, .inl (g.2.1 0, 80, .inl (fun _ => 0))), (a3, .inl (g.2.1 2, 30, .inl (fun _ => 0))), (a4, .inl (g.2.1 2, 30, .inl (fun _ => 0))), (a5, .inl (g.2.1 0, 42, .inl (fun j => ([1, 42, 3, 37, 3, 0, 0, 1, 42, 3, 0, 0, 0, 0, 1, 62, 1, 42, 3, 47, 2, 1, 64, 3, 42, 3, 94, 2, 3, 0, 0, 0, 0, 0, 0, 3, 0, 0] : List Int32).getD j 0)))]) rfl ?_
  refine zR_dup C eX6_init_248 rfl ?_
  refine zR_bipush (v := 38) C eX6_init_249 (by decide) ?_
  refine zR_iconst (v := 0) C eX6_init_251 (by decide) ?_
  refine zR_iastL C [1, 42, 3, 37, 3, 0, 0, 1, 42, 3, 0, 0, 0, 0, 1, 62, 1, 42, 3, 47, 2, 1, 64, 3, 42, 3, 94, 2, 3, 0, 0, 0, 0, 0, 0, 3, 0, 0] eX6_init_252 6 rfl (by decide) (by unfold vp_in; decide) (ws1 := [(b, .inr (6, [.ref a0, .int 0, .ref a1, .int 0, .ref a2, .int 0, .int (-6), .int 0, .ref a3, .ref a4, .null, .int 0, .null, .int 0])), (a0, .inl (g.2.1 1, 4540, .inr (.inl (fun j => ([] : List Int64).getD j 0)))), (a1, .inl (g.2.1 2, 2, .inl (fun _ => 0))), (a2, .inl (g.2.1 0, 80, .inl (fun _ => 0))), (a3, .inl (g.2.1 2, 30, .inl (fun _ => 0))), (a4, .inl (g.2.1 2, 30, .inl (fun _ => 0))), (a5, .inl (g.2.1 0, 42, .inl (fun j => ([1, 42, 3, 37, 3, 0, 0, 1, 42, 3, 0, 0, 0, 0, 1, 62, 1, 42, 3, 47, 2, 1, 64, 3, 42, 3, 94, 2, 3, 0, 0, 0, 0, 0, 0, 3, 0, 0, 0] : List Int32).getD j 0)))]) rfl ?_
  refine zR_dup C eX6_init_253 rfl ?_
  refine zR_bipush (v := 39) C eX6_init_254 (by decide) ?_
  refine zR_iconst (v := 0) C eX6_init_256 (by decide) ?_
  refine zR_iastL C [1, 42, 3, 37, 3, 0, 0, 1, 42, 3, 0, 0, 0, 0, 1, 62, 1, 42, 3, 47, 2, 1, 64, 3, 42, 3, 94, 2, 3, 0, 0, 0, 0, 0, 0, 3, 0, 0, 0] eX6_init_257 6 rfl (by decide) (by unfold vp_in; decide) (ws1 := [(b, .inr (6, [.ref a0, .int 0, .ref a1, .int 0, .ref a2, .int 0, .int (-6), .int 0, .ref a3, .ref a4, .null, .int 0, .null, .int 0])), (a0, .inl (g.2.1 1, 4540, .inr (.inl (fun j => ([] : List Int64).getD j 0)))), (a1, .inl (g.2.1 2, 2, .inl (fun _ => 0))), (a2, .inl (g.2.1 0, 80, .inl (fun _ => 0))), (a3, .inl (g.2.1 2, 30, .inl (fun _ => 0))), (a4, .inl (g.2.1 2, 30, .inl (fun _ => 0))), (a5, .inl (g.2.1 0, 42, .inl (fun j => ([1, 42, 3, 37, 3, 0, 0, 1, 42, 3, 0, 0, 0, 0, 1, 62, 1, 42, 3, 47, 2, 1, 64, 3, 42, 3, 94, 2, 3, 0, 0, 0, 0, 0, 0, 3, 0, 0, 0, 0] : List Int32).getD j 0)))]) rfl ?_
  refine zR_dup C eX6_init_258 rfl ?_
  refine zR_bipush (v := 40) C eX6_init_259 (by decide) ?_
  refine zR_iconst (v := 0) C eX6_init_261 (by decide) ?_
  refine zR_iastL C [1, 42, 3, 37, 3, 0, 0, 1, 42, 3, 0, 0, 0, 0, 1, 62, 1, 42, 3, 47, 2, 1, 64, 3, 42, 3, 94, 2, 3, 0, 0, 0, 0, 0, 0, 3, 0, 0, 0, 0] eX6_init_262 6 rfl (by decide) (by unfold vp_in; decide) (ws1 := [(b, .inr (6, [.ref a0, .int 0, .ref a1, .int 0, .ref a2, .int 0, .int (-6), .int 0, .ref a3, .ref a4, .null, .int 0, .null, .int 0])), (a0, .inl (g.2.1 1, 4540, .inr (.inl (fun j => ([] : List Int64).getD j 0)))), (a1, .inl (g.2.1 2, 2, .inl (fun _ => 0))), (a2, .inl (g.2.1 0, 80, .inl (fun _ => 0))), (a3, .inl (g.2.1 2, 30, .inl (fun _ => 0))), (a4, .inl (g.2.1 2, 30, .inl (fun _ => 0))), (a5, .inl (g.2.1 0, 42, .inl (fun j => ([1, 42, 3, 37, 3, 0, 0, 1, 42, 3, 0, 0, 0, 0, 1, 62, 1, 42, 3, 47, 2, 1, 64, 3, 42, 3, 94, 2, 3, 0, 0, 0, 0, 0, 0, 3, 0, 0, 0, 0, 0] : List Int32).getD j 0)))]) rfl ?_
  refine zR_dup C eX6_init_263 rfl ?_
  refine zR_bipush (v := 41) C eX6_init_264 (by decide) ?_
  refine zR_iconst (v := 0) C eX6_init_266 (by decide) ?_
  refine zR_iastL C [1, 42, 3, 37, 3, 0, 0, 1, 42, 3, 0, 0, 0, 0, 1, 62, 1, 42, 3, 47, 2, 1, 64, 3, 42, 3, 94, 2, 3, 0, 0, 0, 0, 0, 0, 3, 0, 0, 0, 0, 0] eX6_init_267 6 rfl (by decide) (by unfold vp_in; decide) (ws1 := [(b, .inr (6, [.ref a0, .int 0, .ref a1, .int 0, .ref a2, .int 0, .int (-6), .int 0, .ref a3, .ref a4, .null, .int 0, .null, .int 0])), (a0, .inl (g.2.1 1, 4540, .inr (.inl (fun j => ([] : List Int64).getD j 0)))), (a1, .inl (g.2.1 2, 2, .inl (fun _ => 0))), (a2, .inl (g.2.1 0, 80, .inl (fun _ => 0))), (a3, .inl (g.2.1 2, 30, .inl (fun _ => 0))), (a4, .inl (g.2.1 2, 30, .inl (fun _ => 0))), (a5, .inl (g.2.1 0, 42, .inl (fun j => ([1, 42, 3, 37, 3, 0, 0, 1, 42, 3, 0, 0, 0, 0, 1, 62, 1, 42, 3, 47, 2, 1, 64, 3, 42, 3, 94, 2, 3, 0, 0, 0, 0, 0, 0, 3, 0, 0, 0, 0, 0, 0] : List Int32).getD j 0)))]) rfl ?_
  refine zR_putf C hin qX6_31 eX6_init_268 rfl rfl 0 rfl (Nat.le_of_ble_eq_true rfl) (ws1 := [(b, .inr (6, [.ref a0, .int 0, .ref a1, .int 0, .ref a2, .int 0, .int (-6), .int 0, .ref a3, .ref a4, .ref a5, .int 0, .null, .int 0])), (a0, .inl (g.2.1 1, 4540, .inr (.inl (fun j => ([] : List Int64).getD j 0)))), (a1, .inl (g.2.1 2, 2, .inl (fun _ => 0))), (a2, .inl (g.2.1 0, 80, .inl (fun _ => 0))), (a3, .inl (g.2.1 2, 30, .inl (fun _ => 0))), (a4, .inl (g.2.1 2, 30, .inl (fun _ => 0))), (a5, .inl (g.2.1 0, 42, .inl (fun j => ([1, 42, 3, 37, 3, 0, 0, 1, 42, 3, 0, 0, 0, 0, 1, 62, 1, 42, 3, 47, 2, 1, 64, 3, 42, 3, 94, 2, 3, 0, 0, 0, 0, 0, 0, 3, 0, 0, 0, 0, 0, 0] : List Int32).getD j 0)))]) rfl ?_
  refine zR_aload_n C eX6_init_271 0 rfl rfl ?_
  refine zR_iconst (v := 4) C eX6_init_272 (by decide) ?_
  refine zR_newI (N := 4) C eX6_init_273 (by decide) (by rfl) (by decide) (by rw [hmc]; exact Nat.le_of_ble_eq_true rfl) (by rw [hms]; exact Nat.le_of_ble_eq_true rfl) (fun a6 => ?_)
  refine zR_ws ([(b, .inr (6, [.ref a0, .int 0, .ref a1, .int 0, .ref a2, .int 0, .int (-6), .int 0, .ref a3, .ref a4, .ref a5, .int 0, .null, .int 0])), (a0, .inl (g.2.1 1, 4540, .inr (.inl (fun j => ([] : List Int64).getD j 0)))), (a1, .inl (g.2.1 2, 2, .inl (fun _ => 0))), (a2, .inl (g.2.1 0, 80, .inl (fun _ => 0))), (a3, .inl (g.2.1 2, 30, .inl (fun _ => 0))), (a4, .inl (g.2.1 2, 30, .inl (fun _ => 0))), (a5, .inl (g.2.1 0, 42, .inl (fun j => ([1, 42, 3, 37, 3, 0, 0, 1, 42, 3, 0, 0, 0, 0, 1, 62, 1, 42, 3, 47, 2, 1, 64, 3, 42, 3, 94, 2, 3, 0, 0, 0, 0, 0, 0, 3, 0, 0, 0, 0, 0, 0] : List Int32).getD j 0))), (a6, .inl (g.2.1 0, 4, .inl (fun _ => 0)))]) rfl ?_
  refine zR_putf C hin qX6_34 eX6_init_275 rfl rfl 0 rfl (Nat.le_of_ble_eq_true rfl) (ws1 := [(b, .inr (6, [.ref a0, .int 0, .ref a1, .int 0, .ref a2, .int 0, .int (-6), .int 0, .ref a3, .ref a4, .ref a5, .int 0, .ref a6, .int 0])), (a0, .inl (g.2.1 1, 4540, .inr (.inl (fun j => ([] : List Int64).getD j 0)))), (a1, .inl (g.2.1 2, 2, .inl (fun _ => 0))), (a2, .inl (g.2.1 0, 80, .inl (fun _ => 0))), (a3, .inl (g.2.1 2, 30, .inl (fun _ => 0))), (a4, .inl (g.2.1 2, 30, .inl (fun _ => 0))), (a5, .inl (g.2.1 0, 42, .inl (fun j => ([1, 42, 3, 37, 3, 0, 0, 1, 42, 3, 0, 0, 0, 0, 1, 62, 1, 42, 3, 47, 2, 1, 64, 3, 42, 3, 94, 2, 3, 0, 0, 0, 0, 0, 0, 3, 0, 0, 0, 0, 0, 0] : List Int32).getD j 0))), (a6, .inl (g.2.1 0, 4, .inl (fun _ => 0)))]) rfl ?_
  refine zR_aload_n C eX6_init_278 0 rfl rfl ?_
  refine zR_get C fX6_7 eX6_init_279 0 rfl rfl ?_
  refine zR_iconst (v := 0) C eX6_init_282 (by decide) ?_
  refine zR_ldc2 (v := 168) C (zT_in 798 (by decide +kernel) rfl) eX6_init_283 ?_
  refine zR_lastL C [] eX6_init_286 1 rfl (by decide) (by unfold vp_in; decide) (ws1 := [(b, .inr (6, [.ref a0, .int 0, .ref a1, .int 0, .ref a2, .int 0, .int (-6), .int 0, .ref a3, .ref a4, .ref a5, .int 0, .ref a6, .int 0])), (a0, .inl (g.2.1 1, 4540, .inr (.inl (fun j => ([168] : List Int64).getD j 0)))), (a1, .inl (g.2.1 2, 2, .inl (fun _ => 0))), (a2, .inl (g.2.1 0, 80, .inl (fun _ => 0))), (a3, .inl (g.2.1 2, 30, .inl (fun _ => 0))), (a4, .inl (g.2.1 2, 30, .inl (fun _ => 0))), (a5, .inl (g.2.1 0, 42, .inl (fun j => ([1, 42, 3, 37, 3, 0, 0, 1, 42, 3, 0, 0, 0, 0, 1, 62, 1, 42, 3, 47, 2, 1, 64, 3, 42, 3, 94, 2, 3, 0, 0, 0, 0, 0, 0, 3, 0, 0, 0, 0, 0, 0] : List Int32).getD j 0))), (a6, .inl (g.2.1 0, 4, .inl (fun _ => 0)))]) rfl ?_
  refine zR_aload_n C eX6_init_287 0 rfl rfl ?_
  refine zR_get C fX6_7 eX6_init_288 0 rfl rfl ?_
  refine zR_iconst (v := 1) C eX6_init_291 (by decide) ?_
  refine zR_ldc2 (v := 25) C (zT_in 799 (by decide +kernel) rfl) eX6_init_292 ?_
  refine zR_lastL C [168] eX6_init_295 1 rfl (by decide) (by unfold vp_in; decide) (ws1 := [(b, .inr (6, [.ref a0, .int 0, .ref a1, .int 0, .ref a2, .int 0, .int (-6), .int 0, .ref a3, .ref a4, .ref a5, .int 0, .ref a6, .int 0])), (a0, .inl (g.2.1 1, 4540, .inr (.inl (fun j => ([168, 25] : List Int64).getD j 0)))), (a1, .inl (g.2.1 2, 2, .inl (fun _ => 0))), (a2, .inl (g.2.1 0, 80, .inl (fun _ => 0))), (a3, .inl (g.2.1 2, 30, .inl (fun _ => 0))), (a4, .inl (g.2.1 2, 30, .inl (fun _ => 0))), (a5, .inl (g.2.1 0, 42, .inl (fun j => ([1, 42, 3, 37, 3, 0, 0, 1, 42, 3, 0, 0, 0, 0, 1, 62, 1, 42, 3, 47, 2, 1, 64, 3, 42, 3, 94, 2, 3, 0, 0, 0, 0, 0, 0, 3, 0, 0, 0, 0, 0, 0] : List Int32).getD j 0))), (a6, .inl (g.2.1 0, 4, .inl (fun _ => 0)))]) rfl ?_
  refine zR_aload_n C eX6_init_296 0 rfl rfl ?_
  refine zR_get C fX6_7 eX6_init_297 0 rfl rfl ?_
  refine zR_iconst (v := 2) C eX6_init_300 (by decide) ?_
  refine zR_ldc2 (v := 10) C (zT_in 800 (by decide +kernel) rfl) eX6_init_301 ?_
  refine zR_lastL C [168, 25] eX6_init_304 1 rfl (by decide) (by unfold vp_in; decide) (ws1 := [(b, .inr (6, [.ref a0, .int 0, .ref a1, .int 0, .ref a2, .int 0, .int (-6), .int 0, .ref a3, .ref a4, .ref a5, .int 0, .ref a6, .int 0])), (a0, .inl (g.2.1 1, 4540, .inr (.inl (fun j => ([168, 25, 10] : List Int64).getD j 0)))), (a1, .inl (g.2.1 2, 2, .inl (fun _ => 0))), (a2, .inl (g.2.1 0, 80, .inl (fun _ => 0))), (a3, .inl (g.2.1 2, 30, .inl (fun _ => 0))), (a4, .inl (g.2.1 2, 30, .inl (fun _ => 0))), (a5, .inl (g.2.1 0, 42, .inl (fun j => ([1, 42, 3, 37, 3, 0, 0, 1, 42, 3, 0, 0, 0, 0, 1, 62, 1, 42, 3, 47, 2, 1, 64, 3, 42, 3, 94, 2, 3, 0, 0, 0, 0, 0, 0, 3, 0, 0, 0, 0, 0, 0] : List Int32).getD j 0))), (a6, .inl (g.2.1 0, 4, .inl (fun _ => 0)))]) rfl ?_
  refine zR_aload_n C eX6_init_305 0 rfl rfl ?_
  refine zR_get C fX6_7 eX6_init_306 0 rfl rfl ?_
  refine zR_iconst (v := 3) C eX6_init_309 (by decide) ?_
  refine zR_ldc2 (v := 10) C (zT_in 800 (by decide +kernel) rfl) eX6_init_310 ?_
  refine zR_lastL C [168, 25, 10] eX6_init_313 1 rfl (by decide) (by unfold vp_in; decide) (ws1 := [(b, .inr (6, [.ref a0, .int 0, .ref a1, .int 0, .ref a2, .int 0, .int (-6), .int 0, .ref a3, .ref a4, .ref a5, .int 0, .ref a6, .int 0])), (a0, .inl (g.2.1 1, 4540, .inr (.inl (fun j => ([168, 25, 10, 10] : List Int64).getD j 0)))), (a1, .inl (g.2.1 2, 2, .inl (fun _ => 0))), (a2, .inl (g.2.1 0, 80, .inl (fun _ => 0))), (a3, .inl (g.2.1 2, 30, .inl (fun _ => 0))), (a4, .inl (g.2.1 2, 30, .inl (fun _ => 0))), (a5, .inl (g.2.1 0, 42, .inl (fun j => ([1, 42, 3, 37, 3, 0, 0, 1, 42, 3, 0, 0, 0, 0, 1, 62, 1, 42, 3, 47, 2, 1, 64, 3, 42, 3, 94, 2, 3, 0, 0, 0, 0, 0, 0, 3, 0, 0, 0, 0, 0, 0] : List Int32).getD j 0))), (a6, .inl (g.2.1 0, 4, .inl (fun _ => 0)))]) rfl ?_
  refine zR_aload_n C eX6_init_314 0 rfl rfl ?_
  refine zR_get C fX6_7 eX6_init_315 0 rfl rfl ?_
  refine zR_iconst (v := 4) C eX6_init_318 (by decide) ?_
  refine zR_ldc2 (v := 20) C (zT_in 801 (by decide +kernel) rfl) eX6_init_319 ?_
  refine zR_lastL C [168, 25, 10, 10] eX6_init_322 1 rfl (by decide) (by unfold vp_in; decide) (ws1 := [(b, .inr (6, [.ref a0, .int 0, .ref a1, .int 0, .ref a2, .int 0, .int (-6), .int 0, .ref a3, .ref a4, .ref a5, .int 0, .ref a6, .int 0])), (a0, .inl (g.2.1 1, 4540, .inr (.inl (fun j => ([168, 25, 10, 10, 20] : List Int64).getD j 0)))), (a1, .inl (g.2.1 2, 2, .inl (fun _ => 0))), (a2, .inl (g.2.1 0, 80, .inl (fun _ => 0))), (a3, .inl (g.2.1 2, 30, .inl (fun _ => 0))), (a4, .inl (g.2.1 2, 30, .inl (fun _ => 0))), (a5, .inl (g.2.1 0, 42, .inl (fun j => ([1, 42, 3, 37, 3, 0, 0, 1, 42, 3, 0, 0, 0, 0, 1, 62, 1, 42, 3, 47, 2, 1, 64, 3, 42, 3, 94, 2, 3, 0, 0, 0, 0, 0, 0, 3, 0, 0, 0, 0, 0, 0] : List Int32).getD j 0))), (a6, .inl (g.2.1 0, 4, .inl (fun _ => 0)))]) rfl ?_
  refine zR_aload_n C eX6_init_323 0 rfl rfl ?_
  refine zR_get C fX6_7 eX6_init_324 0 rfl rfl ?_
  refine zR_iconst (v := 5) C eX6_init_327 (by decide) ?_
  refine zR_ldc2 (v := 48) C (zT_in 802 (by decide +kernel) rfl) eX6_init_328 ?_
  refine zR_lastL C [168, 25, 10, 10, 20] eX6_init_331 1 rfl (by decide) (by unfold vp_in; decide) (ws1 := [(b, .inr (6, [.ref a0, .int 0, .ref a1, .int 0, .ref a2, .int 0, .int (-6), .int 0, .ref a3, .ref a4, .ref a5, .int 0, .ref a6, .int 0])), (a0, .inl (g.2.1 1, 4540, .inr (.inl (fun j => ([168, 25, 10, 10, 20, 48] : List Int64).getD j 0)))), (a1, .inl (g.2.1 2, 2, .inl (fun _ => 0))), (a2, .inl (g.2.1 0, 80, .inl (fun _ => 0))), (a3, .inl (g.2.1 2, 30, .inl (fun _ => 0))), (a4, .inl (g.2.1 2, 30, .inl (fun _ => 0))), (a5, .inl (g.2.1 0, 42, .inl (fun j => ([1, 42, 3, 37, 3, 0, 0, 1, 42, 3, 0, 0, 0, 0, 1, 62, 1, 42, 3, 47, 2, 1, 64, 3, 42, 3, 94, 2, 3, 0, 0, 0, 0, 0, 0, 3, 0, 0, 0, 0, 0, 0] : List Int32).getD j 0))), (a6, .inl (g.2.1 0, 4, .inl (fun _ => 0)))]) rfl ?_
  refine zR_aload_n C eX6_init_332 0 rfl rfl ?_
  refine zR_get C fX6_7 eX6_init_333 0 rfl rfl ?_
  refine zR_bipush (v := 6) C eX6_init_336 (by decide) ?_
  refine zR_ldc2 (v := 3) C (zT_in 803 (by decide +kernel) rfl) eX6_init_338 ?_
  refine zR_lastL C [168, 25, 10, 10, 20, 48] eX6_init_341 1 rfl (by decide) (by unfold vp_in; decide) (ws1 := [(b, .inr (6, [.ref a0, .int 0, .ref a1, .int 0, .ref a2, .int 0, .int (-6), .int 0, .ref a3, .ref a4, .ref a5, .int 0, .ref a6, .int 0])), (a0, .inl (g.2.1 1, 4540, .inr (.inl (fun j => ([168, 25, 10, 10, 20, 48, 3] : List Int64).getD j 0)))), (a1, .inl (g.2.1 2, 2, .inl (fun _ => 0))), (a2, .inl (g.2.1 0, 80, .inl (fun _ => 0))), (a3, .inl (g.2.1 2, 30, .inl (fun _ => 0))), (a4, .inl (g.2.1 2, 30, .inl (fun _ => 0))), (a5, .inl (g.2.1 0, 42, .inl (fun j => ([1, 42, 3, 37, 3, 0, 0, 1, 42, 3, 0, 0, 0, 0, 1, 62, 1, 42, 3, 47, 2, 1, 64, 3, 42, 3, 94, 2, 3, 0, 0, 0, 0, 0, 0, 3, 0, 0, 0, 0, 0, 0] : List Int32).getD j 0))), (a6, .inl (g.2.1 0, 4, .inl (fun _ => 0)))]) rfl ?_
  refine zR_aload_n C eX6_init_342 0 rfl rfl ?_
  refine zR_get C fX6_7 eX6_init_343 0 rfl rfl ?_
  refine zR_bipush (v := 7) C eX6_init_346 (by decide) ?_
  refine zR_lconst (v := 1) C eX6_init_348 (by decide) ?_
  refine zR_lastL C [168, 25, 10, 10, 20, 48, 3] eX6_init_349 1 rfl (by decide) (by unfold vp_in; decide) (ws1 := [(b, .inr (6, [.ref a0, .int 0, .ref a1, .int 0, .ref a2, .int 0, .int (-6), .int 0, .ref a3, .ref a4, .ref a5, .int 0, .ref a6, .int 0])), (a0, .inl (g.2.1 1, 4540, .inr (.inl (fun j => ([168, 25, 10, 10, 20, 48, 3, 1] : List Int64).getD j 0)))), (a1, .inl (g.2.1 2, 2, .inl (fun _ => 0))), (a2, .inl (g.2.1 0, 80, .inl (fun _ => 0))), (a3, .inl (g.2.1 2, 30, .inl (fun _ => 0))), (a4, .inl (g.2.1 2, 30, .inl (fun _ => 0))), (a5, .inl (g.2.1 0, 42, .inl (fun j => ([1, 42, 3, 37, 3, 0, 0, 1, 42, 3, 0, 0, 0, 0, 1, 62, 1, 42, 3, 47, 2, 1, 64, 3, 42, 3, 94, 2, 3, 0, 0, 0, 0, 0, 0, 3, 0, 0, 0, 0, 0, 0] : List Int32).getD j 0))), (a6, .inl (g.2.1 0, 4, .inl (fun _ => 0)))]) rfl ?_
  exact zR_vret C rfl eX6_init_350 (by rw [hmc]; exact Nat.le_of_ble_eq_true rfl) (by rw [hms]; exact Nat.le_of_ble_eq_true rfl) ⟨rfl, fun j => ([b, a0, a1, a2, a3, a4, a5, a6] : List Nat).getD j 0, rfl, rfl⟩
