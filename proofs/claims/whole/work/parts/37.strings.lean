/-! String constants: the JDK methods that the pad calls. -/
theorem eJ0_length_8abf5_0 : zD cJ0_length_8abf5 0 (.aload_n 0) 1 1 := ⟨by decide +kernel, rfl⟩
theorem eJ0_length_8abf5_1 : zD cJ0_length_8abf5 1 (.getfield 9) 3 4 := ⟨by decide +kernel, rfl⟩
theorem eJ0_length_8abf5_4 : zD cJ0_length_8abf5 4 (.arraylength) 1 5 := ⟨by decide +kernel, rfl⟩
theorem eJ0_length_8abf5_5 : zD cJ0_length_8abf5 5 (.aload_n 0) 1 6 := ⟨by decide +kernel, rfl⟩
theorem eJ0_length_8abf5_6 : zD cJ0_length_8abf5 6 (.invokevirtual 335) 3 9 := ⟨by decide +kernel, rfl⟩
theorem eJ0_length_8abf5_9 : zD cJ0_length_8abf5 9 (.ishr) 1 10 := ⟨by decide +kernel, rfl⟩
theorem eJ0_length_8abf5_10 : zD cJ0_length_8abf5 10 (.ireturn) 1 11 := ⟨by decide +kernel, rfl⟩
theorem eJ0_isEmpty_aae02_0 : zD cJ0_isEmpty_aae02 0 (.aload_n 0) 1 1 := ⟨by decide +kernel, rfl⟩
theorem eJ0_isEmpty_aae02_1 : zD cJ0_isEmpty_aae02 1 (.getfield 9) 3 4 := ⟨by decide +kernel, rfl⟩
theorem eJ0_isEmpty_aae02_4 : zD cJ0_isEmpty_aae02 4 (.arraylength) 1 5 := ⟨by decide +kernel, rfl⟩
theorem eJ0_isEmpty_aae02_5 : zJ cJ0_isEmpty_aae02 5 (.ifCond .ne (7)) (7) 12 3 8 := ⟨by decide +kernel, rfl, by decide⟩
theorem eJ0_isEmpty_aae02_8 : zD cJ0_isEmpty_aae02 8 (.iconst 1) 1 9 := ⟨by decide +kernel, rfl⟩
theorem eJ0_isEmpty_aae02_9 : zJ cJ0_isEmpty_aae02 9 (.goto (4)) (4) 13 3 12 := ⟨by decide +kernel, rfl, by decide⟩
theorem eJ0_isEmpty_aae02_12 : zD cJ0_isEmpty_aae02 12 (.iconst 0) 1 13 := ⟨by decide +kernel, rfl⟩
theorem eJ0_isEmpty_aae02_13 : zD cJ0_isEmpty_aae02 13 (.ireturn) 1 14 := ⟨by decide +kernel, rfl⟩
theorem eJ0_charAt_5068e_0 : zD cJ0_charAt_5068e 0 (.aload_n 0) 1 1 := ⟨by decide +kernel, rfl⟩
theorem eJ0_charAt_5068e_1 : zD cJ0_charAt_5068e 1 (.invokevirtual 492) 3 4 := ⟨by decide +kernel, rfl⟩
theorem eJ0_charAt_5068e_4 : zJ cJ0_charAt_5068e 4 (.ifCond .eq (12)) (12) 16 3 7 := ⟨by decide +kernel, rfl, by decide⟩
theorem eJ0_charAt_5068e_7 : zD cJ0_charAt_5068e 7 (.aload_n 0) 1 8 := ⟨by decide +kernel, rfl⟩
theorem eJ0_charAt_5068e_8 : zD cJ0_charAt_5068e 8 (.getfield 9) 3 11 := ⟨by decide +kernel, rfl⟩
theorem eJ0_charAt_5068e_11 : zD cJ0_charAt_5068e 11 (.iload_n 1) 1 12 := ⟨by decide +kernel, rfl⟩
theorem eJ0_charAt_5068e_12 : zD cJ0_charAt_5068e 12 (.invokestatic 495) 3 15 := ⟨by decide +kernel, rfl⟩
theorem eJ0_charAt_5068e_15 : zD cJ0_charAt_5068e 15 (.ireturn) 1 16 := ⟨by decide +kernel, rfl⟩
theorem eJ0_charAt_5068e_16 : zD cJ0_charAt_5068e 16 (.aload_n 0) 1 17 := ⟨by decide +kernel, rfl⟩
theorem eJ0_charAt_5068e_17 : zD cJ0_charAt_5068e 17 (.getfield 9) 3 20 := ⟨by decide +kernel, rfl⟩
theorem eJ0_charAt_5068e_20 : zD cJ0_charAt_5068e 20 (.iload_n 1) 1 21 := ⟨by decide +kernel, rfl⟩
theorem eJ0_charAt_5068e_21 : zD cJ0_charAt_5068e 21 (.invokestatic 498) 3 24 := ⟨by decide +kernel, rfl⟩
theorem eJ0_charAt_5068e_24 : zD cJ0_charAt_5068e 24 (.ireturn) 1 25 := ⟨by decide +kernel, rfl⟩
theorem eJ0_coder_7d493_0 : zD cJ0_coder_7d493 0 (.getstatic 38) 3 3 := ⟨by decide +kernel, rfl⟩
theorem eJ0_coder_7d493_3 : zJ cJ0_coder_7d493 3 (.ifCond .eq (10)) (10) 13 3 6 := ⟨by decide +kernel, rfl, by decide⟩
theorem eJ0_coder_7d493_6 : zD cJ0_coder_7d493 6 (.aload_n 0) 1 7 := ⟨by decide +kernel, rfl⟩
theorem eJ0_coder_7d493_7 : zD cJ0_coder_7d493 7 (.getfield 15) 3 10 := ⟨by decide +kernel, rfl⟩
theorem eJ0_coder_7d493_10 : zJ cJ0_coder_7d493 10 (.goto (4)) (4) 14 3 13 := ⟨by decide +kernel, rfl, by decide⟩
theorem eJ0_coder_7d493_13 : zD cJ0_coder_7d493 13 (.iconst 1) 1 14 := ⟨by decide +kernel, rfl⟩
theorem eJ0_coder_7d493_14 : zD cJ0_coder_7d493 14 (.ireturn) 1 15 := ⟨by decide +kernel, rfl⟩
theorem eJ0_isLatin1_aae02_0 : zD cJ0_isLatin1_aae02 0 (.getstatic 38) 3 3 := ⟨by decide +kernel, rfl⟩
theorem eJ0_isLatin1_aae02_3 : zJ cJ0_isLatin1_aae02 3 (.ifCond .eq (14)) (14) 17 3 6 := ⟨by decide +kernel, rfl, by decide⟩
theorem eJ0_isLatin1_aae02_6 : zD cJ0_isLatin1_aae02 6 (.aload_n 0) 1 7 := ⟨by decide +kernel, rfl⟩
theorem eJ0_isLatin1_aae02_7 : zD cJ0_isLatin1_aae02 7 (.getfield 15) 3 10 := ⟨by decide +kernel, rfl⟩
theorem eJ0_isLatin1_aae02_10 : zJ cJ0_isLatin1_aae02 10 (.ifCond .ne (7)) (7) 17 3 13 := ⟨by decide +kernel, rfl, by decide⟩
theorem eJ0_isLatin1_aae02_13 : zD cJ0_isLatin1_aae02 13 (.iconst 1) 1 14 := ⟨by decide +kernel, rfl⟩
theorem eJ0_isLatin1_aae02_14 : zJ cJ0_isLatin1_aae02 14 (.goto (4)) (4) 18 3 17 := ⟨by decide +kernel, rfl, by decide⟩
theorem eJ0_isLatin1_aae02_17 : zD cJ0_isLatin1_aae02 17 (.iconst 0) 1 18 := ⟨by decide +kernel, rfl⟩
theorem eJ0_isLatin1_aae02_18 : zD cJ0_isLatin1_aae02 18 (.ireturn) 1 19 := ⟨by decide +kernel, rfl⟩
theorem eJ0_checkIndex_df160_0 : zD cJ0_checkIndex_df160 0 (.iload_n 0) 1 1 := ⟨by decide +kernel, rfl⟩
theorem eJ0_checkIndex_df160_1 : zD cJ0_checkIndex_df160 1 (.iload_n 1) 1 2 := ⟨by decide +kernel, rfl⟩
theorem eJ0_checkIndex_df160_2 : zD cJ0_checkIndex_df160 2 (.getstatic 1053) 3 5 := ⟨by decide +kernel, rfl⟩
theorem eJ0_checkIndex_df160_5 : zD cJ0_checkIndex_df160 5 (.invokestatic 1059) 3 8 := ⟨by decide +kernel, rfl⟩
theorem eJ0_checkIndex_df160_8 : zD cJ0_checkIndex_df160 8 (.pop) 1 9 := ⟨by decide +kernel, rfl⟩
theorem eJ0_checkIndex_df160_9 : zD cJ0_checkIndex_df160 9 (.return_) 1 10 := ⟨by decide +kernel, rfl⟩
theorem eJ1_charAt_3b067_0 : zD cJ1_charAt_3b067 0 (.iload_n 1) 1 1 := ⟨by decide +kernel, rfl⟩
theorem eJ1_charAt_3b067_1 : zD cJ1_charAt_3b067 1 (.aload_n 0) 1 2 := ⟨by decide +kernel, rfl⟩
theorem eJ1_charAt_3b067_2 : zD cJ1_charAt_3b067 2 (.arraylength) 1 3 := ⟨by decide +kernel, rfl⟩
theorem eJ1_charAt_3b067_3 : zD cJ1_charAt_3b067 3 (.invokestatic 9) 3 6 := ⟨by decide +kernel, rfl⟩
theorem eJ1_charAt_3b067_6 : zD cJ1_charAt_3b067 6 (.aload_n 0) 1 7 := ⟨by decide +kernel, rfl⟩
theorem eJ1_charAt_3b067_7 : zD cJ1_charAt_3b067 7 (.iload_n 1) 1 8 := ⟨by decide +kernel, rfl⟩
theorem eJ1_charAt_3b067_8 : zD cJ1_charAt_3b067 8 (.baload) 1 9 := ⟨by decide +kernel, rfl⟩
theorem eJ1_charAt_3b067_9 : zD cJ1_charAt_3b067 9 (.sipush 255) 3 12 := ⟨by decide +kernel, rfl⟩
theorem eJ1_charAt_3b067_12 : zD cJ1_charAt_3b067 12 (.iand) 1 13 := ⟨by decide +kernel, rfl⟩
theorem eJ1_charAt_3b067_13 : zD cJ1_charAt_3b067 13 (.i2c) 1 14 := ⟨by decide +kernel, rfl⟩
theorem eJ1_charAt_3b067_14 : zD cJ1_charAt_3b067 14 (.ireturn) 1 15 := ⟨by decide +kernel, rfl⟩
theorem eJ3_checkIndex_8e157_0 : zD cJ3_checkIndex_8e157 0 (.iload_n 0) 1 1 := ⟨by decide +kernel, rfl⟩
theorem eJ3_checkIndex_8e157_1 : zJ cJ3_checkIndex_8e157 1 (.ifCond .lt (8)) (8) 9 3 4 := ⟨by decide +kernel, rfl, by decide⟩
theorem eJ3_checkIndex_8e157_4 : zD cJ3_checkIndex_8e157 4 (.iload_n 0) 1 5 := ⟨by decide +kernel, rfl⟩
theorem eJ3_checkIndex_8e157_5 : zD cJ3_checkIndex_8e157 5 (.iload_n 1) 1 6 := ⟨by decide +kernel, rfl⟩
theorem eJ3_checkIndex_8e157_6 : zJ cJ3_checkIndex_8e157 6 (.if_icmp .lt (10)) (10) 16 3 9 := ⟨by decide +kernel, rfl, by decide⟩
theorem eJ3_checkIndex_8e157_9 : zD cJ3_checkIndex_8e157 9 (.aload_n 2) 1 10 := ⟨by decide +kernel, rfl⟩
theorem eJ3_checkIndex_8e157_10 : zD cJ3_checkIndex_8e157 10 (.iload_n 0) 1 11 := ⟨by decide +kernel, rfl⟩
theorem eJ3_checkIndex_8e157_11 : zD cJ3_checkIndex_8e157 11 (.iload_n 1) 1 12 := ⟨by decide +kernel, rfl⟩
theorem eJ3_checkIndex_8e157_12 : zD cJ3_checkIndex_8e157 12 (.invokestatic 95) 3 15 := ⟨by decide +kernel, rfl⟩
theorem eJ3_checkIndex_8e157_16 : zD cJ3_checkIndex_8e157 16 (.iload_n 0) 1 17 := ⟨by decide +kernel, rfl⟩
theorem eJ3_checkIndex_8e157_17 : zD cJ3_checkIndex_8e157 17 (.ireturn) 1 18 := ⟨by decide +kernel, rfl⟩
theorem kJ0_335 : zKv RJ0 335 yJ0_coder_7d493 cJ0_coder_7d493 1 (some .byte) 0 := ⟨⟨(zT_in 696 (by decide +kernel) rfl), (zT_in 111 (by decide +kernel) rfl), ⟨by decide +kernel, by decide +kernel⟩, by decide +kernel⟩, Or.inl (zT_in 693 (by decide +kernel) rfl), (zT_in 694 (by decide +kernel) rfl), (zT_in 695 (by decide +kernel) rfl)⟩
theorem kJ0_492 : zKv RJ0 492 yJ0_isLatin1_aae02 cJ0_isLatin1_aae02 1 (some .boolean) 0 := ⟨⟨(zT_in 706 (by decide +kernel) rfl), (zT_in 111 (by decide +kernel) rfl), ⟨by decide +kernel, by decide +kernel⟩, by decide +kernel⟩, Or.inl (zT_in 703 (by decide +kernel) rfl), (zT_in 704 (by decide +kernel) rfl), (zT_in 705 (by decide +kernel) rfl)⟩
theorem kJ0_495 : zKs RJ0 495 yJ1_charAt_3b067 cJ1_charAt_3b067 2 (some .char) 2 := ⟨⟨(zT_in 709 (by decide +kernel) rfl), (zT_in 112 (by decide +kernel) rfl), ⟨by decide +kernel, by decide +kernel⟩, by decide +kernel⟩, Or.inl (zT_in 707 (by decide +kernel) rfl), (zT_in 708 (by decide +kernel) rfl)⟩
theorem kJ1_9 : zKs RJ1 9 yJ0_checkIndex_df160 cJ0_checkIndex_df160 2 none 2 := ⟨⟨(zT_in 712 (by decide +kernel) rfl), (zT_in 111 (by decide +kernel) rfl), ⟨by decide +kernel, by decide +kernel⟩, by decide +kernel⟩, Or.inl (zT_in 710 (by decide +kernel) rfl), (zT_in 711 (by decide +kernel) rfl)⟩
theorem kJ0_1059 : zKs RJ0 1059 yJ3_checkIndex_8e157 cJ3_checkIndex_8e157 3 (some .int) 3 := ⟨⟨(zT_in 717 (by decide +kernel) rfl), (zT_in 113 (by decide +kernel) rfl), ⟨by decide +kernel, by decide +kernel⟩, by decide +kernel⟩, Or.inl (zT_in 715 (by decide +kernel) rfl), (zT_in 716 (by decide +kernel) rfl)⟩
theorem fJ0_9 : Cond.fieldLink "java/lang/String" (9 : Nat) "java/lang/String" "value" "[B" ∈ zTBL := (zT_in 1198 (by decide +kernel) rfl)
theorem fJ0_15 : Cond.fieldLink "java/lang/String" (15 : Nat) "java/lang/String" "coder" "B" ∈ zTBL := (zT_in 1199 (by decide +kernel) rfl)
theorem fJ0_38 : Cond.fieldLink "java/lang/String" (38 : Nat) "java/lang/String" "COMPACT_STRINGS" "Z" ∈ zTBL := (zT_in 697 (by decide +kernel) rfl)
theorem fJ0_1053 : Cond.fieldLink "java/lang/String" (1053 : Nat) "jdk/internal/util/Preconditions" "SIOOBE_FORMATTER" "Ljava/util/function/BiFunction;" ∈ zTBL := (zT_in 713 (by decide +kernel) rfl)

def zsC (i k : Nat) : Int32 := (zSbyt.getD i []).getD k 0
theorem zsC_all : ∀ i, i < 6 → ∀ k, k < zSlen.getD i 0 → (zsC i k &&& 255).toUInt32.toUInt16.toUInt32.toInt32 = zsC i k ∧ narrow .char (.int (zsC i k)) = .int (zsC i k) := by decide +kernel
theorem zSlen_sh : ∀ i, i < 6 → nI (zSlen.getD i 0) >>> ((0 : Int32) &&& 31) = nI (zSlen.getD i 0) := by decide +kernel
theorem zSlen_le : ∀ i, i < 6 → zSlen.getD i 0 ≤ 7 := by decide +kernel
section ZS
variable {x : zX} {g : zG} {own : String} {cc : ByteArray} {ret : Option FieldType} {f : Nat} {post : Option Value → va_W → Prop} {n : Nat × Nat} {pc pc' : Nat} {lv : List (Nat × Value)} {st rest : List Value} {ws : va_W}
theorem zC_S (C : zC x g own cc ret f) : vk_S 6 zSlen zSbyt g.2.2.2.1 g.2.2.2.2 (zA x) (zs x) (zs x).heap := C.2.2.2.2.2.2.2.2.2.2.2.2.2.2.1
theorem zC_R (C : zC x g own cc ret f) : ∀ i : Nat, i < 6 → vk_R RX3 (zSidx i) (zStx i) (g.2.2.2.1 i) (zs x) := C.2.2.2.2.2.2.2.2.2.2.2.2.2.2.2.1
theorem zC_cs (C : zC x g own cc ret f) : va_Z "java/lang/String" "COMPACT_STRINGS" "Z" (.int 1) (zA x) (zs x) (zs x).heap := C.2.2.2.2.2.2.2.2.2.2.2.2.2.2.2.2.1
theorem zC_sf (C : zC x g own cc ret f) : va_Zq zRF "SIOOBE_FORMATTER" "Ljava/util/function/BiFunction;" (zA x) (zs x) (zs x).heap := C.2.2.2.2.2.2.2.2.2.2.2.2.2.2.2.2.2.1
theorem zR_gcs (C : zC x g own cc ret f) {idx : Nat} (hl : Cond.fieldLink own idx "java/lang/String" "COMPACT_STRINGS" "Z" ∈ zTBL) (d : zD cc pc (.getstatic idx) 3 pc') (k : zR x g post n pc' lv (.int 1 :: st) ws) : zR x g post n pc lv st ws := by
  obtain ⟨d, rfl⟩ := d
  exact fun H locs ls hP hD hS hl' => va_gets C.1.1 C.1.2.1 (zC_cs C) hS C.1.2.2.2 (C.2.1 _ hl) (fun _ h => h) d (k H locs ls hP hD hS hl')
theorem zR_gsf (C : zC x g own cc ret f) {idx : Nat} (hl : Cond.fieldLink own idx zRF "SIOOBE_FORMATTER" "Ljava/util/function/BiFunction;" ∈ zTBL) (d : zD cc pc (.getstatic idx) 3 pc') (k : ∀ r : Option Nat, zR x g post n pc' lv (va_rf r :: st) ws) : zR x g post n pc lv st ws := by
  obtain ⟨d, rfl⟩ := d
  rcases zC_sf C with hz | ⟨t, hz⟩
  · exact fun H locs ls hP hD hS hl' => va_gets C.1.1 C.1.2.1 hz hS C.1.2.2.2 (C.2.1 _ hl) (fun _ h => h) d (k none H locs ls hP hD hS hl')
  · exact fun H locs ls hP hD hS hl' => va_gets C.1.1 C.1.2.1 hz hS C.1.2.2.2 (C.2.1 _ hl) (fun _ h => h) d (k (some t) H locs ls hP hD hS hl')
theorem zR_ldcS (C : zC x g RX3 cc ret f) (i : Nat) (hi : i < 6) (d : zD cc pc (.ldc (zSidx i)) 2 pc') (k : zR x g post n pc' lv (.ref (g.2.2.2.1 i) :: st) ws) : zR x g post n pc lv st ws := by
  obtain ⟨d, rfl⟩ := d
  exact fun H locs ls hP hD hS hl' => va_ldcS C.1.1 C.1.2.1 C.1.2.2.2 (zC_R C i hi) d (k H locs ls hP hD hS hl')
theorem zR_sval (C : zC x g own cc ret f) {idx : Nat} (hl : Cond.fieldLink own idx "java/lang/String" "value" "[B" ∈ zTBL) {i : Nat} (hi : i < 6) (d : zD cc pc (.getfield idx) 3 pc') (k : zR x g post n pc' lv (.ref (g.2.2.2.2 i) :: st) ws) : zR x g post n pc lv (.ref (g.2.2.2.1 i) :: st) ws := by
  obtain ⟨d, rfl⟩ := d
  exact fun H locs ls hP hD hS hl' => vk_getf C.1.1 C.1.2.1 ((zC_S C).1 i hi).2.2.1 hS C.1.2.2.2 (C.2.1 _ hl) (fun _ h => h) d (k H locs ls hP hD hS hl')
theorem zR_scod (C : zC x g own cc ret f) {idx : Nat} (hl : Cond.fieldLink own idx "java/lang/String" "coder" "B" ∈ zTBL) {i : Nat} (hi : i < 6) (d : zD cc pc (.getfield idx) 3 pc') (k : zR x g post n pc' lv (.int 0 :: st) ws) : zR x g post n pc lv (.ref (g.2.2.2.1 i) :: st) ws := by
  obtain ⟨d, rfl⟩ := d
  exact fun H locs ls hP hD hS hl' => vk_getf C.1.1 C.1.2.1 ((zC_S C).1 i hi).2.1 hS C.1.2.2.2 (C.2.1 _ hl) (fun _ h => h) d (k H locs ls hP hD hS hl')
theorem zR_slen (C : zC x g own cc ret f) {i : Nat} (hi : i < 6) (d : zD cc pc .arraylength 1 pc') (k : zR x g post n pc' lv (.int (nI (zSlen.getD i 0)) :: st) ws) : zR x g post n pc lv (.ref (g.2.2.2.2 i) :: st) ws := by
  obtain ⟨d, rfl⟩ := d
  exact fun H locs ls hP hD hS hl' => va_tlen C.1.1 C.1.2.1 ((zC_S C).1 i hi).2.2.2 hS rfl d (k H locs ls hP hD hS hl')
theorem zR_sbld (C : zC x g own cc ret f) {i j : Nat} (hi : i < 6) (hj : j < zSlen.getD i 0) (d : zD cc pc .baload 1 pc') (k : zR x g post n pc' lv (.int (zsC i j) :: st) ws) : zR x g post n pc lv (.int (nI j) :: .ref (g.2.2.2.2 i) :: st) ws := by
  obtain ⟨d, rfl⟩ := d
  have h7 := zSlen_le i hi
  exact fun H locs ls hP hD hS hl' => va_tb C.1.1 C.1.2.1 ((zC_S C).1 i hi).2.2.2 hS (vp_in_nI hj (by omega)) (by rw [nI_clamp (show j < 2 ^ 31 by omega)]; rfl) d (k H locs ls hP hD hS hl')
theorem zR_callVs (C : zC x g own cc ret f) {idx : Nat} {y : MethodName} {cc' : ByteArray} {nL' : Nat} {ret' : Option FieldType} {f' nn : Nat} {i : Nat} {As : List Value} {v : Value} (K : zKv own idx y cc' nL' ret' nn) (d : zD cc pc (.invokevirtual idx) 3 pc') (hi : i < 6) (hcl : y.cls = "java/lang/String")
    (M : zM (zl x) g y cc' nL' ret' f' 0 0 (.ref (g.2.2.2.1 i) :: As) [] (zE (some v) [])) (hst : st = As.reverse ++ .ref (g.2.2.2.1 i) :: rest) (hn : As.length = nn) (hf : f' + 1 ≤ f) (hnl : nL' ≤ 17) (hcat : (rest.map fun v => v.category).sum ≤ 8) (hr1 : n.1 ≤ zmc x) (hr2 : n.2 ≤ zms x)
    (k : zR x g post n pc' lv (v :: rest) ws) : zR x g post n pc lv st ws := by
  obtain ⟨d, rfl⟩ := d
  obtain ⟨K0, hl, ki, ks⟩ := K
  have hw : ∀ r w, zE (some v) [] r w → ∃ wa wn : va_W, w = wa ++ wn ∧ wa.map Prod.fst = ([] : va_W).map Prod.fst ∧ zR x g post (n.1 + 0, n.2 + 0) (pc + 3) lv (r.toList ++ rest) (zrep ws [] wa ++ wn) := fun r w h => ⟨[], [], by rw [h.2]; rfl, rfl, by rw [List.append_nil, h.1]; exact k⟩
  rcases hl with hl | ⟨host, hl⟩
  · exact zR_run C (wc := []) (isC := []) rfl (fun H locs ls hP hD hS hl' => va_runV ⟨C.1.1, C.1.2.1, C.1.2.2.1, C.1.2.2.2, C.2.1⟩ (M H.size) ⟨zCallB C K0 hl hf hnl, C.2.1 _ ki, C.2.1 _ ks⟩ ⟨zPre_blind, by rw [hcl]; exact vk_recv (zC_S C) hi hS, zPre_at C (isC := []) rfl rfl hP hD hS⟩ rfl hn hl'.1 hst (lv_room hcat) d (zFits C hr1 hr2)) hw
  · exact zR_run C (wc := []) (isC := []) rfl (fun H locs ls hP hD hS hl' => va_runVN ⟨C.1.1, C.1.2.1, C.1.2.2.1, C.1.2.2.2, C.2.1⟩ (M H.size) ⟨zCallN C K0 hl hf hnl, C.2.1 _ ki, C.2.1 _ ks⟩ ⟨zPre_blind, by rw [hcl]; exact vk_recv (zC_S C) hi hS, zPre_at C (isC := []) rfl rfl hP hD hS⟩ rfl hn hl'.1 hst (lv_room hcat) d (zFits C hr1 hr2)) hw
theorem zR_callSv (C : zC x g own cc ret f) {idx : Nat} {y : MethodName} {cc' : ByteArray} {nL' : Nat} {ret' : Option FieldType} {f' nn : Nat} {As : List Value} (K : zKs own idx y cc' nL' ret' nn) (d : zD cc pc (.invokestatic idx) 3 pc')
    (M : zM (zl x) g y cc' nL' ret' f' 0 0 As [] (zE none [])) (hst : st = As.reverse ++ rest) (hn : As.length = nn) (hf : f' + 1 ≤ f) (hnl : nL' ≤ 17) (hcat : (rest.map fun v => v.category).sum ≤ 8) (hr1 : n.1 ≤ zmc x) (hr2 : n.2 ≤ zms x)
    (k : zR x g post n pc' lv rest ws) : zR x g post n pc lv st ws := zR_callS C K d M hst hn hf hnl hcat hr1 hr2 k
end ZS

theorem c_J0_isLatin1 {l : Launch} {g : zG} (i : Nat) (hi : i < 6) : zM l g yJ0_isLatin1_aae02 cJ0_isLatin1_aae02 1 (some .boolean) 0 0 0 [.ref (g.2.2.2.1 i)] [] (zE (some (.int 1)) []) := by
  refine zM_of (by decide +kernel) (Nat.le_of_ble_eq_true rfl) (fun x hl hn _ _ _ C => ?_)
  subst hl
  show zR x g _ (0, 0) 0 [(0, .ref (g.2.2.2.1 i))] [] _
  refine zR_gcs C fJ0_38 eJ0_isLatin1_aae02_0 ?_
  refine zR_ifeq_f C eJ0_isLatin1_aae02_3 (by decide) ?_
  refine zR_aload_n C eJ0_isLatin1_aae02_6 0 rfl rfl ?_
  refine zR_scod C fJ0_15 hi eJ0_isLatin1_aae02_7 ?_
  refine zR_ifne_f C eJ0_isLatin1_aae02_10 (by decide) ?_
  refine zR_iconst (v := 1) C eJ0_isLatin1_aae02_13 (by decide) ?_
  refine zR_goto C eJ0_isLatin1_aae02_14 ?_
  exact zR_iret C rfl rfl eJ0_isLatin1_aae02_18 (Nat.zero_le _) (Nat.zero_le _) ⟨rfl, rfl⟩
theorem c_J0_coder {l : Launch} {g : zG} (i : Nat) (hi : i < 6) : zM l g yJ0_coder_7d493 cJ0_coder_7d493 1 (some .byte) 0 0 0 [.ref (g.2.2.2.1 i)] [] (zE (some (.int 0)) []) := by
  refine zM_of (by decide +kernel) (Nat.le_of_ble_eq_true rfl) (fun x hl hn _ _ _ C => ?_)
  subst hl
  show zR x g _ (0, 0) 0 [(0, .ref (g.2.2.2.1 i))] [] _
  refine zR_gcs C fJ0_38 eJ0_coder_7d493_0 ?_
  refine zR_ifeq_f C eJ0_coder_7d493_3 (by decide) ?_
  refine zR_aload_n C eJ0_coder_7d493_6 0 rfl rfl ?_
  refine zR_scod C fJ0_15 hi eJ0_coder_7d493_7 ?_
  refine zR_goto C eJ0_coder_7d493_10 ?_
  exact zR_iret C rfl rfl eJ0_coder_7d493_14 (Nat.zero_le _) (Nat.zero_le _) ⟨rfl, rfl⟩
theorem c_J0_length {l : Launch} {g : zG} (i : Nat) (hi : i < 6) : zM l g yJ0_length_8abf5 cJ0_length_8abf5 1 (some .int) 1 0 0 [.ref (g.2.2.2.1 i)] [] (zE (some (.int (nI (zSlen.getD i 0)))) []) := by
  refine zM_of (by decide +kernel) (Nat.le_of_ble_eq_true rfl) (fun x hl hn _ _ _ C => ?_)
  subst hl
  show zR x g _ (0, 0) 0 [(0, .ref (g.2.2.2.1 i))] [] _
  refine zR_aload_n C eJ0_length_8abf5_0 0 rfl rfl ?_
  refine zR_sval C fJ0_9 hi eJ0_length_8abf5_1 ?_
  refine zR_slen C hi eJ0_length_8abf5_4 ?_
  refine zR_aload_n C eJ0_length_8abf5_5 0 rfl rfl ?_
  refine zR_callVs C kJ0_335 eJ0_length_8abf5_6 hi rfl (c_J0_coder i hi) rfl rfl (by decide) (by decide) (Nat.le_of_ble_eq_true rfl) (Nat.zero_le _) (Nat.zero_le _) ?_
  refine zR_ishr C eJ0_length_8abf5_9 ?_
  refine zR_topi (zSlen_sh i hi) ?_
  exact zR_iret C rfl rfl eJ0_length_8abf5_10 (Nat.zero_le _) (Nat.zero_le _) ⟨rfl, rfl⟩
theorem zSlen_0 : ∀ i, i < 6 → (nI (zSlen.getD i 0) = 0 ↔ i = 5) := by decide +kernel
theorem c_J0_isEmpty {l : Launch} {g : zG} (i : Nat) (hi : i < 6) : zM l g yJ0_isEmpty_aae02 cJ0_isEmpty_aae02 1 (some .boolean) 0 0 0 [.ref (g.2.2.2.1 i)] [] (zE (some (.int (zB (decide (i = 5))))) []) := by
  refine zM_of (by decide +kernel) (Nat.le_of_ble_eq_true rfl) (fun x hl hn _ _ _ C => ?_)
  subst hl
  show zR x g _ (0, 0) 0 [(0, .ref (g.2.2.2.1 i))] [] _
  refine zR_aload_n C eJ0_isEmpty_aae02_0 0 rfl rfl ?_
  refine zR_sval C fJ0_9 hi eJ0_isEmpty_aae02_1 ?_
  refine zR_slen C hi eJ0_isEmpty_aae02_4 ?_
  refine zR_ifne C eJ0_isEmpty_aae02_5 (fun h5 => ?_) (fun h5 => ?_)
  · refine zR_iconst (v := 0) C eJ0_isEmpty_aae02_12 (by decide) ?_
    exact zR_iret C rfl rfl eJ0_isEmpty_aae02_13 (Nat.zero_le _) (Nat.zero_le _) ⟨by rw [decide_eq_false (fun z => h5 ((zSlen_0 i hi).mpr z))]; rfl, rfl⟩
  · refine zR_iconst (v := 1) C eJ0_isEmpty_aae02_8 (by decide) ?_
    refine zR_goto C eJ0_isEmpty_aae02_9 ?_
    exact zR_iret C rfl rfl eJ0_isEmpty_aae02_13 (Nat.zero_le _) (Nat.zero_le _) ⟨by rw [decide_eq_true ((zSlen_0 i hi).mp h5)]; rfl, rfl⟩
theorem c_J3_checkIndex {l : Launch} {g : zG} (a b : Nat) (r : Option Nat) (hab : a < b) (hb : b < 2 ^ 31) : zM l g yJ3_checkIndex_8e157 cJ3_checkIndex_8e157 3 (some .int) 0 0 0 [.int (nI a), .int (nI b), va_rf r] [] (zE (some (.int (nI a))) []) := by
  refine zM_of (by decide +kernel) (by cases r <;> exact Nat.le_of_ble_eq_true rfl) (fun x hl hn _ _ _ C => ?_)
  subst hl
  show zR x g _ (0, 0) 0 [(0, .int (nI a)), (1, .int (nI b)), (2, va_rf r)] [] _
  refine zR_iload_n C eJ3_checkIndex_8e157_0 0 rfl rfl ?_
  refine zR_iflt_f C eJ3_checkIndex_8e157_1 (nI_pos (by omega)) ?_
  refine zR_iload_n C eJ3_checkIndex_8e157_4 0 rfl rfl ?_
  refine zR_iload_n C eJ3_checkIndex_8e157_5 1 rfl rfl ?_
  refine zR_icmp_lt C eJ3_checkIndex_8e157_6 (fun h6 => ?_) (fun h6 => absurd (nI_lt hab hb) h6)
  refine zR_iload_n C eJ3_checkIndex_8e157_16 0 rfl rfl ?_
  exact zR_iret C rfl rfl eJ3_checkIndex_8e157_17 (Nat.zero_le _) (Nat.zero_le _) ⟨rfl, rfl⟩
theorem c_J0_checkIndex {l : Launch} {g : zG} (a b : Nat) (hab : a < b) (hb : b < 2 ^ 31) : zM l g yJ0_checkIndex_df160 cJ0_checkIndex_df160 2 none 1 0 0 [.int (nI a), .int (nI b)] [] (zE none []) := by
  refine zM_of (by decide +kernel) (Nat.le_of_ble_eq_true rfl) (fun x hl hn _ _ _ C => ?_)
  subst hl
  show zR x g _ (0, 0) 0 [(0, .int (nI a)), (1, .int (nI b))] [] _
  refine zR_iload_n C eJ0_checkIndex_df160_0 0 rfl rfl ?_
  refine zR_iload_n C eJ0_checkIndex_df160_1 1 rfl rfl ?_
  refine zR_gsf C fJ0_1053 eJ0_checkIndex_df160_2 (fun r => ?_)
  refine zR_callS1 C kJ0_1059 eJ0_checkIndex_df160_5 (c_J3_checkIndex a b r hab hb) rfl rfl (by decide) (by decide) (Nat.le_of_ble_eq_true rfl) (Nat.zero_le _) (Nat.zero_le _) ?_
  refine zR_pop C eJ0_checkIndex_df160_8 rfl ?_
  exact zR_vret C rfl eJ0_checkIndex_df160_9 (Nat.zero_le _) (Nat.zero_le _) ⟨rfl, rfl⟩
theorem c_J1_charAt {l : Launch} {g : zG} (i j : Nat) (hi : i < 6) (hj : j < zSlen.getD i 0) : zM l g yJ1_charAt_3b067 cJ1_charAt_3b067 2 (some .char) 2 0 0 [.ref (g.2.2.2.2 i), .int (nI j)] [] (zE (some (.int (zsC i j))) []) := by
  refine zM_of (by decide +kernel) (Nat.le_of_ble_eq_true rfl) (fun x hl hn _ _ _ C => ?_)
  subst hl
  show zR x g _ (0, 0) 0 [(0, .ref (g.2.2.2.2 i)), (1, .int (nI j))] [] _
  refine zR_iload_n C eJ1_charAt_3b067_0 1 rfl rfl ?_
  refine zR_aload_n C eJ1_charAt_3b067_1 0 rfl rfl ?_
  refine zR_slen C hi eJ1_charAt_3b067_2 ?_
  refine zR_callSv C kJ1_9 eJ1_charAt_3b067_3 (c_J0_checkIndex j _ hj (by have := zSlen_le i hi; omega)) rfl rfl (by decide) (by decide) (Nat.le_of_ble_eq_true rfl) (Nat.zero_le _) (Nat.zero_le _) ?_
  refine zR_aload_n C eJ1_charAt_3b067_6 0 rfl rfl ?_
  refine zR_iload_n C eJ1_charAt_3b067_7 1 rfl rfl ?_
  refine zR_sbld C hi hj eJ1_charAt_3b067_8 ?_
  refine zR_sipush (v := 255) C eJ1_charAt_3b067_9 (by decide) ?_
  refine zR_iand C eJ1_charAt_3b067_12 ?_
  refine zR_i2c C eJ1_charAt_3b067_13 (zsC_all i hi j hj).1 ?_
  exact zR_iret C rfl (zsC_all i hi j hj).2 eJ1_charAt_3b067_14 (Nat.zero_le _) (Nat.zero_le _) ⟨rfl, rfl⟩
theorem c_J0_charAt {l : Launch} {g : zG} (i j : Nat) (hi : i < 6) (hj : j < zSlen.getD i 0) : zM l g yJ0_charAt_5068e cJ0_charAt_5068e 2 (some .char) 3 0 0 [.ref (g.2.2.2.1 i), .int (nI j)] [] (zE (some (.int (zsC i j))) []) := by
  refine zM_of (by decide +kernel) (Nat.le_of_ble_eq_true rfl) (fun x hl hn _ _ _ C => ?_)
  subst hl
  show zR x g _ (0, 0) 0 [(0, .ref (g.2.2.2.1 i)), (1, .int (nI j))] [] _
  refine zR_aload_n C eJ0_charAt_5068e_0 0 rfl rfl ?_
  refine zR_callVs C kJ0_492 eJ0_charAt_5068e_1 hi rfl (c_J0_isLatin1 i hi) rfl rfl (by decide) (by decide) (Nat.le_of_ble_eq_true rfl) (Nat.zero_le _) (Nat.zero_le _) ?_
  refine zR_ifeq_f C eJ0_charAt_5068e_4 (by decide) ?_
  refine zR_aload_n C eJ0_charAt_5068e_7 0 rfl rfl ?_
  refine zR_sval C fJ0_9 hi eJ0_charAt_5068e_8 ?_
  refine zR_iload_n C eJ0_charAt_5068e_11 1 rfl rfl ?_
  refine zR_callS1 C kJ0_495 eJ0_charAt_5068e_12 (c_J1_charAt i j hi hj) rfl rfl (by decide) (by decide) (Nat.le_of_ble_eq_true rfl) (Nat.zero_le _) (Nat.zero_le _) ?_
  exact zR_iret C rfl (zsC_all i hi j hj).2 eJ0_charAt_5068e_15 (Nat.zero_le _) (Nat.zero_le _) ⟨rfl, rfl⟩
