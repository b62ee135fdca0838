/-! The reference: the walks, seventh part: what there is, what if. -/
set_option maxHeartbeats 1000000 in
set_option maxRecDepth 100000 in
theorem c_X6_ofService {l : Launch} {g : zG} (q : Nat → Nat) (m : MD) (s : Int32) (w : Int32) (hr : r_ok (m_row m)) : zM l g yX6_ofService cX6_ofService 3 (some .int) 2 0 0 [.ref (q 0), .int s, .int w] (rW g q m (m_row m)) (zE (some (.int (m_ofService m s w))) (rW g q (m) (m_row (m)))) := by
  refine zM_of (by decide +kernel) (Nat.le_of_ble_eq_true rfl) (fun x hl hn _ _ _ C => ?_)
  subst hl
  show zR x g _ (0, 0) 0 [(0, .ref (q 0)), (1, .int s), (2, .int w)] [] _
  refine zR_aload_n C eX6_ofService_0 0 rfl rfl ?_
  refine zR_iload_n C eX6_ofService_1 1 rfl rfl ?_
  refine zR_callV1 C kX6_108 eX6_ofService_2 (c_X6_isService q _ _ _ ) rfl 0 6 rW_g0 rfl rfl _ rW_c rW_n rfl (by decide) (by decide) (Nat.le_of_ble_eq_true rfl) (Nat.zero_le _) (Nat.zero_le _) rW_f rW_r ?_
  refine zR_bfne C eX6_ofService_5 (fun h5 => ?_) (fun h5 => ?_)
  · skip
    have hv := (r_isS_in h5 hr).1
    have hz := vp_lt hv (by decide)
    refine zR_iload_n C eX6_ofService_10 2 rfl rfl ?_
    refine zR_caseK (0) (fun h11_0 => ?_) (fun h11_0 => ?_)
    · skip
      refine zR_tswIn (off := 57) (tgt := 68) C eX6_ofService_11 (by decide) (by decide) (by decide) (by decide) ?_
      refine zR_aload_n C eX6_ofService_68 0 rfl rfl ?_
      refine zR_iload_n C eX6_ofService_69 1 rfl rfl ?_
      refine zR_iconst (v := 0) C eX6_ofService_70 (by decide) ?_
      refine zR_callS1 C kX6_86 eX6_ofService_71 (c_X6_of _ 0 (by assumption) (by decide)) rfl rfl (by decide) (by decide) (Nat.le_of_ble_eq_true rfl) (Nat.zero_le _) (Nat.zero_le _) ?_
      refine zR_callV1 C kX6_60 eX6_ofService_74 (c_X6_number q _ _ _ (by omega)) rfl 0 6 rW_g0 rfl rfl _ rW_c rW_n rfl (by decide) (by decide) (Nat.le_of_ble_eq_true rfl) (Nat.zero_le _) (Nat.zero_le _) rW_f rW_r ?_
      exact zR_iret C rfl rfl eX6_ofService_77 (Nat.zero_le _) (Nat.zero_le _) ⟨(by first | (unfold m_ofService; rw [if_pos h5, if_pos h11_0]; first | done | rfl) | rfl | (simp only [m_ofService, if_pos h5, if_pos h11_0]; first | done | rfl)), rfl⟩
    · skip
      refine zR_caseK (1) (fun h11_1 => ?_) (fun h11_1 => ?_)
      · skip
        refine zR_tswIn (off := 67) (tgt := 78) C eX6_ofService_11 (by decide) (by decide) (by decide) (by decide) ?_
        refine zR_aload_n C eX6_ofService_78 0 rfl rfl ?_
        refine zR_iload_n C eX6_ofService_79 1 rfl rfl ?_
        refine zR_iconst (v := 3) C eX6_ofService_80 (by decide) ?_
        refine zR_callS1 C kX6_86 eX6_ofService_81 (c_X6_of _ 3 (by assumption) (by decide)) rfl rfl (by decide) (by decide) (Nat.le_of_ble_eq_true rfl) (Nat.zero_le _) (Nat.zero_le _) ?_
        refine zR_callV1 C kX6_60 eX6_ofService_84 (c_X6_number q _ _ _ (by omega)) rfl 0 6 rW_g0 rfl rfl _ rW_c rW_n rfl (by decide) (by decide) (Nat.le_of_ble_eq_true rfl) (Nat.zero_le _) (Nat.zero_le _) rW_f rW_r ?_
        exact zR_iret C rfl rfl eX6_ofService_87 (Nat.zero_le _) (Nat.zero_le _) ⟨(by first | (unfold m_ofService; rw [if_pos h5, if_neg h11_0, if_pos h11_1]; first | done | rfl) | rfl | (simp only [m_ofService, if_pos h5, if_neg h11_0, if_pos h11_1]; first | done | rfl)), rfl⟩
      · skip
        refine zR_caseK (2) (fun h11_2 => ?_) (fun h11_2 => ?_)
        · skip
          refine zR_tswIn (off := 77) (tgt := 88) C eX6_ofService_11 (by decide) (by decide) (by decide) (by decide) ?_
          refine zR_aload_n C eX6_ofService_88 0 rfl rfl ?_
          refine zR_iload_n C eX6_ofService_89 1 rfl rfl ?_
          refine zR_iconst (v := 2) C eX6_ofService_90 (by decide) ?_
          refine zR_callS1 C kX6_86 eX6_ofService_91 (c_X6_of _ 2 (by assumption) (by decide)) rfl rfl (by decide) (by decide) (Nat.le_of_ble_eq_true rfl) (Nat.zero_le _) (Nat.zero_le _) ?_
          refine zR_callV1 C kX6_60 eX6_ofService_94 (c_X6_number q _ _ _ (by omega)) rfl 0 6 rW_g0 rfl rfl _ rW_c rW_n rfl (by decide) (by decide) (Nat.le_of_ble_eq_true rfl) (Nat.zero_le _) (Nat.zero_le _) rW_f rW_r ?_
          exact zR_iret C rfl rfl eX6_ofService_97 (Nat.zero_le _) (Nat.zero_le _) ⟨(by first | (unfold m_ofService; rw [if_pos h5, if_neg h11_0, if_neg h11_1, if_pos h11_2]; first | done | rfl) | rfl | (simp only [m_ofService, if_pos h5, if_neg h11_0, if_neg h11_1, if_pos h11_2]; first | done | rfl)), rfl⟩
        · skip
          refine zR_caseK (3) (fun h11_3 => ?_) (fun h11_3 => ?_)
          · skip
            refine zR_tswIn (off := 87) (tgt := 98) C eX6_ofService_11 (by decide) (by decide) (by decide) (by decide) ?_
            refine zR_aload_n C eX6_ofService_98 0 rfl rfl ?_
            refine zR_iload_n C eX6_ofService_99 1 rfl rfl ?_
            refine zR_iload_n C eX6_ofService_100 2 rfl rfl ?_
            refine zR_iconst (v := 3) C eX6_ofService_101 (by decide) ?_
            refine zR_icmp_ne C eX6_ofService_102 (fun h102 => ?_) (fun h102 => ?_)
            · skip
              exact absurd h11_3 h102
            · skip
              refine zR_iconst (v := 1) C eX6_ofService_105 (by decide) ?_
              refine zR_goto C eX6_ofService_106 ?_
              refine zR_callV1 C kX6_141 eX6_ofService_110 (c_X6_loansOf q _ _ _ 1 hr (by decide)) rfl 0 6 rW_g0 rfl rfl _ rW_c rW_n rfl (by decide) (by decide) (Nat.le_of_ble_eq_true rfl) (Nat.zero_le _) (Nat.zero_le _) rW_f rW_r ?_
              exact zR_iret C rfl rfl eX6_ofService_113 (Nat.zero_le _) (Nat.zero_le _) ⟨(by first | (unfold m_ofService; rw [if_pos h5, if_neg h11_0, if_neg h11_1, if_neg h11_2, if_pos h11_3]; first | done | rfl) | rfl | (simp only [m_ofService, if_pos h5, if_neg h11_0, if_neg h11_1, if_neg h11_2, if_pos h11_3]; first | done | rfl)), rfl⟩
          · skip
            refine zR_caseK (4) (fun h11_4 => ?_) (fun h11_4 => ?_)
            · skip
              refine zR_tswIn (off := 87) (tgt := 98) C eX6_ofService_11 (by decide) (by decide) (by decide) (by decide) ?_
              refine zR_aload_n C eX6_ofService_98 0 rfl rfl ?_
              refine zR_iload_n C eX6_ofService_99 1 rfl rfl ?_
              refine zR_iload_n C eX6_ofService_100 2 rfl rfl ?_
              refine zR_iconst (v := 3) C eX6_ofService_101 (by decide) ?_
              refine zR_icmp_ne C eX6_ofService_102 (fun h102 => ?_) (fun h102 => ?_)
              · skip
                refine zR_iconst (v := 0) C eX6_ofService_109 (by decide) ?_
                refine zR_callV1 C kX6_141 eX6_ofService_110 (c_X6_loansOf q _ _ _ 0 hr (by decide)) rfl 0 6 rW_g0 rfl rfl _ rW_c rW_n rfl (by decide) (by decide) (Nat.le_of_ble_eq_true rfl) (Nat.zero_le _) (Nat.zero_le _) rW_f rW_r ?_
                exact zR_iret C rfl rfl eX6_ofService_113 (Nat.zero_le _) (Nat.zero_le _) ⟨(by first | (unfold m_ofService; rw [if_pos h5, if_neg h11_0, if_neg h11_1, if_neg h11_2, if_neg h11_3, if_pos h11_4]; first | done | rfl) | rfl | (simp only [m_ofService, if_pos h5, if_neg h11_0, if_neg h11_1, if_neg h11_2, if_neg h11_3, if_pos h11_4]; first | done | rfl)), rfl⟩
              · skip
                exact absurd (h11_4.symm.trans h102) (by decide)
            · skip
              refine zR_caseK (5) (fun h11_5 => ?_) (fun h11_5 => ?_)
              · skip
                refine zR_tswIn (off := 103) (tgt := 114) C eX6_ofService_11 (by decide) (by decide) (by decide) (by decide) ?_
                refine zR_aload_n C eX6_ofService_114 0 rfl rfl ?_
                refine zR_iload_n C eX6_ofService_115 1 rfl rfl ?_
                refine zR_iload_n C eX6_ofService_116 2 rfl rfl ?_
                refine zR_iconst (v := 5) C eX6_ofService_117 (by decide) ?_
                refine zR_icmp_ne C eX6_ofService_118 (fun h118 => ?_) (fun h118 => ?_)
                · skip
                  exact absurd h11_5 h118
                · skip
                  refine zR_iconst (v := 1) C eX6_ofService_121 (by decide) ?_
                  refine zR_goto C eX6_ofService_122 ?_
                  refine zR_callV1 C kX6_222 eX6_ofService_126 (c_X6_owedOf q _ _ _ 1 hr (by decide)) rfl 0 6 rW_g0 rfl rfl _ rW_c rW_n rfl (by decide) (by decide) (Nat.le_of_ble_eq_true rfl) (Nat.zero_le _) (Nat.zero_le _) rW_f rW_r ?_
                  exact zR_iret C rfl rfl eX6_ofService_129 (Nat.zero_le _) (Nat.zero_le _) ⟨(by first | (unfold m_ofService; rw [if_pos h5, if_neg h11_0, if_neg h11_1, if_neg h11_2, if_neg h11_3, if_neg h11_4, if_pos h11_5]; first | done | rfl) | rfl | (simp only [m_ofService, if_pos h5, if_neg h11_0, if_neg h11_1, if_neg h11_2, if_neg h11_3, if_neg h11_4, if_pos h11_5]; first | done | rfl)), rfl⟩
              · skip
                refine zR_caseK (6) (fun h11_6 => ?_) (fun h11_6 => ?_)
                · skip
                  refine zR_tswIn (off := 103) (tgt := 114) C eX6_ofService_11 (by decide) (by decide) (by decide) (by decide) ?_
                  refine zR_aload_n C eX6_ofService_114 0 rfl rfl ?_
                  refine zR_iload_n C eX6_ofService_115 1 rfl rfl ?_
                  refine zR_iload_n C eX6_ofService_116 2 rfl rfl ?_
                  refine zR_iconst (v := 5) C eX6_ofService_117 (by decide) ?_
                  refine zR_icmp_ne C eX6_ofService_118 (fun h118 => ?_) (fun h118 => ?_)
                  · skip
                    refine zR_iconst (v := 0) C eX6_ofService_125 (by decide) ?_
                    refine zR_callV1 C kX6_222 eX6_ofService_126 (c_X6_owedOf q _ _ _ 0 hr (by decide)) rfl 0 6 rW_g0 rfl rfl _ rW_c rW_n rfl (by decide) (by decide) (Nat.le_of_ble_eq_true rfl) (Nat.zero_le _) (Nat.zero_le _) rW_f rW_r ?_
                    exact zR_iret C rfl rfl eX6_ofService_129 (Nat.zero_le _) (Nat.zero_le _) ⟨(by first | (unfold m_ofService; rw [if_pos h5, if_neg h11_0, if_neg h11_1, if_neg h11_2, if_neg h11_3, if_neg h11_4, if_neg h11_5, if_pos h11_6]; first | done | rfl) | rfl | (simp only [m_ofService, if_pos h5, if_neg h11_0, if_neg h11_1, if_neg h11_2, if_neg h11_3, if_neg h11_4, if_neg h11_5, if_pos h11_6]; first | done | rfl)), rfl⟩
                  · skip
                    exact absurd (h11_6.symm.trans h118) (by decide)
                · skip
                  refine zR_caseK (7) (fun h11_7 => ?_) (fun h11_7 => ?_)
                  · skip
                    refine zR_tswIn (off := 119) (tgt := 130) C eX6_ofService_11 (by decide) (by decide) (by decide) (by decide) ?_
                    refine zR_aload_n C eX6_ofService_130 0 rfl rfl ?_
                    refine zR_iload_n C eX6_ofService_131 1 rfl rfl ?_
                    refine zR_callV1 C kX6_225 eX6_ofService_132 (c_X6_plansOf q _ _ _ hr) rfl 0 6 rW_g0 rfl rfl _ rW_c rW_n rfl (by decide) (by decide) (Nat.le_of_ble_eq_true rfl) (Nat.zero_le _) (Nat.zero_le _) rW_f rW_r ?_
                    exact zR_iret C rfl rfl eX6_ofService_135 (Nat.zero_le _) (Nat.zero_le _) ⟨(by first | (unfold m_ofService; rw [if_pos h5, if_neg h11_0, if_neg h11_1, if_neg h11_2, if_neg h11_3, if_neg h11_4, if_neg h11_5, if_neg h11_6, if_pos h11_7]; first | done | rfl) | rfl | (simp only [m_ofService, if_pos h5, if_neg h11_0, if_neg h11_1, if_neg h11_2, if_neg h11_3, if_neg h11_4, if_neg h11_5, if_neg h11_6, if_pos h11_7]; first | done | rfl)), rfl⟩
                  · skip
                    refine zR_caseK (8) (fun h11_8 => ?_) (fun h11_8 => ?_)
                    · skip
                      refine zR_tswIn (off := 125) (tgt := 136) C eX6_ofService_11 (by decide) (by decide) (by decide) (by decide) ?_
                      refine zR_aload_n C eX6_ofService_136 0 rfl rfl ?_
                      refine zR_iload_n C eX6_ofService_137 1 rfl rfl ?_
                      refine zR_iload_n C eX6_ofService_138 2 rfl rfl ?_
                      refine zR_iconst (v := 4) C eX6_ofService_139 (by decide) ?_
                      refine zR_isub C eX6_ofService_140 ?_
                      refine zR_topi (b := nI 4) (by rw [h11_8]; decide) ?_
                      refine zR_callS1 C kX6_86 eX6_ofService_141 (c_X6_of _ 4 (by assumption) (by decide)) rfl rfl (by decide) (by decide) (Nat.le_of_ble_eq_true rfl) (Nat.zero_le _) (Nat.zero_le _) ?_
                      refine zR_callV1 C kX6_60 eX6_ofService_144 (c_X6_number q _ _ _ (by omega)) rfl 0 6 rW_g0 rfl rfl _ rW_c rW_n rfl (by decide) (by decide) (Nat.le_of_ble_eq_true rfl) (Nat.zero_le _) (Nat.zero_le _) rW_f rW_r ?_
                      exact zR_iret C rfl rfl eX6_ofService_147 (Nat.zero_le _) (Nat.zero_le _) ⟨(by first | (unfold m_ofService; rw [if_pos h5, if_neg h11_0, if_neg h11_1, if_neg h11_2, if_neg h11_3, if_neg h11_4, if_neg h11_5, if_neg h11_6, if_neg h11_7, if_pos h11_8]; first | done | rfl) | rfl | (simp only [m_ofService, if_pos h5, if_neg h11_0, if_neg h11_1, if_neg h11_2, if_neg h11_3, if_neg h11_4, if_neg h11_5, if_neg h11_6, if_neg h11_7, if_pos h11_8]; first | done | rfl)), rfl⟩
                    · skip
                      refine zR_caseK (9) (fun h11_9 => ?_) (fun h11_9 => ?_)
                      · skip
                        refine zR_tswIn (off := 125) (tgt := 136) C eX6_ofService_11 (by decide) (by decide) (by decide) (by decide) ?_
                        refine zR_aload_n C eX6_ofService_136 0 rfl rfl ?_
                        refine zR_iload_n C eX6_ofService_137 1 rfl rfl ?_
                        refine zR_iload_n C eX6_ofService_138 2 rfl rfl ?_
                        refine zR_iconst (v := 4) C eX6_ofService_139 (by decide) ?_
                        refine zR_isub C eX6_ofService_140 ?_
                        refine zR_topi (b := nI 5) (by rw [h11_9]; decide) ?_
                        refine zR_callS1 C kX6_86 eX6_ofService_141 (c_X6_of _ 5 (by assumption) (by decide)) rfl rfl (by decide) (by decide) (Nat.le_of_ble_eq_true rfl) (Nat.zero_le _) (Nat.zero_le _) ?_
                        refine zR_callV1 C kX6_60 eX6_ofService_144 (c_X6_number q _ _ _ (by omega)) rfl 0 6 rW_g0 rfl rfl _ rW_c rW_n rfl (by decide) (by decide) (Nat.le_of_ble_eq_true rfl) (Nat.zero_le _) (Nat.zero_le _) rW_f rW_r ?_
                        exact zR_iret C rfl rfl eX6_ofService_147 (Nat.zero_le _) (Nat.zero_le _) ⟨(by first | (unfold m_ofService; rw [if_pos h5, if_neg h11_0, if_neg h11_1, if_neg h11_2, if_neg h11_3, if_neg h11_4, if_neg h11_5, if_neg h11_6, if_neg h11_7, if_neg h11_8, if_pos h11_9]; first | done | rfl) | rfl | (simp only [m_ofService, if_pos h5, if_neg h11_0, if_neg h11_1, if_neg h11_2, if_neg h11_3, if_neg h11_4, if_neg h11_5, if_neg h11_6, if_neg h11_7, if_neg h11_8, if_pos h11_9]; first | done | rfl)), rfl⟩
                      · skip
                        refine zR_caseK (10) (fun h11_10 => ?_) (fun h11_10 => ?_)
                        · skip
                          refine zR_tswIn (off := 125) (tgt := 136) C eX6_ofService_11 (by decide) (by decide) (by decide) (by decide) ?_
                          refine zR_aload_n C eX6_ofService_136 0 rfl rfl ?_
                          refine zR_iload_n C eX6_ofService_137 1 rfl rfl ?_
                          refine zR_iload_n C eX6_ofService_138 2 rfl rfl ?_
                          refine zR_iconst (v := 4) C eX6_ofService_139 (by decide) ?_
                          refine zR_isub C eX6_ofService_140 ?_
                          refine zR_topi (b := nI 6) (by rw [h11_10]; decide) ?_
                          refine zR_callS1 C kX6_86 eX6_ofService_141 (c_X6_of _ 6 (by assumption) (by decide)) rfl rfl (by decide) (by decide) (Nat.le_of_ble_eq_true rfl) (Nat.zero_le _) (Nat.zero_le _) ?_
                          refine zR_callV1 C kX6_60 eX6_ofService_144 (c_X6_number q _ _ _ (by omega)) rfl 0 6 rW_g0 rfl rfl _ rW_c rW_n rfl (by decide) (by decide) (Nat.le_of_ble_eq_true rfl) (Nat.zero_le _) (Nat.zero_le _) rW_f rW_r ?_
                          exact zR_iret C rfl rfl eX6_ofService_147 (Nat.zero_le _) (Nat.zero_le _) ⟨(by first | (unfold m_ofService; rw [if_pos h5, if_neg h11_0, if_neg h11_1, if_neg h11_2, if_neg h11_3, if_neg h11_4, if_neg h11_5, if_neg h11_6, if_neg h11_7, if_neg h11_8, if_neg h11_9, if_pos h11_10]; first | done | rfl) | rfl | (simp only [m_ofService, if_pos h5, if_neg h11_0, if_neg h11_1, if_neg h11_2, if_neg h11_3, if_neg h11_4, if_neg h11_5, if_neg h11_6, if_neg h11_7, if_neg h11_8, if_neg h11_9, if_pos h11_10]; first | done | rfl)), rfl⟩
                        · skip
                          refine zR_tswD (tgt := 148) C eX6_ofService_11 (fun j hj => match j, hj with | 0, _ => Or.inr (zsw_ne h11_0 (by decide) (by decide)) | 1, _ => Or.inr (zsw_ne h11_1 (by decide) (by decide)) | 2, _ => Or.inr (zsw_ne h11_2 (by decide) (by decide)) | 3, _ => Or.inr (zsw_ne h11_3 (by decide) (by decide)) | 4, _ => Or.inr (zsw_ne h11_4 (by decide) (by decide)) | 5, _ => Or.inr (zsw_ne h11_5 (by decide) (by decide)) | 6, _ => Or.inr (zsw_ne h11_6 (by decide) (by decide)) | 7, _ => Or.inr (zsw_ne h11_7 (by decide) (by decide)) | 8, _ => Or.inr (zsw_ne h11_8 (by decide) (by decide)) | 9, _ => Or.inr (zsw_ne h11_9 (by decide) (by decide)) | 10, _ => Or.inr (zsw_ne h11_10 (by decide) (by decide)) | _ + 11, hj => absurd hj (by simp)) (by decide) (by decide) ?_
                          refine zR_bipush (v := -2) C eX6_ofService_148 (by decide) ?_
                          exact zR_iret C rfl rfl eX6_ofService_150 (Nat.zero_le _) (Nat.zero_le _) ⟨(by first | (unfold m_ofService; rw [if_pos h5, if_neg h11_0, if_neg h11_1, if_neg h11_2, if_neg h11_3, if_neg h11_4, if_neg h11_5, if_neg h11_6, if_neg h11_7, if_neg h11_8, if_neg h11_9, if_neg h11_10]; first | done | rfl) | rfl | (simp only [m_ofService, if_pos h5, if_neg h11_0, if_neg h11_1, if_neg h11_2, if_neg h11_3, if_neg h11_4, if_neg h11_5, if_neg h11_6, if_neg h11_7, if_neg h11_8, if_neg h11_9, if_neg h11_10]; first | done | rfl)), rfl⟩
  · skip
    refine zR_iconst (v := -1) C eX6_ofService_8 (by decide) ?_
    exact zR_iret C rfl rfl eX6_ofService_9 (Nat.zero_le _) (Nat.zero_le _) ⟨(by first | (unfold m_ofService; rw [if_neg h5]; first | done | rfl) | rfl | (simp only [m_ofService, if_neg h5]; first | done | rfl)), rfl⟩
set_option maxHeartbeats 1000000 in
set_option maxRecDepth 100000 in
theorem c_X6_account {l : Launch} {g : zG} (q : Nat → Nat) (m : MD) (s : Int32) (w : Int32) (hr : r_ok (m_row m)) : zM l g yX6_account cX6_account 3 (some .long) 2 0 0 [.ref (q 0), .int s, .int w] (rW g q m (m_row m)) (zE (some (.long (m_account m s w))) (rW g q (m) (m_row (m)))) := by
  refine zM_of (by decide +kernel) (Nat.le_of_ble_eq_true rfl) (fun x hl hn _ _ _ C => ?_)
  subst hl
  show zR x g _ (0, 0) 0 [(0, .ref (q 0)), (1, .int s), (2, .int w)] [] _
  refine zR_aload_n C eX6_account_0 0 rfl rfl ?_
  refine zR_iload_n C eX6_account_1 1 rfl rfl ?_
  refine zR_callV1 C kX6_108 eX6_account_2 (c_X6_isService q _ _ _ ) rfl 0 6 rW_g0 rfl rfl _ rW_c rW_n rfl (by decide) (by decide) (Nat.le_of_ble_eq_true rfl) (Nat.zero_le _) (Nat.zero_le _) rW_f rW_r ?_
  refine zR_bfne C eX6_account_5 (fun h5 => ?_) (fun h5 => ?_)
  · skip
    have hv := (r_isS_in h5 hr).1
    have hz := vp_lt hv (by decide)
    refine zR_iload_n C eX6_account_12 2 rfl rfl ?_
    refine zR_i2l C eX6_account_13 ?_
    refine zR_lconst (v := 0) C eX6_account_14 (by decide) ?_
    refine zR_ldc2 C qX6_230 eX6_account_15 ?_
    refine zR_callS1 C kX6_56 eX6_account_18 (c_X6_in _ _ _ ) rfl rfl (by decide) (by decide) (Nat.le_of_ble_eq_true rfl) (Nat.zero_le _) (Nat.zero_le _) ?_
    refine zR_bfeq C eX6_account_21 (fun h21 => ?_) (fun h21 => ?_)
    · skip
      refine zR_iload_n C eX6_account_37 2 rfl rfl ?_
      refine zR_bipush (v := 8) C eX6_account_38 (by decide) ?_
      refine zR_icmp_ne C eX6_account_40 (fun h40 => ?_) (fun h40 => ?_)
      · skip
        refine zR_ldc2 C qX6_232 eX6_account_51 ?_
        exact zR_lret C rfl eX6_account_54 (Nat.zero_le _) (Nat.zero_le _) ⟨(by first | (unfold m_account; rw [if_pos h5, if_neg h21, if_neg h40]; first | done | rfl) | rfl | (simp only [m_account, if_pos h5, if_neg h21, if_neg h40]; first | done | rfl)), rfl⟩
      · skip
        refine zR_aload_n C eX6_account_43 0 rfl rfl ?_
        refine zR_iload_n C eX6_account_44 1 rfl rfl ?_
        refine zR_callV1 C kX6_90 eX6_account_45 (c_X6_left q _ _ _ (by assumption)) rfl 0 6 rW_g0 rfl rfl _ rW_c rW_n rfl (by decide) (by decide) (Nat.le_of_ble_eq_true rfl) (Nat.zero_le _) (Nat.zero_le _) rW_f rW_r ?_
        refine zR_goto C eX6_account_48 ?_
        exact zR_lret C rfl eX6_account_54 (Nat.zero_le _) (Nat.zero_le _) ⟨(by first | (unfold m_account; rw [if_pos h5, if_neg h21, if_pos h40]; first | done | rfl) | rfl | (simp only [m_account, if_pos h5, if_neg h21, if_pos h40]; first | done | rfl)), rfl⟩
    · skip
      have hw := z_inl_nn (a := 0) (b := 7) h21 (by decide) (by decide)
      have hwz := hw.2.2
      refine zR_aload_n C eX6_account_24 0 rfl rfl ?_
      refine zR_get C fX6_7 eX6_account_25 0 rW_g0 rfl ?_
      refine zR_iload_n C eX6_account_28 1 rfl rfl ?_
      refine zR_iload_n C eX6_account_29 2 rfl rfl ?_
      refine zR_topi (b := nI (zn32 w)) hw.1 ?_
      refine zR_callS1 C kX6_105 eX6_account_30 (c_X6_accountOf _ _ hv (by omega)) rfl rfl (by decide) (by decide) (Nat.le_of_ble_eq_true rfl) (Nat.zero_le _) (Nat.zero_le _) ?_
      refine zR_laldN C eX6_account_33 1 rW_g1 ⟨by omega, by decide⟩ ?_
      refine zR_goto C eX6_account_34 ?_
      exact zR_lret C rfl eX6_account_54 (Nat.zero_le _) (Nat.zero_le _) ⟨(by first | (unfold m_account; rw [if_pos h5, if_pos h21]; first | done | rfl) | rfl | (simp only [m_account, if_pos h5, if_pos h21]; first | done | rfl)), rfl⟩
  · skip
    refine zR_ldc2 C qX6_228 eX6_account_8 ?_
    exact zR_lret C rfl eX6_account_11 (Nat.zero_le _) (Nat.zero_le _) ⟨(by first | (unfold m_account; rw [if_neg h5]; first | done | rfl) | rfl | (simp only [m_account, if_neg h5]; first | done | rfl)), rfl⟩
set_option maxHeartbeats 1000000 in
set_option maxRecDepth 100000 in
theorem c_X6_ofLoan {l : Launch} {g : zG} (q : Nat → Nat) (m : MD) (s : Int32) (w : Int32) (hr : r_ok (m_row m)) : zM l g yX6_ofLoan cX6_ofLoan 3 (some .int) 2 0 0 [.ref (q 0), .int s, .int w] (rW g q m (m_row m)) (zE (some (.int (m_ofLoan m s w))) (rW g q (m) (m_row (m)))) := by
  refine zM_of (by decide +kernel) (Nat.le_of_ble_eq_true rfl) (fun x hl hn _ _ _ C => ?_)
  subst hl
  show zR x g _ (0, 0) 0 [(0, .ref (q 0)), (1, .int s), (2, .int w)] [] _
  refine zR_aload_n C eX6_ofLoan_0 0 rfl rfl ?_
  refine zR_iload_n C eX6_ofLoan_1 1 rfl rfl ?_
  refine zR_callV1 C kX6_158 eX6_ofLoan_2 (c_X6_isLoan q _ _ _ ) rfl 0 6 rW_g0 rfl rfl _ rW_c rW_n rfl (by decide) (by decide) (Nat.le_of_ble_eq_true rfl) (Nat.zero_le _) (Nat.zero_le _) rW_f rW_r ?_
  refine zR_bfne C eX6_ofLoan_5 (fun h5 => ?_) (fun h5 => ?_)
  · skip
    have hv := (r_isL_in h5 hr).1
    have hz := vp_lt hv (by decide)
    refine zR_iload_n C eX6_ofLoan_10 2 rfl rfl ?_
    refine zR_i2l C eX6_ofLoan_11 ?_
    refine zR_lconst (v := 0) C eX6_ofLoan_12 (by decide) ?_
    refine zR_ldc2 C qX6_78 eX6_ofLoan_13 ?_
    refine zR_callS1 C kX6_56 eX6_ofLoan_16 (c_X6_in _ _ _ ) rfl rfl (by decide) (by decide) (Nat.le_of_ble_eq_true rfl) (Nat.zero_le _) (Nat.zero_le _) ?_
    refine zR_bfeq C eX6_ofLoan_19 (fun h19 => ?_) (fun h19 => ?_)
    · skip
      refine zR_bipush (v := -2) C eX6_ofLoan_34 (by decide) ?_
      exact zR_iret C rfl rfl eX6_ofLoan_36 (Nat.zero_le _) (Nat.zero_le _) ⟨(by first | (unfold m_ofLoan; rw [if_pos h5, if_neg h19]; first | done | rfl) | rfl | (simp only [m_ofLoan, if_pos h5, if_neg h19]; first | done | rfl)), rfl⟩
    · skip
      have hw := z_inl_nn (a := 0) (b := 4) h19 (by decide) (by decide)
      have hwz := hw.2.2
      refine zR_aload_n C eX6_ofLoan_22 0 rfl rfl ?_
      refine zR_iload_n C eX6_ofLoan_23 1 rfl rfl ?_
      refine zR_iload_n C eX6_ofLoan_24 2 rfl rfl ?_
      refine zR_topi (b := nI (zn32 w)) hw.1 ?_
      refine zR_callS1 C kX6_138 eX6_ofLoan_25 (c_X6_ofLoanAt _ _ hv (by omega)) rfl rfl (by decide) (by decide) (Nat.le_of_ble_eq_true rfl) (Nat.zero_le _) (Nat.zero_le _) ?_
      refine zR_callV1 C kX6_60 eX6_ofLoan_28 (c_X6_number q _ _ _ (by omega)) rfl 0 6 rW_g0 rfl rfl _ rW_c rW_n rfl (by decide) (by decide) (Nat.le_of_ble_eq_true rfl) (Nat.zero_le _) (Nat.zero_le _) rW_f rW_r ?_
      refine zR_goto C eX6_ofLoan_31 ?_
      exact zR_iret C rfl rfl eX6_ofLoan_36 (Nat.zero_le _) (Nat.zero_le _) ⟨(by first | (unfold m_ofLoan; rw [if_pos h5, if_pos h19]; first | done | rfl) | rfl | (simp only [m_ofLoan, if_pos h5, if_pos h19]; first | done | rfl)), rfl⟩
  · skip
    refine zR_iconst (v := -1) C eX6_ofLoan_8 (by decide) ?_
    exact zR_iret C rfl rfl eX6_ofLoan_9 (Nat.zero_le _) (Nat.zero_le _) ⟨(by first | (unfold m_ofLoan; rw [if_neg h5]; first | done | rfl) | rfl | (simp only [m_ofLoan, if_neg h5]; first | done | rfl)), rfl⟩
set_option maxHeartbeats 1000000 in
set_option maxRecDepth 100000 in
theorem c_X6_ofPlan {l : Launch} {g : zG} (q : Nat → Nat) (m : MD) (s : Int32) (w : Int32) (hr : r_ok (m_row m)) : zM l g yX6_ofPlan cX6_ofPlan 3 (some .int) 2 0 0 [.ref (q 0), .int s, .int w] (rW g q m (m_row m)) (zE (some (.int (m_ofPlan m s w))) (rW g q (m) (m_row (m)))) := by
  refine zM_of (by decide +kernel) (Nat.le_of_ble_eq_true rfl) (fun x hl hn _ _ _ C => ?_)
  subst hl
  show zR x g _ (0, 0) 0 [(0, .ref (q 0)), (1, .int s), (2, .int w)] [] _
  refine zR_aload_n C eX6_ofPlan_0 0 rfl rfl ?_
  refine zR_iload_n C eX6_ofPlan_1 1 rfl rfl ?_
  refine zR_callV1 C kX6_184 eX6_ofPlan_2 (c_X6_isPlan q _ _ _ ) rfl 0 6 rW_g0 rfl rfl _ rW_c rW_n rfl (by decide) (by decide) (Nat.le_of_ble_eq_true rfl) (Nat.zero_le _) (Nat.zero_le _) rW_f rW_r ?_
  refine zR_bfne C eX6_ofPlan_5 (fun h5 => ?_) (fun h5 => ?_)
  · skip
    have hv := (r_isP_in h5 hr).1
    have hz := vp_lt hv (by decide)
    refine zR_iload_n C eX6_ofPlan_10 2 rfl rfl ?_
    refine zR_i2l C eX6_ofPlan_11 ?_
    refine zR_lconst (v := 0) C eX6_ofPlan_12 (by decide) ?_
    refine zR_ldc2 C qX6_47 eX6_ofPlan_13 ?_
    refine zR_callS1 C kX6_56 eX6_ofPlan_16 (c_X6_in _ _ _ ) rfl rfl (by decide) (by decide) (Nat.le_of_ble_eq_true rfl) (Nat.zero_le _) (Nat.zero_le _) ?_
    refine zR_bfeq C eX6_ofPlan_19 (fun h19 => ?_) (fun h19 => ?_)
    · skip
      refine zR_bipush (v := -2) C eX6_ofPlan_34 (by decide) ?_
      exact zR_iret C rfl rfl eX6_ofPlan_36 (Nat.zero_le _) (Nat.zero_le _) ⟨(by first | (unfold m_ofPlan; rw [if_pos h5, if_neg h19]; first | done | rfl) | rfl | (simp only [m_ofPlan, if_pos h5, if_neg h19]; first | done | rfl)), rfl⟩
    · skip
      have hw := z_inl_nn (a := 0) (b := 3) h19 (by decide) (by decide)
      have hwz := hw.2.2
      refine zR_aload_n C eX6_ofPlan_22 0 rfl rfl ?_
      refine zR_iload_n C eX6_ofPlan_23 1 rfl rfl ?_
      refine zR_iload_n C eX6_ofPlan_24 2 rfl rfl ?_
      refine zR_topi (b := nI (zn32 w)) hw.1 ?_
      refine zR_callS1 C kX6_172 eX6_ofPlan_25 (c_X6_ofPlanAt _ _ hv (by omega)) rfl rfl (by decide) (by decide) (Nat.le_of_ble_eq_true rfl) (Nat.zero_le _) (Nat.zero_le _) ?_
      refine zR_callV1 C kX6_60 eX6_ofPlan_28 (c_X6_number q _ _ _ (by omega)) rfl 0 6 rW_g0 rfl rfl _ rW_c rW_n rfl (by decide) (by decide) (Nat.le_of_ble_eq_true rfl) (Nat.zero_le _) (Nat.zero_le _) rW_f rW_r ?_
      refine zR_goto C eX6_ofPlan_31 ?_
      exact zR_iret C rfl rfl eX6_ofPlan_36 (Nat.zero_le _) (Nat.zero_le _) ⟨(by first | (unfold m_ofPlan; rw [if_pos h5, if_pos h19]; first | done | rfl) | rfl | (simp only [m_ofPlan, if_pos h5, if_pos h19]; first | done | rfl)), rfl⟩
  · skip
    refine zR_iconst (v := -1) C eX6_ofPlan_8 (by decide) ?_
    exact zR_iret C rfl rfl eX6_ofPlan_9 (Nat.zero_le _) (Nat.zero_le _) ⟨(by first | (unfold m_ofPlan; rw [if_neg h5]; first | done | rfl) | rfl | (simp only [m_ofPlan, if_neg h5]; first | done | rfl)), rfl⟩
set_option maxHeartbeats 1000000 in
set_option maxRecDepth 100000 in
theorem c_X6_frozenSet_lp {x : zX} {g : zG} {q : Nat → Nat} {m : MD} {r : RW} (hn : zn x = 3) (C : zC x g RX6 cX6_frozenSet (some .int) 2) (hr : r_ok r) : ∀ k i : Nat, i + k = zn64 (r 11) → zR x g (zE (some (.int (r_fset r (zn64 (r 11))))) (rW g q m r)) (0, 0) 4 [(2, .int (nI i)), (1, .int (r_fset r i)), (0, .ref (q 0))] [] (rW g q m r) := by
  intro k
  induction k with
  | zero =>
    intro i hk
    have hi : i = zn64 (r 11) := by omega
    refine zR_iload_n C eX6_frozenSet_4 0 rfl rfl ?_
    refine zR_i2l C eX6_frozenSet_5 ?_
    refine zR_aload_n C eX6_frozenSet_6 2 rfl rfl ?_
    refine zR_get C fX6_7 eX6_frozenSet_7 0 rW_g0 rfl ?_
    refine zR_bipush (v := 11) C eX6_frozenSet_10 (by decide) ?_
    refine zR_laldK C eX6_frozenSet_12 1 rW_g1 11 rfl (vp_in_iff.mpr (by decide)) ?_
    refine zR_cifge C eX6_frozenSet_13 eX6_frozenSet_14 (fun h13 => ?_) (fun h13 => ?_)
    · skip
      refine zR_iload_n C eX6_frozenSet_41 1 rfl rfl ?_
      subst hi
      exact zR_iret C rfl rfl eX6_frozenSet_42 (Nat.zero_le _) (Nat.zero_le _) ⟨rfl, rfl⟩
    · skip
      exact absurd h13 (zlpl_out hr.1 (by decide) hi)
  | succ k ih =>
    intro i hk
    have hlt : i < zn64 (r 11) := by omega
    have hi8 : i < 8 := Nat.lt_of_lt_of_le hlt hr.1.2
    refine zR_iload_n C eX6_frozenSet_4 0 rfl rfl ?_
    refine zR_i2l C eX6_frozenSet_5 ?_
    refine zR_aload_n C eX6_frozenSet_6 2 rfl rfl ?_
    refine zR_get C fX6_7 eX6_frozenSet_7 0 rW_g0 rfl ?_
    refine zR_bipush (v := 11) C eX6_frozenSet_10 (by decide) ?_
    refine zR_laldK C eX6_frozenSet_12 1 rW_g1 11 rfl (vp_in_iff.mpr (by decide)) ?_
    refine zR_cifge C eX6_frozenSet_13 eX6_frozenSet_14 (fun h13 => ?_) (fun h13 => ?_)
    · skip
      exact absurd (zlpl_in hr.1 (by decide) hlt) h13
    · skip
      refine zR_iload_n C eX6_frozenSet_17 1 rfl rfl ?_
      refine zR_aload_n C eX6_frozenSet_18 2 rfl rfl ?_
      refine zR_iload_n C eX6_frozenSet_19 0 rfl rfl ?_
      refine zR_callV1 C kX6_94 eX6_frozenSet_20 (c_X6_isFrozenN q _ _ _ hi8) rfl 0 6 rW_g0 rfl rfl _ rW_c rW_n rfl (by decide) (by decide) (Nat.le_of_ble_eq_true rfl) (Nat.zero_le _) (Nat.zero_le _) rW_f rW_r ?_
      refine zR_bfeq C eX6_frozenSet_23 (fun h23 => ?_) (fun h23 => ?_)
      · skip
        refine zR_iconst (v := 0) C eX6_frozenSet_32 (by decide) ?_
        refine zR_ior C eX6_frozenSet_33 ?_
        refine zR_istore_n (lv' := [(1, _), (2, _), (0, _)]) C eX6_frozenSet_34 rfl (by rw [hn]; decide) rfl ?_
        refine zR_iinc (lv' := [(2, _), (1, _), (0, _)]) (v' := nI (i + 1)) C eX6_frozenSet_35 1 rfl (zinc i) (by rw [hn]; decide) rfl ?_
        refine zR_goto C eX6_frozenSet_38 ?_
        have e1 : r_fset r (i + 1) = r_fset r i ||| 0 := if_neg h23
        refine zR_lv [(2, _), (1, .int (r_fset r (i + 1))), (0, _)] [0, 1, 2] (by rw [e1] <;> rfl) ?_
        exact ih (i + 1) (by omega)
      · skip
        refine zR_iconst (v := 1) C eX6_frozenSet_26 (by decide) ?_
        refine zR_iload_n C eX6_frozenSet_27 0 rfl rfl ?_
        refine zR_ishl C eX6_frozenSet_28 ?_
        refine zR_goto C eX6_frozenSet_29 ?_
        refine zR_ior C eX6_frozenSet_33 ?_
        refine zR_istore_n (lv' := [(1, _), (2, _), (0, _)]) C eX6_frozenSet_34 rfl (by rw [hn]; decide) rfl ?_
        refine zR_iinc (lv' := [(2, _), (1, _), (0, _)]) (v' := nI (i + 1)) C eX6_frozenSet_35 1 rfl (zinc i) (by rw [hn]; decide) rfl ?_
        refine zR_goto C eX6_frozenSet_38 ?_
        have e1 : r_fset r (i + 1) = r_fset r i ||| (1 <<< (nI i &&& 31)) := if_pos h23
        refine zR_lv [(2, _), (1, .int (r_fset r (i + 1))), (0, _)] [0, 1, 2] (by rw [e1] <;> rfl) ?_
        exact ih (i + 1) (by omega)
set_option maxHeartbeats 1000000 in
set_option maxRecDepth 100000 in
theorem c_X6_frozenSet {l : Launch} {g : zG} (q : Nat → Nat) (m : MD) (r : RW)  (hr : r_ok r) : zM l g yX6_frozenSet cX6_frozenSet 3 (some .int) 2 0 0 [.ref (q 0)] (rW g q m r) (zE (some (.int (r_fset r (zn64 (r 11))))) (rW g q m r)) := by
  refine zM_of (by decide +kernel) (Nat.le_of_ble_eq_true rfl) (fun x hl hn _ _ _ C => ?_)
  subst hl
  show zR x g _ (0, 0) 0 [(0, .ref (q 0))] [] _
  refine zR_iconst (v := 0) C eX6_frozenSet_0 (by decide) ?_
  refine zR_istore_n (lv' := [(1, _), (0, _)]) C eX6_frozenSet_1 rfl (by rw [hn]; decide) rfl ?_
  refine zR_iconst (v := 0) C eX6_frozenSet_2 (by decide) ?_
  refine zR_istore_n (lv' := [(2, _), (1, _), (0, _)]) C eX6_frozenSet_3 rfl (by rw [hn]; decide) rfl ?_
  refine zR_lv [(2, .int (nI 0)), (1, .int (r_fset r 0)), (0, _)] [0, 1, 2] rfl ?_
  exact c_X6_frozenSet_lp hn C hr _ 0 (Nat.zero_add _)
theorem w_10 {w : Int32} (h : z_inl w.toInt64 10 17 = true) : w - 10 = nI (zn32 (w - 10)) ∧ zn32 (w - 10) < 8 := by
  have h1 := z_inl_nn (a := 10) (b := 17) h (by decide) (by decide)
  have e : w - 10 = nI (zn32 w - 10) := by
    rw [h1.1, show (10 : Int32) = nI 10 from rfl, pk_sub h1.2.1, ← h1.1]
  have e2 : zn32 (w - 10) = zn32 w - 10 := by rw [e]; exact nI_clamp (by omega)
  rw [e2]; exact ⟨e, by omega⟩
set_option maxHeartbeats 1000000 in
set_option maxRecDepth 100000 in
theorem c_X6_count {l : Launch} {g : zG} (q : Nat → Nat) (m : MD) (w : Int32) (hr : r_ok (m_row m)) : zM l g yX6_count cX6_count 2 (some .int) 3 0 0 [.ref (q 0), .int w] (rW g q m (m_row m)) (zE (some (.int (m_count m w))) (rW g q (m) (m_row (m)))) := by
  refine zM_of (by decide +kernel) (Nat.le_of_ble_eq_true rfl) (fun x hl hn _ _ _ C => ?_)
  subst hl
  show zR x g _ (0, 0) 0 [(0, .ref (q 0)), (1, .int w)] [] _
  refine zR_iload_n C eX6_count_0 1 rfl rfl ?_
  refine zR_caseK (0) (fun h1_0 => ?_) (fun h1_0 => ?_)
  · skip
    refine zR_tswIn (off := 55) (tgt := 56) C eX6_count_1 (by decide) (by decide) (by decide) (by decide) ?_
    refine zR_aload_n C eX6_count_56 0 rfl rfl ?_
    refine zR_bipush (v := 8) C eX6_count_57 (by decide) ?_
    refine zR_iload_n C eX6_count_59 1 rfl rfl ?_
    refine zR_iadd C eX6_count_60 ?_
    refine zR_topi (b := nI (zn32 (8 + w))) (by rw [h1_0]; decide) ?_
    have h8 : zn32 (8 + w) < 4540 := by rw [h1_0]; decide
    refine zR_callV1 C kX6_60 eX6_count_61 (c_X6_number q _ _ _ h8) rfl 0 6 rW_g0 rfl rfl _ rW_c rW_n rfl (by decide) (by decide) (Nat.le_of_ble_eq_true rfl) (Nat.zero_le _) (Nat.zero_le _) rW_f rW_r ?_
    exact zR_iret C rfl rfl eX6_count_64 (Nat.zero_le _) (Nat.zero_le _) ⟨(by first | (unfold m_count; rw [if_pos h1_0]; first | done | rfl) | rfl | (simp only [m_count, if_pos h1_0]; first | done | rfl)), rfl⟩
  · skip
    refine zR_caseK (1) (fun h1_1 => ?_) (fun h1_1 => ?_)
    · skip
      refine zR_tswIn (off := 55) (tgt := 56) C eX6_count_1 (by decide) (by decide) (by decide) (by decide) ?_
      refine zR_aload_n C eX6_count_56 0 rfl rfl ?_
      refine zR_bipush (v := 8) C eX6_count_57 (by decide) ?_
      refine zR_iload_n C eX6_count_59 1 rfl rfl ?_
      refine zR_iadd C eX6_count_60 ?_
      refine zR_topi (b := nI (zn32 (8 + w))) (by rw [h1_1]; decide) ?_
      have h8 : zn32 (8 + w) < 4540 := by rw [h1_1]; decide
      refine zR_callV1 C kX6_60 eX6_count_61 (c_X6_number q _ _ _ h8) rfl 0 6 rW_g0 rfl rfl _ rW_c rW_n rfl (by decide) (by decide) (Nat.le_of_ble_eq_true rfl) (Nat.zero_le _) (Nat.zero_le _) rW_f rW_r ?_
      exact zR_iret C rfl rfl eX6_count_64 (Nat.zero_le _) (Nat.zero_le _) ⟨(by first | (unfold m_count; rw [if_neg h1_0, if_pos h1_1]; first | done | rfl) | rfl | (simp only [m_count, if_neg h1_0, if_pos h1_1]; first | done | rfl)), rfl⟩
    · skip
      refine zR_caseK (2) (fun h1_2 => ?_) (fun h1_2 => ?_)
      · skip
        refine zR_tswIn (off := 55) (tgt := 56) C eX6_count_1 (by decide) (by decide) (by decide) (by decide) ?_
        refine zR_aload_n C eX6_count_56 0 rfl rfl ?_
        refine zR_bipush (v := 8) C eX6_count_57 (by decide) ?_
        refine zR_iload_n C eX6_count_59 1 rfl rfl ?_
        refine zR_iadd C eX6_count_60 ?_
        refine zR_topi (b := nI (zn32 (8 + w))) (by rw [h1_2]; decide) ?_
        have h8 : zn32 (8 + w) < 4540 := by rw [h1_2]; decide
        refine zR_callV1 C kX6_60 eX6_count_61 (c_X6_number q _ _ _ h8) rfl 0 6 rW_g0 rfl rfl _ rW_c rW_n rfl (by decide) (by decide) (Nat.le_of_ble_eq_true rfl) (Nat.zero_le _) (Nat.zero_le _) rW_f rW_r ?_
        exact zR_iret C rfl rfl eX6_count_64 (Nat.zero_le _) (Nat.zero_le _) ⟨(by first | (unfold m_count; rw [if_neg h1_0, if_neg h1_1, if_pos h1_2]; first | done | rfl) | rfl | (simp only [m_count, if_neg h1_0, if_neg h1_1, if_pos h1_2]; first | done | rfl)), rfl⟩
      · skip
        refine zR_caseK (3) (fun h1_3 => ?_) (fun h1_3 => ?_)
        · skip
          refine zR_tswIn (off := 55) (tgt := 56) C eX6_count_1 (by decide) (by decide) (by decide) (by decide) ?_
          refine zR_aload_n C eX6_count_56 0 rfl rfl ?_
          refine zR_bipush (v := 8) C eX6_count_57 (by decide) ?_
          refine zR_iload_n C eX6_count_59 1 rfl rfl ?_
          refine zR_iadd C eX6_count_60 ?_
          refine zR_topi (b := nI (zn32 (8 + w))) (by rw [h1_3]; decide) ?_
          have h8 : zn32 (8 + w) < 4540 := by rw [h1_3]; decide
          refine zR_callV1 C kX6_60 eX6_count_61 (c_X6_number q _ _ _ h8) rfl 0 6 rW_g0 rfl rfl _ rW_c rW_n rfl (by decide) (by decide) (Nat.le_of_ble_eq_true rfl) (Nat.zero_le _) (Nat.zero_le _) rW_f rW_r ?_
          exact zR_iret C rfl rfl eX6_count_64 (Nat.zero_le _) (Nat.zero_le _) ⟨(by first | (unfold m_count; rw [if_neg h1_0, if_neg h1_1, if_neg h1_2, if_pos h1_3]; first | done | rfl) | rfl | (simp only [m_count, if_neg h1_0, if_neg h1_1, if_neg h1_2, if_pos h1_3]; first | done | rfl)), rfl⟩
        · skip
          refine zR_caseK (4) (fun h1_4 => ?_) (fun h1_4 => ?_)
          · skip
            refine zR_tswIn (off := 64) (tgt := 65) C eX6_count_1 (by decide) (by decide) (by decide) (by decide) ?_
            refine zR_aload_n C eX6_count_65 0 rfl rfl ?_
            refine zR_callV1 C kX6_234 eX6_count_66 (c_X6_frozenSet q _ _ hr) rfl 0 6 rW_g0 rfl rfl _ rW_c rW_n rfl (by decide) (by decide) (Nat.le_of_ble_eq_true rfl) (Nat.zero_le _) (Nat.zero_le _) rW_f rW_r ?_
            exact zR_iret C rfl rfl eX6_count_69 (Nat.zero_le _) (Nat.zero_le _) ⟨(by first | (unfold m_count; rw [if_neg h1_0, if_neg h1_1, if_neg h1_2, if_neg h1_3, if_pos h1_4]; first | done | rfl) | rfl | (simp only [m_count, if_neg h1_0, if_neg h1_1, if_neg h1_2, if_neg h1_3, if_pos h1_4]; first | done | rfl)), rfl⟩
          · skip
            refine zR_caseK (5) (fun h1_5 => ?_) (fun h1_5 => ?_)
            · skip
              refine zR_tswIn (off := 69) (tgt := 70) C eX6_count_1 (by decide) (by decide) (by decide) (by decide) ?_
              refine zR_aload_n C eX6_count_70 0 rfl rfl ?_
              refine zR_bipush (v := 12) C eX6_count_71 (by decide) ?_
              refine zR_callV1 C kX6_60 eX6_count_73 (c_X6_number q _ _ 12 (by omega)) rfl 0 6 rW_g0 rfl rfl _ rW_c rW_n rfl (by decide) (by decide) (Nat.le_of_ble_eq_true rfl) (Nat.zero_le _) (Nat.zero_le _) rW_f rW_r ?_
              exact zR_iret C rfl rfl eX6_count_76 (Nat.zero_le _) (Nat.zero_le _) ⟨(by first | (unfold m_count; rw [if_neg h1_0, if_neg h1_1, if_neg h1_2, if_neg h1_3, if_neg h1_4, if_pos h1_5]; first | done | rfl) | rfl | (simp only [m_count, if_neg h1_0, if_neg h1_1, if_neg h1_2, if_neg h1_3, if_neg h1_4, if_pos h1_5]; first | done | rfl)), rfl⟩
            · skip
              refine zR_caseK (6) (fun h1_6 => ?_) (fun h1_6 => ?_)
              · skip
                refine zR_tswIn (off := 76) (tgt := 77) C eX6_count_1 (by decide) (by decide) (by decide) (by decide) ?_
                refine zR_aload_n C eX6_count_77 0 rfl rfl ?_
                refine zR_bipush (v := 13) C eX6_count_78 (by decide) ?_
                refine zR_callV1 C kX6_60 eX6_count_80 (c_X6_number q _ _ 13 (by omega)) rfl 0 6 rW_g0 rfl rfl _ rW_c rW_n rfl (by decide) (by decide) (Nat.le_of_ble_eq_true rfl) (Nat.zero_le _) (Nat.zero_le _) rW_f rW_r ?_
                exact zR_iret C rfl rfl eX6_count_83 (Nat.zero_le _) (Nat.zero_le _) ⟨(by first | (unfold m_count; rw [if_neg h1_0, if_neg h1_1, if_neg h1_2, if_neg h1_3, if_neg h1_4, if_neg h1_5, if_pos h1_6]; first | done | rfl) | rfl | (simp only [m_count, if_neg h1_0, if_neg h1_1, if_neg h1_2, if_neg h1_3, if_neg h1_4, if_neg h1_5, if_pos h1_6]; first | done | rfl)), rfl⟩
              · skip
                refine zR_caseK (7) (fun h1_7 => ?_) (fun h1_7 => ?_)
                · skip
                  refine zR_tswIn (off := 83) (tgt := 84) C eX6_count_1 (by decide) (by decide) (by decide) (by decide) ?_
                  refine zR_aload_n C eX6_count_84 0 rfl rfl ?_
                  refine zR_get C fX6_67 eX6_count_85 0 rW_g0 rfl ?_
                  exact zR_iret C rfl rfl eX6_count_88 (Nat.zero_le _) (Nat.zero_le _) ⟨(by first | (unfold m_count; rw [if_neg h1_0, if_neg h1_1, if_neg h1_2, if_neg h1_3, if_neg h1_4, if_neg h1_5, if_neg h1_6, if_pos h1_7]; first | done | rfl) | rfl | (simp only [m_count, if_neg h1_0, if_neg h1_1, if_neg h1_2, if_neg h1_3, if_neg h1_4, if_neg h1_5, if_neg h1_6, if_pos h1_7]; first | done | rfl)), rfl⟩
                · skip
                  refine zR_caseK (8) (fun h1_8 => ?_) (fun h1_8 => ?_)
                  · skip
                    refine zR_tswIn (off := 88) (tgt := 89) C eX6_count_1 (by decide) (by decide) (by decide) (by decide) ?_
                    refine zR_aload_n C eX6_count_89 0 rfl rfl ?_
                    refine zR_get C fX6_237 eX6_count_90 0 rW_g0 rfl ?_
                    exact zR_iret C rfl rfl eX6_count_93 (Nat.zero_le _) (Nat.zero_le _) ⟨(by first | (unfold m_count; rw [if_neg h1_0, if_neg h1_1, if_neg h1_2, if_neg h1_3, if_neg h1_4, if_neg h1_5, if_neg h1_6, if_neg h1_7, if_pos h1_8]; first | done | rfl) | rfl | (simp only [m_count, if_neg h1_0, if_neg h1_1, if_neg h1_2, if_neg h1_3, if_neg h1_4, if_neg h1_5, if_neg h1_6, if_neg h1_7, if_pos h1_8]; first | done | rfl)), rfl⟩
                  · skip
                    refine zR_caseK (9) (fun h1_9 => ?_) (fun h1_9 => ?_)
                    · skip
                      refine zR_tswIn (off := 93) (tgt := 94) C eX6_count_1 (by decide) (by decide) (by decide) (by decide) ?_
                      refine zR_aload_n C eX6_count_94 0 rfl rfl ?_
                      refine zR_get C fX6_49 eX6_count_95 0 rW_g0 rfl ?_
                      exact zR_iret C rfl rfl eX6_count_98 (Nat.zero_le _) (Nat.zero_le _) ⟨(by first | (unfold m_count; rw [if_neg h1_0, if_neg h1_1, if_neg h1_2, if_neg h1_3, if_neg h1_4, if_neg h1_5, if_neg h1_6, if_neg h1_7, if_neg h1_8, if_pos h1_9]; first | done | rfl) | rfl | (simp only [m_count, if_neg h1_0, if_neg h1_1, if_neg h1_2, if_neg h1_3, if_neg h1_4, if_neg h1_5, if_neg h1_6, if_neg h1_7, if_neg h1_8, if_pos h1_9]; first | done | rfl)), rfl⟩
                    · skip
                      refine zR_tswD (tgt := 99) C eX6_count_1 (fun j hj => match j, hj with | 0, _ => Or.inr (zsw_ne h1_0 (by decide) (by decide)) | 1, _ => Or.inr (zsw_ne h1_1 (by decide) (by decide)) | 2, _ => Or.inr (zsw_ne h1_2 (by decide) (by decide)) | 3, _ => Or.inr (zsw_ne h1_3 (by decide) (by decide)) | 4, _ => Or.inr (zsw_ne h1_4 (by decide) (by decide)) | 5, _ => Or.inr (zsw_ne h1_5 (by decide) (by decide)) | 6, _ => Or.inr (zsw_ne h1_6 (by decide) (by decide)) | 7, _ => Or.inr (zsw_ne h1_7 (by decide) (by decide)) | 8, _ => Or.inr (zsw_ne h1_8 (by decide) (by decide)) | 9, _ => Or.inr (zsw_ne h1_9 (by decide) (by decide)) | _ + 10, hj => absurd hj (by simp)) (by decide) (by decide) ?_
                      refine zR_iload_n C eX6_count_99 1 rfl rfl ?_
                      refine zR_i2l C eX6_count_100 ?_
                      refine zR_ldc2 C qX6_41 eX6_count_101 ?_
                      refine zR_ldc2 C qX6_240 eX6_count_104 ?_
                      refine zR_callS1 C kX6_56 eX6_count_107 (c_X6_in _ _ _ ) rfl rfl (by decide) (by decide) (Nat.le_of_ble_eq_true rfl) (Nat.zero_le _) (Nat.zero_le _) ?_
                      refine zR_bfeq C eX6_count_110 (fun h110 => ?_) (fun h110 => ?_)
                      · skip
                        refine zR_bipush (v := -2) C eX6_count_124 (by decide) ?_
                        exact zR_iret C rfl rfl eX6_count_126 (Nat.zero_le _) (Nat.zero_le _) ⟨(by first | (unfold m_count; rw [if_neg h1_0, if_neg h1_1, if_neg h1_2, if_neg h1_3, if_neg h1_4, if_neg h1_5, if_neg h1_6, if_neg h1_7, if_neg h1_8, if_neg h1_9, if_neg h110]; first | done | rfl) | rfl | (simp only [m_count, if_neg h1_0, if_neg h1_1, if_neg h1_2, if_neg h1_3, if_neg h1_4, if_neg h1_5, if_neg h1_6, if_neg h1_7, if_neg h1_8, if_neg h1_9, if_neg h110]; first | done | rfl)), rfl⟩
                      · skip
                        have hw := w_10 h110
                        have hwz := hw.2
                        refine zR_aload_n C eX6_count_113 0 rfl rfl ?_
                        refine zR_iload_n C eX6_count_114 1 rfl rfl ?_
                        refine zR_bipush (v := 10) C eX6_count_115 (by decide) ?_
                        refine zR_isub C eX6_count_117 ?_
                        refine zR_topi (b := nI (zn32 (w - 10))) hw.1 ?_
                        refine zR_callV1 C kX6_60 eX6_count_118 (c_X6_number q _ _ _ (by omega)) rfl 0 6 rW_g0 rfl rfl _ rW_c rW_n rfl (by decide) (by decide) (Nat.le_of_ble_eq_true rfl) (Nat.zero_le _) (Nat.zero_le _) rW_f rW_r ?_
                        refine zR_goto C eX6_count_121 ?_
                        exact zR_iret C rfl rfl eX6_count_126 (Nat.zero_le _) (Nat.zero_le _) ⟨(by first | (unfold m_count; rw [if_neg h1_0, if_neg h1_1, if_neg h1_2, if_neg h1_3, if_neg h1_4, if_neg h1_5, if_neg h1_6, if_neg h1_7, if_neg h1_8, if_neg h1_9, if_pos h110]; first | done | rfl) | rfl | (simp only [m_count, if_neg h1_0, if_neg h1_1, if_neg h1_2, if_neg h1_3, if_neg h1_4, if_neg h1_5, if_neg h1_6, if_neg h1_7, if_neg h1_8, if_neg h1_9, if_pos h110]; first | done | rfl)), rfl⟩
set_option maxHeartbeats 1000000 in
set_option maxRecDepth 100000 in
theorem c_X6_leftIn {l : Launch} {g : zG} (q : Nat → Nat) (m : MD) (s : Int32) (k : Int32) (hr : r_ok (m_row m)) (hg : ∀ i, i < 1000 → m_hgood (m_hrs (m_try m) i)) : zM l g yX6_leftIn cX6_leftIn 5 (some .long) 8 0 0 [.ref (q 0), .int s, .int k] (rW g q m (m_row m)) (zE (some (.long (m_leftIn m s k).1)) (rW g q ((m_leftIn m s k).2) (m_row ((m_leftIn m s k).2)))) := by
  refine zM_of (by decide +kernel) (Nat.le_of_ble_eq_true rfl) (fun x hl hn _ _ _ C => ?_)
  subst hl
  show zR x g _ (0, 0) 0 [(0, .ref (q 0)), (1, .int s), (2, .int k)] [] _
  refine zR_aload_n C eX6_leftIn_0 0 rfl rfl ?_
  refine zR_iload_n C eX6_leftIn_1 1 rfl rfl ?_
  refine zR_callV1 C kX6_108 eX6_leftIn_2 (c_X6_isService q _ _ _ ) rfl 0 6 rW_g0 rfl rfl _ rW_c rW_n rfl (by decide) (by decide) (Nat.le_of_ble_eq_true rfl) (Nat.zero_le _) (Nat.zero_le _) rW_f rW_r ?_
  refine zR_bfne C eX6_leftIn_5 (fun h5 => ?_) (fun h5 => ?_)
  · skip
    refine zR_iload_n C eX6_leftIn_12 2 rfl rfl ?_
    refine zR_i2l C eX6_leftIn_13 ?_
    refine zR_lconst (v := 1) C eX6_leftIn_14 (by decide) ?_
    refine zR_ldc2 C qX6_217 eX6_leftIn_15 ?_
    refine zR_callS1 C kX6_56 eX6_leftIn_18 (c_X6_in _ _ _ ) rfl rfl (by decide) (by decide) (Nat.le_of_ble_eq_true rfl) (Nat.zero_le _) (Nat.zero_le _) ?_
    refine zR_bfne C eX6_leftIn_21 (fun h21 => ?_) (fun h21 => ?_)
    · skip
      have hk0 := z_inl_nn (a := 1) (b := 1000) h21 (by decide) (by decide)
      have hk : zok k 1000 := ⟨hk0.1, hk0.2.2⟩
      have hv := (r_isS_in h5 hr).1
      refine zR_aload_n C eX6_leftIn_28 0 rfl rfl ?_
      refine zR_iconst (v := 0) C eX6_leftIn_29 (by decide) ?_
      refine zR_sipush (v := 4086) C eX6_leftIn_30 (by decide) ?_
      refine zR_callVv C kX6_52 eX6_leftIn_33 (c_X6_copy q _ _ 0 4086 (by decide) (by decide) (by decide)) rfl 0 6 rW_g0 rfl rfl _ rW_c rW_n rfl (by decide) (by decide) (Nat.le_of_ble_eq_true rfl) (Nat.zero_le _) (Nat.zero_le _) rW_f rW_r ?_
      refine zR_ws (rW g q (m_try m) (m_row (m_try m))) rfl ?_
      refine zR_aload_n C eX6_leftIn_36 0 rfl rfl ?_
      refine zR_iload_n C eX6_leftIn_37 2 rfl rfl ?_
      refine zR_callV1 C kX6_219 eX6_leftIn_38 (c_X6_pass q _ _ hk (fun i hi => hg i (Nat.lt_of_lt_of_le hi hk.2))) rfl 0 6 rW_g0 rfl rfl _ rW_c rW_n rfl (by decide) (by decide) (Nat.le_of_ble_eq_true rfl) (Nat.zero_le _) (Nat.zero_le _) rW_f rW_r ?_
      refine zR_pop C eX6_leftIn_41 rfl ?_
      refine zR_aload_n C eX6_leftIn_42 0 rfl rfl ?_
      refine zR_iload_n C eX6_leftIn_43 1 rfl rfl ?_
      refine zR_callV1 C kX6_90 eX6_leftIn_44 (c_X6_left q _ _ _ hv) rfl 0 6 rW_g0 rfl rfl _ rW_c rW_n rfl (by decide) (by decide) (Nat.le_of_ble_eq_true rfl) (Nat.zero_le _) (Nat.zero_le _) rW_f rW_r ?_
      refine zR_lstore_n (lv' := [(3, _), (0, _), (1, _), (2, _)]) C eX6_leftIn_47 rfl (by rw [hn]; decide) rfl ?_
      refine zR_aload_n C eX6_leftIn_48 1 rfl rfl ?_
      refine zR_sipush (v := 4086) C eX6_leftIn_49 (by decide) ?_
      refine zR_iconst (v := 0) C eX6_leftIn_52 (by decide) ?_
      refine zR_callVv C kX6_52 eX6_leftIn_53 (c_X6_copy q _ _ 4086 0 (by decide) (by decide) (by decide)) rfl 0 6 rW_g0 rfl rfl _ rW_c rW_n rfl (by decide) (by decide) (Nat.le_of_ble_eq_true rfl) (Nat.zero_le _) (Nat.zero_le _) rW_f rW_r ?_
      refine zR_ws (rW g q (m_back (m_pass (m_try m) k).2) (m_row (m_back (m_pass (m_try m) k).2))) rfl ?_
      refine zR_lload_n C eX6_leftIn_56 0 rfl rfl ?_
      exact zR_lret C rfl eX6_leftIn_57 (Nat.zero_le _) (Nat.zero_le _) ⟨(by first | (unfold m_leftIn; rw [if_pos h5, if_pos h21]; first | done | rfl) | rfl | (simp only [m_leftIn, if_pos h5, if_pos h21]; first | done | rfl)), (by first | (unfold m_leftIn; rw [if_pos h5, if_pos h21]; first | done | rfl) | rfl | (simp only [m_leftIn, if_pos h5, if_pos h21]; first | done | rfl))⟩
    · skip
      refine zR_ldc2 C qX6_232 eX6_leftIn_24 ?_
      exact zR_lret C rfl eX6_leftIn_27 (Nat.zero_le _) (Nat.zero_le _) ⟨(by first | (unfold m_leftIn; rw [if_pos h5, if_neg h21]; first | done | rfl) | rfl | (simp only [m_leftIn, if_pos h5, if_neg h21]; first | done | rfl)), (by first | (unfold m_leftIn; rw [if_pos h5, if_neg h21]; first | done | rfl) | rfl | (simp only [m_leftIn, if_pos h5, if_neg h21]; first | done | rfl))⟩
  · skip
    refine zR_ldc2 C qX6_228 eX6_leftIn_8 ?_
    exact zR_lret C rfl eX6_leftIn_11 (Nat.zero_le _) (Nat.zero_le _) ⟨(by first | (unfold m_leftIn; rw [if_neg h5]; first | done | rfl) | rfl | (simp only [m_leftIn, if_neg h5]; first | done | rfl)), (by first | (unfold m_leftIn; rw [if_neg h5]; first | done | rfl) | rfl | (simp only [m_leftIn, if_neg h5]; first | done | rfl))⟩
theorem m_hrs_s (m : MD) : ∀ n : Nat, m_hrs (m_hour m) n = m_hrs m (n + 1)
  | 0 => rfl
  | n + 1 => by
    show m_hour (m_hrs (m_hour m) n) = m_hour (m_hrs m (n + 1))
    rw [m_hrs_s m n]
set_option maxHeartbeats 1000000 in
set_option maxRecDepth 100000 in
theorem c_X6_hoursTo_lp {x : zX} {g : zG} {q : Nat → Nat} {s : Int32} {b : Bool} (hv : vp_in s 8) (hn : zn x = 5) (C : zC x g RX6 cX6_hoursTo (some .int) 7) : ∀ (k i : Nat) (M : MD), i + k = 1000 → (∀ j, j < k → m_hgood (m_hrs M j)) → zR x g (zE (some (.int (m_found (m_htl (zn32 s) b k i M) (zn32 s) b))) (rW g q (m_back (m_htl (zn32 s) b k i M).2) (m_row (m_back (m_htl (zn32 s) b k i M).2)))) (0, 0) 10 [(3, .int (nI i)), (0, .ref (q 0)), (1, .int s), (2, .int (zB b))] [] (rW g q M (m_row M)) := by
  intro k
  induction k with
  | zero =>
    intro i M hk hg
    have hi : i = 1000 := by omega
    subst hi
    refine zR_aload_n C eX6_hoursTo_10 1 rfl rfl ?_
    refine zR_iload_n C eX6_hoursTo_11 2 rfl rfl ?_
    refine zR_callV1 C kX6_94 eX6_hoursTo_12 (c_X6_isFrozen q _ _ _ hv) rfl 0 6 rW_g0 rfl rfl _ rW_c rW_n rfl (by decide) (by decide) (Nat.le_of_ble_eq_true rfl) (Nat.zero_le _) (Nat.zero_le _) rW_f rW_r ?_
    refine zR_iload_n C eX6_hoursTo_15 3 rfl rfl ?_
    refine zR_icmp_eq C eX6_hoursTo_16 (fun h16 => ?_) (fun h16 => ?_)
    · skip
      have e0 : (m_htl (zn32 s) b 0 1000 M) = (1000, M) := rfl
      refine zR_aload_n C eX6_hoursTo_36 1 rfl rfl ?_
      refine zR_iload_n C eX6_hoursTo_37 2 rfl rfl ?_
      refine zR_callV1 C kX6_94 eX6_hoursTo_38 (c_X6_isFrozen q _ _ _ hv) rfl 0 6 rW_g0 rfl rfl _ rW_c rW_n rfl (by decide) (by decide) (Nat.le_of_ble_eq_true rfl) (Nat.zero_le _) (Nat.zero_le _) rW_f rW_r ?_
      refine zR_iload_n C eX6_hoursTo_41 3 rfl rfl ?_
      refine zR_icmp_ne C eX6_hoursTo_42 (fun h42 => ?_) (fun h42 => ?_)
      · skip
        refine zR_bipush (v := -6) C eX6_hoursTo_49 (by decide) ?_
        refine zR_istore (lv' := [(4, _), (3, _), (0, _), (1, _), (2, _)]) C eX6_hoursTo_51 (by rw [hn]; decide) rfl ?_
        refine zR_aload_n C eX6_hoursTo_53 2 rfl rfl ?_
        refine zR_sipush (v := 4086) C eX6_hoursTo_54 (by decide) ?_
        refine zR_iconst (v := 0) C eX6_hoursTo_57 (by decide) ?_
        refine zR_callVv C kX6_52 eX6_hoursTo_58 (c_X6_copy q _ _ 4086 0 (by decide) (by decide) (by decide)) rfl 0 6 rW_g0 rfl rfl _ rW_c rW_n rfl (by decide) (by decide) (Nat.le_of_ble_eq_true rfl) (Nat.zero_le _) (Nat.zero_le _) rW_f rW_r ?_
        refine zR_ws (rW g q (m_back M) (m_row (m_back M))) rfl ?_
        refine zR_iload C eX6_hoursTo_61 0 rfl ?_
        have e2 : m_found (1000, M) (zn32 s) b = _ := if_neg h42
        refine zR_iret C rfl rfl eX6_hoursTo_63 (Nat.zero_le _) (Nat.zero_le _) ⟨?_, ?_⟩
        · rw [e0, e2] <;> rfl
        · rw [e0] <;> rfl
      · skip
        refine zR_iload_n C eX6_hoursTo_45 0 rfl rfl ?_
        refine zR_goto C eX6_hoursTo_46 ?_
        refine zR_istore (lv' := [(4, _), (3, _), (0, _), (1, _), (2, _)]) C eX6_hoursTo_51 (by rw [hn]; decide) rfl ?_
        refine zR_aload_n C eX6_hoursTo_53 2 rfl rfl ?_
        refine zR_sipush (v := 4086) C eX6_hoursTo_54 (by decide) ?_
        refine zR_iconst (v := 0) C eX6_hoursTo_57 (by decide) ?_
        refine zR_callVv C kX6_52 eX6_hoursTo_58 (c_X6_copy q _ _ 4086 0 (by decide) (by decide) (by decide)) rfl 0 6 rW_g0 rfl rfl _ rW_c rW_n rfl (by decide) (by decide) (Nat.le_of_ble_eq_true rfl) (Nat.zero_le _) (Nat.zero_le _) rW_f rW_r ?_
        refine zR_ws (rW g q (m_back M) (m_row (m_back M))) rfl ?_
        refine zR_iload C eX6_hoursTo_61 0 rfl ?_
        have e2 : m_found (1000, M) (zn32 s) b = _ := if_pos h42
        refine zR_iret C rfl rfl eX6_hoursTo_63 (Nat.zero_le _) (Nat.zero_le _) ⟨?_, ?_⟩
        · rw [e0, e2] <;> rfl
        · rw [e0] <;> rfl
    · skip
      refine zR_iload_n C eX6_hoursTo_19 0 rfl rfl ?_
      refine zR_sipush (v := 1000) C eX6_hoursTo_20 (by decide) ?_
      refine zR_icmp_ge C eX6_hoursTo_23 (fun h23 => ?_) (fun h23 => ?_)
      · skip
        have e0 : (m_htl (zn32 s) b 0 1000 M) = (1000, M) := rfl
        refine zR_aload_n C eX6_hoursTo_36 1 rfl rfl ?_
        refine zR_iload_n C eX6_hoursTo_37 2 rfl rfl ?_
        refine zR_callV1 C kX6_94 eX6_hoursTo_38 (c_X6_isFrozen q _ _ _ hv) rfl 0 6 rW_g0 rfl rfl _ rW_c rW_n rfl (by decide) (by decide) (Nat.le_of_ble_eq_true rfl) (Nat.zero_le _) (Nat.zero_le _) rW_f rW_r ?_
        refine zR_iload_n C eX6_hoursTo_41 3 rfl rfl ?_
        refine zR_icmp_ne C eX6_hoursTo_42 (fun h42 => ?_) (fun h42 => ?_)
        · skip
          refine zR_bipush (v := -6) C eX6_hoursTo_49 (by decide) ?_
          refine zR_istore (lv' := [(4, _), (3, _), (0, _), (1, _), (2, _)]) C eX6_hoursTo_51 (by rw [hn]; decide) rfl ?_
          refine zR_aload_n C eX6_hoursTo_53 2 rfl rfl ?_
          refine zR_sipush (v := 4086) C eX6_hoursTo_54 (by decide) ?_
          refine zR_iconst (v := 0) C eX6_hoursTo_57 (by decide) ?_
          refine zR_callVv C kX6_52 eX6_hoursTo_58 (c_X6_copy q _ _ 4086 0 (by decide) (by decide) (by decide)) rfl 0 6 rW_g0 rfl rfl _ rW_c rW_n rfl (by decide) (by decide) (Nat.le_of_ble_eq_true rfl) (Nat.zero_le _) (Nat.zero_le _) rW_f rW_r ?_
          refine zR_ws (rW g q (m_back M) (m_row (m_back M))) rfl ?_
          refine zR_iload C eX6_hoursTo_61 0 rfl ?_
          have e2 : m_found (1000, M) (zn32 s) b = _ := if_neg h42
          refine zR_iret C rfl rfl eX6_hoursTo_63 (Nat.zero_le _) (Nat.zero_le _) ⟨?_, ?_⟩
          · rw [e0, e2] <;> rfl
          · rw [e0] <;> rfl
        · skip
          refine zR_iload_n C eX6_hoursTo_45 0 rfl rfl ?_
          refine zR_goto C eX6_hoursTo_46 ?_
          refine zR_istore (lv' := [(4, _), (3, _), (0, _), (1, _), (2, _)]) C eX6_hoursTo_51 (by rw [hn]; decide) rfl ?_
          refine zR_aload_n C eX6_hoursTo_53 2 rfl rfl ?_
          refine zR_sipush (v := 4086) C eX6_hoursTo_54 (by decide) ?_
          refine zR_iconst (v := 0) C eX6_hoursTo_57 (by decide) ?_
          refine zR_callVv C kX6_52 eX6_hoursTo_58 (c_X6_copy q _ _ 4086 0 (by decide) (by decide) (by decide)) rfl 0 6 rW_g0 rfl rfl _ rW_c rW_n rfl (by decide) (by decide) (Nat.le_of_ble_eq_true rfl) (Nat.zero_le _) (Nat.zero_le _) rW_f rW_r ?_
          refine zR_ws (rW g q (m_back M) (m_row (m_back M))) rfl ?_
          refine zR_iload C eX6_hoursTo_61 0 rfl ?_
          have e2 : m_found (1000, M) (zn32 s) b = _ := if_pos h42
          refine zR_iret C rfl rfl eX6_hoursTo_63 (Nat.zero_le _) (Nat.zero_le _) ⟨?_, ?_⟩
          · rw [e0, e2] <;> rfl
          · rw [e0] <;> rfl
      · skip
        exact absurd h23 (by decide)
  | succ k ih =>
    intro i M hk hg
    refine zR_aload_n C eX6_hoursTo_10 1 rfl rfl ?_
    refine zR_iload_n C eX6_hoursTo_11 2 rfl rfl ?_
    refine zR_callV1 C kX6_94 eX6_hoursTo_12 (c_X6_isFrozen q _ _ _ hv) rfl 0 6 rW_g0 rfl rfl _ rW_c rW_n rfl (by decide) (by decide) (Nat.le_of_ble_eq_true rfl) (Nat.zero_le _) (Nat.zero_le _) rW_f rW_r ?_
    refine zR_iload_n C eX6_hoursTo_15 3 rfl rfl ?_
    refine zR_icmp_eq C eX6_hoursTo_16 (fun h16 => ?_) (fun h16 => ?_)
    · skip
      have e0 : (m_htl (zn32 s) b (k + 1) i M) = (i, M) := if_pos h16
      refine zR_aload_n C eX6_hoursTo_36 1 rfl rfl ?_
      refine zR_iload_n C eX6_hoursTo_37 2 rfl rfl ?_
      refine zR_callV1 C kX6_94 eX6_hoursTo_38 (c_X6_isFrozen q _ _ _ hv) rfl 0 6 rW_g0 rfl rfl _ rW_c rW_n rfl (by decide) (by decide) (Nat.le_of_ble_eq_true rfl) (Nat.zero_le _) (Nat.zero_le _) rW_f rW_r ?_
      refine zR_iload_n C eX6_hoursTo_41 3 rfl rfl ?_
      refine zR_icmp_ne C eX6_hoursTo_42 (fun h42 => ?_) (fun h42 => ?_)
      · skip
        refine zR_bipush (v := -6) C eX6_hoursTo_49 (by decide) ?_
        refine zR_istore (lv' := [(4, _), (3, _), (0, _), (1, _), (2, _)]) C eX6_hoursTo_51 (by rw [hn]; decide) rfl ?_
        refine zR_aload_n C eX6_hoursTo_53 2 rfl rfl ?_
        refine zR_sipush (v := 4086) C eX6_hoursTo_54 (by decide) ?_
        refine zR_iconst (v := 0) C eX6_hoursTo_57 (by decide) ?_
        refine zR_callVv C kX6_52 eX6_hoursTo_58 (c_X6_copy q _ _ 4086 0 (by decide) (by decide) (by decide)) rfl 0 6 rW_g0 rfl rfl _ rW_c rW_n rfl (by decide) (by decide) (Nat.le_of_ble_eq_true rfl) (Nat.zero_le _) (Nat.zero_le _) rW_f rW_r ?_
        refine zR_ws (rW g q (m_back M) (m_row (m_back M))) rfl ?_
        refine zR_iload C eX6_hoursTo_61 0 rfl ?_
        have e2 : m_found (i, M) (zn32 s) b = _ := if_neg h42
        refine zR_iret C rfl rfl eX6_hoursTo_63 (Nat.zero_le _) (Nat.zero_le _) ⟨?_, ?_⟩
        · rw [e0, e2] <;> rfl
        · rw [e0] <;> rfl
      · skip
        refine zR_iload_n C eX6_hoursTo_45 0 rfl rfl ?_
        refine zR_goto C eX6_hoursTo_46 ?_
        refine zR_istore (lv' := [(4, _), (3, _), (0, _), (1, _), (2, _)]) C eX6_hoursTo_51 (by rw [hn]; decide) rfl ?_
        refine zR_aload_n C eX6_hoursTo_53 2 rfl rfl ?_
        refine zR_sipush (v := 4086) C eX6_hoursTo_54 (by decide) ?_
        refine zR_iconst (v := 0) C eX6_hoursTo_57 (by decide) ?_
        refine zR_callVv C kX6_52 eX6_hoursTo_58 (c_X6_copy q _ _ 4086 0 (by decide) (by decide) (by decide)) rfl 0 6 rW_g0 rfl rfl _ rW_c rW_n rfl (by decide) (by decide) (Nat.le_of_ble_eq_true rfl) (Nat.zero_le _) (Nat.zero_le _) rW_f rW_r ?_
        refine zR_ws (rW g q (m_back M) (m_row (m_back M))) rfl ?_
        refine zR_iload C eX6_hoursTo_61 0 rfl ?_
        have e2 : m_found (i, M) (zn32 s) b = _ := if_pos h42
        refine zR_iret C rfl rfl eX6_hoursTo_63 (Nat.zero_le _) (Nat.zero_le _) ⟨?_, ?_⟩
        · rw [e0, e2] <;> rfl
        · rw [e0] <;> rfl
    · skip
      refine zR_iload_n C eX6_hoursTo_19 0 rfl rfl ?_
      refine zR_sipush (v := 1000) C eX6_hoursTo_20 (by decide) ?_
      refine zR_icmp_ge C eX6_hoursTo_23 (fun h23 => ?_) (fun h23 => ?_)
      · skip
        exact absurd (nI_lt (a := i) (b := 1000) (by omega) (by decide)) h23
      · skip
        refine zR_aload_n C eX6_hoursTo_26 1 rfl rfl ?_
        refine zR_callVv C kX6_214 eX6_hoursTo_27 (c_X6_passHour q _ (hg 0 (Nat.succ_pos _))) rfl 0 6 rW_g0 rfl rfl _ rW_c rW_n rfl (by decide) (by decide) (Nat.le_of_ble_eq_true rfl) (Nat.zero_le _) (Nat.zero_le _) rW_f rW_r ?_
        refine zR_iinc (lv' := [(3, _), (0, _), (1, _), (2, _)]) (v' := nI (i + 1)) C eX6_hoursTo_30 0 rfl (zinc i) (by rw [hn]; decide) rfl ?_
        refine zR_goto C eX6_hoursTo_33 ?_
        have e0 : (m_htl (zn32 s) b (k + 1) i M) = m_htl (zn32 s) b k (i + 1) (m_hour M) := if_neg h16
        rw [e0]
        refine zR_lv [(3, _), (0, _), (1, _), (2, _)] [0, 1, 2, 3] rfl ?_
        exact ih (i + 1) (m_hour M) (by omega) (fun j hj => by rw [m_hrs_s]; exact hg (j + 1) (by omega))
set_option maxHeartbeats 1000000 in
set_option maxRecDepth 100000 in
theorem c_X6_hoursTo {l : Launch} {g : zG} (q : Nat → Nat) (m : MD) (s : Int32) (b : Bool) (hv : vp_in s 8) (hg : ∀ i, i < 1000 → m_hgood (m_hrs (m_try m) i)) : zM l g yX6_hoursTo cX6_hoursTo 5 (some .int) 7 0 0 [.ref (q 0), .int s, .int (zB b)] (rW g q m (m_row m)) (zE (some (.int (m_hoursTo m s b).1)) (rW g q ((m_hoursTo m s b).2) (m_row ((m_hoursTo m s b).2)))) := by
  refine zM_of (by decide +kernel) (Nat.le_of_ble_eq_true rfl) (fun x hl hn _ _ _ C => ?_)
  subst hl
  show zR x g _ (0, 0) 0 [(0, .ref (q 0)), (1, .int s), (2, .int (zB b))] [] _
  refine zR_aload_n C eX6_hoursTo_0 0 rfl rfl ?_
  refine zR_iconst (v := 0) C eX6_hoursTo_1 (by decide) ?_
  refine zR_sipush (v := 4086) C eX6_hoursTo_2 (by decide) ?_
  refine zR_callVv C kX6_52 eX6_hoursTo_5 (c_X6_copy q _ _ 0 4086 (by decide) (by decide) (by decide)) rfl 0 6 rW_g0 rfl rfl _ rW_c rW_n rfl (by decide) (by decide) (Nat.le_of_ble_eq_true rfl) (Nat.zero_le _) (Nat.zero_le _) rW_f rW_r ?_
  refine zR_ws (rW g q (m_try m) (m_row (m_try m))) rfl ?_
  refine zR_iconst (v := 0) C eX6_hoursTo_8 (by decide) ?_
  refine zR_istore_n (lv' := [(3, _), (0, _), (1, _), (2, _)]) C eX6_hoursTo_9 rfl (by rw [hn]; decide) rfl ?_
  refine zR_lv [(3, .int (nI 0)), (0, _), (1, _), (2, _)] [0, 1, 2, 3] rfl ?_
  unfold m_hoursTo
  generalize hK : (1000 : Nat) = K at hg ⊢
  exact c_X6_hoursTo_lp hv hn C K 0 (m_try m) (by omega) hg
set_option maxHeartbeats 1000000 in
set_option maxRecDepth 100000 in
theorem c_X6_frozenIn {l : Launch} {g : zG} (q : Nat → Nat) (m : MD) (s : Int32) (hr : r_ok (m_row m)) (hg : ∀ i, i < 1000 → m_hgood (m_hrs (m_try m) i)) : zM l g yX6_frozenIn cX6_frozenIn 2 (some .int) 8 0 0 [.ref (q 0), .int s] (rW g q m (m_row m)) (zE (some (.int (m_fin_ m s true).1)) (rW g q ((m_fin_ m s true).2) (m_row ((m_fin_ m s true).2)))) := by
  refine zM_of (by decide +kernel) (Nat.le_of_ble_eq_true rfl) (fun x hl hn _ _ _ C => ?_)
  subst hl
  show zR x g _ (0, 0) 0 [(0, .ref (q 0)), (1, .int s)] [] _
  refine zR_aload_n C eX6_frozenIn_0 0 rfl rfl ?_
  refine zR_iload_n C eX6_frozenIn_1 1 rfl rfl ?_
  refine zR_callV1 C kX6_108 eX6_frozenIn_2 (c_X6_isService q _ _ _ ) rfl 0 6 rW_g0 rfl rfl _ rW_c rW_n rfl (by decide) (by decide) (Nat.le_of_ble_eq_true rfl) (Nat.zero_le _) (Nat.zero_le _) rW_f rW_r ?_
  refine zR_bfeq C eX6_frozenIn_5 (fun h5 => ?_) (fun h5 => ?_)
  · skip
    refine zR_iconst (v := -1) C eX6_frozenIn_17 (by decide) ?_
    exact zR_iret C rfl rfl eX6_frozenIn_18 (Nat.zero_le _) (Nat.zero_le _) ⟨(by first | (unfold m_fin_; rw [if_neg h5]; first | done | rfl) | rfl | (simp only [m_fin_, if_neg h5]; first | done | rfl)), (by first | (unfold m_fin_; rw [if_neg h5]; first | done | rfl) | rfl | (simp only [m_fin_, if_neg h5]; first | done | rfl))⟩
  · skip
    have hv := (r_isS_in h5 hr).1
    refine zR_aload_n C eX6_frozenIn_8 0 rfl rfl ?_
    refine zR_iload_n C eX6_frozenIn_9 1 rfl rfl ?_
    refine zR_iconst (v := 1) C eX6_frozenIn_10 (by decide) ?_
    refine zR_callV1 C kX6_242 eX6_frozenIn_11 (c_X6_hoursTo q _ _ true hv hg) rfl 0 6 rW_g0 rfl rfl _ rW_c rW_n rfl (by decide) (by decide) (Nat.le_of_ble_eq_true rfl) (Nat.zero_le _) (Nat.zero_le _) rW_f rW_r ?_
    refine zR_goto C eX6_frozenIn_14 ?_
    exact zR_iret C rfl rfl eX6_frozenIn_18 (Nat.zero_le _) (Nat.zero_le _) ⟨(by first | (unfold m_fin_; rw [if_pos h5]; first | done | rfl) | rfl | (simp only [m_fin_, if_pos h5]; first | done | rfl)), (by first | (unfold m_fin_; rw [if_pos h5]; first | done | rfl) | rfl | (simp only [m_fin_, if_pos h5]; first | done | rfl))⟩
set_option maxHeartbeats 1000000 in
set_option maxRecDepth 100000 in
theorem c_X6_thawsIn {l : Launch} {g : zG} (q : Nat → Nat) (m : MD) (s : Int32) (hr : r_ok (m_row m)) (hg : ∀ i, i < 1000 → m_hgood (m_hrs (m_try m) i)) : zM l g yX6_thawsIn cX6_thawsIn 2 (some .int) 8 0 0 [.ref (q 0), .int s] (rW g q m (m_row m)) (zE (some (.int (m_fin_ m s false).1)) (rW g q ((m_fin_ m s false).2) (m_row ((m_fin_ m s false).2)))) := by
  refine zM_of (by decide +kernel) (Nat.le_of_ble_eq_true rfl) (fun x hl hn _ _ _ C => ?_)
  subst hl
  show zR x g _ (0, 0) 0 [(0, .ref (q 0)), (1, .int s)] [] _
  refine zR_aload_n C eX6_thawsIn_0 0 rfl rfl ?_
  refine zR_iload_n C eX6_thawsIn_1 1 rfl rfl ?_
  refine zR_callV1 C kX6_108 eX6_thawsIn_2 (c_X6_isService q _ _ _ ) rfl 0 6 rW_g0 rfl rfl _ rW_c rW_n rfl (by decide) (by decide) (Nat.le_of_ble_eq_true rfl) (Nat.zero_le _) (Nat.zero_le _) rW_f rW_r ?_
  refine zR_bfeq C eX6_thawsIn_5 (fun h5 => ?_) (fun h5 => ?_)
  · skip
    refine zR_iconst (v := -1) C eX6_thawsIn_17 (by decide) ?_
    exact zR_iret C rfl rfl eX6_thawsIn_18 (Nat.zero_le _) (Nat.zero_le _) ⟨(by first | (unfold m_fin_; rw [if_neg h5]; first | done | rfl) | rfl | (simp only [m_fin_, if_neg h5]; first | done | rfl)), (by first | (unfold m_fin_; rw [if_neg h5]; first | done | rfl) | rfl | (simp only [m_fin_, if_neg h5]; first | done | rfl))⟩
  · skip
    have hv := (r_isS_in h5 hr).1
    refine zR_aload_n C eX6_thawsIn_8 0 rfl rfl ?_
    refine zR_iload_n C eX6_thawsIn_9 1 rfl rfl ?_
    refine zR_iconst (v := 0) C eX6_thawsIn_10 (by decide) ?_
    refine zR_callV1 C kX6_242 eX6_thawsIn_11 (c_X6_hoursTo q _ _ false hv hg) rfl 0 6 rW_g0 rfl rfl _ rW_c rW_n rfl (by decide) (by decide) (Nat.le_of_ble_eq_true rfl) (Nat.zero_le _) (Nat.zero_le _) rW_f rW_r ?_
    refine zR_goto C eX6_thawsIn_14 ?_
    exact zR_iret C rfl rfl eX6_thawsIn_18 (Nat.zero_le _) (Nat.zero_le _) ⟨(by first | (unfold m_fin_; rw [if_pos h5]; first | done | rfl) | rfl | (simp only [m_fin_, if_pos h5]; first | done | rfl)), (by first | (unfold m_fin_; rw [if_pos h5]; first | done | rfl) | rfl | (simp only [m_fin_, if_pos h5]; first | done | rfl))⟩
set_option maxHeartbeats 1000000 in
set_option maxRecDepth 100000 in
theorem c_X6_doneAt_lp {x : zX} {g : zG} {q : Nat → Nat} {p : Int32} (hn : zn x = 3) (C : zC x g RX6 cX6_doneAt (some .int) 7) : ∀ (k i : Nat) (M : MD), i + k = 1000 → (∀ j, j < k → m_hgood (m_hrs M j)) → zR x g (zE (some (.int (if m_wh (m_da1 (m_dal k M)) = 0 then -6 else m_wh (m_da1 (m_dal k M))))) (rW g q (m_da1 (m_dal k M)) (m_row (m_da1 (m_dal k M))))) (0, 0) 30 [(2, .int (nI i)), (0, .ref (q 0)), (1, .int p)] [] (rW g q M (m_row M)) := by
  intro k
  induction k with
  | zero =>
    intro i M hk hg
    have hi : i = 1000 := by omega
    subst hi
    refine zR_iload_n C eX6_doneAt_30 0 rfl rfl ?_
    refine zR_sipush (v := 1000) C eX6_doneAt_31 (by decide) ?_
    refine zR_icmp_ge C eX6_doneAt_34 (fun h34 => ?_) (fun h34 => ?_)
    · skip
      have e0 : m_dal 0 M = M := rfl
      refine zR_aload_n C eX6_doneAt_56 1 rfl rfl ?_
      refine zR_bipush (v := -6) C eX6_doneAt_57 (by decide) ?_
      refine zR_put C pX6_21 eX6_doneAt_59 0 rW_g0 (Nat.le_of_ble_eq_true rfl) rW_s0_6 ?_
      refine zR_ws (rW g q (m_swat M (-6)) (m_row (m_swat M (-6)))) rfl ?_
      refine zR_aload_n C eX6_doneAt_62 1 rfl rfl ?_
      refine zR_sipush (v := 4086) C eX6_doneAt_63 (by decide) ?_
      refine zR_iconst (v := 0) C eX6_doneAt_66 (by decide) ?_
      refine zR_callVv C kX6_52 eX6_doneAt_67 (c_X6_copy q _ _ 4086 0 (by decide) (by decide) (by decide)) rfl 0 6 rW_g0 rfl rfl _ rW_c rW_n rfl (by decide) (by decide) (Nat.le_of_ble_eq_true rfl) (Nat.zero_le _) (Nat.zero_le _) rW_f rW_r ?_
      refine zR_ws (rW g q (m_da1 M) (m_row (m_da1 M))) rfl ?_
      refine zR_aload_n C eX6_doneAt_70 1 rfl rfl ?_
      refine zR_get C fX6_197 eX6_doneAt_71 0 rW_g0 rfl ?_
      refine zR_ifne C eX6_doneAt_74 (fun h74 => ?_) (fun h74 => ?_)
      · skip
        refine zR_aload_n C eX6_doneAt_82 1 rfl rfl ?_
        refine zR_get C fX6_197 eX6_doneAt_83 0 rW_g0 rfl ?_
        exact zR_iret C rfl rfl eX6_doneAt_86 (Nat.zero_le _) (Nat.zero_le _) ⟨by rw [e0, if_neg h74] <;> rfl, by rw [e0]⟩
      · skip
        refine zR_bipush (v := -6) C eX6_doneAt_77 (by decide) ?_
        refine zR_goto C eX6_doneAt_79 ?_
        exact zR_iret C rfl rfl eX6_doneAt_86 (Nat.zero_le _) (Nat.zero_le _) ⟨by rw [e0, if_pos h74] <;> rfl, by rw [e0]⟩
    · skip
      exact absurd h34 (by decide)
  | succ k ih =>
    intro i M hk hg
    refine zR_iload_n C eX6_doneAt_30 0 rfl rfl ?_
    refine zR_sipush (v := 1000) C eX6_doneAt_31 (by decide) ?_
    refine zR_icmp_ge C eX6_doneAt_34 (fun h34 => ?_) (fun h34 => ?_)
    · skip
      exact absurd (nI_lt (a := i) (b := 1000) (by omega) (by decide)) h34
    · skip
      refine zR_aload_n C eX6_doneAt_37 1 rfl rfl ?_
      refine zR_get C fX6_21 eX6_doneAt_38 0 rW_g0 rfl ?_
      refine zR_bipush (v := -6) C eX6_doneAt_41 (by decide) ?_
      refine zR_icmp_eq C eX6_doneAt_43 (fun h43 => ?_) (fun h43 => ?_)
      · skip
        have e0 : m_dal (k + 1) M = M := if_pos h43
        refine zR_aload_n C eX6_doneAt_56 1 rfl rfl ?_
        refine zR_bipush (v := -6) C eX6_doneAt_57 (by decide) ?_
        refine zR_put C pX6_21 eX6_doneAt_59 0 rW_g0 (Nat.le_of_ble_eq_true rfl) rW_s0_6 ?_
        refine zR_ws (rW g q (m_swat M (-6)) (m_row (m_swat M (-6)))) rfl ?_
        refine zR_aload_n C eX6_doneAt_62 1 rfl rfl ?_
        refine zR_sipush (v := 4086) C eX6_doneAt_63 (by decide) ?_
        refine zR_iconst (v := 0) C eX6_doneAt_66 (by decide) ?_
        refine zR_callVv C kX6_52 eX6_doneAt_67 (c_X6_copy q _ _ 4086 0 (by decide) (by decide) (by decide)) rfl 0 6 rW_g0 rfl rfl _ rW_c rW_n rfl (by decide) (by decide) (Nat.le_of_ble_eq_true rfl) (Nat.zero_le _) (Nat.zero_le _) rW_f rW_r ?_
        refine zR_ws (rW g q (m_da1 M) (m_row (m_da1 M))) rfl ?_
        refine zR_aload_n C eX6_doneAt_70 1 rfl rfl ?_
        refine zR_get C fX6_197 eX6_doneAt_71 0 rW_g0 rfl ?_
        refine zR_ifne C eX6_doneAt_74 (fun h74 => ?_) (fun h74 => ?_)
        · skip
          refine zR_aload_n C eX6_doneAt_82 1 rfl rfl ?_
          refine zR_get C fX6_197 eX6_doneAt_83 0 rW_g0 rfl ?_
          exact zR_iret C rfl rfl eX6_doneAt_86 (Nat.zero_le _) (Nat.zero_le _) ⟨by rw [e0, if_neg h74] <;> rfl, by rw [e0]⟩
        · skip
          refine zR_bipush (v := -6) C eX6_doneAt_77 (by decide) ?_
          refine zR_goto C eX6_doneAt_79 ?_
          exact zR_iret C rfl rfl eX6_doneAt_86 (Nat.zero_le _) (Nat.zero_le _) ⟨by rw [e0, if_pos h74] <;> rfl, by rw [e0]⟩
      · skip
        refine zR_aload_n C eX6_doneAt_46 1 rfl rfl ?_
        refine zR_callVv C kX6_214 eX6_doneAt_47 (c_X6_passHour q _ (hg 0 (Nat.succ_pos _))) rfl 0 6 rW_g0 rfl rfl _ rW_c rW_n rfl (by decide) (by decide) (Nat.le_of_ble_eq_true rfl) (Nat.zero_le _) (Nat.zero_le _) rW_f rW_r ?_
        refine zR_iinc (lv' := [(2, _), (0, _), (1, _)]) (v' := nI (i + 1)) C eX6_doneAt_50 0 rfl (zinc i) (by rw [hn]; decide) rfl ?_
        refine zR_goto C eX6_doneAt_53 ?_
        have e0 : m_dal (k + 1) M = m_dal k (m_hour M) := if_neg h43
        rw [e0]
        refine zR_lv [(2, _), (0, _), (1, _)] [0, 1, 2] rfl ?_
        exact ih (i + 1) (m_hour M) (by omega) (fun j hj => by rw [m_hrs_s]; exact hg (j + 1) (by omega))
set_option maxHeartbeats 1000000 in
set_option maxRecDepth 100000 in
theorem c_X6_doneAt {l : Launch} {g : zG} (q : Nat → Nat) (m : MD) (p : Int32) (hg : ∀ i, i < 1000 → m_hgood (m_hrs (m_da0 m p) i)) : zM l g yX6_doneAt cX6_doneAt 3 (some .int) 7 0 0 [.ref (q 0), .int p] (rW g q m (m_row m)) (zE (some (.int (m_doneAt m p).1)) (rW g q ((m_doneAt m p).2) (m_row ((m_doneAt m p).2)))) := by
  refine zM_of (by decide +kernel) (Nat.le_of_ble_eq_true rfl) (fun x hl hn _ _ _ C => ?_)
  subst hl
  show zR x g _ (0, 0) 0 [(0, .ref (q 0)), (1, .int p)] [] _
  refine zR_aload_n C eX6_doneAt_0 0 rfl rfl ?_
  refine zR_iload_n C eX6_doneAt_1 1 rfl rfl ?_
  refine zR_callV1 C kX6_184 eX6_doneAt_2 (c_X6_isPlan q _ _ _ ) rfl 0 6 rW_g0 rfl rfl _ rW_c rW_n rfl (by decide) (by decide) (Nat.le_of_ble_eq_true rfl) (Nat.zero_le _) (Nat.zero_le _) rW_f rW_r ?_
  refine zR_bfne C eX6_doneAt_5 (fun h5 => ?_) (fun h5 => ?_)
  · skip
    refine zR_aload_n C eX6_doneAt_10 0 rfl rfl ?_
    refine zR_iconst (v := 0) C eX6_doneAt_11 (by decide) ?_
    refine zR_sipush (v := 4086) C eX6_doneAt_12 (by decide) ?_
    refine zR_callVv C kX6_52 eX6_doneAt_15 (c_X6_copy q _ _ 0 4086 (by decide) (by decide) (by decide)) rfl 0 6 rW_g0 rfl rfl _ rW_c rW_n rfl (by decide) (by decide) (Nat.le_of_ble_eq_true rfl) (Nat.zero_le _) (Nat.zero_le _) rW_f rW_r ?_
    refine zR_ws (rW g q (m_try m) (m_row (m_try m))) rfl ?_
    refine zR_aload_n C eX6_doneAt_18 0 rfl rfl ?_
    refine zR_iload_n C eX6_doneAt_19 1 rfl rfl ?_
    refine zR_put C pX6_21 eX6_doneAt_20 0 rW_g0 (Nat.le_of_ble_eq_true rfl) rW_s0_6 ?_
    refine zR_aload_n C eX6_doneAt_23 0 rfl rfl ?_
    refine zR_iconst (v := 0) C eX6_doneAt_24 (by decide) ?_
    refine zR_put C pX6_197 eX6_doneAt_25 0 rW_g0 (Nat.le_of_ble_eq_true rfl) rW_s0_7 ?_
    refine zR_ws (rW g q (m_da0 m p) (m_row (m_da0 m p))) rfl ?_
    refine zR_iconst (v := 0) C eX6_doneAt_28 (by decide) ?_
    refine zR_istore_n (lv' := [(2, _), (0, _), (1, _)]) C eX6_doneAt_29 rfl (by rw [hn]; decide) rfl ?_
    have e1 : m_doneAt m p = _ := if_pos h5
    have e2 : (m_doneAt m p).1 = (if m_wh (m_da1 (m_dal 1000 (m_da0 m p))) = 0 then -6 else m_wh (m_da1 (m_dal 1000 (m_da0 m p)))) := by rw [e1]; split <;> rfl
    have e3 : (m_doneAt m p).2 = m_da1 (m_dal 1000 (m_da0 m p)) := by rw [e1]; split <;> rfl
    rw [e2, e3]
    refine zR_lv [(2, .int (nI 0)), (0, _), (1, _)] [0, 1, 2] rfl ?_
    exact c_X6_doneAt_lp hn C 1000 0 (m_da0 m p) (by decide) hg
  · skip
    refine zR_iconst (v := -1) C eX6_doneAt_8 (by decide) ?_
    exact zR_iret C rfl rfl eX6_doneAt_9 (Nat.zero_le _) (Nat.zero_le _) ⟨(by first | (unfold m_doneAt; rw [if_neg h5]; first | done | rfl) | rfl | (simp only [m_doneAt, if_neg h5]; first | done | rfl)), (by first | (unfold m_doneAt; rw [if_neg h5]; first | done | rfl) | rfl | (simp only [m_doneAt, if_neg h5]; first | done | rfl))⟩
theorem r_bl_in (r : RW) (b i0 : Int32) : ∀ i : Nat, zit (r_blstep r b i0) (-6) i = -6 ∨ ∃ j, j < i ∧ zit (r_blstep r b i0) (-6) i = nI j
  | 0 => Or.inl rfl
  | i + 1 => by
    have ih : zit (r_blstep r b i0) (-6) i = -6 ∨ ∃ j, j < i + 1 ∧ zit (r_blstep r b i0) (-6) i = nI j := (r_bl_in r b i0 i).imp id (fun ⟨j, h, e⟩ => ⟨j, by omega, e⟩)
    have hi : ∃ j, j < i + 1 ∧ nI i = nI j := ⟨i, by omega, rfl⟩
    show r_blstep r b i0 i (zit (r_blstep r b i0) (-6) i) = -6 ∨ ∃ j, j < i + 1 ∧ r_blstep r b i0 i (zit (r_blstep r b i0) (-6) i) = nI j
    generalize zit (r_blstep r b i0) (-6) i = v at ih ⊢
    unfold r_blstep
    split
    · exact ih
    · split
      · split
        · split
          · exact Or.inr hi
          · split
            · exact ih
            · exact Or.inr hi
        · exact ih
      · exact ih
set_option maxHeartbeats 1000000 in
set_option maxRecDepth 100000 in
theorem c_X6_bestLender_lp {x : zX} {g : zG} {q : Nat → Nat} {m : MD} {b i0 : Int32} (hn : zn x = 6) (C : zC x g RX6 cX6_bestLender (some .int) 3) (hr : r_ok (m_row m)) : ∀ k i : Nat, i + k = zn64 (m_row m 11) → zR x g (zE (some (.int (zit (r_blstep (m_row m) b i0) (-6) (zn64 (m_row m 11))))) (rW g q m (m_row m))) (0, 0) 31 [(4, .int (nI i)), (3, .int (zit (r_blstep (m_row m) b i0) (-6) i)), (0, .ref (q 0)), (1, .int b), (2, .int i0)] [] (rW g q m (m_row m)) := by
  intro k
  induction k with
  | zero =>
    intro i hk
    have hi : i = zn64 (m_row m 11) := by omega
    refine zR_iload C eX6_bestLender_31 0 rfl ?_
    refine zR_i2l C eX6_bestLender_33 ?_
    refine zR_aload_n C eX6_bestLender_34 2 rfl rfl ?_
    refine zR_get C fX6_7 eX6_bestLender_35 0 rW_g0 rfl ?_
    refine zR_bipush (v := 11) C eX6_bestLender_38 (by decide) ?_
    refine zR_laldK C eX6_bestLender_40 1 rW_g1 11 rfl (vp_in_iff.mpr (by decide)) ?_
    refine zR_cifge C eX6_bestLender_41 eX6_bestLender_42 (fun h41 => ?_) (fun h41 => ?_)
    · skip
      refine zR_iload_n C eX6_bestLender_122 1 rfl rfl ?_
      subst hi
      exact zR_iret C rfl rfl eX6_bestLender_123 (Nat.zero_le _) (Nat.zero_le _) ⟨rfl, rfl⟩
    · skip
      exact absurd h41 (zlpl_out hr.1 (by decide) hi)
  | succ k ih =>
    intro i hk
    have hlt : i < zn64 (m_row m 11) := by omega
    have hi8 : i < 8 := Nat.lt_of_lt_of_le hlt hr.1.2
    have hvi : vp_in (nI i) 8 := vp_in_nI hi8 (by decide)
    refine zR_iload C eX6_bestLender_31 0 rfl ?_
    refine zR_i2l C eX6_bestLender_33 ?_
    refine zR_aload_n C eX6_bestLender_34 2 rfl rfl ?_
    refine zR_get C fX6_7 eX6_bestLender_35 0 rW_g0 rfl ?_
    refine zR_bipush (v := 11) C eX6_bestLender_38 (by decide) ?_
    refine zR_laldK C eX6_bestLender_40 1 rW_g1 11 rfl (vp_in_iff.mpr (by decide)) ?_
    refine zR_cifge C eX6_bestLender_41 eX6_bestLender_42 (fun h41 => ?_) (fun h41 => ?_)
    · skip
      exact absurd (zlpl_in hr.1 (by decide) hlt) h41
    · skip
      refine zR_iload C eX6_bestLender_45 0 rfl ?_
      refine zR_iload_n C eX6_bestLender_47 3 rfl rfl ?_
      refine zR_icmp_eq C eX6_bestLender_48 (fun h48 => ?_) (fun h48 => ?_)
      · skip
        refine zR_iconst (v := 0) C eX6_bestLender_80 (by decide) ?_
        refine zR_istore (lv' := [(5, _), (4, _), (3, _), (0, _), (1, _), (2, _)]) C eX6_bestLender_81 (by rw [hn]; decide) rfl ?_
        refine zR_iload C eX6_bestLender_83 0 rfl ?_
        refine zR_ifeq_t C eX6_bestLender_85 (by decide) ?_
        refine zR_iload_n C eX6_bestLender_114 2 rfl rfl ?_
        refine zR_istore_n (lv' := [(3, _), (5, _), (4, _), (0, _), (1, _), (2, _)]) C eX6_bestLender_115 rfl (by rw [hn]; decide) rfl ?_
        refine zR_iinc (lv' := [(4, _), (3, _), (5, _), (0, _), (1, _), (2, _)]) (v' := nI (i + 1)) C eX6_bestLender_116 2 rfl (zinc i) (by rw [hn]; decide) rfl ?_
        refine zR_goto C eX6_bestLender_119 ?_
        have e1 : zit (r_blstep (m_row m) b i0) (-6) (i + 1) = (zit (r_blstep (m_row m) b i0) (-6) i) := by
          show r_blstep (m_row m) b i0 i (zit (r_blstep (m_row m) b i0) (-6) i) = _
          exact (if_pos h48)
        refine zR_lv [(4, _), (3, .int (zit (r_blstep (m_row m) b i0) (-6) (i + 1))), (0, _), (1, _), (2, _)] [0, 1, 3, 4, 5] (by rw [e1] <;> rfl) ?_
        exact ih (i + 1) (by omega)
      · skip
        refine zR_aload_n C eX6_bestLender_51 2 rfl rfl ?_
        refine zR_get C fX6_7 eX6_bestLender_52 0 rW_g0 rfl ?_
        refine zR_bipush (v := 12) C eX6_bestLender_55 (by decide) ?_
        refine zR_laldK C eX6_bestLender_57 1 rW_g1 12 rfl (vp_in_iff.mpr (by decide)) ?_
        refine zR_ldc2 C qX6_146 eX6_bestLender_58 ?_
        refine zR_cifge C eX6_bestLender_61 eX6_bestLender_62 (fun h61 => ?_) (fun h61 => ?_)
        · skip
          refine zR_iconst (v := 0) C eX6_bestLender_80 (by decide) ?_
          refine zR_istore (lv' := [(5, _), (4, _), (3, _), (0, _), (1, _), (2, _)]) C eX6_bestLender_81 (by rw [hn]; decide) rfl ?_
          refine zR_iload C eX6_bestLender_83 0 rfl ?_
          refine zR_ifeq_t C eX6_bestLender_85 (by decide) ?_
          refine zR_iload_n C eX6_bestLender_114 2 rfl rfl ?_
          refine zR_istore_n (lv' := [(3, _), (5, _), (4, _), (0, _), (1, _), (2, _)]) C eX6_bestLender_115 rfl (by rw [hn]; decide) rfl ?_
          refine zR_iinc (lv' := [(4, _), (3, _), (5, _), (0, _), (1, _), (2, _)]) (v' := nI (i + 1)) C eX6_bestLender_116 2 rfl (zinc i) (by rw [hn]; decide) rfl ?_
          refine zR_goto C eX6_bestLender_119 ?_
          have e1 : zit (r_blstep (m_row m) b i0) (-6) (i + 1) = (zit (r_blstep (m_row m) b i0) (-6) i) := by
            show r_blstep (m_row m) b i0 i (zit (r_blstep (m_row m) b i0) (-6) i) = _
            exact ((if_neg h48).trans (if_neg h61))
          refine zR_lv [(4, _), (3, .int (zit (r_blstep (m_row m) b i0) (-6) (i + 1))), (0, _), (1, _), (2, _)] [0, 1, 3, 4, 5] (by rw [e1] <;> rfl) ?_
          exact ih (i + 1) (by omega)
        · skip
          refine zR_aload_n C eX6_bestLender_65 2 rfl rfl ?_
          refine zR_iload C eX6_bestLender_66 0 rfl ?_
          refine zR_iload_n C eX6_bestLender_68 3 rfl rfl ?_
          refine zR_iload_n C eX6_bestLender_69 4 rfl rfl ?_
          refine zR_callV1 C kX6_148 eX6_bestLender_70 (c_X6_whyNot q _ _ _ _ _ hvi hr) rfl 0 6 rW_g0 rfl rfl _ rW_c rW_n rfl (by decide) (by decide) (Nat.le_of_ble_eq_true rfl) (Nat.zero_le _) (Nat.zero_le _) rW_f rW_r ?_
          refine zR_ifne C eX6_bestLender_73 (fun h73 => ?_) (fun h73 => ?_)
          · skip
            refine zR_iconst (v := 0) C eX6_bestLender_80 (by decide) ?_
            refine zR_istore (lv' := [(5, _), (4, _), (3, _), (0, _), (1, _), (2, _)]) C eX6_bestLender_81 (by rw [hn]; decide) rfl ?_
            refine zR_iload C eX6_bestLender_83 0 rfl ?_
            refine zR_ifeq_t C eX6_bestLender_85 (by decide) ?_
            refine zR_iload_n C eX6_bestLender_114 2 rfl rfl ?_
            refine zR_istore_n (lv' := [(3, _), (5, _), (4, _), (0, _), (1, _), (2, _)]) C eX6_bestLender_115 rfl (by rw [hn]; decide) rfl ?_
            refine zR_iinc (lv' := [(4, _), (3, _), (5, _), (0, _), (1, _), (2, _)]) (v' := nI (i + 1)) C eX6_bestLender_116 2 rfl (zinc i) (by rw [hn]; decide) rfl ?_
            refine zR_goto C eX6_bestLender_119 ?_
            have e1 : zit (r_blstep (m_row m) b i0) (-6) (i + 1) = (zit (r_blstep (m_row m) b i0) (-6) i) := by
              show r_blstep (m_row m) b i0 i (zit (r_blstep (m_row m) b i0) (-6) i) = _
              exact ((if_neg h48).trans ((if_pos h61).trans (if_neg h73)))
            refine zR_lv [(4, _), (3, .int (zit (r_blstep (m_row m) b i0) (-6) (i + 1))), (0, _), (1, _), (2, _)] [0, 1, 3, 4, 5] (by rw [e1] <;> rfl) ?_
            exact ih (i + 1) (by omega)
          · skip
            refine zR_iconst (v := 1) C eX6_bestLender_76 (by decide) ?_
            refine zR_goto C eX6_bestLender_77 ?_
            refine zR_istore (lv' := [(5, _), (4, _), (3, _), (0, _), (1, _), (2, _)]) C eX6_bestLender_81 (by rw [hn]; decide) rfl ?_
            refine zR_iload C eX6_bestLender_83 0 rfl ?_
            refine zR_ifeq_f C eX6_bestLender_85 (by decide) ?_
            refine zR_iload_n C eX6_bestLender_88 2 rfl rfl ?_
            refine zR_bipush (v := -6) C eX6_bestLender_89 (by decide) ?_
            refine zR_icmp_eq C eX6_bestLender_91 (fun h91 => ?_) (fun h91 => ?_)
            · skip
              refine zR_iload C eX6_bestLender_109 1 rfl ?_
              refine zR_goto C eX6_bestLender_111 ?_
              refine zR_istore_n (lv' := [(3, _), (5, _), (4, _), (0, _), (1, _), (2, _)]) C eX6_bestLender_115 rfl (by rw [hn]; decide) rfl ?_
              refine zR_iinc (lv' := [(4, _), (3, _), (5, _), (0, _), (1, _), (2, _)]) (v' := nI (i + 1)) C eX6_bestLender_116 2 rfl (zinc i) (by rw [hn]; decide) rfl ?_
              refine zR_goto C eX6_bestLender_119 ?_
              have e1 : zit (r_blstep (m_row m) b i0) (-6) (i + 1) = nI i := by
                show r_blstep (m_row m) b i0 i (zit (r_blstep (m_row m) b i0) (-6) i) = _
                exact ((if_neg h48).trans ((if_pos h61).trans ((if_pos h73).trans (if_pos h91))))
              refine zR_lv [(4, _), (3, .int (zit (r_blstep (m_row m) b i0) (-6) (i + 1))), (0, _), (1, _), (2, _)] [0, 1, 3, 4, 5] (by rw [e1] <;> rfl) ?_
              exact ih (i + 1) (by omega)
            · skip
              have hv6 := (z6_in (r_bl_in (m_row m) b i0 i) h91 (Nat.le_of_lt hi8) (by decide)).1
              refine zR_aload_n C eX6_bestLender_94 3 rfl rfl ?_
              refine zR_iload C eX6_bestLender_95 1 rfl ?_
              refine zR_callV1 C kX6_90 eX6_bestLender_97 (c_X6_left q _ _ _ hvi) rfl 0 6 rW_g0 rfl rfl _ rW_c rW_n rfl (by decide) (by decide) (Nat.le_of_ble_eq_true rfl) (Nat.zero_le _) (Nat.zero_le _) rW_f rW_r ?_
              refine zR_aload_n C eX6_bestLender_100 3 rfl rfl ?_
              refine zR_iload_n C eX6_bestLender_101 2 rfl rfl ?_
              refine zR_callV1 C kX6_90 eX6_bestLender_102 (c_X6_left q _ _ _ hv6) rfl 0 6 rW_g0 rfl rfl _ rW_c rW_n rfl (by decide) (by decide) (Nat.le_of_ble_eq_true rfl) (Nat.zero_le _) (Nat.zero_le _) rW_f rW_r ?_
              refine zR_cifle C eX6_bestLender_105 eX6_bestLender_106 (fun h105 => ?_) (fun h105 => ?_)
              · skip
                refine zR_iload_n C eX6_bestLender_114 2 rfl rfl ?_
                refine zR_istore_n (lv' := [(3, _), (5, _), (4, _), (0, _), (1, _), (2, _)]) C eX6_bestLender_115 rfl (by rw [hn]; decide) rfl ?_
                refine zR_iinc (lv' := [(4, _), (3, _), (5, _), (0, _), (1, _), (2, _)]) (v' := nI (i + 1)) C eX6_bestLender_116 2 rfl (zinc i) (by rw [hn]; decide) rfl ?_
                refine zR_goto C eX6_bestLender_119 ?_
                have e1 : zit (r_blstep (m_row m) b i0) (-6) (i + 1) = (zit (r_blstep (m_row m) b i0) (-6) i) := by
                  show r_blstep (m_row m) b i0 i (zit (r_blstep (m_row m) b i0) (-6) i) = _
                  exact ((if_neg h48).trans ((if_pos h61).trans ((if_pos h73).trans ((if_neg h91).trans (if_pos h105)))))
                refine zR_lv [(4, _), (3, .int (zit (r_blstep (m_row m) b i0) (-6) (i + 1))), (0, _), (1, _), (2, _)] [0, 1, 3, 4, 5] (by rw [e1] <;> rfl) ?_
                exact ih (i + 1) (by omega)
              · skip
                refine zR_iload C eX6_bestLender_109 1 rfl ?_
                refine zR_goto C eX6_bestLender_111 ?_
                refine zR_istore_n (lv' := [(3, _), (5, _), (4, _), (0, _), (1, _), (2, _)]) C eX6_bestLender_115 rfl (by rw [hn]; decide) rfl ?_
                refine zR_iinc (lv' := [(4, _), (3, _), (5, _), (0, _), (1, _), (2, _)]) (v' := nI (i + 1)) C eX6_bestLender_116 2 rfl (zinc i) (by rw [hn]; decide) rfl ?_
                refine zR_goto C eX6_bestLender_119 ?_
                have e1 : zit (r_blstep (m_row m) b i0) (-6) (i + 1) = nI i := by
                  show r_blstep (m_row m) b i0 i (zit (r_blstep (m_row m) b i0) (-6) i) = _
                  exact ((if_neg h48).trans ((if_pos h61).trans ((if_pos h73).trans ((if_neg h91).trans (if_neg h105)))))
                refine zR_lv [(4, _), (3, .int (zit (r_blstep (m_row m) b i0) (-6) (i + 1))), (0, _), (1, _), (2, _)] [0, 1, 3, 4, 5] (by rw [e1] <;> rfl) ?_
                exact ih (i + 1) (by omega)
set_option maxHeartbeats 1000000 in
set_option maxRecDepth 100000 in
theorem c_X6_bestLender {l : Launch} {g : zG} (q : Nat → Nat) (m : MD) (b : Int32) (i0 : Int32) (hr : r_ok (m_row m)) : zM l g yX6_bestLender cX6_bestLender 6 (some .int) 3 0 0 [.ref (q 0), .int b, .int i0] (rW g q m (m_row m)) (zE (some (.int (m_best m b i0))) (rW g q (m) (m_row (m)))) := by
  refine zM_of (by decide +kernel) (Nat.le_of_ble_eq_true rfl) (fun x hl hn _ _ _ C => ?_)
  subst hl
  show zR x g _ (0, 0) 0 [(0, .ref (q 0)), (1, .int b), (2, .int i0)] [] _
  refine zR_aload_n C eX6_bestLender_0 0 rfl rfl ?_
  refine zR_iload_n C eX6_bestLender_1 1 rfl rfl ?_
  refine zR_callV1 C kX6_108 eX6_bestLender_2 (c_X6_isService q _ _ _ ) rfl 0 6 rW_g0 rfl rfl _ rW_c rW_n rfl (by decide) (by decide) (Nat.le_of_ble_eq_true rfl) (Nat.zero_le _) (Nat.zero_le _) rW_f rW_r ?_
  refine zR_bfne C eX6_bestLender_5 (fun h5 => ?_) (fun h5 => ?_)
  · skip
    refine zR_iload_n C eX6_bestLender_10 2 rfl rfl ?_
    refine zR_i2l C eX6_bestLender_11 ?_
    refine zR_lconst (v := 1) C eX6_bestLender_12 (by decide) ?_
    refine zR_ldc2 C qX6_144 eX6_bestLender_13 ?_
    refine zR_callS1 C kX6_56 eX6_bestLender_16 (c_X6_in _ _ _ ) rfl rfl (by decide) (by decide) (Nat.le_of_ble_eq_true rfl) (Nat.zero_le _) (Nat.zero_le _) ?_
    refine zR_bfne C eX6_bestLender_19 (fun h19 => ?_) (fun h19 => ?_)
    · skip
      refine zR_bipush (v := -6) C eX6_bestLender_25 (by decide) ?_
      refine zR_istore_n (lv' := [(3, _), (0, _), (1, _), (2, _)]) C eX6_bestLender_27 rfl (by rw [hn]; decide) rfl ?_
      refine zR_iconst (v := 0) C eX6_bestLender_28 (by decide) ?_
      refine zR_istore (lv' := [(4, _), (3, _), (0, _), (1, _), (2, _)]) C eX6_bestLender_29 (by rw [hn]; decide) rfl ?_
      have e1 : m_best m b i0 = zit (r_blstep (m_row m) b i0) (-6) (zn64 (m_row m 11)) := by
        unfold m_best
        rw [if_pos h5, if_pos h19]
      rw [e1]
      refine zR_lv [(4, .int (nI 0)), (3, .int (zit (r_blstep (m_row m) b i0) (-6) 0)), (0, _), (1, _), (2, _)] [0, 1, 2, 3, 4] rfl ?_
      exact c_X6_bestLender_lp hn C hr _ 0 (Nat.zero_add _)
    · skip
      refine zR_bipush (v := -2) C eX6_bestLender_22 (by decide) ?_
      exact zR_iret C rfl rfl eX6_bestLender_24 (Nat.zero_le _) (Nat.zero_le _) ⟨(by first | (unfold m_best; rw [if_pos h5, if_neg h19]; first | done | rfl) | rfl | (simp only [m_best, if_pos h5, if_neg h19]; first | done | rfl)), rfl⟩
  · skip
    refine zR_iconst (v := -1) C eX6_bestLender_8 (by decide) ?_
    exact zR_iret C rfl rfl eX6_bestLender_9 (Nat.zero_le _) (Nat.zero_le _) ⟨(by first | (unfold m_best; rw [if_neg h5]; first | done | rfl) | rfl | (simp only [m_best, if_neg h5]; first | done | rfl)), rfl⟩
set_option maxHeartbeats 1000000 in
set_option maxRecDepth 100000 in
theorem c_X6_leastLoan {l : Launch} {g : zG} (q : Nat → Nat) (m : MD) (s : Int32) (hr : r_ok (m_row m)) : zM l g yX6_leastLoan cX6_leastLoan 4 (some .long) 2 0 0 [.ref (q 0), .int s] (rW g q m (m_row m)) (zE (some (.long (m_least m s))) (rW g q (m) (m_row (m)))) := by
  refine zM_of (by decide +kernel) (Nat.le_of_ble_eq_true rfl) (fun x hl hn _ _ _ C => ?_)
  subst hl
  show zR x g _ (0, 0) 0 [(0, .ref (q 0)), (1, .int s)] [] _
  refine zR_aload_n C eX6_leastLoan_0 0 rfl rfl ?_
  refine zR_iload_n C eX6_leastLoan_1 1 rfl rfl ?_
  refine zR_callV1 C kX6_108 eX6_leastLoan_2 (c_X6_isService q _ _ _ ) rfl 0 6 rW_g0 rfl rfl _ rW_c rW_n rfl (by decide) (by decide) (Nat.le_of_ble_eq_true rfl) (Nat.zero_le _) (Nat.zero_le _) rW_f rW_r ?_
  refine zR_bfne C eX6_leastLoan_5 (fun h5 => ?_) (fun h5 => ?_)
  · skip
    have hv := (r_isS_in h5 hr).1
    refine zR_aload_n C eX6_leastLoan_12 0 rfl rfl ?_
    refine zR_iload_n C eX6_leastLoan_13 1 rfl rfl ?_
    refine zR_callV1 C kX6_98 eX6_leastLoan_14 (c_X6_thawing q _ _ _ (by assumption)) rfl 0 6 rW_g0 rfl rfl _ rW_c rW_n rfl (by decide) (by decide) (Nat.le_of_ble_eq_true rfl) (Nat.zero_le _) (Nat.zero_le _) rW_f rW_r ?_
    refine zR_aload_n C eX6_leastLoan_17 0 rfl rfl ?_
    refine zR_iload_n C eX6_leastLoan_18 1 rfl rfl ?_
    refine zR_callV1 C kX6_90 eX6_leastLoan_19 (c_X6_left q _ _ _ (by assumption)) rfl 0 6 rW_g0 rfl rfl _ rW_c rW_n rfl (by decide) (by decide) (Nat.le_of_ble_eq_true rfl) (Nat.zero_le _) (Nat.zero_le _) rW_f rW_r ?_
    refine zR_lsub C eX6_leastLoan_22 ?_
    refine zR_lconst (v := 1) C eX6_leastLoan_23 (by decide) ?_
    refine zR_ladd C eX6_leastLoan_24 ?_
    refine zR_topl (b := r_lst (m_row m) (zn32 s)) rfl ?_
    refine zR_lstore_n (lv' := [(2, _), (0, _), (1, _)]) C eX6_leastLoan_25 rfl (by rw [hn]; decide) rfl ?_
    refine zR_aload_n C eX6_leastLoan_26 1 rfl rfl ?_
    refine zR_iload_n C eX6_leastLoan_27 2 rfl rfl ?_
    refine zR_callV1 C kX6_94 eX6_leastLoan_28 (c_X6_isFrozen q _ _ _ (by assumption)) rfl 0 6 rW_g0 rfl rfl _ rW_c rW_n rfl (by decide) (by decide) (Nat.le_of_ble_eq_true rfl) (Nat.zero_le _) (Nat.zero_le _) rW_f rW_r ?_
    refine zR_bfne C eX6_leastLoan_31 (fun h31 => ?_) (fun h31 => ?_)
    · skip
      refine zR_lload_n C eX6_leastLoan_38 0 rfl rfl ?_
      refine zR_lconst (v := 1) C eX6_leastLoan_39 (by decide) ?_
      refine zR_cifle C eX6_leastLoan_40 eX6_leastLoan_41 (fun h40 => ?_) (fun h40 => ?_)
      · skip
        refine zR_lconst (v := 1) C eX6_leastLoan_48 (by decide) ?_
        exact zR_lret C rfl eX6_leastLoan_49 (Nat.zero_le _) (Nat.zero_le _) ⟨(by first | (unfold m_least; rw [if_pos h5, if_pos h31, if_pos h40]; first | done | rfl) | rfl | (simp only [m_least, if_pos h5, if_pos h31, if_pos h40]; first | done | rfl)), rfl⟩
      · skip
        refine zR_lload_n C eX6_leastLoan_44 0 rfl rfl ?_
        refine zR_goto C eX6_leastLoan_45 ?_
        exact zR_lret C rfl eX6_leastLoan_49 (Nat.zero_le _) (Nat.zero_le _) ⟨(by first | (unfold m_least; rw [if_pos h5, if_pos h31, if_neg h40]; first | done | rfl) | rfl | (simp only [m_least, if_pos h5, if_pos h31, if_neg h40]; first | done | rfl)), rfl⟩
    · skip
      refine zR_lconst (v := 0) C eX6_leastLoan_34 (by decide) ?_
      refine zR_goto C eX6_leastLoan_35 ?_
      exact zR_lret C rfl eX6_leastLoan_49 (Nat.zero_le _) (Nat.zero_le _) ⟨(by first | (unfold m_least; rw [if_pos h5, if_neg h31]; first | done | rfl) | rfl | (simp only [m_least, if_pos h5, if_neg h31]; first | done | rfl)), rfl⟩
  · skip
    refine zR_ldc2 C qX6_228 eX6_leastLoan_8 ?_
    exact zR_lret C rfl eX6_leastLoan_11 (Nat.zero_le _) (Nat.zero_le _) ⟨(by first | (unfold m_least; rw [if_neg h5]; first | done | rfl) | rfl | (simp only [m_least, if_neg h5]; first | done | rfl)), rfl⟩
set_option maxHeartbeats 1000000 in
set_option maxRecDepth 100000 in
theorem c_X6_safeSize {l : Launch} {g : zG} (q : Nat → Nat) (m : MD) (s : Int32) (hr : r_ok (m_row m)) : zM l g yX6_safeSize cX6_safeSize 4 (some .int) 2 0 0 [.ref (q 0), .int s] (rW g q m (m_row m)) (zE (some (.int (m_safe m s))) (rW g q (m) (m_row (m)))) := by
  refine zM_of (by decide +kernel) (Nat.le_of_ble_eq_true rfl) (fun x hl hn _ _ _ C => ?_)
  subst hl
  show zR x g _ (0, 0) 0 [(0, .ref (q 0)), (1, .int s)] [] _
  refine zR_aload_n C eX6_safeSize_0 0 rfl rfl ?_
  refine zR_iload_n C eX6_safeSize_1 1 rfl rfl ?_
  refine zR_callV1 C kX6_108 eX6_safeSize_2 (c_X6_isService q _ _ _ ) rfl 0 6 rW_g0 rfl rfl _ rW_c rW_n rfl (by decide) (by decide) (Nat.le_of_ble_eq_true rfl) (Nat.zero_le _) (Nat.zero_le _) rW_f rW_r ?_
  refine zR_bfne C eX6_safeSize_5 (fun h5 => ?_) (fun h5 => ?_)
  · skip
    have hv := (r_isS_in h5 hr).1
    refine zR_aload_n C eX6_safeSize_10 0 rfl rfl ?_
    refine zR_iload_n C eX6_safeSize_11 1 rfl rfl ?_
    refine zR_callV1 C kX6_90 eX6_safeSize_12 (c_X6_left q _ _ _ (by assumption)) rfl 0 6 rW_g0 rfl rfl _ rW_c rW_n rfl (by decide) (by decide) (Nat.le_of_ble_eq_true rfl) (Nat.zero_le _) (Nat.zero_le _) rW_f rW_r ?_
    refine zR_lconst (v := 1) C eX6_safeSize_15 (by decide) ?_
    refine zR_lsub C eX6_safeSize_16 ?_
    refine zR_lstore_n (lv' := [(2, _), (0, _), (1, _)]) C eX6_safeSize_17 rfl (by rw [hn]; decide) rfl ?_
    refine zR_aload_n C eX6_safeSize_18 1 rfl rfl ?_
    refine zR_iload_n C eX6_safeSize_19 2 rfl rfl ?_
    refine zR_callV1 C kX6_94 eX6_safeSize_20 (c_X6_isFrozen q _ _ _ (by assumption)) rfl 0 6 rW_g0 rfl rfl _ rW_c rW_n rfl (by decide) (by decide) (Nat.le_of_ble_eq_true rfl) (Nat.zero_le _) (Nat.zero_le _) rW_f rW_r ?_
    refine zR_bfne C eX6_safeSize_23 (fun h23 => ?_) (fun h23 => ?_)
    · skip
      refine zR_bipush (v := -6) C eX6_safeSize_32 (by decide) ?_
      refine zR_goto C eX6_safeSize_34 ?_
      exact zR_iret C rfl rfl eX6_safeSize_53 (Nat.zero_le _) (Nat.zero_le _) ⟨(by first | (unfold m_safe; rw [if_pos h5, if_pos h23]; first | done | rfl) | rfl | (simp only [m_safe, if_pos h5, if_pos h23]; first | done | rfl)), rfl⟩
    · skip
      refine zR_lload_n C eX6_safeSize_26 0 rfl rfl ?_
      refine zR_lconst (v := 1) C eX6_safeSize_27 (by decide) ?_
      refine zR_cifge C eX6_safeSize_28 eX6_safeSize_29 (fun h28 => ?_) (fun h28 => ?_)
      · skip
        refine zR_lload_n C eX6_safeSize_37 0 rfl rfl ?_
        refine zR_ldc2 C qX6_127 eX6_safeSize_38 ?_
        refine zR_cifge C eX6_safeSize_41 eX6_safeSize_42 (fun h41 => ?_) (fun h41 => ?_)
        · skip
          refine zR_sipush (v := 200) C eX6_safeSize_50 (by decide) ?_
          exact zR_iret C rfl rfl eX6_safeSize_53 (Nat.zero_le _) (Nat.zero_le _) ⟨(by first | (unfold m_safe; rw [if_pos h5, if_neg h23, if_neg h28, if_neg h41]; first | done | rfl) | rfl | (simp only [m_safe, if_pos h5, if_neg h23, if_neg h28, if_neg h41]; first | done | rfl)), rfl⟩
        · skip
          refine zR_lload_n C eX6_safeSize_45 0 rfl rfl ?_
          refine zR_l2i C eX6_safeSize_46 rfl ?_
          refine zR_goto C eX6_safeSize_47 ?_
          exact zR_iret C rfl rfl eX6_safeSize_53 (Nat.zero_le _) (Nat.zero_le _) ⟨(by first | (unfold m_safe; rw [if_pos h5, if_neg h23, if_neg h28, if_pos h41]; first | done | rfl) | rfl | (simp only [m_safe, if_pos h5, if_neg h23, if_neg h28, if_pos h41]; first | done | rfl)), rfl⟩
      · skip
        refine zR_bipush (v := -6) C eX6_safeSize_32 (by decide) ?_
        refine zR_goto C eX6_safeSize_34 ?_
        exact zR_iret C rfl rfl eX6_safeSize_53 (Nat.zero_le _) (Nat.zero_le _) ⟨(by first | (unfold m_safe; rw [if_pos h5, if_neg h23, if_pos h28]; first | done | rfl) | rfl | (simp only [m_safe, if_pos h5, if_neg h23, if_pos h28]; first | done | rfl)), rfl⟩
  · skip
    refine zR_iconst (v := -1) C eX6_safeSize_8 (by decide) ?_
    exact zR_iret C rfl rfl eX6_safeSize_9 (Nat.zero_le _) (Nat.zero_le _) ⟨(by first | (unfold m_safe; rw [if_neg h5]; first | done | rfl) | rfl | (simp only [m_safe, if_neg h5]; first | done | rfl)), rfl⟩
set_option maxHeartbeats 1000000 in
set_option maxRecDepth 100000 in
theorem c_X6_wipe {l : Launch} {g : zG} (q : Nat → Nat) (m : MD)   : zM l g yX6_wipe cX6_wipe 2 (some .int) 0 0 0 [.ref (q 0)] (rW g q m (m_row m)) (zE (some (.int ((m_len m, m_slen m 0)).1)) (rW g q (((m_len m, m_slen m 0)).2) (m_row (((m_len m, m_slen m 0)).2)))) := by
  refine zM_of (by decide +kernel) (Nat.le_of_ble_eq_true rfl) (fun x hl hn _ _ _ C => ?_)
  subst hl
  show zR x g _ (0, 0) 0 [(0, .ref (q 0))] [] _
  refine zR_aload_n C eX6_wipe_0 0 rfl rfl ?_
  refine zR_get C fX6_237 eX6_wipe_1 0 rW_g0 rfl ?_
  refine zR_istore_n (lv' := [(1, _), (0, _)]) C eX6_wipe_4 rfl (by rw [hn]; decide) rfl ?_
  refine zR_aload_n C eX6_wipe_5 1 rfl rfl ?_
  refine zR_iconst (v := 0) C eX6_wipe_6 (by decide) ?_
  refine zR_put C pX6_237 eX6_wipe_7 0 rW_g0 (Nat.le_of_ble_eq_true rfl) rW_s0_5 ?_
  refine zR_iload_n C eX6_wipe_10 0 rfl rfl ?_
  exact zR_iret C rfl rfl eX6_wipe_11 (Nat.zero_le _) (Nat.zero_le _) ⟨rfl, rfl⟩
