/-- one more binding in a row -/
def addB (μ : Mem) (b : Nat) (t v : Int32) : Mem := mset (mset (mset μ 5 b (xnb μ b) t) 6 b (xnb μ b) (if μ 2 0 t.toNatClampNeg = 0 then 0 else v)) 4 b 0 (nI (xnb μ b + 1))
/-- what addBinding says, by the row's count -/
theorem addB_case {μ μ' : Mem} {b nt : Nat} {t v : Int32} {r : Option XV} (hR : xRow μ b nt) (hb : 0 < b) (h : (μ 4 b 0 < nI (xln 5 b) → r = some (.inl 0) ∧ μ' = mset (mset (mset μ 5 b (μ 4 b 0).toNatClampNeg t) 6 b (μ 4 b 0).toNatClampNeg (if μ 2 0 t.toNatClampNeg = 0 then 0 else v)) 4 b 0 (μ 4 b 0 + 1)) ∧ (¬ μ 4 b 0 < nI (xln 5 b) → r = some (.inl (-5)) ∧ μ' = μ)) : (xnb μ b = 4 ∧ r = some (.inl (-5)) ∧ μ' = μ) ∨ (xnb μ b < 4 ∧ r = some (.inl 0) ∧ μ' = addB μ b t v) := by
  have hc := hR.cnt
  have h4 : xln 5 b = 4 := by show (if b = 0 then 16 else 4) = 4; rw [if_neg (by omega)]
  rw [h4] at h hc
  rw [hc.1, cl_nI (by omega), nI_1] at h
  by_cases q : xnb μ b < 4
  · exact Or.inr ⟨q, h.1 (nI_lt q (by omega))⟩
  · exact Or.inl ⟨by omega, h.2 (fun z => q ((nI_ltI (by omega) (by omega)).mp z))⟩
theorem xRow.ge {μ : Mem} {b nt : Nat} (h : xRow μ b nt) : ¬ μ 4 b 0 < 0 := by
  have hc := h.cnt
  have := xln5 b
  rw [hc.1]
  exact nI_pos (by omega)

set_option maxRecDepth 100000 in
set_option maxHeartbeats 4000000 in
/-- X9 bindInterceptor -/
theorem k_X9_bindInterceptor (l : Launch) (G : XG) (hI : XI G) (a b v : Int32) (μ : Mem) (hw : xWF μ) : XMet l G y_X9_bindInterceptor c_X9_bindInterceptor 4 (some .int) 3 [.inr (0, 0), .inl a, .inl b, .inl v] μ (fun r μ' => (¬ μ 0 0 7 = 0 ∧ r = some (.inl (-2)) ∧ μ' = μ) ∨ (μ 0 0 7 = 0 ∧ ¬ (inR a (xni μ) ∧ inR b (xnt μ)) ∧ r = some (.inl (-3)) ∧ μ' = μ) ∨ (μ 0 0 7 = 0 ∧ ∃ i, i < xni μ ∧ a = nI i ∧ inR b (xnt μ) ∧ ((xnb μ (i + 1) = 4 ∧ r = some (.inl (-5)) ∧ μ' = μ) ∨ (xnb μ (i + 1) < 4 ∧ r = some (.inl 0) ∧ μ' = addB μ (i + 1) b v)))) := by
  refine xj_met (by decide) hI (Nat.le_of_ble_eq_true rfl) ?_
  intro p e s m args below meth c E hr hlk
  have E : XE G (xA G) RX9 c_X9_bindInterceptor 4 p s m args c := E
  refine xj_loc (L' := [some (.inr (0, 0)), some (.inl a), some (.inl b), some (.inl v)]) rfl ?_
  have ht := hw.t
  have hi0 := hw.2.1
  refine xj_aload_n E d_X9_bindInterceptor_0 rfl ?_
  refine xj_geti E fl_X9_74 (by decide) rfl (by decide) rfl d_X9_bindInterceptor_1 ?_
  refine xj_if_eq (tgt := 10) E d_X9_bindInterceptor_4 (by decide) (fun h4 => ?_) (fun h4 => ?_)
  · refine xj_aload_n E d_X9_bindInterceptor_10 rfl ?_
    refine xj_iload_n E d_X9_bindInterceptor_11 rfl ?_
    refine xj_callV E (k_X9_isInterceptor l G hI a _) cw_X9_116 cv_X9_isInterceptor (by decide) rfl rfl rfl ⟨by decide, by decide⟩ (Nat.le_of_ble_eq_true rfl) d_X9_bindInterceptor_12 ⟨Nat.zero_le _, Nat.zero_le _⟩ (fun r12 μ12 ho12 hp12 => ?_)
    obtain ⟨rfl, hm12⟩ := hp12
    refine xj_mem hm12 ?_
    refine xj_if_eq (tgt := 29) E d_X9_bindInterceptor_15 (by decide) (fun h15 => ?_) (fun h15 => ?_)
    · refine xj_bipush (v := -3) E d_X9_bindInterceptor_29 (by decide) ?_
      exact xj_iret E hr hlk d_X9_bindInterceptor_31 ((by first | exact Or.inr (Or.inl ⟨h4, fun q => inR_n ht.1 (by omega) h26 q.2, rfl, rfl⟩) | exact Or.inr (Or.inl ⟨h4, fun q => inR_n hi0.1 (by omega) h15 q.1, rfl, rfl⟩)))
    refine xj_aload_n E d_X9_bindInterceptor_18 rfl ?_
    refine xj_geta E fl_X9_10 (by decide) rfl (by decide) rfl d_X9_bindInterceptor_19 ?_
    refine xj_iload_n E d_X9_bindInterceptor_22 rfl ?_
    refine xj_callV E (k_X0_has l G hI b _) cw_X9_86 cv_X0_has (by decide) rfl rfl rfl ⟨by decide, by decide⟩ (Nat.le_of_ble_eq_true rfl) d_X9_bindInterceptor_23 ⟨Nat.zero_le _, Nat.zero_le _⟩ (fun r23 μ23 ho23 hp23 => ?_)
    obtain ⟨rfl, hm23⟩ := hp23
    refine xj_mem hm23 ?_
    refine xj_if_ne (tgt := 32) E d_X9_bindInterceptor_26 (by decide) (fun h26 => ?_) (fun h26 => ?_)
    · have hb : inR b (xnt μ) := inR_y ht.1 (by omega) h26
      obtain ⟨i, hi, rfl⟩ := inR_y hi0.1 (by omega) h15
      refine xj_aload_n E d_X9_bindInterceptor_32 rfl ?_
      refine xj_aload_n E d_X9_bindInterceptor_33 rfl ?_
      refine xj_geta E fl_X9_18 (by decide) rfl (by decide) rfl d_X9_bindInterceptor_34 ?_
      refine xj_iload_n E d_X9_bindInterceptor_37 rfl ?_
      refine xj_aald E (by decide) rfl (show vp_in (nI i) 8 from in_nI (by omega) (by omega)) d_X9_bindInterceptor_38 ?_
      refine xj_st (st' := [.inr (8, i), .inr (0, 0)]) (by rw [cl_nI (by omega)]; try rfl) ?_
      refine xj_geta E fl_X9_119 (by decide) rfl (by decide) rfl d_X9_bindInterceptor_39 ?_
      refine xj_iload_n E d_X9_bindInterceptor_42 rfl ?_
      refine xj_iload_n E d_X9_bindInterceptor_43 rfl ?_
      refine xj_callV E (k_X9_addBinding l G hI (i + 1) b v _ (hw.2.2.2.2.1 i hi).ge (hb.in ht.2 (by omega))) cw_X9_122 cv_X9_addBinding (by decide) rfl rfl rfl ⟨by decide, by decide⟩ (Nat.le_of_ble_eq_true rfl) d_X9_bindInterceptor_44 ⟨Nat.zero_le _, Nat.zero_le _⟩ (fun r44 μ44 ho44 hp44 => ?_)
      have hp44 := addB_case (hw.2.2.2.2.1 i hi) (by omega) hp44
      obtain ⟨x, rfl⟩ : ∃ x, r44 = some (.inl x) := by
        rcases hp44 with h | h
        · exact ⟨_, h.2.1⟩
        · exact ⟨_, h.2.1⟩
      refine xj_st (st' := [.inl x]) rfl ?_
      exact xj_iret E hr hlk d_X9_bindInterceptor_47 (Or.inr (Or.inr ⟨h4, i, hi, rfl, hb, hp44⟩))
    refine xj_bipush (v := -3) E d_X9_bindInterceptor_29 (by decide) ?_
    exact xj_iret E hr hlk d_X9_bindInterceptor_31 ((by first | exact Or.inr (Or.inl ⟨h4, fun q => inR_n ht.1 (by omega) h26 q.2, rfl, rfl⟩) | exact Or.inr (Or.inl ⟨h4, fun q => inR_n hi0.1 (by omega) h15 q.1, rfl, rfl⟩)))
  refine xj_bipush (v := -2) E d_X9_bindInterceptor_7 (by decide) ?_
  exact xj_iret E hr hlk d_X9_bindInterceptor_9 (Or.inl ⟨h4, rfl, rfl⟩)

set_option maxRecDepth 100000 in
set_option maxHeartbeats 4000000 in
/-- X9 bind -/
theorem k_X9_bind (l : Launch) (G : XG) (hI : XI G) (a y b v : Int32) (μ : Mem) (hw : xWF μ) : XMet l G y_X9_bind c_X9_bind 5 (some .int) 3 [.inr (0, 0), .inl a, .inl y, .inl b, .inl v] μ (fun r μ' => (¬ μ 0 0 7 = 0 ∧ r = some (.inl (-2)) ∧ μ' = μ) ∨ (μ 0 0 7 = 0 ∧ ¬ ((inR a (xnp μ) ∧ ¬ y < -1 ∧ ¬ 4 ≤ y) ∧ inR b (xnt μ)) ∧ r = some (.inl (-3)) ∧ μ' = μ) ∨ (μ 0 0 7 = 0 ∧ ∃ j k, j < xnp μ ∧ k < 5 ∧ a = nI j ∧ y = nI k - 1 ∧ inR b (xnt μ) ∧ ((xnb μ (5 * j + k + 9) = 4 ∧ r = some (.inl (-5)) ∧ μ' = μ) ∨ (xnb μ (5 * j + k + 9) < 4 ∧ r = some (.inl 0) ∧ μ' = addB μ (5 * j + k + 9) b v)))) := by
  refine xj_met (by decide) hI (Nat.le_of_ble_eq_true rfl) ?_
  intro p e s m args below meth c E hr hlk
  have E : XE G (xA G) RX9 c_X9_bind 5 p s m args c := E
  refine xj_loc (L' := [some (.inr (0, 0)), some (.inl a), some (.inl y), some (.inl b), some (.inl v)]) rfl ?_
  have ht := hw.t
  have hp0 := hw.2.2.2.1
  refine xj_aload_n E d_X9_bind_0 rfl ?_
  refine xj_geti E fl_X9_74 (by decide) rfl (by decide) rfl d_X9_bind_1 ?_
  refine xj_if_eq (tgt := 10) E d_X9_bind_4 (by decide) (fun h4 => ?_) (fun h4 => ?_)
  · refine xj_aload_n E d_X9_bind_10 rfl ?_
    refine xj_iload_n E d_X9_bind_11 rfl ?_
    refine xj_iload_n E d_X9_bind_12 rfl ?_
    refine xj_callV E (k_X9_isPlace l G hI a y _) cw_X9_126 cv_X9_isPlace (by decide) rfl rfl rfl ⟨by decide, by decide⟩ (Nat.le_of_ble_eq_true rfl) d_X9_bind_13 ⟨Nat.zero_le _, Nat.zero_le _⟩ (fun r13 μ13 ho13 hp13 => ?_)
    obtain ⟨rfl, hm13⟩ := hp13
    refine xj_mem hm13 ?_
    refine xj_if_eq (tgt := 30) E d_X9_bind_16 (by decide) (fun h16 => ?_) (fun h16 => ?_)
    · refine xj_bipush (v := -3) E d_X9_bind_30 (by decide) ?_
      exact xj_iret E hr hlk d_X9_bind_32 ((by first | exact Or.inr (Or.inl ⟨h4, fun q => inR_n ht.1 (by omega) h27 q.2, rfl, rfl⟩) | exact Or.inr (Or.inl ⟨h4, fun q => place_n hp0.1 (by omega) h16 q.1, rfl, rfl⟩)))
    refine xj_aload_n E d_X9_bind_19 rfl ?_
    refine xj_geta E fl_X9_10 (by decide) rfl (by decide) rfl d_X9_bind_20 ?_
    refine xj_iload_n E d_X9_bind_23 rfl ?_
    refine xj_callV E (k_X0_has l G hI b _) cw_X9_86 cv_X0_has (by decide) rfl rfl rfl ⟨by decide, by decide⟩ (Nat.le_of_ble_eq_true rfl) d_X9_bind_24 ⟨Nat.zero_le _, Nat.zero_le _⟩ (fun r24 μ24 ho24 hp24 => ?_)
    obtain ⟨rfl, hm24⟩ := hp24
    refine xj_mem hm24 ?_
    refine xj_if_ne (tgt := 33) E d_X9_bind_27 (by decide) (fun h27 => ?_) (fun h27 => ?_)
    · have hb : inR b (xnt μ) := inR_y ht.1 (by omega) h27
      obtain ⟨⟨j, hj, rfl⟩, hy1, hy2⟩ := place_y hp0.1 (by omega) h16
      obtain ⟨k, hk, rfl⟩ := five hy1 hy2
      refine xj_aload_n E d_X9_bind_33 rfl ?_
      refine xj_aload_n E d_X9_bind_34 rfl ?_
      refine xj_geta E fl_X9_32 (by decide) rfl (by decide) rfl d_X9_bind_35 ?_
      refine xj_iload_n E d_X9_bind_38 rfl ?_
      refine xj_aald E (by decide) rfl (show vp_in (nI j) 4 from in_nI (by omega) (by omega)) d_X9_bind_39 ?_
      refine xj_st (st' := [.inr (12, j), .inr (0, 0)]) (by rw [cl_nI (by omega)]; try rfl) ?_
      refine xj_iload_n E d_X9_bind_40 rfl ?_
      refine xj_callV E (k_X4_place l G hI j (nI k - 1) _) cw_X9_129 cv_X4_place (by decide) rfl rfl rfl ⟨by decide, by decide⟩ (Nat.le_of_ble_eq_true rfl) d_X9_bind_41 ⟨Nat.zero_le _, Nat.zero_le _⟩ (fun r41 μ41 ho41 hp41 => ?_)
      obtain ⟨rfl, hm41⟩ := hp41
      refine xj_mem hm41 ?_
      refine xj_st (st' := [.inr (13, 5 * j + k), .inr (0, 0)]) (by rw [place_q hk]; try rfl) ?_
      refine xj_geta E fl_X9_133 (by decide) rfl (by decide) rfl d_X9_bind_44 ?_
      refine xj_iload_n E d_X9_bind_47 rfl ?_
      refine xj_iload E d_X9_bind_48 rfl ?_
      refine xj_callV E (k_X9_addBinding l G hI (5 * j + k + 9) b v _ (hw.2.2.2.2.2 (5 * j + k) (by omega)).1.ge (hb.in ht.2 (by omega))) cw_X9_122 cv_X9_addBinding (by decide) rfl rfl rfl ⟨by decide, by decide⟩ (Nat.le_of_ble_eq_true rfl) d_X9_bind_50 ⟨Nat.zero_le _, Nat.zero_le _⟩ (fun r50 μ50 ho50 hp50 => ?_)
      have hp50 := addB_case (hw.2.2.2.2.2 (5 * j + k) (by omega)).1 (by omega) hp50
      obtain ⟨x, rfl⟩ : ∃ x, r50 = some (.inl x) := by
        rcases hp50 with h | h
        · exact ⟨_, h.2.1⟩
        · exact ⟨_, h.2.1⟩
      refine xj_st (st' := [.inl x]) rfl ?_
      exact xj_iret E hr hlk d_X9_bind_53 (Or.inr (Or.inr ⟨h4, j, k, hj, hk, rfl, rfl, hb, hp50⟩))
    refine xj_bipush (v := -3) E d_X9_bind_30 (by decide) ?_
    exact xj_iret E hr hlk d_X9_bind_32 ((by first | exact Or.inr (Or.inl ⟨h4, fun q => inR_n ht.1 (by omega) h27 q.2, rfl, rfl⟩) | exact Or.inr (Or.inl ⟨h4, fun q => place_n hp0.1 (by omega) h16 q.1, rfl, rfl⟩)))
  refine xj_bipush (v := -2) E d_X9_bind_7 (by decide) ?_
  exact xj_iret E hr hlk d_X9_bind_9 (Or.inl ⟨h4, rfl, rfl⟩)

set_option maxRecDepth 100000 in
set_option maxHeartbeats 4000000 in
/-- X9 list -/
theorem k_X9_list (l : Launch) (G : XG) (hI : XI G) (a y b : Int32) (μ : Mem) (hw : xWF μ) : XMet l G y_X9_list c_X9_list 5 (some .int) 2 [.inr (0, 0), .inl a, .inl y, .inl b] μ (fun r μ' => (¬ μ 0 0 7 = 0 ∧ r = some (.inl (-2)) ∧ μ' = μ) ∨ (μ 0 0 7 = 0 ∧ ¬ ((inR a (xnp μ) ∧ ¬ y < -1 ∧ ¬ 4 ≤ y) ∧ inR b (xni μ)) ∧ r = some (.inl (-3)) ∧ μ' = μ) ∨ (μ 0 0 7 = 0 ∧ ∃ j k, j < xnp μ ∧ k < 5 ∧ a = nI j ∧ y = nI k - 1 ∧ inR b (xni μ) ∧ ((xnl μ (5 * j + k) = 4 ∧ r = some (.inl (-5)) ∧ μ' = μ) ∨ (xnl μ (5 * j + k) < 4 ∧ r = some (.inl 0) ∧ μ' = mset (mset μ 14 (5 * j + k) (xnl μ (5 * j + k)) b) 13 (5 * j + k) 2 (nI (xnl μ (5 * j + k) + 1)))))) := by
  refine xj_met (by decide) hI (Nat.le_of_ble_eq_true rfl) ?_
  intro p e s m args below meth c E hr hlk
  have E : XE G (xA G) RX9 c_X9_list 5 p s m args c := E
  refine xj_loc (L' := [some (.inr (0, 0)), some (.inl a), some (.inl y), some (.inl b), none]) rfl ?_
  have hi0 := hw.2.1
  have hp0 := hw.2.2.2.1
  refine xj_aload_n E d_X9_list_0 rfl ?_
  refine xj_geti E fl_X9_74 (by decide) rfl (by decide) rfl d_X9_list_1 ?_
  refine xj_if_eq (tgt := 10) E d_X9_list_4 (by decide) (fun h4 => ?_) (fun h4 => ?_)
  · refine xj_aload_n E d_X9_list_10 rfl ?_
    refine xj_iload_n E d_X9_list_11 rfl ?_
    refine xj_iload_n E d_X9_list_12 rfl ?_
    refine xj_callV E (k_X9_isPlace l G hI a y _) cw_X9_126 cv_X9_isPlace (by decide) rfl rfl rfl ⟨by decide, by decide⟩ (Nat.le_of_ble_eq_true rfl) d_X9_list_13 ⟨Nat.zero_le _, Nat.zero_le _⟩ (fun r13 μ13 ho13 hp13 => ?_)
    obtain ⟨rfl, hm13⟩ := hp13
    refine xj_mem hm13 ?_
    refine xj_if_eq (tgt := 27) E d_X9_list_16 (by decide) (fun h16 => ?_) (fun h16 => ?_)
    · refine xj_bipush (v := -3) E d_X9_list_27 (by decide) ?_
      exact xj_iret E hr hlk d_X9_list_29 ((by first | exact Or.inr (Or.inl ⟨h4, fun q => inR_n hi0.1 (by omega) h24 q.2, rfl, rfl⟩) | exact Or.inr (Or.inl ⟨h4, fun q => place_n hp0.1 (by omega) h16 q.1, rfl, rfl⟩)))
    refine xj_aload_n E d_X9_list_19 rfl ?_
    refine xj_iload_n E d_X9_list_20 rfl ?_
    refine xj_callV E (k_X9_isInterceptor l G hI b _) cw_X9_116 cv_X9_isInterceptor (by decide) rfl rfl rfl ⟨by decide, by decide⟩ (Nat.le_of_ble_eq_true rfl) d_X9_list_21 ⟨Nat.zero_le _, Nat.zero_le _⟩ (fun r21 μ21 ho21 hp21 => ?_)
    obtain ⟨rfl, hm21⟩ := hp21
    refine xj_mem hm21 ?_
    refine xj_if_ne (tgt := 30) E d_X9_list_24 (by decide) (fun h24 => ?_) (fun h24 => ?_)
    · have hb : inR b (xni μ) := inR_y hi0.1 (by omega) h24
      obtain ⟨⟨j, hj, rfl⟩, hy1, hy2⟩ := place_y hp0.1 (by omega) h16
      obtain ⟨k, hk, rfl⟩ := five hy1 hy2
      have hq := (hw.2.2.2.2.2 (5 * j + k) (by omega)).2.1
      refine xj_aload_n E d_X9_list_30 rfl ?_
      refine xj_geta E fl_X9_32 (by decide) rfl (by decide) rfl d_X9_list_31 ?_
      refine xj_iload_n E d_X9_list_34 rfl ?_
      refine xj_aald E (by decide) rfl (show vp_in (nI j) 4 from in_nI (by omega) (by omega)) d_X9_list_35 ?_
      refine xj_st (st' := [.inr (12, j)]) (by rw [cl_nI (by omega)]; try rfl) ?_
      refine xj_iload_n E d_X9_list_36 rfl ?_
      refine xj_callV E (k_X4_place l G hI j (nI k - 1) _) cw_X9_129 cv_X4_place (by decide) rfl rfl rfl ⟨by decide, by decide⟩ (Nat.le_of_ble_eq_true rfl) d_X9_list_37 ⟨Nat.zero_le _, Nat.zero_le _⟩ (fun r37 μ37 ho37 hp37 => ?_)
      obtain ⟨rfl, hm37⟩ := hp37
      refine xj_mem hm37 ?_
      refine xj_st (st' := [.inr (13, 5 * j + k)]) (by rw [place_q hk]; try rfl) ?_
      refine xj_astore E d_X9_list_40 (by decide) rfl ?_
      refine xj_aload E d_X9_list_42 rfl ?_
      refine xj_geti E fl_X9_136 (by decide) rfl (by decide) rfl d_X9_list_44 ?_
      refine xj_iconst (v := 4) E d_X9_list_47 (by decide) ?_
      refine xj_icmp_ne (tgt := 54) E d_X9_list_48 (by decide) (fun h48 => ?_) (fun h48 => ?_)
      · have hne : ¬ xnl μ (5 * j + k) = 4 := fun q => h48 (by rw [hq.1, q]; rfl)
        have hlt : xnl μ (5 * j + k) < 4 := by omega
        refine xj_aload E d_X9_list_54 rfl ?_
        refine xj_iload_n E d_X9_list_56 rfl ?_
        refine xj_callV E (k_X8_addListed l G hI (5 * j + k) b _ (by rw [hq.1]; exact in_nI hlt (by omega))) cw_X9_139 cv_X8_addListed (by decide) rfl rfl rfl ⟨by decide, by decide⟩ (Nat.le_of_ble_eq_true rfl) d_X9_list_57 ⟨Nat.zero_le _, Nat.zero_le _⟩ (fun r57 μ57 ho57 hp57 => ?_)
        obtain ⟨rfl, hm57⟩ := hp57
        refine xj_mem hm57 ?_
        refine xj_iconst (v := 0) E d_X9_list_60 (by decide) ?_
        exact xj_iret E hr hlk d_X9_list_61 (Or.inr (Or.inr ⟨h4, j, k, hj, hk, rfl, rfl, hb, Or.inr ⟨hlt, rfl, by rw [hq.1, nI_1, cl_nI (by omega)]⟩⟩))
      have he : xnl μ (5 * j + k) = 4 := (nI_eq (b := 4) (by omega) (by omega)).mp (by rw [← hq.1]; exact h48)
      refine xj_bipush (v := -5) E d_X9_list_51 (by decide) ?_
      exact xj_iret E hr hlk d_X9_list_53 (Or.inr (Or.inr ⟨h4, j, k, hj, hk, rfl, rfl, hb, Or.inl ⟨he, rfl, rfl⟩⟩))
    refine xj_bipush (v := -3) E d_X9_list_27 (by decide) ?_
    exact xj_iret E hr hlk d_X9_list_29 ((by first | exact Or.inr (Or.inl ⟨h4, fun q => inR_n hi0.1 (by omega) h24 q.2, rfl, rfl⟩) | exact Or.inr (Or.inl ⟨h4, fun q => place_n hp0.1 (by omega) h16 q.1, rfl, rfl⟩)))
  refine xj_bipush (v := -2) E d_X9_list_7 (by decide) ?_
  exact xj_iret E hr hlk d_X9_list_9 (Or.inl ⟨h4, rfl, rfl⟩)

theorem m1_0 : nI 0 - 1 = (-1 : Int32) := by decide
theorem nI_s1 {k : Nat} (h : 0 < k) : nI k - 1 = nI (k - 1) := by
  obtain ⟨n, rfl⟩ : ∃ n, k = n + 1 := ⟨k - 1, by omega⟩
  exact nI_pred n
theorem fl_no {x y N : Int32} {n : Nat} (h : y = -1 ∨ ¬ (inR x n ∧ ¬ y < -1 ∧ ¬ 4 ≤ y)) : ¬ (inR x n ∧ inR y 4) := by
  rintro ⟨h1, ⟨t, ht, rfl⟩⟩
  rcases h with h | h
  · have := nI_pos (n := t) (by omega)
    rw [h] at this
    exact this (by decide)
  · apply h
    refine ⟨h1, fun q => ?_, fun q => ?_⟩
    · have a := nI_pos' (n := t) (by omega)
      rw [Int32.le_iff_toInt_le] at a
      rw [Int32.lt_iff_toInt_lt] at q
      rw [show (-1 : Int32).toInt = -1 by decide] at q
      rw [show (0 : Int32).toInt = 0 by decide] at a
      omega
    · exact nI_ge (a := t) (b := 4) (by omega) (by omega) q

set_option maxRecDepth 100000 in
set_option maxHeartbeats 4000000 in
/-- X9 flags -/
theorem k_X9_flags (l : Launch) (G : XG) (hI : XI G) (a y b : Int32) (μ : Mem) (hw : xWF μ) : XMet l G y_X9_flags c_X9_flags 4 (some .int) 2 [.inr (0, 0), .inl a, .inl y, .inl b] μ (fun r μ' => (¬ μ 0 0 7 = 0 ∧ r = some (.inl (-2)) ∧ μ' = μ) ∨ (μ 0 0 7 = 0 ∧ ¬ (inR a (xnp μ) ∧ inR y 4) ∧ r = some (.inl (-3)) ∧ μ' = μ) ∨ (μ 0 0 7 = 0 ∧ (inR a (xnp μ) ∧ inR y 4) ∧ ¬ inR b 8 ∧ r = some (.inl (-4)) ∧ μ' = μ) ∨ (μ 0 0 7 = 0 ∧ ∃ j k, j < xnp μ ∧ k < 4 ∧ a = nI j ∧ y = nI k ∧ inR b 8 ∧ r = some (.inl 0) ∧ μ' = mset μ 13 (5 * j + 1 + k) 3 b)) := by
  refine xj_met (by decide) hI (Nat.le_of_ble_eq_true rfl) ?_
  intro p e s m args below meth c E hr hlk
  have E : XE G (xA G) RX9 c_X9_flags 4 p s m args c := E
  refine xj_loc (L' := [some (.inr (0, 0)), some (.inl a), some (.inl y), some (.inl b)]) rfl ?_
  have hp0 := hw.2.2.2.1
  refine xj_aload_n E d_X9_flags_0 rfl ?_
  refine xj_geti E fl_X9_74 (by decide) rfl (by decide) rfl d_X9_flags_1 ?_
  refine xj_if_eq (tgt := 10) E d_X9_flags_4 (by decide) (fun h4 => ?_) (fun h4 => ?_)
  · refine xj_aload_n E d_X9_flags_10 rfl ?_
    refine xj_iload_n E d_X9_flags_11 rfl ?_
    refine xj_iload_n E d_X9_flags_12 rfl ?_
    refine xj_callV E (k_X9_isPlace l G hI a y _) cw_X9_126 cv_X9_isPlace (by decide) rfl rfl rfl ⟨by decide, by decide⟩ (Nat.le_of_ble_eq_true rfl) d_X9_flags_13 ⟨Nat.zero_le _, Nat.zero_le _⟩ (fun r13 μ13 ho13 hp13 => ?_)
    obtain ⟨rfl, hm13⟩ := hp13
    refine xj_mem hm13 ?_
    refine xj_if_eq (tgt := 24) E d_X9_flags_16 (by decide) (fun h16 => ?_) (fun h16 => ?_)
    · refine xj_bipush (v := -3) E d_X9_flags_24 (by decide) ?_
      exact xj_iret E hr hlk d_X9_flags_26 ((by first | exact Or.inr (Or.inl ⟨h4, fl_no (N := 0) (Or.inl h21), rfl, rfl⟩) | exact Or.inr (Or.inl ⟨h4, fl_no (N := 0) (Or.inr (place_n hp0.1 (by omega) h16)), rfl, rfl⟩)))
    refine xj_iload_n E d_X9_flags_19 rfl ?_
    refine xj_iconst (v := -1) E d_X9_flags_20 (by decide) ?_
    refine xj_icmp_ne (tgt := 27) E d_X9_flags_21 (by decide) (fun h21 => ?_) (fun h21 => ?_)
    · obtain ⟨⟨j, hj, rfl⟩, hy1, hy2⟩ := place_y hp0.1 (by omega) h16
      obtain ⟨k, hk, rfl⟩ := five hy1 hy2
      have hk0 : 0 < k := by
        apply Classical.byContradiction
        intro q
        have q0 : k = 0 := by omega
        subst q0
        exact h21 m1_0
      refine xj_iload_n E d_X9_flags_27 rfl ?_
      refine xj_bipush (v := 7) E d_X9_flags_28 (by decide) ?_
      refine xj_callS E (k_X9_isWithin l G hI b 7 _) cw_X9_104 cs_X9_isWithin rfl rfl ⟨by decide, by decide⟩ (Nat.le_of_ble_eq_true rfl) d_X9_flags_30 ⟨Nat.zero_le _, Nat.zero_le _⟩ (fun r30 μ30 ho30 hp30 => ?_)
      obtain ⟨rfl, hm30⟩ := hp30
      refine xj_mem hm30 ?_
      refine xj_if_ne (tgt := 39) E d_X9_flags_33 (by decide) (fun h33 => ?_) (fun h33 => ?_)
      · refine xj_aload_n E d_X9_flags_39 rfl ?_
        refine xj_geta E fl_X9_32 (by decide) rfl (by decide) rfl d_X9_flags_40 ?_
        refine xj_iload_n E d_X9_flags_43 rfl ?_
        refine xj_aald E (by decide) rfl (show vp_in (nI j) 4 from in_nI (by omega) (by omega)) d_X9_flags_44 ?_
        refine xj_st (st' := [.inr (12, j)]) (by rw [cl_nI (by omega)]; try rfl) ?_
        refine xj_iload_n E d_X9_flags_45 rfl ?_
        refine xj_callV E (k_X4_place l G hI j (nI k - 1) _) cw_X9_129 cv_X4_place (by decide) rfl rfl rfl ⟨by decide, by decide⟩ (Nat.le_of_ble_eq_true rfl) d_X9_flags_46 ⟨Nat.zero_le _, Nat.zero_le _⟩ (fun r46 μ46 ho46 hp46 => ?_)
        obtain ⟨rfl, hm46⟩ := hp46
        refine xj_mem hm46 ?_
        refine xj_st (st' := [.inr (13, 5 * j + k)]) (by rw [place_q hk]; try rfl) ?_
        refine xj_iload_n E d_X9_flags_49 rfl ?_
        refine xj_put E fp_X9_142 (by decide) rfl (by decide) rfl (narrow_i _) d_X9_flags_50 ?_
        refine xj_iconst (v := 0) E d_X9_flags_53 (by decide) ?_
        exact xj_iret E hr hlk d_X9_flags_54 (Or.inr (Or.inr (Or.inr ⟨h4, j, k - 1, hj, by omega, rfl, nI_s1 hk0, inW_y 7 rfl (by omega) h33, rfl, by rw [show 5 * j + 1 + (k - 1) = 5 * j + k by omega]⟩)))
      refine xj_bipush (v := -4) E d_X9_flags_36 (by decide) ?_
      exact xj_iret E hr hlk d_X9_flags_38 (Or.inr (Or.inr (Or.inl ⟨h4, ⟨⟨j, hj, rfl⟩, ⟨k - 1, by omega, nI_s1 hk0⟩⟩, inW_n 7 rfl (by omega) h33, rfl, rfl⟩)))
    refine xj_bipush (v := -3) E d_X9_flags_24 (by decide) ?_
    exact xj_iret E hr hlk d_X9_flags_26 ((by first | exact Or.inr (Or.inl ⟨h4, fl_no (N := 0) (Or.inl h21), rfl, rfl⟩) | exact Or.inr (Or.inl ⟨h4, fl_no (N := 0) (Or.inr (place_n hp0.1 (by omega) h16)), rfl, rfl⟩)))
  refine xj_bipush (v := -2) E d_X9_flags_7 (by decide) ?_
  exact xj_iret E hr hlk d_X9_flags_9 (Or.inl ⟨h4, rfl, rfl⟩)

/-- what deploy finds -/
def xDep (μ : Mem) (x : Int32) : Prop := ∃ x1, firstN (fun i => xConf μ (i + 1)) (xni μ) (fun i => nI (100 + i)) x1 ∧ ((¬ x1 = 0 ∧ x = x1) ∨ (x1 = 0 ∧ ∃ x2, firstN (fun q => xConf μ (q + 9)) (5 * xnp μ) (fun q => nI (200 + 8 * (q / 5) + q % 5)) x2 ∧ ((¬ x2 = 0 ∧ x = x2) ∨ (x2 = 0 ∧ firstN (fun k => ¬ μ 13 (5 * (k / 4) + 1 + k % 4) 3 &&& 1 = 0 ∧ 1 < (xChn μ (k / 4) (k % 4)).length) (4 * xnp μ) (fun k => nI (300 + k)) x))))
theorem xNC_of {μ : Mem} (hw : xWF μ) {x1 x2 : Int32} (h1 : firstN (fun i => xConf μ (i + 1)) (xni μ) (fun i => nI (100 + i)) x1) (h2 : firstN (fun q => xConf μ (q + 9)) (5 * xnp μ) (fun q => nI (200 + 8 * (q / 5) + q % 5)) x2) (e1 : x1 = 0) (e2 : x2 = 0) : xNC μ := by
  have a := hw.2.1.2
  have b := hw.2.2.2.1.2
  exact ⟨h1.none (fun k hk => nI_nz (by omega) (by omega)) e1, h2.none (fun k hk => nI_nz (by omega) (by omega)) e2⟩
theorem xDep_nc {μ : Mem} (hw : xWF μ) (h : xDep μ 0) : xNC μ := by
  obtain ⟨x1, h1, h⟩ := h
  rcases h with ⟨n, e⟩ | ⟨e1, x2, h2, h⟩
  · exact absurd e.symm n
  · rcases h with ⟨n, e⟩ | ⟨e2, -⟩
    · exact absurd e.symm n
    · exact xNC_of hw h1 h2 e1 e2

set_option maxRecDepth 100000 in
set_option maxHeartbeats 4000000 in
/-- X9 deploy -/
theorem k_X9_deploy (l : Launch) (G : XG) (hI : XI G)  (μ : Mem) (hw : xWF μ) : XMet l G y_X9_deploy c_X9_deploy 2 (some .int) 6 [.inr (0, 0)] μ (fun r μ' => (¬ μ 0 0 7 = 0 ∧ r = some (.inl (-2)) ∧ μ' = μ) ∨ (μ 0 0 7 = 0 ∧ ∃ x μ1, r = some (.inl x) ∧ frS μ μ1 ∧ xDep μ x ∧ μ' = mset μ1 0 0 7 (if x = 0 then 1 else 0))) := by
  refine xj_met (by decide) hI (Nat.le_of_ble_eq_true rfl) ?_
  intro p e s m args below meth c E hr hlk
  have E : XE G (xA G) RX9 c_X9_deploy 2 p s m args c := E
  refine xj_loc (L' := [some (.inr (0, 0)), none]) rfl ?_
  have hfin : μ 0 0 7 = 0 → ∀ (x : Int32) (μ1 : Mem), frS μ μ1 → xDep μ x → XJ G (xA G) 2 p l e (xr 6) s m args below meth c 0 0 (MQ below (xQ G (fun r μ' => (¬ μ 0 0 7 = 0 ∧ r = some (.inl (-2)) ∧ μ' = μ) ∨ (μ 0 0 7 = 0 ∧ ∃ x μ1, r = some (.inl x) ∧ frS μ μ1 ∧ xDep μ x ∧ μ' = mset μ1 0 0 7 (if x = 0 then 1 else 0)))) args s 0 0 (xA G)) 33 [some (.inr (0, 0)), some (.inl x)] [] μ1 := by
    intro h4 x μ1 hfr hd
    refine xj_aload_n E d_X9_deploy_33 rfl ?_
    refine xj_iload_n E d_X9_deploy_34 rfl ?_
    refine xj_if_ne (tgt := 42) E d_X9_deploy_35 (by decide) (fun h35 => ?_) (fun h35 => ?_)
    · refine xj_iconst (v := 0) E d_X9_deploy_42 (by decide) ?_
      refine xj_put E fp_X9_74 (by decide) rfl (by decide) rfl (narrow_z (by first | exact Or.inr rfl | exact Or.inl rfl)) d_X9_deploy_43 ?_
      refine xj_iload_n E d_X9_deploy_46 rfl ?_
      exact xj_iret E hr hlk d_X9_deploy_47 ((by first | exact Or.inr ⟨h4, x, μ1, rfl, hfr, hd, by rw [if_pos h35]⟩ | exact Or.inr ⟨h4, x, μ1, rfl, hfr, hd, by rw [if_neg h35]⟩))
    refine xj_iconst (v := 1) E d_X9_deploy_38 (by decide) ?_
    refine xj_goto (tgt := 43) E d_X9_deploy_39 (by decide) ?_
    refine xj_put E fp_X9_74 (by decide) rfl (by decide) rfl (narrow_z (by first | exact Or.inr rfl | exact Or.inl rfl)) d_X9_deploy_43 ?_
    refine xj_iload_n E d_X9_deploy_46 rfl ?_
    exact xj_iret E hr hlk d_X9_deploy_47 ((by first | exact Or.inr ⟨h4, x, μ1, rfl, hfr, hd, by rw [if_pos h35]⟩ | exact Or.inr ⟨h4, x, μ1, rfl, hfr, hd, by rw [if_neg h35]⟩))
  refine xj_aload_n E d_X9_deploy_0 rfl ?_
  refine xj_geti E fl_X9_74 (by decide) rfl (by decide) rfl d_X9_deploy_1 ?_
  refine xj_if_eq (tgt := 10) E d_X9_deploy_4 (by decide) (fun h4 => ?_) (fun h4 => ?_)
  · refine xj_aload_n E d_X9_deploy_10 rfl ?_
    refine xj_callV E (k_X9_findConflictOfInterceptor l G hI _ hw) cw_X9_145 cv_X9_findConflictOfInterceptor (by decide) rfl rfl rfl ⟨by decide, by decide⟩ (Nat.le_of_ble_eq_true rfl) d_X9_deploy_11 ⟨Nat.zero_le _, Nat.zero_le _⟩ (fun r11 μ11 ho11 hp11 => ?_)
    obtain ⟨x1, rfl, hx1, fr1⟩ := hp11
    refine xj_st (st' := [.inl x1]) rfl ?_
    refine xj_istore_n E d_X9_deploy_14 (by decide) rfl ?_
    refine xj_iload_n E d_X9_deploy_15 rfl ?_
    refine xj_if_ne (tgt := 24) E d_X9_deploy_16 (by decide) (fun h16 => ?_) (fun h16 => ?_)
    · refine xj_iload_n E d_X9_deploy_24 rfl ?_
      refine xj_if_ne (tgt := 33) E d_X9_deploy_25 (by decide) (fun h25 => ?_) (fun h25 => absurd h25 h16)
      exact hfin h4 x1 _ fr1 ⟨x1, hx1, Or.inl ⟨h16, rfl⟩⟩
    refine xj_aload_n E d_X9_deploy_19 rfl ?_
    refine xj_callV E (k_X9_findConflictOfComponent l G hI _ (fr1.wf hw)) cw_X9_149 cv_X9_findConflictOfComponent (by decide) rfl rfl rfl ⟨by decide, by decide⟩ (Nat.le_of_ble_eq_true rfl) d_X9_deploy_20 ⟨Nat.zero_le _, Nat.zero_le _⟩ (fun r20 μ20 ho20 hp20 => ?_)
    obtain ⟨x2, rfl, hx2, fr2⟩ := hp20
    rw [fr1.np] at hx2
    simp only [fr1.conf] at hx2
    refine xj_st (st' := [.inl x2]) rfl ?_
    refine xj_istore_n E d_X9_deploy_23 (by decide) rfl ?_
    refine xj_iload_n E d_X9_deploy_24 rfl ?_
    refine xj_if_ne (tgt := 33) E d_X9_deploy_25 (by decide) (fun h25 => ?_) (fun h25 => ?_)
    · first
        | exact hfin h4 x3 _ ((fr1.tr fr2).tr fr3) ⟨x1, hx1, Or.inr ⟨h16, x2, hx2, Or.inr ⟨h25, hx3⟩⟩⟩
        | exact hfin h4 x2 _ (fr1.tr fr2) ⟨x1, hx1, Or.inr ⟨h16, x2, hx2, Or.inl ⟨h25, rfl⟩⟩⟩
    refine xj_aload_n E d_X9_deploy_28 rfl ?_
    refine xj_callV E (k_X9_findFinalWithChain l G hI _ ((fr1.tr fr2).wf hw) ⟨by rw [(fr1.tr fr2).ni]; intro i hi; rw [(fr1.tr fr2).conf]; exact (xNC_of hw hx1 hx2 h16 h25).1 i hi, by rw [(fr1.tr fr2).np]; intro q hq; rw [(fr1.tr fr2).conf]; exact (xNC_of hw hx1 hx2 h16 h25).2 q hq⟩) cw_X9_152 cv_X9_findFinalWithChain (by decide) rfl rfl rfl ⟨by decide, by decide⟩ (Nat.le_of_ble_eq_true rfl) d_X9_deploy_29 ⟨Nat.zero_le _, Nat.zero_le _⟩ (fun r29 μ29 ho29 hp29 => ?_)
    obtain ⟨x3, rfl, hx3, fr3⟩ := hp29
    rw [(fr1.tr fr2).np, (fr1.tr fr2) 13 (by omega)] at hx3
    simp only [(fr1.tr fr2).chn] at hx3
    refine xj_st (st' := [.inl x3]) rfl ?_
    refine xj_istore_n E d_X9_deploy_32 (by decide) rfl ?_
    first
      | exact hfin h4 x3 _ ((fr1.tr fr2).tr fr3) ⟨x1, hx1, Or.inr ⟨h16, x2, hx2, Or.inr ⟨h25, hx3⟩⟩⟩
      | exact hfin h4 x2 _ (fr1.tr fr2) ⟨x1, hx1, Or.inr ⟨h16, x2, hx2, Or.inl ⟨h25, rfl⟩⟩⟩
  refine xj_bipush (v := -2) E d_X9_deploy_7 (by decide) ?_
  exact xj_iret E hr hlk d_X9_deploy_9 (Or.inl ⟨h4, rfl, rfl⟩)
