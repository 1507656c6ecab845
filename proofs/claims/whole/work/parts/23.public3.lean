theorem hasC_y {x y N : Int32} {n : Nat} (hN : N = nI n) (hn : n ≤ 1000) (h : ¬ (if (if x < 0 then (0 : Int32) else if N ≤ x then 0 else 1) = 0 then (0 : Int32) else if y < 0 then 0 else if 7 ≤ y then 0 else 1) = 0) : inR x n ∧ inR y 7 := by
  by_cases h1 : (if x < 0 then (0 : Int32) else if N ≤ x then 0 else 1) = 0
  · rw [if_pos h1] at h; exact absurd rfl h
  · rw [if_neg h1] at h
    by_cases h2 : y < 0
    · rw [if_pos h2] at h; exact absurd rfl h
    · rw [if_neg h2] at h
      by_cases h3 : 7 ≤ y
      · rw [if_pos h3] at h; exact absurd rfl h
      · exact ⟨inR_y hN hn h1, inR_of h2 (Int32.not_le.mp h3) (by omega)⟩
theorem hasC_n {x y N : Int32} {n : Nat} (hN : N = nI n) (hn : n ≤ 1000) (h : (if (if x < 0 then (0 : Int32) else if N ≤ x then 0 else 1) = 0 then (0 : Int32) else if y < 0 then 0 else if 7 ≤ y then 0 else 1) = 0) : ¬ (inR x n ∧ inR y 7) := by
  rintro ⟨h1, h2⟩
  by_cases h4 : (if x < 0 then (0 : Int32) else if N ≤ x then 0 else 1) = 0
  · exact inR_n hN hn h4 h1
  · rw [if_neg h4, if_neg (h2.ge (by omega)), if_neg (show ¬ 7 ≤ y from Int32.not_le.mpr (inR_lt (n := 7) h2 (by omega)))] at h
    exact i1_0 h

set_option maxRecDepth 100000 in
set_option maxHeartbeats 4000000 in
/-- X9 length -/
theorem k_X9_length (l : Launch) (G : XG) (hI : XI G) (a y : Int32) (μ : Mem) (hw : xWF μ) (hnc : ¬ μ 0 0 7 = 0 → xNC μ) : XMet l G y_X9_length c_X9_length 3 (some .int) 5 [.inr (0, 0), .inl a, .inl y] μ (fun r μ' => (μ 0 0 7 = 0 ∧ r = some (.inl (-6)) ∧ μ' = μ) ∨ (¬ μ 0 0 7 = 0 ∧ ¬ (inR a (xnp μ) ∧ inR y 7) ∧ r = some (.inl (-3)) ∧ μ' = μ) ∨ (¬ μ 0 0 7 = 0 ∧ ∃ j k, j < xnp μ ∧ k < 7 ∧ a = nI j ∧ y = nI k ∧ r = some (.inl (nI (xChn μ j k).length)) ∧ frS μ μ')) := by
  refine xj_met (by decide) hI (Nat.le_of_ble_eq_true rfl) ?_
  intro p e s m args below meth c E hr hlk
  have E : XE G (xA G) RX9 c_X9_length 3 p s m args c := E
  refine xj_loc (L' := [some (.inr (0, 0)), some (.inl a), some (.inl y)]) rfl ?_
  have hp0 := hw.2.2.2.1
  refine xj_aload_n E d_X9_length_0 rfl ?_
  refine xj_geti E fl_X9_74 (by decide) rfl (by decide) rfl d_X9_length_1 ?_
  refine xj_if_ne (tgt := 10) E d_X9_length_4 (by decide) (fun h4 => ?_) (fun h4 => ?_)
  · refine xj_aload_n E d_X9_length_10 rfl ?_
    refine xj_iload_n E d_X9_length_11 rfl ?_
    refine xj_iload_n E d_X9_length_12 rfl ?_
    refine xj_callV E (k_X9_hasChain l G hI a y _) cw_X9_155 cv_X9_hasChain (by decide) rfl rfl rfl ⟨by decide, by decide⟩ (Nat.le_of_ble_eq_true rfl) d_X9_length_13 ⟨Nat.zero_le _, Nat.zero_le _⟩ (fun r13 μ13 ho13 hp13 => ?_)
    obtain ⟨rfl, hm13⟩ := hp13
    refine xj_mem hm13 ?_
    refine xj_if_ne (tgt := 22) E d_X9_length_16 (by decide) (fun h16 => ?_) (fun h16 => ?_)
    · obtain ⟨⟨j, hj, rfl⟩, ⟨k, hk, rfl⟩⟩ := hasC_y hp0.1 (by omega) h16
      have hlen := xChn_len hw hj (mm := k)
      refine xj_aload_n E d_X9_length_22 rfl ?_
      refine xj_aload_n E d_X9_length_23 rfl ?_
      refine xj_geta E fl_X9_32 (by decide) rfl (by decide) rfl d_X9_length_24 ?_
      refine xj_iload_n E d_X9_length_27 rfl ?_
      refine xj_aald E (by decide) rfl (show vp_in (nI j) 4 from in_nI (by omega) (by omega)) d_X9_length_28 ?_
      refine xj_st (st' := [.inr (12, j), .inr (0, 0)]) (by rw [cl_nI (by omega)]; try rfl) ?_
      refine xj_iload_n E d_X9_length_29 rfl ?_
      refine xj_callV E (k_X9_buildChain l G hI j k _ hw (hnc h4) hj hk) cw_X9_158 cv_X9_buildChain (by decide) rfl rfl rfl ⟨by decide, by decide⟩ (Nat.le_of_ble_eq_true rfl) d_X9_length_30 ⟨Nat.zero_le _, Nat.zero_le _⟩ (fun r30 μ30 ho30 hp30 => ?_)
      obtain ⟨rfl, hfr, hch⟩ := hp30
      refine xj_aload_n E d_X9_length_33 rfl ?_
      refine xj_geta E fl_X9_50 (by decide) rfl (by decide) rfl d_X9_length_34 ?_
      refine xj_geti E fl_X9_162 (by decide) rfl (by decide) rfl d_X9_length_37 ?_
      exact xj_iret E hr hlk d_X9_length_40 (Or.inr (Or.inr ⟨h4, j, k, hj, hk, rfl, rfl, by rw [← hch.1], hfr⟩))
    refine xj_bipush (v := -3) E d_X9_length_19 (by decide) ?_
    exact xj_iret E hr hlk d_X9_length_21 (Or.inr (Or.inl ⟨h4, hasC_n hp0.1 (by omega) h16, rfl, rfl⟩))
  refine xj_bipush (v := -6) E d_X9_length_7 (by decide) ?_
  exact xj_iret E hr hlk d_X9_length_9 (Or.inl ⟨h4, rfl, rfl⟩)

set_option maxRecDepth 100000 in
set_option maxHeartbeats 4000000 in
/-- X9 element -/
theorem k_X9_element (l : Launch) (G : XG) (hI : XI G) (a y b : Int32) (μ : Mem) (hw : xWF μ) (hnc : ¬ μ 0 0 7 = 0 → xNC μ) : XMet l G y_X9_element c_X9_element 4 (some .int) 5 [.inr (0, 0), .inl a, .inl y, .inl b] μ (fun r μ' => (μ 0 0 7 = 0 ∧ r = some (.inl (-6)) ∧ μ' = μ) ∨ (¬ μ 0 0 7 = 0 ∧ ¬ (inR a (xnp μ) ∧ inR y 7) ∧ r = some (.inl (-3)) ∧ μ' = μ) ∨ (¬ μ 0 0 7 = 0 ∧ ∃ j k, j < xnp μ ∧ k < 7 ∧ a = nI j ∧ y = nI k ∧ frS μ μ' ∧ ((¬ inR b (xChn μ j k).length ∧ r = some (.inl (-3))) ∨ ∃ i q, (xChn μ j k)[i]? = some q ∧ b = nI i ∧ r = some (.inl q.1)))) := by
  refine xj_met (by decide) hI (Nat.le_of_ble_eq_true rfl) ?_
  intro p e s m args below meth c E hr hlk
  have E : XE G (xA G) RX9 c_X9_element 4 p s m args c := E
  refine xj_loc (L' := [some (.inr (0, 0)), some (.inl a), some (.inl y), some (.inl b)]) rfl ?_
  have hp0 := hw.2.2.2.1
  refine xj_aload_n E d_X9_element_0 rfl ?_
  refine xj_geti E fl_X9_74 (by decide) rfl (by decide) rfl d_X9_element_1 ?_
  refine xj_if_ne (tgt := 10) E d_X9_element_4 (by decide) (fun h4 => ?_) (fun h4 => ?_)
  · refine xj_aload_n E d_X9_element_10 rfl ?_
    refine xj_iload_n E d_X9_element_11 rfl ?_
    refine xj_iload_n E d_X9_element_12 rfl ?_
    refine xj_callV E (k_X9_hasChain l G hI a y _) cw_X9_155 cv_X9_hasChain (by decide) rfl rfl rfl ⟨by decide, by decide⟩ (Nat.le_of_ble_eq_true rfl) d_X9_element_13 ⟨Nat.zero_le _, Nat.zero_le _⟩ (fun r13 μ13 ho13 hp13 => ?_)
    obtain ⟨rfl, hm13⟩ := hp13
    refine xj_mem hm13 ?_
    refine xj_if_ne (tgt := 22) E d_X9_element_16 (by decide) (fun h16 => ?_) (fun h16 => ?_)
    · obtain ⟨⟨j, hj, rfl⟩, ⟨k, hk, rfl⟩⟩ := hasC_y hp0.1 (by omega) h16
      have hlen := xChn_len hw hj (mm := k)
      refine xj_aload_n E d_X9_element_22 rfl ?_
      refine xj_aload_n E d_X9_element_23 rfl ?_
      refine xj_geta E fl_X9_32 (by decide) rfl (by decide) rfl d_X9_element_24 ?_
      refine xj_iload_n E d_X9_element_27 rfl ?_
      refine xj_aald E (by decide) rfl (show vp_in (nI j) 4 from in_nI (by omega) (by omega)) d_X9_element_28 ?_
      refine xj_st (st' := [.inr (12, j), .inr (0, 0)]) (by rw [cl_nI (by omega)]; try rfl) ?_
      refine xj_iload_n E d_X9_element_29 rfl ?_
      refine xj_callV E (k_X9_buildChain l G hI j k _ hw (hnc h4) hj hk) cw_X9_158 cv_X9_buildChain (by decide) rfl rfl rfl ⟨by decide, by decide⟩ (Nat.le_of_ble_eq_true rfl) d_X9_element_30 ⟨Nat.zero_le _, Nat.zero_le _⟩ (fun r30 μ30 ho30 hp30 => ?_)
      obtain ⟨rfl, hfr, hch⟩ := hp30
      refine xj_iload_n E d_X9_element_33 rfl ?_
      refine xj_if_lt (tgt := 48) E d_X9_element_34 (by decide) (fun h34 => ?_) (fun h34 => ?_)
      · refine xj_bipush (v := -3) E d_X9_element_48 (by decide) ?_
        exact xj_iret E hr hlk d_X9_element_50 ((by first | exact Or.inr (Or.inr ⟨h4, j, k, hj, hk, rfl, rfl, hfr, Or.inl ⟨fun q => h45 (by rw [hch.1]; exact inR_lt q (by omega)), rfl⟩⟩) | exact Or.inr (Or.inr ⟨h4, j, k, hj, hk, rfl, rfl, hfr, Or.inl ⟨fun q => q.ge (by omega) h34, rfl⟩⟩)))
      refine xj_iload_n E d_X9_element_37 rfl ?_
      refine xj_aload_n E d_X9_element_38 rfl ?_
      refine xj_geta E fl_X9_50 (by decide) rfl (by decide) rfl d_X9_element_39 ?_
      refine xj_geti E fl_X9_162 (by decide) rfl (by decide) rfl d_X9_element_42 ?_
      refine xj_icmp_lt (tgt := 51) E d_X9_element_45 (by decide) (fun h45 => ?_) (fun h45 => ?_)
      · have hb : inR b (xChn μ j k).length := inR_of h34 (by rw [← hch.1]; exact h45) (by omega)
        obtain ⟨i, hi, rfl⟩ := hb
        refine xj_aload_n E d_X9_element_51 rfl ?_
        refine xj_geta E fl_X9_50 (by decide) rfl (by decide) rfl d_X9_element_52 ?_
        refine xj_geta E fl_X9_163 (by decide) rfl (by decide) rfl d_X9_element_55 ?_
        refine xj_iload_n E d_X9_element_58 rfl ?_
        refine xj_iald E (by decide) (show vp_in (nI i) 21 from in_nI (by omega) (by omega)) d_X9_element_59 ?_
        refine xj_st (st' := [.inl ((xChn μ j k)[i]).1]) (by rw [cl_nI (by omega), (hch.2 i _ (List.getElem?_eq_getElem hi)).1]; try rfl) ?_
        exact xj_iret E hr hlk d_X9_element_60 (Or.inr (Or.inr ⟨h4, j, k, hj, hk, rfl, rfl, hfr, Or.inr ⟨i, _, List.getElem?_eq_getElem hi, rfl, rfl⟩⟩))
      refine xj_bipush (v := -3) E d_X9_element_48 (by decide) ?_
      exact xj_iret E hr hlk d_X9_element_50 ((by first | exact Or.inr (Or.inr ⟨h4, j, k, hj, hk, rfl, rfl, hfr, Or.inl ⟨fun q => h45 (by rw [hch.1]; exact inR_lt q (by omega)), rfl⟩⟩) | exact Or.inr (Or.inr ⟨h4, j, k, hj, hk, rfl, rfl, hfr, Or.inl ⟨fun q => q.ge (by omega) h34, rfl⟩⟩)))
    refine xj_bipush (v := -3) E d_X9_element_19 (by decide) ?_
    exact xj_iret E hr hlk d_X9_element_21 (Or.inr (Or.inl ⟨h4, hasC_n hp0.1 (by omega) h16, rfl, rfl⟩))
  refine xj_bipush (v := -6) E d_X9_element_7 (by decide) ?_
  exact xj_iret E hr hlk d_X9_element_9 (Or.inl ⟨h4, rfl, rfl⟩)

/-- what an invocation does: the chain l in memory, method k, argument, whether the target fails -/
def xRun (μ1 : Mem) (n k : Nat) (b z : Int32) : Int32 × RS := rn (μ1 20 0) (μ1 21 0) (nI k) z n 0 b (0, μ1 23 0, b, 0)
def xFl (μ : Mem) (j k : Nat) : Int32 := if k < 4 then (if μ 13 (5 * j + 1 + k) 3 &&& 4 = 0 then 0 else 1) else 0
theorem xFl_01 (μ : Mem) (j k : Nat) : xFl μ j k = 0 ∨ xFl μ j k = 1 := by
  unfold xFl
  split
  · split
    · exact Or.inl rfl
    · exact Or.inr rfl
  · exact Or.inl rfl
theorem mrun_log (μ : Mem) (y z : Int32) (q : Int32 × RS) : mrun μ y z q 22 0 1 = nI q.2.1 := rfl

set_option maxRecDepth 100000 in
set_option maxHeartbeats 4000000 in
/-- X9 invoke -/
theorem k_X9_invoke (l : Launch) (G : XG) (hI : XI G) (a y b : Int32) (μ : Mem) (hw : xWF μ) (hnc : ¬ μ 0 0 7 = 0 → xNC μ) : XMet l G y_X9_invoke c_X9_invoke 4 (some .int) 88 [.inr (0, 0), .inl a, .inl y, .inl b] μ (fun r μ' => (μ 0 0 7 = 0 ∧ r = some (.inl (-6)) ∧ μ' = μ) ∨ (¬ μ 0 0 7 = 0 ∧ ¬ (inR a (xnp μ) ∧ inR y 7) ∧ r = some (.inl (-3)) ∧ μ' = μ) ∨ (¬ μ 0 0 7 = 0 ∧ ∃ j k, j < xnp μ ∧ k < 7 ∧ a = nI j ∧ y = nI k ∧ ∃ μ1, frS μ μ1 ∧ xCh μ1 (xChn μ j k) ∧ r = some (.inl (nI (xRun μ1 (xChn μ j k).length k (if k < 4 then b else 0) (xFl μ j k)).2.1)) ∧ μ' = mrun μ1 (nI k) (xFl μ j k) (xRun μ1 (xChn μ j k).length k (if k < 4 then b else 0) (xFl μ j k)))) := by
  refine xj_met (by decide) hI (Nat.le_of_ble_eq_true rfl) ?_
  intro p e s m args below meth c E hr hlk
  have E : XE G (xA G) RX9 c_X9_invoke 4 p s m args c := E
  refine xj_loc (L' := [some (.inr (0, 0)), some (.inl a), some (.inl y), some (.inl b)]) rfl ?_
  have hp0 := hw.2.2.2.1
  refine xj_aload_n E d_X9_invoke_0 rfl ?_
  refine xj_geti E fl_X9_74 (by decide) rfl (by decide) rfl d_X9_invoke_1 ?_
  refine xj_if_ne (tgt := 10) E d_X9_invoke_4 (by decide) (fun h4 => ?_) (fun h4 => ?_)
  · refine xj_aload_n E d_X9_invoke_10 rfl ?_
    refine xj_iload_n E d_X9_invoke_11 rfl ?_
    refine xj_iload_n E d_X9_invoke_12 rfl ?_
    refine xj_callV E (k_X9_hasChain l G hI a y _) cw_X9_155 cv_X9_hasChain (by decide) rfl rfl rfl ⟨by decide, by decide⟩ (Nat.le_of_ble_eq_true rfl) d_X9_invoke_13 ⟨Nat.zero_le _, Nat.zero_le _⟩ (fun r13 μ13 ho13 hp13 => ?_)
    obtain ⟨rfl, hm13⟩ := hp13
    refine xj_mem hm13 ?_
    refine xj_if_ne (tgt := 22) E d_X9_invoke_16 (by decide) (fun h16 => ?_) (fun h16 => ?_)
    · obtain ⟨⟨j, hj, rfl⟩, ⟨k, hk, rfl⟩⟩ := hasC_y hp0.1 (by omega) h16
      have hlen := xChn_len hw hj (mm := k)
      refine xj_aload_n E d_X9_invoke_22 rfl ?_
      refine xj_aload_n E d_X9_invoke_23 rfl ?_
      refine xj_geta E fl_X9_32 (by decide) rfl (by decide) rfl d_X9_invoke_24 ?_
      refine xj_iload_n E d_X9_invoke_27 rfl ?_
      refine xj_aald E (by decide) rfl (show vp_in (nI j) 4 from in_nI (by omega) (by omega)) d_X9_invoke_28 ?_
      refine xj_st (st' := [.inr (12, j), .inr (0, 0)]) (by rw [cl_nI (by omega)]; try rfl) ?_
      refine xj_iload_n E d_X9_invoke_29 rfl ?_
      refine xj_callV E (k_X9_buildChain l G hI j k _ hw (hnc h4) hj hk) cw_X9_158 cv_X9_buildChain (by decide) rfl rfl rfl ⟨by decide, by decide⟩ (Nat.le_of_ble_eq_true rfl) d_X9_invoke_30 ⟨Nat.zero_le _, Nat.zero_le _⟩ (fun r30 μ30 ho30 hp30 => ?_)
      obtain ⟨rfl, hfr, hch⟩ := hp30
      refine xj_iload_n E d_X9_invoke_33 rfl ?_
      refine xj_iconst (v := 4) E d_X9_invoke_34 (by decide) ?_
      refine xj_icmp_lt (tgt := 55) E d_X9_invoke_35 (by decide) (fun h35 => ?_) (fun h35 => ?_)
      · have hk4 : k < 4 := (nI_ltI (b := 4) (by omega) (by omega)).mp h35
        refine xj_aload_n E d_X9_invoke_55 rfl ?_
        refine xj_geta E fl_X9_57 (by decide) rfl (by decide) rfl d_X9_invoke_56 ?_
        refine xj_aload_n E d_X9_invoke_59 rfl ?_
        refine xj_geta E fl_X9_50 (by decide) rfl (by decide) rfl d_X9_invoke_60 ?_
        refine xj_iload_n E d_X9_invoke_63 rfl ?_
        refine xj_iload_n E d_X9_invoke_64 rfl ?_
        refine xj_aload_n E d_X9_invoke_65 rfl ?_
        refine xj_geta E fl_X9_32 (by decide) rfl (by decide) rfl d_X9_invoke_66 ?_
        refine xj_iload_n E d_X9_invoke_69 rfl ?_
        refine xj_aald E (by decide) rfl (show vp_in (nI j) 4 from in_nI (by omega) (by omega)) d_X9_invoke_70 ?_
        refine xj_st (st' := [.inr (12, j), .inl b, .inl (nI k), .inr (19, 0), .inr (22, 0)]) (by rw [cl_nI (by omega)]; try rfl) ?_
        refine xj_iload_n E d_X9_invoke_71 rfl ?_
        refine xj_callV E (k_X4_place l G hI j (nI k) _) cw_X9_129 cv_X4_place (by decide) rfl rfl rfl ⟨by decide, by decide⟩ (Nat.le_of_ble_eq_true rfl) d_X9_invoke_72 ⟨Nat.zero_le _, Nat.zero_le _⟩ (fun r72 μ72 ho72 hp72 => ?_)
        obtain ⟨rfl, hm72⟩ := hp72
        refine xj_mem hm72 ?_
        refine xj_st (st' := [.inr (13, 5 * j + 1 + k), .inl b, .inl (nI k), .inr (19, 0), .inr (22, 0)]) (by rw [if_neg (nI_pos (by omega)), if_pos h35, cl_nI (by omega)]; try rfl) ?_
        refine xj_iconst (v := 4) E d_X9_invoke_75 (by decide) ?_
        refine xj_callV E (k_X8_has l G hI (5 * j + 1 + k) 4 _) cw_X9_171 cv_X8_has (by decide) rfl rfl rfl ⟨by decide, by decide⟩ (Nat.le_of_ble_eq_true rfl) d_X9_invoke_76 ⟨Nat.zero_le _, Nat.zero_le _⟩ (fun r76 μ76 ho76 hp76 => ?_)
        obtain ⟨rfl, hm76⟩ := hp76
        refine xj_mem hm76 ?_
        have hfl : (if μ30 13 (5 * j + 1 + k) 3 &&& 4 = 0 then (0 : Int32) else 1) = xFl μ j k := by
          unfold xFl
          rw [if_pos hk4, hfr 13 (by omega)]
        refine xj_st (st' := [.inl (xFl μ j k), .inl b, .inl (nI k), .inr (19, 0), .inr (22, 0)]) (by rw [← hfl]; rfl) ?_
        refine xj_callV E (k_X7_run l G hI (xChn μ j k).length (nI k) b (xFl μ j k) _ (by omega) hch.1 (xFl_01 μ j k)) cw_X9_167 cv_X7_run (by decide) rfl rfl rfl ⟨by decide, by decide⟩ (Nat.le_of_ble_eq_true rfl) d_X9_invoke_79 ⟨Nat.zero_le _, Nat.zero_le _⟩ (fun r79 μ79 ho79 hp79 => ?_)
        obtain ⟨rfl, hm79⟩ := hp79
        first
          | refine xj_mem (μ' := mrun μ30 (nI k) (xFl μ j k) (xRun μ30 (xChn μ j k).length k (if k < 4 then b else 0) (xFl μ j k))) (by rw [hm79, if_pos hk4]; rfl) ?_
          | refine xj_mem (μ' := mrun μ30 (nI k) (xFl μ j k) (xRun μ30 (xChn μ j k).length k (if k < 4 then b else 0) (xFl μ j k))) (by rw [hm49, if_neg hk4]; unfold xFl; rw [if_neg hk4]; rfl) ?_
        refine xj_aload_n E d_X9_invoke_82 rfl ?_
        refine xj_geta E fl_X9_57 (by decide) rfl (by decide) rfl d_X9_invoke_83 ?_
        refine xj_geti E fl_X9_172 (by decide) rfl (by decide) rfl d_X9_invoke_86 ?_
        exact xj_iret E hr hlk d_X9_invoke_89 (Or.inr (Or.inr ⟨h4, j, k, hj, hk, rfl, rfl, μ30, hfr, hch, rfl, rfl⟩))
      have hk4 : ¬ k < 4 := fun q => h35 (lt4 q)
      refine xj_aload_n E d_X9_invoke_38 rfl ?_
      refine xj_geta E fl_X9_57 (by decide) rfl (by decide) rfl d_X9_invoke_39 ?_
      refine xj_aload_n E d_X9_invoke_42 rfl ?_
      refine xj_geta E fl_X9_50 (by decide) rfl (by decide) rfl d_X9_invoke_43 ?_
      refine xj_iload_n E d_X9_invoke_46 rfl ?_
      refine xj_iconst (v := 0) E d_X9_invoke_47 (by decide) ?_
      refine xj_iconst (v := 0) E d_X9_invoke_48 (by decide) ?_
      refine xj_callV E (k_X7_run l G hI (xChn μ j k).length (nI k) 0 0 _ (by omega) hch.1 (Or.inl rfl)) cw_X9_167 cv_X7_run (by decide) rfl rfl rfl ⟨by decide, by decide⟩ (Nat.le_of_ble_eq_true rfl) d_X9_invoke_49 ⟨Nat.zero_le _, Nat.zero_le _⟩ (fun r49 μ49 ho49 hp49 => ?_)
      obtain ⟨rfl, hm49⟩ := hp49
      refine xj_goto (tgt := 82) E d_X9_invoke_52 (by decide) ?_
      first
        | refine xj_mem (μ' := mrun μ30 (nI k) (xFl μ j k) (xRun μ30 (xChn μ j k).length k (if k < 4 then b else 0) (xFl μ j k))) (by rw [hm79, if_pos hk4]; rfl) ?_
        | refine xj_mem (μ' := mrun μ30 (nI k) (xFl μ j k) (xRun μ30 (xChn μ j k).length k (if k < 4 then b else 0) (xFl μ j k))) (by rw [hm49, if_neg hk4]; unfold xFl; rw [if_neg hk4]; rfl) ?_
      refine xj_aload_n E d_X9_invoke_82 rfl ?_
      refine xj_geta E fl_X9_57 (by decide) rfl (by decide) rfl d_X9_invoke_83 ?_
      refine xj_geti E fl_X9_172 (by decide) rfl (by decide) rfl d_X9_invoke_86 ?_
      exact xj_iret E hr hlk d_X9_invoke_89 (Or.inr (Or.inr ⟨h4, j, k, hj, hk, rfl, rfl, μ30, hfr, hch, rfl, rfl⟩))
    refine xj_bipush (v := -3) E d_X9_invoke_19 (by decide) ?_
    exact xj_iret E hr hlk d_X9_invoke_21 (Or.inr (Or.inl ⟨h4, hasC_n hp0.1 (by omega) h16, rfl, rfl⟩))
  refine xj_bipush (v := -6) E d_X9_invoke_7 (by decide) ?_
  exact xj_iret E hr hlk d_X9_invoke_9 (Or.inl ⟨h4, rfl, rfl⟩)

set_option maxRecDepth 100000 in
set_option maxHeartbeats 4000000 in
/-- X9 result -/
theorem k_X9_result (l : Launch) (G : XG) (hI : XI G)  (μ : Mem)  : XMet l G y_X9_result c_X9_result 1 (some .int) 0 [.inr (0, 0)] μ (fun r μ' => r = some (.inl (μ 22 0 2)) ∧ μ' = μ) := by
  refine xj_met (by decide) hI (Nat.le_of_ble_eq_true rfl) ?_
  intro p e s m args below meth c E hr hlk
  have E : XE G (xA G) RX9 c_X9_result 1 p s m args c := E
  refine xj_loc (L' := [some (.inr (0, 0))]) rfl ?_
  refine xj_aload_n E d_X9_result_0 rfl ?_
  refine xj_geta E fl_X9_57 (by decide) rfl (by decide) rfl d_X9_result_1 ?_
  refine xj_geti E fl_X9_175 (by decide) rfl (by decide) rfl d_X9_result_4 ?_
  exact xj_iret E hr hlk d_X9_result_7 (⟨rfl, rfl⟩)

set_option maxRecDepth 100000 in
set_option maxHeartbeats 4000000 in
/-- X9 error -/
theorem k_X9_error (l : Launch) (G : XG) (hI : XI G)  (μ : Mem)  : XMet l G y_X9_error c_X9_error 1 (some .int) 0 [.inr (0, 0)] μ (fun r μ' => r = some (.inl (μ 22 0 3)) ∧ μ' = μ) := by
  refine xj_met (by decide) hI (Nat.le_of_ble_eq_true rfl) ?_
  intro p e s m args below meth c E hr hlk
  have E : XE G (xA G) RX9 c_X9_error 1 p s m args c := E
  refine xj_loc (L' := [some (.inr (0, 0))]) rfl ?_
  refine xj_aload_n E d_X9_error_0 rfl ?_
  refine xj_geta E fl_X9_57 (by decide) rfl (by decide) rfl d_X9_error_1 ?_
  refine xj_geti E fl_X9_178 (by decide) rfl (by decide) rfl d_X9_error_4 ?_
  exact xj_iret E hr hlk d_X9_error_7 (⟨rfl, rfl⟩)

set_option maxRecDepth 100000 in
set_option maxHeartbeats 4000000 in
/-- X9 log -/
theorem k_X9_log (l : Launch) (G : XG) (hI : XI G) (b : Int32) (n : Nat) (μ : Mem) (hn : n ≤ 64) (hl : μ 22 0 1 = nI n) : XMet l G y_X9_log c_X9_log 2 (some .int) 0 [.inr (0, 0), .inl b] μ (fun r μ' => μ' = μ ∧ ((¬ inR b n ∧ r = some (.inl (-3))) ∨ ∃ i, i < n ∧ b = nI i ∧ r = some (.inl (μ 23 0 i)))) := by
  refine xj_met (by decide) hI (Nat.le_of_ble_eq_true rfl) ?_
  intro p e s m args below meth c E hr hlk
  have E : XE G (xA G) RX9 c_X9_log 2 p s m args c := E
  refine xj_loc (L' := [some (.inr (0, 0)), some (.inl b)]) rfl ?_
  refine xj_iload_n E d_X9_log_0 rfl ?_
  refine xj_if_lt (tgt := 15) E d_X9_log_1 (by decide) (fun h1 => ?_) (fun h1 => ?_)
  · refine xj_bipush (v := -3) E d_X9_log_15 (by decide) ?_
    exact xj_iret E hr hlk d_X9_log_17 ((by first | exact ⟨rfl, Or.inl ⟨fun q => h12 (by rw [hl]; exact inR_lt q (by omega)), rfl⟩⟩ | exact ⟨rfl, Or.inl ⟨fun q => q.ge (by omega) h1, rfl⟩⟩))
  refine xj_iload_n E d_X9_log_4 rfl ?_
  refine xj_aload_n E d_X9_log_5 rfl ?_
  refine xj_geta E fl_X9_57 (by decide) rfl (by decide) rfl d_X9_log_6 ?_
  refine xj_geti E fl_X9_172 (by decide) rfl (by decide) rfl d_X9_log_9 ?_
  refine xj_icmp_lt (tgt := 18) E d_X9_log_12 (by decide) (fun h12 => ?_) (fun h12 => ?_)
  · obtain ⟨i, hi, rfl⟩ := inR_of (n := n) h1 (by rw [← hl]; exact h12) (by omega)
    refine xj_aload_n E d_X9_log_18 rfl ?_
    refine xj_geta E fl_X9_57 (by decide) rfl (by decide) rfl d_X9_log_19 ?_
    refine xj_geta E fl_X9_181 (by decide) rfl (by decide) rfl d_X9_log_22 ?_
    refine xj_iload_n E d_X9_log_25 rfl ?_
    refine xj_iald E (by decide) (show vp_in (nI i) 64 from in_nI (by omega) (by omega)) d_X9_log_26 ?_
    refine xj_st (st' := [.inl (μ 23 0 i)]) (by rw [cl_nI (by omega)]; try rfl) ?_
    exact xj_iret E hr hlk d_X9_log_27 (⟨rfl, Or.inr ⟨i, hi, rfl, rfl⟩⟩)
  refine xj_bipush (v := -3) E d_X9_log_15 (by decide) ?_
  exact xj_iret E hr hlk d_X9_log_17 ((by first | exact ⟨rfl, Or.inl ⟨fun q => h12 (by rw [hl]; exact inR_lt q (by omega)), rfl⟩⟩ | exact ⟨rfl, Or.inl ⟨fun q => q.ge (by omega) h1, rfl⟩⟩))
