theorem frD.a1 {μ μ' : Mem} (h : frD μ μ') (j k : Nat) : mA1 μ' j k = mA1 μ j k := by unfold mA1; rw [h.nl, h.ml, h.1 48 (by decide)]
theorem frD.a2 {μ μ' : Mem} (h : frD μ μ') (j k : Nat) : mA2 μ' j k = mA2 μ j k := by unfold mA2; rw [h.nl, h.ml]
theorem frD.bm {μ μ' : Mem} (h : frD μ μ') (FP : Nat → Int32 → Prop) (kind : Int32) : bdM μ' FP kind = bdM μ FP kind := by
  funext p i
  simp only [bdM]
  rw [h.1 38 (by decide), h.1 39 (by decide), h.nb, h.pair]
theorem frD.bn {μ μ' : Mem} (h : frD μ μ') (ot y : Int32) : bdN μ' ot y = bdN μ ot y := by
  funext p i
  simp only [bdN]
  rw [h.1 42 (by decide), h.1 43 (by decide), h.1 44 (by decide)]
theorem frD.chn {μ μ' : Mem} (h : frD μ μ') (j k : Nat) : mChn μ' j k = mChn μ j k := by
  unfold mChn mBs mDs
  rw [h.a1, h.a2, h.bm, h.bn, h.fp, h.ni, h.nd, h.1 47 (by decide)]
theorem mChn_len {μ : Mem} (hw : mWF μ) {j k : Nat} (hj : j < mnp μ) : 1 ≤ (mChn μ j k).length ∧ (mChn μ j k).length ≤ 21 := by
  have h1 := mA1_len hw (k := k) hj
  have h2 := mA2_len hw (k := k) hj
  have h3 := mBs_len hw (j := j) (k := k) (p := 9) (i := 0) (by omega) (by omega) (Or.inr rfl)
  have h4 := mDs_len hw (j := j) (k := k) (p := 9) (i := 0) (by omega) (by omega) (Or.inr rfl)
  unfold mChn
  split <;> simp only [List.length_append, List.length_cons, List.length_nil] <;> omega
/-- what the reference's deploy finds -/
def mDep (μ : Mem) (x : Int32) : Prop := ∃ x1, firstN (fun i => mConf μ i) (mni μ) (fun i => nI (100 + i)) x1 ∧ ((¬ x1 = 0 ∧ x = x1) ∨ (x1 = 0 ∧ ∃ x2, firstN (fun q => mConf μ (rq q)) (5 * mnp μ) (fun q => nI (200 + 8 * (q / 5) + q % 5)) x2 ∧ ((¬ x2 = 0 ∧ x = x2) ∨ (x2 = 0 ∧ firstN (fun k => μ 48 0 k &&& 1 = 1 ∧ 1 < (mChn μ (k / 4) (k % 4)).length) (4 * mnp μ) (fun k => nI (300 + k)) x))))

set_option maxRecDepth 100000 in
set_option maxHeartbeats 4000000 in
/-- X10 check -/
theorem k_X10_check (l : Launch) (G : XG) (hI : XI G) (a y : Int32) (μ : Mem) (hw : mWF μ) : XMet l G y_X10_check c_X10_check 3 (some .int) 4 [.inr (24, 0), .inl a, .inl y] μ (fun r μ' => (μ 24 0 0 = 0 ∧ r = some (.inl (-6)) ∧ μ' = μ) ∨ (¬ μ 24 0 0 = 0 ∧ ¬ (inR a (mnp μ) ∧ inR y 7) ∧ r = some (.inl (-3)) ∧ μ' = μ) ∨ (¬ μ 24 0 0 = 0 ∧ ∃ j k, j < mnp μ ∧ k < 7 ∧ a = nI j ∧ y = nI k ∧ r = some (.inl 0) ∧ nIs μ' (mChn μ j k) ∧ frL μ μ')) := by
  refine xj_met (by decide) hI (Nat.le_of_ble_eq_true rfl) ?_
  intro p e s m args below meth c E hr hlk
  have E : XE G (xA G) RX10 c_X10_check 3 p s m args c := E
  refine xj_loc (L' := [some (.inr (24, 0)), some (.inl a), some (.inl y)]) rfl ?_
  have hp0 := hw.2.2.2.1
  refine xj_aload_n E d_X10_check_0 rfl ?_
  refine xj_geti E fl_X10_92 (by decide) rfl (by decide) rfl d_X10_check_1 ?_
  refine xj_if_ne (tgt := 10) E d_X10_check_4 (by decide) (fun h4 => ?_) (fun h4 => ?_)
  · refine xj_iload_n E d_X10_check_10 rfl ?_
    refine xj_aload_n E d_X10_check_11 rfl ?_
    refine xj_geti E fl_X10_109 (by decide) rfl (by decide) rfl d_X10_check_12 ?_
    refine xj_iconst (v := 1) E d_X10_check_15 (by decide) ?_
    refine xj_isub E d_X10_check_16 ?_
    refine xj_callS E (k_X10_within l G hI a _ _) cw_X10_121 cs_X10_within rfl rfl ⟨by decide, by decide⟩ (Nat.le_of_ble_eq_true rfl) d_X10_check_17 ⟨Nat.zero_le _, Nat.zero_le _⟩ (fun r17 μ17 ho17 hp17 => ?_)
    obtain ⟨rfl, hm17⟩ := hp17
    refine xj_mem hm17 ?_
    refine xj_if_eq (tgt := 32) E d_X10_check_20 (by decide) (fun h20 => ?_) (fun h20 => ?_)
    · refine xj_bipush (v := -3) E d_X10_check_32 (by decide) ?_
      exact xj_iret E hr hlk d_X10_check_34 (by first | exact Or.inr (Or.inl ⟨h4, fun q => inW_n 6 rfl (by omega) h29 q.2, rfl, rfl⟩) | exact Or.inr (Or.inl ⟨h4, fun q => inV_n hp0.1 (by omega) h20 q.1, rfl, rfl⟩))
    refine xj_iload_n E d_X10_check_23 rfl ?_
    refine xj_bipush (v := 6) E d_X10_check_24 (by decide) ?_
    refine xj_callS E (k_X10_within l G hI y 6 _) cw_X10_121 cs_X10_within rfl rfl ⟨by decide, by decide⟩ (Nat.le_of_ble_eq_true rfl) d_X10_check_26 ⟨Nat.zero_le _, Nat.zero_le _⟩ (fun r26 μ26 ho26 hp26 => ?_)
    obtain ⟨rfl, hm26⟩ := hp26
    refine xj_mem hm26 ?_
    refine xj_if_ne (tgt := 35) E d_X10_check_29 (by decide) (fun h29 => ?_) (fun h29 => ?_)
    · obtain ⟨j, hj, rfl⟩ := inV_y hp0.1 (by omega) h20
      obtain ⟨k, hk, rfl⟩ := inW_y 6 rfl (by omega) h29
      refine xj_aload_n E d_X10_check_35 rfl ?_
      refine xj_iload_n E d_X10_check_36 rfl ?_
      refine xj_iload_n E d_X10_check_37 rfl ?_
      refine xj_callV E (k_X10_build l G hI j k _ hw hj hk) cw_X10_169 cv_X10_build (by decide) rfl rfl rfl ⟨by decide, by decide⟩ (Nat.le_of_ble_eq_true rfl) d_X10_check_38 ⟨Nat.zero_le _, Nat.zero_le _⟩ (fun r38 μ38 ho38 hp38 => ?_)
      obtain ⟨rfl, hc, hfr⟩ := hp38
      refine xj_iconst (v := 0) E d_X10_check_41 (by decide) ?_
      exact xj_iret E hr hlk d_X10_check_42 (Or.inr (Or.inr ⟨h4, j, k, hj, hk, rfl, rfl, rfl, hc, hfr⟩))
    refine xj_bipush (v := -3) E d_X10_check_32 (by decide) ?_
    exact xj_iret E hr hlk d_X10_check_34 (by first | exact Or.inr (Or.inl ⟨h4, fun q => inW_n 6 rfl (by omega) h29 q.2, rfl, rfl⟩) | exact Or.inr (Or.inl ⟨h4, fun q => inV_n hp0.1 (by omega) h20 q.1, rfl, rfl⟩))
  refine xj_bipush (v := -6) E d_X10_check_7 (by decide) ?_
  exact xj_iret E hr hlk d_X10_check_9 (Or.inl ⟨h4, rfl, rfl⟩)

set_option maxRecDepth 100000 in
set_option maxHeartbeats 4000000 in
/-- X10 length -/
theorem k_X10_length (l : Launch) (G : XG) (hI : XI G) (a y : Int32) (μ : Mem) (hw : mWF μ) : XMet l G y_X10_length c_X10_length 4 (some .int) 5 [.inr (24, 0), .inl a, .inl y] μ (fun r μ' => (μ 24 0 0 = 0 ∧ r = some (.inl (-6)) ∧ μ' = μ) ∨ (¬ μ 24 0 0 = 0 ∧ ¬ (inR a (mnp μ) ∧ inR y 7) ∧ r = some (.inl (-3)) ∧ μ' = μ) ∨ (¬ μ 24 0 0 = 0 ∧ ∃ j k, j < mnp μ ∧ k < 7 ∧ a = nI j ∧ y = nI k ∧ r = some (.inl (nI (mChn μ j k).length)) ∧ frL μ μ')) := by
  refine xj_met (by decide) hI (Nat.le_of_ble_eq_true rfl) ?_
  intro p e s m args below meth c E hr hlk
  have E : XE G (xA G) RX10 c_X10_length 4 p s m args c := E
  refine xj_loc (L' := [some (.inr (24, 0)), some (.inl a), some (.inl y), none]) rfl ?_
  refine xj_aload_n E d_X10_length_0 rfl ?_
  refine xj_iload_n E d_X10_length_1 rfl ?_
  refine xj_iload_n E d_X10_length_2 rfl ?_
  refine xj_callV E (k_X10_check l G hI a y _ hw) cw_X10_172 cv_X10_check (by decide) rfl rfl rfl ⟨by decide, by decide⟩ (Nat.le_of_ble_eq_true rfl) d_X10_length_3 ⟨Nat.zero_le _, Nat.zero_le _⟩ (fun r3 μ3 ho3 hp3 => ?_)
  obtain ⟨x, rfl⟩ : ∃ x, r3 = some (.inl x) := by
    rcases hp3 with h | h | ⟨-, j, k, -, -, -, -, h, -⟩
    · exact ⟨_, h.2.1⟩
    · exact ⟨_, h.2.2.1⟩
    · exact ⟨_, h⟩
  refine xj_st (st' := [.inl x]) rfl ?_
  refine xj_istore_n E d_X10_length_6 (by decide) rfl ?_
  refine xj_iload_n E d_X10_length_7 rfl ?_
  refine xj_if_ge (tgt := 15) E d_X10_length_8 (by decide) (fun h8 => ?_) (fun h8 => ?_)
  · have hge : 0 ≤ x := h8
    obtain ⟨hd, j, k, hj, hk, ea, ey, hc, hfr⟩ : ¬ μ 24 0 0 = 0 ∧ ∃ j k, j < mnp μ ∧ k < 7 ∧ a = nI j ∧ y = nI k ∧ nIs μ3 (mChn μ j k) ∧ frL μ μ3 := by
      rcases hp3 with ⟨h1, h2, h3⟩ | ⟨h1, h2, h3, h5⟩ | ⟨h1, j, k, a1, a2, a3, a4, -, a5, a6⟩
      · rw [Sum.inl.inj (Option.some.inj h2)] at hge; exact absurd hge (by decide)
      · rw [Sum.inl.inj (Option.some.inj h3)] at hge; exact absurd hge (by decide)
      · exact ⟨h1, j, k, a1, a2, a3, a4, a5, a6⟩
    refine xj_aload_n E d_X10_length_15 rfl ?_
    refine xj_geti E fl_X10_150 (by decide) rfl (by decide) rfl d_X10_length_16 ?_
    exact xj_iret E hr hlk d_X10_length_19 (by first | (rcases hp3 with ⟨h1, h2, h3⟩ | ⟨h1, h2, h3, h5⟩; exact Or.inl ⟨h1, by rw [h2], h3⟩; exact Or.inr (Or.inl ⟨h1, h2, by rw [h3], h5⟩)) | exact Or.inr (Or.inr ⟨hd, j, k, hj, hk, ea, ey, by rw [hc.1], hfr⟩))
  have hlt : ¬ 0 ≤ x := h8
  have hp3 : (μ 24 0 0 = 0 ∧ x = -6 ∧ μ3 = μ) ∨ (¬ μ 24 0 0 = 0 ∧ ¬ (inR a (mnp μ) ∧ inR y 7) ∧ x = -3 ∧ μ3 = μ) := by
    rcases hp3 with ⟨h1, h2, h3⟩ | ⟨h1, h2, h3, h5⟩ | ⟨-, j, k, -, -, -, -, h, -⟩
    · exact Or.inl ⟨h1, Sum.inl.inj (Option.some.inj h2), h3⟩
    · exact Or.inr ⟨h1, h2, Sum.inl.inj (Option.some.inj h3), h5⟩
    · exact absurd (show (0 : Int32) ≤ x by rw [Sum.inl.inj (Option.some.inj h)]; decide) hlt
  refine xj_iload_n E d_X10_length_11 rfl ?_
  refine xj_goto (tgt := 19) E d_X10_length_12 (by decide) ?_
  exact xj_iret E hr hlk d_X10_length_19 (by first | (rcases hp3 with ⟨h1, h2, h3⟩ | ⟨h1, h2, h3, h5⟩; exact Or.inl ⟨h1, by rw [h2], h3⟩; exact Or.inr (Or.inl ⟨h1, h2, by rw [h3], h5⟩)) | exact Or.inr (Or.inr ⟨hd, j, k, hj, hk, ea, ey, by rw [hc.1], hfr⟩))

set_option maxRecDepth 100000 in
set_option maxHeartbeats 4000000 in
/-- X10 element -/
theorem k_X10_element (l : Launch) (G : XG) (hI : XI G) (a y b : Int32) (μ : Mem) (hw : mWF μ) : XMet l G y_X10_element c_X10_element 5 (some .int) 5 [.inr (24, 0), .inl a, .inl y, .inl b] μ (fun r μ' => (μ 24 0 0 = 0 ∧ r = some (.inl (-6)) ∧ μ' = μ) ∨ (¬ μ 24 0 0 = 0 ∧ ¬ (inR a (mnp μ) ∧ inR y 7) ∧ r = some (.inl (-3)) ∧ μ' = μ) ∨ (¬ μ 24 0 0 = 0 ∧ ∃ j k, j < mnp μ ∧ k < 7 ∧ a = nI j ∧ y = nI k ∧ frL μ μ' ∧ ((¬ inR b (mChn μ j k).length ∧ r = some (.inl (-3))) ∨ ∃ i x, (mChn μ j k)[i]? = some x ∧ b = nI i ∧ r = some (.inl x)))) := by
  refine xj_met (by decide) hI (Nat.le_of_ble_eq_true rfl) ?_
  intro p e s m args below meth c E hr hlk
  have E : XE G (xA G) RX10 c_X10_element 5 p s m args c := E
  refine xj_loc (L' := [some (.inr (24, 0)), some (.inl a), some (.inl y), some (.inl b), none]) rfl ?_
  refine xj_aload_n E d_X10_element_0 rfl ?_
  refine xj_iload_n E d_X10_element_1 rfl ?_
  refine xj_iload_n E d_X10_element_2 rfl ?_
  refine xj_callV E (k_X10_check l G hI a y _ hw) cw_X10_172 cv_X10_check (by decide) rfl rfl rfl ⟨by decide, by decide⟩ (Nat.le_of_ble_eq_true rfl) d_X10_element_3 ⟨Nat.zero_le _, Nat.zero_le _⟩ (fun r3 μ3 ho3 hp3 => ?_)
  obtain ⟨x, rfl⟩ : ∃ x, r3 = some (.inl x) := by
    rcases hp3 with h | h | ⟨-, j, k, -, -, -, -, h, -⟩
    · exact ⟨_, h.2.1⟩
    · exact ⟨_, h.2.2.1⟩
    · exact ⟨_, h⟩
  refine xj_st (st' := [.inl x]) rfl ?_
  refine xj_istore E d_X10_element_6 (by decide) rfl ?_
  refine xj_iload E d_X10_element_8 rfl ?_
  refine xj_if_ge (tgt := 18) E d_X10_element_10 (by decide) (fun h10 => ?_) (fun h10 => ?_)
  · have hge : 0 ≤ x := h10
    obtain ⟨hd, j, k, hj, hk, ea, ey, hc, hfr⟩ : ¬ μ 24 0 0 = 0 ∧ ∃ j k, j < mnp μ ∧ k < 7 ∧ a = nI j ∧ y = nI k ∧ nIs μ3 (mChn μ j k) ∧ frL μ μ3 := by
      rcases hp3 with ⟨h1, h2, h3⟩ | ⟨h1, h2, h3, h5⟩ | ⟨h1, j, k, a1, a2, a3, a4, -, a5, a6⟩
      · rw [Sum.inl.inj (Option.some.inj h2)] at hge; exact absurd hge (by decide)
      · rw [Sum.inl.inj (Option.some.inj h3)] at hge; exact absurd hge (by decide)
      · exact ⟨h1, j, k, a1, a2, a3, a4, a5, a6⟩
    have hlen := mChn_len hw hj (k := k)
    refine xj_iload_n E d_X10_element_18 rfl ?_
    refine xj_aload_n E d_X10_element_19 rfl ?_
    refine xj_geti E fl_X10_150 (by decide) rfl (by decide) rfl d_X10_element_20 ?_
    refine xj_iconst (v := 1) E d_X10_element_23 (by decide) ?_
    refine xj_isub E d_X10_element_24 ?_
    refine xj_callS E (k_X10_within l G hI b _ _) cw_X10_121 cs_X10_within rfl rfl ⟨by decide, by decide⟩ (Nat.le_of_ble_eq_true rfl) d_X10_element_25 ⟨Nat.zero_le _, Nat.zero_le _⟩ (fun r25 μ25 ho25 hp25 => ?_)
    obtain ⟨rfl, hm25⟩ := hp25
    refine xj_mem hm25 ?_
    refine xj_if_eq (tgt := 40) E d_X10_element_28 (by decide) (fun h28 => ?_) (fun h28 => ?_)
    · refine xj_bipush (v := -3) E d_X10_element_40 (by decide) ?_
      exact xj_iret E hr hlk d_X10_element_42 (by first | (rcases hp3 with ⟨h1, h2, h3⟩ | ⟨h1, h2, h3, h5⟩; exact Or.inl ⟨h1, by rw [h2], h3⟩; exact Or.inr (Or.inl ⟨h1, h2, by rw [h3], h5⟩)) | exact Or.inr (Or.inr ⟨hd, j, k, hj, hk, ea, ey, hfr, Or.inr ⟨i, _, List.getElem?_eq_getElem hi, rfl, rfl⟩⟩) | exact Or.inr (Or.inr ⟨hd, j, k, hj, hk, ea, ey, hfr, Or.inl ⟨inV_n hc.1 (by omega) h28, rfl⟩⟩))
    obtain ⟨i, hi, rfl⟩ := inV_y hc.1 (by omega) h28
    refine xj_aload_n E d_X10_element_31 rfl ?_
    refine xj_geta E fl_X10_77 (by decide) rfl (by decide) rfl d_X10_element_32 ?_
    refine xj_iload_n E d_X10_element_35 rfl ?_
    refine xj_iald E (by decide) (show vp_in (nI i) 24 from in_nI (by omega) (by omega)) d_X10_element_36 ?_
    refine xj_st (st' := [.inl ((mChn μ j k)[i])]) (by rw [cl_nI (by omega), hc.2 i _ (List.getElem?_eq_getElem hi)]; try rfl) ?_
    refine xj_goto (tgt := 42) E d_X10_element_37 (by decide) ?_
    exact xj_iret E hr hlk d_X10_element_42 (by first | (rcases hp3 with ⟨h1, h2, h3⟩ | ⟨h1, h2, h3, h5⟩; exact Or.inl ⟨h1, by rw [h2], h3⟩; exact Or.inr (Or.inl ⟨h1, h2, by rw [h3], h5⟩)) | exact Or.inr (Or.inr ⟨hd, j, k, hj, hk, ea, ey, hfr, Or.inr ⟨i, _, List.getElem?_eq_getElem hi, rfl, rfl⟩⟩) | exact Or.inr (Or.inr ⟨hd, j, k, hj, hk, ea, ey, hfr, Or.inl ⟨inV_n hc.1 (by omega) h28, rfl⟩⟩))
  have hlt : ¬ 0 ≤ x := h10
  have hp3 : (μ 24 0 0 = 0 ∧ x = -6 ∧ μ3 = μ) ∨ (¬ μ 24 0 0 = 0 ∧ ¬ (inR a (mnp μ) ∧ inR y 7) ∧ x = -3 ∧ μ3 = μ) := by
    rcases hp3 with ⟨h1, h2, h3⟩ | ⟨h1, h2, h3, h5⟩ | ⟨-, j, k, -, -, -, -, h, -⟩
    · exact Or.inl ⟨h1, Sum.inl.inj (Option.some.inj h2), h3⟩
    · exact Or.inr ⟨h1, h2, Sum.inl.inj (Option.some.inj h3), h5⟩
    · exact absurd (show (0 : Int32) ≤ x by rw [Sum.inl.inj (Option.some.inj h)]; decide) hlt
  refine xj_iload E d_X10_element_13 rfl ?_
  refine xj_goto (tgt := 42) E d_X10_element_15 (by decide) ?_
  exact xj_iret E hr hlk d_X10_element_42 (by first | (rcases hp3 with ⟨h1, h2, h3⟩ | ⟨h1, h2, h3, h5⟩; exact Or.inl ⟨h1, by rw [h2], h3⟩; exact Or.inr (Or.inl ⟨h1, h2, by rw [h3], h5⟩)) | exact Or.inr (Or.inr ⟨hd, j, k, hj, hk, ea, ey, hfr, Or.inr ⟨i, _, List.getElem?_eq_getElem hi, rfl, rfl⟩⟩) | exact Or.inr (Or.inr ⟨hd, j, k, hj, hk, ea, ey, hfr, Or.inl ⟨inV_n hc.1 (by omega) h28, rfl⟩⟩))

theorem inc_s (u : Nat) : nI u - 1 + Int32.ofInt 1 = nI (u + 1) - 1 := by
  rw [nI_pred]
  show nI u - 1 + 1 = nI u
  rw [Int32.sub_add_cancel]
theorem add201 (j u : Nat) : (201 : Int32) + 8 * nI j + (nI u - 1) = nI (200 + 8 * j + u) := by
  rw [show (201 : Int32) = nI 201 from rfl, show (8 : Int32) = nI 8 from rfl, pk_mul, nI_add]
  by_cases e : u = 0
  · subst e
    rw [m1_0]
    show nI (201 + 8 * j) + -1 = _
    rw [show 201 + 8 * j = (200 + 8 * j + 0) + 1 by omega, pk_m1]
    rfl
  · rw [nI_s1 (by omega), nI_add]
    congr 1
    omega
theorem four_no {u : Nat} (h : u < 5) : ¬ (4 : Int32) ≤ nI u - 1 := by
  rcases (show u = 0 ∨ u = 1 ∨ u = 2 ∨ u = 3 ∨ u = 4 by omega) with rfl | rfl | rfl | rfl | rfl <;> decide

set_option maxRecDepth 100000 in
set_option maxHeartbeats 4000000 in
/-- X10 deploy -/
theorem k_X10_deploy (l : Launch) (G : XG) (hI : XI G)  (μ : Mem) (hw : mWF μ) : XMet l G y_X10_deploy c_X10_deploy 3 (some .int) 4 [.inr (24, 0)] μ (fun r μ' => (¬ μ 24 0 0 = 0 ∧ r = some (.inl (-2)) ∧ μ' = μ) ∨ (μ 24 0 0 = 0 ∧ ∃ x μ1, r = some (.inl x) ∧ frL μ μ1 ∧ mDep μ x ∧ μ' = if x = 0 then mset μ1 24 0 0 1 else μ1)) := by
  refine xj_met (by decide) hI (Nat.le_of_ble_eq_true rfl) ?_
  intro p e s m args below meth c E hr hlk
  have E : XE G (xA G) RX10 c_X10_deploy 3 p s m args c := E
  refine xj_loc (L' := [some (.inr (24, 0)), none, none]) rfl ?_
  have hnp := hw.2.2.2.1
  have hni := hw.2.1
  have hret : ∀ (x : Int32) (μ1 : Mem) (L0 : List (Option XV)) (pc : Nat), μ 24 0 0 = 0 → ¬ x = 0 → frL μ μ1 → mDep μ x → decode c_X10_deploy pc = .ok (.ireturn, 1) → XJ G (xA G) 3 p l e (xr 4) s m args below meth c 0 0 (MQ below (xQ G (fun r μ' => (¬ μ 24 0 0 = 0 ∧ r = some (.inl (-2)) ∧ μ' = μ) ∨ (μ 24 0 0 = 0 ∧ ∃ x μ1, r = some (.inl x) ∧ frL μ μ1 ∧ mDep μ x ∧ μ' = if x = 0 then mset μ1 24 0 0 1 else μ1))) args s 0 0 (xA G)) pc L0 [.inl x] μ1 := by
    intro x μ1 L0 pc h4 hx hfr hd hdc
    exact xj_iret E hr hlk hdc (Or.inr ⟨h4, x, μ1, rfl, hfr, hd, (if_neg hx).symm⟩)
  have lpC : ∀ (n k : Nat) (μ1 : Mem), μ 24 0 0 = 0 → 4 * mnp μ - k = n → k ≤ 4 * mnp μ → frL μ μ1 → (∀ i, i < mni μ → ¬ mConf μ i) → (∀ z, z < 5 * mnp μ → ¬ mConf μ (rq z)) → (∀ z, z < k → ¬ (μ 48 0 z &&& 1 = 1 ∧ 1 < (mChn μ (z / 4) (z % 4)).length)) → XJ G (xA G) 3 p l e (xr 4) s m args below meth c 0 0 (MQ below (xQ G (fun r μ' => (¬ μ 24 0 0 = 0 ∧ r = some (.inl (-2)) ∧ μ' = μ) ∨ (μ 24 0 0 = 0 ∧ ∃ x μ1, r = some (.inl x) ∧ frL μ μ1 ∧ mDep μ x ∧ μ' = if x = 0 then mset μ1 24 0 0 1 else μ1))) args s 0 0 (xA G)) 93 [some (.inr (24, 0)), some (.inl (nI k)), none] [] μ1 := by
    intro n
    induction n using Nat.strongRecOn with
    | _ n ih =>
    intro k μ1 h4 hn hk hfr hA hB hinv
    have hd := hfr.d
    have e2 : μ1 24 0 16 = nI (mnp μ) := (hd.2 16 (by decide)).trans hnp.1
    have dA : firstN (fun i => mConf μ i) (mni μ) (fun i => nI (100 + i)) 0 := Or.inr ⟨hA, rfl⟩
    have dB : firstN (fun q => mConf μ (rq q)) (5 * mnp μ) (fun q => nI (200 + 8 * (q / 5) + q % 5)) 0 := Or.inr ⟨hB, rfl⟩
    refine xj_iload_n E d_X10_deploy_93 rfl ?_
    refine xj_iconst (v := 4) E d_X10_deploy_94 (by decide) ?_
    refine xj_aload_n E d_X10_deploy_95 rfl ?_
    refine xj_geti E fl_X10_109 (by decide) rfl (by decide) rfl d_X10_deploy_96 ?_
    refine xj_imul E d_X10_deploy_99 ?_
    refine xj_st (st' := [.inl (nI (4 * mnp μ)), .inl (nI k)]) (by rw [e2, show (4 : Int32) = nI 4 from rfl, pk_mul]) ?_
    refine xj_icmp_ge (tgt := 145) E d_X10_deploy_100 (by decide) (fun h100 => ?_) (fun h100 => ?_)
    · refine xj_aload_n E d_X10_deploy_145 rfl ?_
      refine xj_iconst (v := 1) E d_X10_deploy_146 (by decide) ?_
      refine xj_put E fp_X10_92 (by decide) rfl (by decide) rfl (narrow_z (Or.inr rfl)) d_X10_deploy_147 ?_
      refine xj_iconst (v := 0) E d_X10_deploy_150 (by decide) ?_
      exact xj_iret E hr hlk d_X10_deploy_151 (Or.inr ⟨h4, 0, μ1, rfl, hfr, ⟨0, dA, Or.inr ⟨rfl, 0, dB, Or.inr ⟨rfl, Or.inr ⟨fun z hz => hinv z (by have := ge_nI h100 (by omega) (by omega); omega), rfl⟩⟩⟩⟩, (if_pos rfl).symm⟩)
    have hlt : k < 4 * mnp μ := ng_nI h100 (by omega) (by omega)
    have hck : (nI k).toNatClampNeg = k := cl_nI (by omega)
    refine xj_aload_n E d_X10_deploy_103 rfl ?_
    refine xj_iload_n E d_X10_deploy_104 rfl ?_
    refine xj_iconst (v := 4) E d_X10_deploy_105 (by decide) ?_
    refine xj_idiv E d_X10_deploy_106 (by decide) ?_
    refine xj_iload_n E d_X10_deploy_107 rfl ?_
    refine xj_iconst (v := 4) E d_X10_deploy_108 (by decide) ?_
    refine xj_irem E d_X10_deploy_109 (by decide) ?_
    refine xj_st (st' := [.inl (nI (k % 4)), .inl (nI (k / 4)), .inr (24, 0)]) (by rw [show (4 : Int32) = nI 4 from rfl, pk_rem (by omega) (by omega) (by omega), pk_div (by omega) (by omega) (by omega)]) ?_
    refine xj_callV E (k_X10_build l G hI (k / 4) (k % 4) _ (hd.wf hw) (by rw [hd.np]; omega) (by omega)) cw_X10_169 cv_X10_build (by decide) rfl rfl rfl ⟨by decide, by decide⟩ (Nat.le_of_ble_eq_true rfl) d_X10_deploy_110 ⟨Nat.zero_le _, Nat.zero_le _⟩ (fun r110 μ110 ho110 hp110 => ?_)
    obtain ⟨rfl, hc, hfr2⟩ := hp110
    rw [hd.chn] at hc
    have hlen := mChn_len hw (j := k / 4) (k := k % 4) (by omega)
    have e48 : μ110 48 = μ 48 := (frL.d (hfr.tr hfr2)).1 48 (by decide)
    refine xj_aload_n E d_X10_deploy_113 rfl ?_
    refine xj_geta E fl_X10_47 (by decide) rfl (by decide) rfl d_X10_deploy_114 ?_
    refine xj_iload_n E d_X10_deploy_117 rfl ?_
    refine xj_iald E (by decide) (show vp_in (nI k) 16 from in_nI (by omega) (by omega)) d_X10_deploy_118 ?_
    refine xj_iconst (v := 1) E d_X10_deploy_119 (by decide) ?_
    refine xj_iand E d_X10_deploy_120 ?_
    refine xj_iconst (v := 1) E d_X10_deploy_121 (by decide) ?_
    refine xj_icmp_ne (tgt := 139) E d_X10_deploy_122 (by decide) (fun h122 => ?_) (fun h122 => ?_)
    · refine xj_iinc (v := nI (k + 1)) E d_X10_deploy_139 rfl (nI_inc k) rfl ?_
      refine xj_goto (tgt := 93) E d_X10_deploy_142 (by decide) ?_
      refine ih (4 * mnp μ - (k + 1)) (by omega) (k + 1) _ h4 rfl (by omega) (hfr.tr hfr2) hA hB (fun z hz => ?_)
      by_cases q : z = k
      · subst q
        intro q
        rw [hck, e48] at h122
        first
          | (have := (nI_leI (a := (mChn μ (z / 4) (z % 4)).length) (b := 1) (by omega) (by omega)).mp (by rw [← hc.1]; exact h130)
             omega)
          | exact h122 q.1
      · exact hinv z (by omega)
    refine xj_aload_n E d_X10_deploy_125 rfl ?_
    refine xj_geti E fl_X10_150 (by decide) rfl (by decide) rfl d_X10_deploy_126 ?_
    refine xj_iconst (v := 1) E d_X10_deploy_129 (by decide) ?_
    refine xj_icmp_le (tgt := 139) E d_X10_deploy_130 (by decide) (fun h130 => ?_) (fun h130 => ?_)
    · refine xj_iinc (v := nI (k + 1)) E d_X10_deploy_139 rfl (nI_inc k) rfl ?_
      refine xj_goto (tgt := 93) E d_X10_deploy_142 (by decide) ?_
      refine ih (4 * mnp μ - (k + 1)) (by omega) (k + 1) _ h4 rfl (by omega) (hfr.tr hfr2) hA hB (fun z hz => ?_)
      by_cases q : z = k
      · subst q
        intro q
        rw [hck, e48] at h122
        first
          | (have := (nI_leI (a := (mChn μ (z / 4) (z % 4)).length) (b := 1) (by omega) (by omega)).mp (by rw [← hc.1]; exact h130)
             omega)
          | exact h122 q.1
      · exact hinv z (by omega)
    refine xj_sipush (v := 300) E d_X10_deploy_133 (by decide) ?_
    refine xj_iload_n E d_X10_deploy_136 rfl ?_
    refine xj_iadd E d_X10_deploy_137 ?_
    refine hret _ _ _ _ h4 ?_ (hfr.tr hfr2) ⟨0, dA, Or.inr ⟨rfl, 0, dB, Or.inr ⟨rfl, Or.inl ⟨k, hlt, ⟨?_, ?_⟩, hinv, nI_add 300 k⟩⟩⟩⟩ d_X10_deploy_138
    · rw [show (300 : Int32) = nI 300 from rfl, nI_add]
      exact nI_nz (by omega) (by omega)
    · rw [hck, e48] at h122
      exact h122
    · apply Classical.byContradiction
      intro q
      apply h130
      rw [hc.1]
      exact nI_le (b := 1) (by omega) (by omega)
  have lpB2 : ∀ (j n u : Nat) (μ1 : Mem), μ 24 0 0 = 0 → j < mnp μ → 5 - u = n → u ≤ 5 → frL μ μ1 → (∀ i, i < mni μ → ¬ mConf μ i) → (∀ z, z < 5 * j + u → ¬ mConf μ (rq z)) → (∀ μ2, frL μ μ2 → (∀ z, z < 5 * (j + 1) → ¬ mConf μ (rq z)) → XJ G (xA G) 3 p l e (xr 4) s m args below meth c 0 0 (MQ below (xQ G (fun r μ' => (¬ μ 24 0 0 = 0 ∧ r = some (.inl (-2)) ∧ μ' = μ) ∨ (μ 24 0 0 = 0 ∧ ∃ x μ1, r = some (.inl x) ∧ frL μ μ1 ∧ mDep μ x ∧ μ' = if x = 0 then mset μ1 24 0 0 1 else μ1))) args s 0 0 (xA G)) 85 [some (.inr (24, 0)), some (.inl (nI j)), none] [] μ2) → XJ G (xA G) 3 p l e (xr 4) s m args below meth c 0 0 (MQ below (xQ G (fun r μ' => (¬ μ 24 0 0 = 0 ∧ r = some (.inl (-2)) ∧ μ' = μ) ∨ (μ 24 0 0 = 0 ∧ ∃ x μ1, r = some (.inl x) ∧ frL μ μ1 ∧ mDep μ x ∧ μ' = if x = 0 then mset μ1 24 0 0 1 else μ1))) args s 0 0 (xA G)) 51 [some (.inr (24, 0)), some (.inl (nI j)), some (.inl (nI u - 1))] [] μ1 := by
    intro j n
    induction n using Nat.strongRecOn with
    | _ n ih =>
    intro u μ1 h4 hj hn hu hfr hA hinv hx
    have hd := hfr.d
    have dA : firstN (fun i => mConf μ i) (mni μ) (fun i => nI (100 + i)) 0 := Or.inr ⟨hA, rfl⟩
    refine xj_iload_n E d_X10_deploy_51 rfl ?_
    refine xj_iconst (v := 4) E d_X10_deploy_52 (by decide) ?_
    refine xj_icmp_ge (tgt := 85) E d_X10_deploy_53 (by decide) (fun h53 => ?_) (fun h53 => ?_)
    · have hk8 : u = 5 := by
        apply Classical.byContradiction
        intro q
        have hlt : u < 5 := by omega
        exact four_no hlt h53
      subst hk8
      refine xj_forget 2 ?_
      exact hx _ hfr (fun z hz => hinv z (by omega))
    have hlt : u < 5 := by
      apply Classical.byContradiction
      intro q
      have q0 : u = 5 := by omega
      subst q0
      exact h53 (by decide)
    refine xj_aload_n E d_X10_deploy_56 rfl ?_
    refine xj_iload_n E d_X10_deploy_57 rfl ?_
    refine xj_iload_n E d_X10_deploy_58 rfl ?_
    refine xj_callS E (k_X10_rowOf l G hI (nI j) (nI u - 1) _) cw_X10_129 cs_X10_rowOf rfl rfl ⟨by decide, by decide⟩ (Nat.le_of_ble_eq_true rfl) d_X10_deploy_59 ⟨Nat.zero_le _, Nat.zero_le _⟩ (fun r59 μ59 ho59 hp59 => ?_)
    obtain ⟨rfl, hm59⟩ := hp59
    refine xj_mem hm59 ?_
    refine xj_st (st' := [.inl (nI (rq (5 * j + u))), .inr (24, 0)]) (by rw [row_s hlt]; try rfl) ?_
    refine xj_callV E (k_X10_conflict l G hI (rq (5 * j + u)) (mnt μ) _ (rq_lt (by omega)) (by rw [hd.typ]; exact hw.1) (by rw [hd.row]; exact (hw.2.2.2.2.2 _ (by omega)).1)) cw_X10_166 cv_X10_conflict (by decide) rfl rfl rfl ⟨by decide, by decide⟩ (Nat.le_of_ble_eq_true rfl) d_X10_deploy_62 ⟨Nat.zero_le _, Nat.zero_le _⟩ (fun r62 μ62 ho62 hp62 => ?_)
    obtain ⟨x, rfl, hx01, hxi, hfr2⟩ := hp62
    rw [hd.conf] at hxi
    refine xj_st (st' := [.inl x]) rfl ?_
    refine xj_if_eq (tgt := 79) E d_X10_deploy_65 (by decide) (fun h65 => ?_) (fun h65 => ?_)
    · refine xj_iinc (v := nI (u + 1) - 1) E d_X10_deploy_79 rfl (inc_s u) rfl ?_
      refine xj_goto (tgt := 51) E d_X10_deploy_82 (by decide) ?_
      exact ih (5 - (u + 1)) (by omega) (u + 1) _ h4 hj rfl (by omega) (hfr.tr hfr2.f.l) hA (fun z hz => by
        by_cases q : z = 5 * j + u
        · subst q; intro q; rw [h65] at hxi; exact i0_1 (hxi.mpr q)
        · exact hinv z (by omega)) hx
    refine xj_sipush (v := 201) E d_X10_deploy_68 (by decide) ?_
    refine xj_bipush (v := 8) E d_X10_deploy_71 (by decide) ?_
    refine xj_iload_n E d_X10_deploy_73 rfl ?_
    refine xj_imul E d_X10_deploy_74 ?_
    refine xj_iadd E d_X10_deploy_75 ?_
    refine xj_iload_n E d_X10_deploy_76 rfl ?_
    refine xj_iadd E d_X10_deploy_77 ?_
    have hval : (201 : Int32) + 8 * nI j + (nI u - 1) = nI (200 + 8 * ((5 * j + u) / 5) + (5 * j + u) % 5) := by
      rw [show (5 * j + u) / 5 = j by omega, show (5 * j + u) % 5 = u by omega]
      exact add201 j u
    refine hret _ _ _ _ h4 ?_ (hfr.tr hfr2.f.l) ⟨0, dA, Or.inr ⟨rfl, _, Or.inl ⟨5 * j + u, by omega, hxi.mp (hx01.resolve_left h65), hinv, hval⟩, Or.inl ⟨?_, rfl⟩⟩⟩ d_X10_deploy_78
    · rw [hval]; exact nI_nz (by omega) (by omega)
    · rw [hval]; exact nI_nz (by omega) (by omega)
  have lpB1 : ∀ (n j : Nat) (μ1 : Mem), μ 24 0 0 = 0 → mnp μ - j = n → j ≤ mnp μ → frL μ μ1 → (∀ i, i < mni μ → ¬ mConf μ i) → (∀ z, z < 5 * j → ¬ mConf μ (rq z)) → XJ G (xA G) 3 p l e (xr 4) s m args below meth c 0 0 (MQ below (xQ G (fun r μ' => (¬ μ 24 0 0 = 0 ∧ r = some (.inl (-2)) ∧ μ' = μ) ∨ (μ 24 0 0 = 0 ∧ ∃ x μ1, r = some (.inl x) ∧ frL μ μ1 ∧ mDep μ x ∧ μ' = if x = 0 then mset μ1 24 0 0 1 else μ1))) args s 0 0 (xA G)) 41 [some (.inr (24, 0)), some (.inl (nI j)), none] [] μ1 := by
    intro n
    induction n using Nat.strongRecOn with
    | _ n ih =>
    intro j μ1 h4 hn hj hfr hA hinv
    have hd := hfr.d
    have e2 : μ1 24 0 16 = nI (mnp μ) := (hd.2 16 (by decide)).trans hnp.1
    refine xj_iload_n E d_X10_deploy_41 rfl ?_
    refine xj_aload_n E d_X10_deploy_42 rfl ?_
    refine xj_geti E fl_X10_109 (by decide) rfl (by decide) rfl d_X10_deploy_43 ?_
    refine xj_icmp_ge (tgt := 91) E d_X10_deploy_46 (by decide) (fun h46 => ?_) (fun h46 => ?_)
    · have hk8 : j = mnp μ := by
        have := ge_nI (b := j) (by rw [← e2]; exact h46) (by omega) (by omega)
        omega
      subst hk8
      refine xj_iconst (v := 0) E d_X10_deploy_91 (by decide) ?_
      refine xj_istore_n E d_X10_deploy_92 (by decide) rfl ?_
      exact lpC (4 * mnp μ) 0 _ h4 (by omega) (by omega) hfr hA hinv (fun z hz => by omega)
    have hlt : j < mnp μ := ng_nI (b := j) (by rw [← e2]; exact h46) (by omega) (by omega)
    refine xj_iconst (v := -1) E d_X10_deploy_49 (by decide) ?_
    refine xj_istore_n E d_X10_deploy_50 (by decide) rfl ?_
    refine lpB2 j 5 0 _ h4 hlt rfl (by omega) hfr hA hinv (fun μ2 hfr3 hno => ?_)
    refine xj_iinc (v := nI (j + 1)) E d_X10_deploy_85 rfl (nI_inc j) rfl ?_
    refine xj_goto (tgt := 41) E d_X10_deploy_88 (by decide) ?_
    exact ih (mnp μ - (j + 1)) (by omega) (j + 1) _ h4 rfl (by omega) hfr3 hA hno
  have lpA : ∀ (n i : Nat) (μ1 : Mem), μ 24 0 0 = 0 → mni μ - i = n → i ≤ mni μ → frL μ μ1 → (∀ z, z < i → ¬ mConf μ z) → XJ G (xA G) 3 p l e (xr 4) s m args below meth c 0 0 (MQ below (xQ G (fun r μ' => (¬ μ 24 0 0 = 0 ∧ r = some (.inl (-2)) ∧ μ' = μ) ∨ (μ 24 0 0 = 0 ∧ ∃ x μ1, r = some (.inl x) ∧ frL μ μ1 ∧ mDep μ x ∧ μ' = if x = 0 then mset μ1 24 0 0 1 else μ1))) args s 0 0 (xA G)) 12 [some (.inr (24, 0)), some (.inl (nI i)), none] [] μ1 := by
    intro n
    induction n using Nat.strongRecOn with
    | _ n ih =>
    intro i μ1 h4 hn hi hfr hinv
    have hd := hfr.d
    have e2 : μ1 24 0 7 = nI (mni μ) := (hd.2 7 (by decide)).trans hni.1
    refine xj_iload_n E d_X10_deploy_12 rfl ?_
    refine xj_aload_n E d_X10_deploy_13 rfl ?_
    refine xj_geti E fl_X10_103 (by decide) rfl (by decide) rfl d_X10_deploy_14 ?_
    refine xj_icmp_ge (tgt := 39) E d_X10_deploy_17 (by decide) (fun h17 => ?_) (fun h17 => ?_)
    · have hk8 : i = mni μ := by
        have := ge_nI (b := i) (by rw [← e2]; exact h17) (by omega) (by omega)
        omega
      subst hk8
      refine xj_iconst (v := 0) E d_X10_deploy_39 (by decide) ?_
      refine xj_istore_n E d_X10_deploy_40 (by decide) rfl ?_
      exact lpB1 (mnp μ) 0 _ h4 (by omega) (by omega) hfr hinv (fun z hz => by omega)
    have hlt : i < mni μ := ng_nI (b := i) (by rw [← e2]; exact h17) (by omega) (by omega)
    refine xj_aload_n E d_X10_deploy_20 rfl ?_
    refine xj_iload_n E d_X10_deploy_21 rfl ?_
    refine xj_callV E (k_X10_conflict l G hI i (mnt μ) _ (by omega) (by rw [hd.typ]; exact hw.1) (by rw [hd.row]; exact hw.2.2.2.2.1 i hlt)) cw_X10_166 cv_X10_conflict (by decide) rfl rfl rfl ⟨by decide, by decide⟩ (Nat.le_of_ble_eq_true rfl) d_X10_deploy_22 ⟨Nat.zero_le _, Nat.zero_le _⟩ (fun r22 μ22 ho22 hp22 => ?_)
    obtain ⟨x, rfl, hx01, hxi, hfr2⟩ := hp22
    rw [hd.conf] at hxi
    refine xj_st (st' := [.inl x]) rfl ?_
    refine xj_if_eq (tgt := 33) E d_X10_deploy_25 (by decide) (fun h25 => ?_) (fun h25 => ?_)
    · refine xj_iinc (v := nI (i + 1)) E d_X10_deploy_33 rfl (nI_inc i) rfl ?_
      refine xj_goto (tgt := 12) E d_X10_deploy_36 (by decide) ?_
      exact ih (mni μ - (i + 1)) (by omega) (i + 1) _ h4 rfl (by omega) (hfr.tr hfr2.f.l) (fun z hz => by
        by_cases q : z = i
        · subst q; intro q; rw [h25] at hxi; exact i0_1 (hxi.mpr q)
        · exact hinv z (by omega))
    refine xj_bipush (v := 100) E d_X10_deploy_28 (by decide) ?_
    refine xj_iload_n E d_X10_deploy_30 rfl ?_
    refine xj_iadd E d_X10_deploy_31 ?_
    refine hret _ _ _ _ h4 ?_ (hfr.tr hfr2.f.l) ⟨_, Or.inl ⟨i, hlt, hxi.mp (hx01.resolve_left h25), hinv, nI_add 100 i⟩, Or.inl ⟨?_, rfl⟩⟩ d_X10_deploy_32
    · rw [show (100 : Int32) = nI 100 from rfl, nI_add]
      exact nI_nz (by omega) (by omega)
    · rw [nI_add]
      exact nI_nz (by omega) (by omega)
  refine xj_aload_n E d_X10_deploy_0 rfl ?_
  refine xj_geti E fl_X10_92 (by decide) rfl (by decide) rfl d_X10_deploy_1 ?_
  refine xj_if_eq (tgt := 10) E d_X10_deploy_4 (by decide) (fun h4 => ?_) (fun h4 => ?_)
  · refine xj_iconst (v := 0) E d_X10_deploy_10 (by decide) ?_
    refine xj_istore_n E d_X10_deploy_11 (by decide) rfl ?_
    exact lpA (mni μ) 0 μ h4 (by omega) (by omega) (frG.rf _ _ _) (fun z hz => by omega)
  refine xj_bipush (v := -2) E d_X10_deploy_7 (by decide) ?_
  exact xj_iret E hr hlk d_X10_deploy_9 (Or.inl ⟨h4, rfl, rfl⟩)
