/-- a number below n -/
def inR (x : Int32) (n : Nat) : Prop := ∃ t, t < n ∧ x = nI t
theorem inR.ge {x : Int32} {n : Nat} (h : inR x n) (hn : n ≤ 1000) : ¬ x < 0 := by
  obtain ⟨t, ht, rfl⟩ := h
  exact nI_pos (by omega)
theorem inR.in {x : Int32} {n m : Nat} (h : inR x n) (hnm : n ≤ m) (hm : m ≤ 1000) : vp_in x m := by
  obtain ⟨t, ht, rfl⟩ := h
  exact in_nI (by omega) hm
theorem inR_of {x : Int32} {n : Nat} (h0 : ¬ x < 0) (h : x < nI n) (hn : n ≤ 1000) : inR x n := by
  obtain ⟨j, hj, rfl⟩ := nI_of h0
  exact ⟨j, (nI_ltI hj (by omega)).mp h, rfl⟩
theorem inR_lt {x : Int32} {n : Nat} (h : inR x n) (hn : n ≤ 1000) : x < nI n := by
  obtain ⟨t, ht, rfl⟩ := h
  exact nI_lt ht (by omega)
theorem inR_y {x N : Int32} {n : Nat} (hN : N = nI n) (hn : n ≤ 1000) (h : ¬ (if x < 0 then (0 : Int32) else if N ≤ x then 0 else 1) = 0) : inR x n := by
  by_cases h1 : x < 0
  · rw [if_pos h1] at h; exact absurd rfl h
  · rw [if_neg h1] at h
    by_cases h2 : N ≤ x
    · rw [if_pos h2] at h; exact absurd rfl h
    · exact inR_of h1 (by rw [← hN]; exact Int32.not_le.mp h2) hn
theorem inR_n {x N : Int32} {n : Nat} (hN : N = nI n) (hn : n ≤ 1000) (h : (if x < 0 then (0 : Int32) else if N ≤ x then 0 else 1) = 0) : ¬ inR x n := by
  intro q
  rw [if_neg (q.ge hn), if_neg (by rw [hN]; exact Int32.not_le.mpr (inR_lt q hn))] at h
  exact i1_0 h
theorem inW_y {x N : Int32} (n : Nat) (hN : N = nI n) (hn : n ≤ 999) (h : ¬ (if x < 0 then (0 : Int32) else if N < x then 0 else 1) = 0) : inR x (n + 1) := by
  by_cases h1 : x < 0
  · rw [if_pos h1] at h; exact absurd rfl h
  · rw [if_neg h1] at h
    by_cases h2 : N < x
    · rw [if_pos h2] at h; exact absurd rfl h
    · obtain ⟨j, hj, rfl⟩ := nI_of h1
      rw [hN] at h2
      exact ⟨j, by
        have := Nat.not_lt.mp (fun q => h2 (nI_lt q hj))
        omega, rfl⟩
theorem inW_n {x N : Int32} (n : Nat) (hN : N = nI n) (hn : n ≤ 999) (h : (if x < 0 then (0 : Int32) else if N < x then 0 else 1) = 0) : ¬ inR x (n + 1) := by
  rintro ⟨t, ht, rfl⟩
  rw [if_neg (nI_pos (by omega)), if_neg (by rw [hN]; exact nI_nlt (by omega) (by omega))] at h
  exact i1_0 h
/-- the place that a component and a method name: the method, or -1 for the component itself -/
def inP (x y : Int32) (n : Nat) (q : Nat) : Prop := ∃ j s, j < n ∧ s < 5 ∧ x = nI j ∧ y = nI s - 1 ∧ q = 5 * j + s
theorem place_y {x y N : Int32} {n : Nat} (hN : N = nI n) (hn : n ≤ 1000) (h : ¬ (if (if x < 0 then (0 : Int32) else if N ≤ x then 0 else 1) = 0 then (0 : Int32) else if y < -1 then 0 else if 4 ≤ y then 0 else 1) = 0) : inR x n ∧ ¬ y < -1 ∧ ¬ 4 ≤ y := by
  by_cases h1 : (if x < 0 then (0 : Int32) else if N ≤ x then 0 else 1) = 0
  · rw [if_pos h1] at h; exact absurd rfl h
  · rw [if_neg h1] at h
    by_cases h2 : y < -1
    · rw [if_pos h2] at h; exact absurd rfl h
    · rw [if_neg h2] at h
      by_cases h3 : 4 ≤ y
      · rw [if_pos h3] at h; exact absurd rfl h
      · exact ⟨inR_y hN hn h1, h2, h3⟩
theorem place_n {x y N : Int32} {n : Nat} (hN : N = nI n) (hn : n ≤ 1000) (h : (if (if x < 0 then (0 : Int32) else if N ≤ x then 0 else 1) = 0 then (0 : Int32) else if y < -1 then 0 else if 4 ≤ y then 0 else 1) = 0) : ¬ (inR x n ∧ ¬ y < -1 ∧ ¬ 4 ≤ y) := by
  rintro ⟨h1, h2, h3⟩
  by_cases h4 : (if x < 0 then (0 : Int32) else if N ≤ x then 0 else 1) = 0
  · exact inR_n hN hn h4 h1
  · rw [if_neg h4, if_neg h2, if_neg h3] at h
    exact i1_0 h
theorem five {y : Int32} (h2 : ¬ y < -1) (h3 : ¬ 4 ≤ y) : ∃ s, s < 5 ∧ y = nI s - 1 := by
  have a : -1 ≤ y.toInt := by
    have := Int32.not_lt.mp h2
    rw [Int32.le_iff_toInt_le] at this
    exact this
  have b : y.toInt < 4 := by
    have := Int32.not_le.mp h3
    rw [Int32.lt_iff_toInt_lt] at this
    exact this
  refine ⟨(y.toInt + 1).toNat, by omega, ?_⟩
  apply Int32.toInt_inj.mp
  rcases (show (y.toInt + 1).toNat = 0 ∨ (y.toInt + 1).toNat = 1 ∨ (y.toInt + 1).toNat = 2 ∨ (y.toInt + 1).toNat = 3 ∨ (y.toInt + 1).toNat = 4 by omega) with e | e | e | e | e <;> rw [e]
  · rw [show (nI 0 - 1).toInt = -1 by decide]; omega
  · rw [show (nI 1 - 1).toInt = 0 by decide]; omega
  · rw [show (nI 2 - 1).toInt = 1 by decide]; omega
  · rw [show (nI 3 - 1).toInt = 2 by decide]; omega
  · rw [show (nI 4 - 1).toInt = 3 by decide]; omega
/-- the place's number, as the class finds it -/
theorem place_q {j s : Nat} (hs : s < 5) : (if nI s - 1 < 0 then 5 * j else if nI s - 1 < 4 then 5 * j + 1 + (nI s - 1).toNatClampNeg else 5 * j) = 5 * j + s := by
  rcases (show s = 0 ∨ s = 1 ∨ s = 2 ∨ s = 3 ∨ s = 4 by omega) with rfl | rfl | rfl | rfl | rfl
  · rw [if_pos (by decide)]; rfl
  · rw [if_neg (by decide), if_pos (by decide), show (nI 1 - 1).toNatClampNeg = 0 by decide]
  · rw [if_neg (by decide), if_pos (by decide), show (nI 2 - 1).toNatClampNeg = 1 by decide]
  · rw [if_neg (by decide), if_pos (by decide), show (nI 3 - 1).toNatClampNeg = 2 by decide]
  · rw [if_neg (by decide), if_pos (by decide), show (nI 4 - 1).toNatClampNeg = 3 by decide]
theorem xWF.t {μ : Mem} (h : xWF μ) : μ 1 0 0 = nI (xnt μ) ∧ xnt μ ≤ 8 := ⟨h.1.2.1, h.1.1⟩
theorem isub1 (n : Nat) : nI n + 1 - 1 = nI n := by
  rw [nI_1]; exact nI_pred n

set_option maxRecDepth 100000 in
set_option maxHeartbeats 4000000 in
/-- X9 clear -/
theorem k_X9_clear (l : Launch) (G : XG) (hI : XI G)  (μ : Mem)  : XMet l G y_X9_clear c_X9_clear 1 none 1 [.inr (0, 0)] μ (fun r μ' => r = none ∧ μ' = mset (mset (mset (mset (mset (mset (mset (mset (mset μ 1 0 0 0) 4 0 0 0) 0 0 2 0) 0 0 4 0) 0 0 6 0) 0 0 7 0) 22 0 1 0) 22 0 2 0) 22 0 3 0) := by
  refine xj_met (by decide) hI (Nat.le_of_ble_eq_true rfl) ?_
  intro p e s m args below meth c E hr hlk
  have E : XE G (xA G) RX9 c_X9_clear 1 p s m args c := E
  refine xj_loc (L' := [some (.inr (0, 0))]) rfl ?_
  refine xj_aload_n E d_X9_clear_0 rfl ?_
  refine xj_geta E fl_X9_10 (by decide) rfl (by decide) rfl d_X9_clear_1 ?_
  refine xj_callV E (k_X0_forget l G hI _) cw_X9_61 cv_X0_forget (by decide) rfl rfl rfl ⟨by decide, by decide⟩ (Nat.le_of_ble_eq_true rfl) d_X9_clear_4 ⟨Nat.zero_le _, Nat.zero_le _⟩ (fun r4 μ4 ho4 hp4 => ?_)
  obtain ⟨rfl, rfl⟩ := hp4
  refine xj_aload_n E d_X9_clear_7 rfl ?_
  refine xj_iconst (v := 0) E d_X9_clear_8 (by decide) ?_
  refine xj_put E fp_X9_64 (by decide) rfl (by decide) rfl (narrow_i _) d_X9_clear_9 ?_
  refine xj_aload_n E d_X9_clear_12 rfl ?_
  refine xj_iconst (v := 0) E d_X9_clear_13 (by decide) ?_
  refine xj_put E fp_X9_68 (by decide) rfl (by decide) rfl (narrow_i _) d_X9_clear_14 ?_
  refine xj_aload_n E d_X9_clear_17 rfl ?_
  refine xj_iconst (v := 0) E d_X9_clear_18 (by decide) ?_
  refine xj_put E fp_X9_71 (by decide) rfl (by decide) rfl (narrow_i _) d_X9_clear_19 ?_
  refine xj_aload_n E d_X9_clear_22 rfl ?_
  refine xj_iconst (v := 0) E d_X9_clear_23 (by decide) ?_
  refine xj_put E fp_X9_74 (by decide) rfl (by decide) rfl (narrow_z (Or.inl rfl)) d_X9_clear_24 ?_
  refine xj_aload_n E d_X9_clear_27 rfl ?_
  refine xj_geta E fl_X9_57 (by decide) rfl (by decide) rfl d_X9_clear_28 ?_
  refine xj_callV E (k_X7_forget l G hI _) cw_X9_78 cv_X7_forget (by decide) rfl rfl rfl ⟨by decide, by decide⟩ (Nat.le_of_ble_eq_true rfl) d_X9_clear_31 ⟨Nat.zero_le _, Nat.zero_le _⟩ (fun r31 μ31 ho31 hp31 => ?_)
  obtain ⟨rfl, rfl⟩ := hp31
  exact xj_vret E hr hlk d_X9_clear_34 (⟨rfl, rfl⟩)

set_option maxRecDepth 100000 in
set_option maxHeartbeats 4000000 in
/-- X9 binding -/
theorem k_X9_binding (l : Launch) (G : XG) (hI : XI G) (z : Int32) (μ : Mem) (hw : xWF μ) (hz : z = 0 ∨ z = 1) : XMet l G y_X9_binding c_X9_binding 2 (some .int) 1 [.inr (0, 0), .inl z] μ (fun r μ' => (¬ μ 0 0 7 = 0 ∧ r = some (.inl (-2)) ∧ μ' = μ) ∨ (μ 0 0 7 = 0 ∧ xnt μ = 8 ∧ r = some (.inl (-5)) ∧ μ' = μ) ∨ (μ 0 0 7 = 0 ∧ xnt μ < 8 ∧ r = some (.inl (nI (xnt μ))) ∧ μ' = mset (mset μ 2 0 (xnt μ) z) 1 0 0 (nI (xnt μ + 1)))) := by
  refine xj_met (by decide) hI (Nat.le_of_ble_eq_true rfl) ?_
  intro p e s m args below meth c E hr hlk
  have E : XE G (xA G) RX9 c_X9_binding 2 p s m args c := E
  refine xj_loc (L' := [some (.inr (0, 0)), some (.inl z)]) rfl ?_
  have ht := hw.t
  refine xj_aload_n E d_X9_binding_0 rfl ?_
  refine xj_geti E fl_X9_74 (by decide) rfl (by decide) rfl d_X9_binding_1 ?_
  refine xj_if_eq (tgt := 10) E d_X9_binding_4 (by decide) (fun h4 => ?_) (fun h4 => ?_)
  · refine xj_aload_n E d_X9_binding_10 rfl ?_
    refine xj_geta E fl_X9_10 (by decide) rfl (by decide) rfl d_X9_binding_11 ?_
    refine xj_geti E fl_X9_79 (by decide) rfl (by decide) rfl d_X9_binding_14 ?_
    refine xj_bipush (v := 8) E d_X9_binding_17 (by decide) ?_
    refine xj_icmp_ne (tgt := 25) E d_X9_binding_19 (by decide) (fun h19 => ?_) (fun h19 => ?_)
    · have hne : ¬ xnt μ = 8 := fun q => h19 (by rw [ht.1, q]; rfl)
      have hlt : xnt μ < 8 := by omega
      refine xj_aload_n E d_X9_binding_25 rfl ?_
      refine xj_geta E fl_X9_10 (by decide) rfl (by decide) rfl d_X9_binding_26 ?_
      refine xj_iload_n E d_X9_binding_29 rfl ?_
      refine xj_callV E (k_X0_declare l G hI z _ hz (by rw [ht.1]; exact in_nI hlt (by omega))) cw_X9_82 cv_X0_declare (by decide) rfl rfl rfl ⟨by decide, by decide⟩ (Nat.le_of_ble_eq_true rfl) d_X9_binding_30 ⟨Nat.zero_le _, Nat.zero_le _⟩ (fun r30 μ30 ho30 hp30 => ?_)
      obtain ⟨rfl, hm30⟩ := hp30
      refine xj_mem hm30 ?_
      exact xj_iret E hr hlk d_X9_binding_33 (Or.inr (Or.inr ⟨h4, hlt, by rw [ht.1, isub1], by rw [ht.1, nI_1, cl_nI (by omega)]⟩))
    have he : xnt μ = 8 := (nI_eq (b := 8) (by omega) (by omega)).mp (by rw [← ht.1]; exact h19)
    refine xj_bipush (v := -5) E d_X9_binding_22 (by decide) ?_
    exact xj_iret E hr hlk d_X9_binding_24 (Or.inr (Or.inl ⟨h4, he, rfl, rfl⟩))
  refine xj_bipush (v := -2) E d_X9_binding_7 (by decide) ?_
  exact xj_iret E hr hlk d_X9_binding_9 (Or.inl ⟨h4, rfl, rfl⟩)

set_option maxRecDepth 100000 in
set_option maxHeartbeats 4000000 in
/-- X9 carry -/
theorem k_X9_carry (l : Launch) (G : XG) (hI : XI G) (a b v : Int32) (μ : Mem) (hw : xWF μ) : XMet l G y_X9_carry c_X9_carry 4 (some .int) 3 [.inr (0, 0), .inl a, .inl b, .inl v] μ (fun r μ' => (¬ μ 0 0 7 = 0 ∧ r = some (.inl (-2)) ∧ μ' = μ) ∨ (μ 0 0 7 = 0 ∧ ¬ (inR a (xnt μ) ∧ inR b (xnt μ)) ∧ r = some (.inl (-3)) ∧ μ' = μ) ∨ (μ 0 0 7 = 0 ∧ inR a (xnt μ) ∧ inR b (xnt μ) ∧ xnb μ 0 = 16 ∧ r = some (.inl (-5)) ∧ μ' = μ) ∨ (μ 0 0 7 = 0 ∧ inR a (xnt μ) ∧ inR b (xnt μ) ∧ xnb μ 0 < 16 ∧ r = some (.inl 0) ∧ μ' = mset (mset (mset (mset μ 3 0 (xnb μ 0) a) 5 0 (xnb μ 0) b) 6 0 (xnb μ 0) (if μ 2 0 b.toNatClampNeg = 0 then 0 else v)) 4 0 0 (nI (xnb μ 0 + 1)))) := by
  refine xj_met (by decide) hI (Nat.le_of_ble_eq_true rfl) ?_
  intro p e s m args below meth c E hr hlk
  have E : XE G (xA G) RX9 c_X9_carry 4 p s m args c := E
  refine xj_loc (L' := [some (.inr (0, 0)), some (.inl a), some (.inl b), some (.inl v)]) rfl ?_
  have ht := hw.t
  have hc := hw.1.2.2.1.cnt
  have hc16 : xnb μ 0 ≤ 16 := hc.2
  refine xj_aload_n E d_X9_carry_0 rfl ?_
  refine xj_geti E fl_X9_74 (by decide) rfl (by decide) rfl d_X9_carry_1 ?_
  refine xj_if_eq (tgt := 10) E d_X9_carry_4 (by decide) (fun h4 => ?_) (fun h4 => ?_)
  · refine xj_aload_n E d_X9_carry_10 rfl ?_
    refine xj_geta E fl_X9_10 (by decide) rfl (by decide) rfl d_X9_carry_11 ?_
    refine xj_iload_n E d_X9_carry_14 rfl ?_
    refine xj_callV E (k_X0_has l G hI a _) cw_X9_86 cv_X0_has (by decide) rfl rfl rfl ⟨by decide, by decide⟩ (Nat.le_of_ble_eq_true rfl) d_X9_carry_15 ⟨Nat.zero_le _, Nat.zero_le _⟩ (fun r15 μ15 ho15 hp15 => ?_)
    obtain ⟨rfl, hm15⟩ := hp15
    refine xj_mem hm15 ?_
    refine xj_if_eq (tgt := 32) E d_X9_carry_18 (by decide) (fun h18 => ?_) (fun h18 => ?_)
    · refine xj_bipush (v := -3) E d_X9_carry_32 (by decide) ?_
      exact xj_iret E hr hlk d_X9_carry_34 ((by first | exact Or.inr (Or.inl ⟨h4, fun q => inR_n ht.1 (by omega) h29 q.2, rfl, rfl⟩) | exact Or.inr (Or.inl ⟨h4, fun q => inR_n ht.1 (by omega) h18 q.1, rfl, rfl⟩)))
    refine xj_aload_n E d_X9_carry_21 rfl ?_
    refine xj_geta E fl_X9_10 (by decide) rfl (by decide) rfl d_X9_carry_22 ?_
    refine xj_iload_n E d_X9_carry_25 rfl ?_
    refine xj_callV E (k_X0_has l G hI b _) cw_X9_86 cv_X0_has (by decide) rfl rfl rfl ⟨by decide, by decide⟩ (Nat.le_of_ble_eq_true rfl) d_X9_carry_26 ⟨Nat.zero_le _, Nat.zero_le _⟩ (fun r26 μ26 ho26 hp26 => ?_)
    obtain ⟨rfl, hm26⟩ := hp26
    refine xj_mem hm26 ?_
    refine xj_if_ne (tgt := 35) E d_X9_carry_29 (by decide) (fun h29 => ?_) (fun h29 => ?_)
    · have ha : inR a (xnt μ) := inR_y ht.1 (by omega) h18
      have hb : inR b (xnt μ) := inR_y ht.1 (by omega) h29
      refine xj_aload_n E d_X9_carry_35 rfl ?_
      refine xj_geta E fl_X9_10 (by decide) rfl (by decide) rfl d_X9_carry_36 ?_
      refine xj_geta E fl_X9_90 (by decide) rfl (by decide) rfl d_X9_carry_39 ?_
      refine xj_callV E (k_X1_isFull l G hI 0 _) cw_X9_94 cv_X1_isFull (by decide) rfl rfl rfl ⟨by decide, by decide⟩ (Nat.le_of_ble_eq_true rfl) d_X9_carry_42 ⟨Nat.zero_le _, Nat.zero_le _⟩ (fun r42 μ42 ho42 hp42 => ?_)
      obtain ⟨rfl, hm42⟩ := hp42
      refine xj_mem hm42 ?_
      refine xj_if_eq (tgt := 51) E d_X9_carry_45 (by decide) (fun h45 => ?_) (fun h45 => ?_)
      · have hlt : xnb μ 0 < 16 := (nI_ltI (b := 16) (by omega) (by omega)).mp (by rw [← hc.1]; exact b01 h45)
        refine xj_aload_n E d_X9_carry_51 rfl ?_
        refine xj_geta E fl_X9_10 (by decide) rfl (by decide) rfl d_X9_carry_52 ?_
        refine xj_iload_n E d_X9_carry_55 rfl ?_
        refine xj_iload_n E d_X9_carry_56 rfl ?_
        refine xj_iload_n E d_X9_carry_57 rfl ?_
        refine xj_callV E (k_X0_addCarried l G hI a b v _ (hb.in ht.2 (by omega)) (by rw [hc.1]; exact in_nI hlt (by omega)) (by rw [hc.1]; exact nI_lt hlt (by omega))) cw_X9_100 cv_X0_addCarried (by decide) rfl rfl rfl ⟨by decide, by decide⟩ (Nat.le_of_ble_eq_true rfl) d_X9_carry_58 ⟨Nat.zero_le _, Nat.zero_le _⟩ (fun r58 μ58 ho58 hp58 => ?_)
        obtain ⟨rfl, hm58⟩ := hp58
        refine xj_mem hm58 ?_
        refine xj_iconst (v := 0) E d_X9_carry_61 (by decide) ?_
        exact xj_iret E hr hlk d_X9_carry_62 (Or.inr (Or.inr (Or.inr ⟨h4, ha, hb, hlt, rfl, by rw [hc.1, nI_1, cl_nI (by omega)]⟩)))
      have hge : ¬ xnb μ 0 < 16 := fun q => b01n h45 (by rw [hc.1]; exact nI_lt q (by decide))
      refine xj_bipush (v := -5) E d_X9_carry_48 (by decide) ?_
      exact xj_iret E hr hlk d_X9_carry_50 (Or.inr (Or.inr (Or.inl ⟨h4, ha, hb, by omega, rfl, rfl⟩)))
    refine xj_bipush (v := -3) E d_X9_carry_32 (by decide) ?_
    exact xj_iret E hr hlk d_X9_carry_34 ((by first | exact Or.inr (Or.inl ⟨h4, fun q => inR_n ht.1 (by omega) h29 q.2, rfl, rfl⟩) | exact Or.inr (Or.inl ⟨h4, fun q => inR_n ht.1 (by omega) h18 q.1, rfl, rfl⟩)))
  refine xj_bipush (v := -2) E d_X9_carry_7 (by decide) ?_
  exact xj_iret E hr hlk d_X9_carry_9 (Or.inl ⟨h4, rfl, rfl⟩)

set_option maxRecDepth 100000 in
set_option maxHeartbeats 4000000 in
/-- X9 interceptor -/
theorem k_X9_interceptor (l : Launch) (G : XG) (hI : XI G) (a b d : Int32) (μ : Mem) (hw : xWF μ) : XMet l G y_X9_interceptor c_X9_interceptor 4 (some .int) 1 [.inr (0, 0), .inl a, .inl b, .inl d] μ (fun r μ' => (¬ μ 0 0 7 = 0 ∧ r = some (.inl (-2)) ∧ μ' = μ) ∨ (μ 0 0 7 = 0 ∧ ¬ (inR a 10 ∧ inR b 16 ∧ inR d 6) ∧ r = some (.inl (-4)) ∧ μ' = μ) ∨ (μ 0 0 7 = 0 ∧ (inR a 10 ∧ inR b 16 ∧ inR d 6) ∧ xni μ = 8 ∧ r = some (.inl (-5)) ∧ μ' = μ) ∨ (μ 0 0 7 = 0 ∧ (inR a 10 ∧ inR b 16 ∧ inR d 6) ∧ xni μ < 8 ∧ r = some (.inl (nI (xni μ))) ∧ μ' = mset (mset (mset (mset (mset μ 8 (xni μ) 0 a) 8 (xni μ) 1 b) 8 (xni μ) 2 d) 4 (xni μ + 1) 0 0) 0 0 2 (nI (xni μ + 1)))) := by
  refine xj_met (by decide) hI (Nat.le_of_ble_eq_true rfl) ?_
  intro p e s m args below meth c E hr hlk
  have E : XE G (xA G) RX9 c_X9_interceptor 4 p s m args c := E
  refine xj_loc (L' := [some (.inr (0, 0)), some (.inl a), some (.inl b), some (.inl d)]) rfl ?_
  have ht := hw.2.1
  refine xj_aload_n E d_X9_interceptor_0 rfl ?_
  refine xj_geti E fl_X9_74 (by decide) rfl (by decide) rfl d_X9_interceptor_1 ?_
  refine xj_if_eq (tgt := 10) E d_X9_interceptor_4 (by decide) (fun h4 => ?_) (fun h4 => ?_)
  · refine xj_iload_n E d_X9_interceptor_10 rfl ?_
    refine xj_bipush (v := 9) E d_X9_interceptor_11 (by decide) ?_
    refine xj_callS E (k_X9_isWithin l G hI a 9 _) cw_X9_104 cs_X9_isWithin rfl rfl ⟨by decide, by decide⟩ (Nat.le_of_ble_eq_true rfl) d_X9_interceptor_13 ⟨Nat.zero_le _, Nat.zero_le _⟩ (fun r13 μ13 ho13 hp13 => ?_)
    obtain ⟨rfl, hm13⟩ := hp13
    refine xj_mem hm13 ?_
    refine xj_if_eq (tgt := 36) E d_X9_interceptor_16 (by decide) (fun h16 => ?_) (fun h16 => ?_)
    · refine xj_bipush (v := -4) E d_X9_interceptor_36 (by decide) ?_
      exact xj_iret E hr hlk d_X9_interceptor_38 ((by first | exact Or.inr (Or.inl ⟨h4, fun q => inW_n 5 rfl (by omega) h33 q.2.2, rfl, rfl⟩) | exact Or.inr (Or.inl ⟨h4, fun q => inW_n 15 rfl (by omega) h25 q.2.1, rfl, rfl⟩) | exact Or.inr (Or.inl ⟨h4, fun q => inW_n 9 rfl (by omega) h16 q.1, rfl, rfl⟩)))
    refine xj_iload_n E d_X9_interceptor_19 rfl ?_
    refine xj_bipush (v := 15) E d_X9_interceptor_20 (by decide) ?_
    refine xj_callS E (k_X9_isWithin l G hI b 15 _) cw_X9_104 cs_X9_isWithin rfl rfl ⟨by decide, by decide⟩ (Nat.le_of_ble_eq_true rfl) d_X9_interceptor_22 ⟨Nat.zero_le _, Nat.zero_le _⟩ (fun r22 μ22 ho22 hp22 => ?_)
    obtain ⟨rfl, hm22⟩ := hp22
    refine xj_mem hm22 ?_
    refine xj_if_eq (tgt := 36) E d_X9_interceptor_25 (by decide) (fun h25 => ?_) (fun h25 => ?_)
    · refine xj_bipush (v := -4) E d_X9_interceptor_36 (by decide) ?_
      exact xj_iret E hr hlk d_X9_interceptor_38 ((by first | exact Or.inr (Or.inl ⟨h4, fun q => inW_n 5 rfl (by omega) h33 q.2.2, rfl, rfl⟩) | exact Or.inr (Or.inl ⟨h4, fun q => inW_n 15 rfl (by omega) h25 q.2.1, rfl, rfl⟩) | exact Or.inr (Or.inl ⟨h4, fun q => inW_n 9 rfl (by omega) h16 q.1, rfl, rfl⟩)))
    refine xj_iload_n E d_X9_interceptor_28 rfl ?_
    refine xj_iconst (v := 5) E d_X9_interceptor_29 (by decide) ?_
    refine xj_callS E (k_X9_isWithin l G hI d 5 _) cw_X9_104 cs_X9_isWithin rfl rfl ⟨by decide, by decide⟩ (Nat.le_of_ble_eq_true rfl) d_X9_interceptor_30 ⟨Nat.zero_le _, Nat.zero_le _⟩ (fun r30 μ30 ho30 hp30 => ?_)
    obtain ⟨rfl, hm30⟩ := hp30
    refine xj_mem hm30 ?_
    refine xj_if_ne (tgt := 39) E d_X9_interceptor_33 (by decide) (fun h33 => ?_) (fun h33 => ?_)
    · have hg : (inR a 10 ∧ inR b 16 ∧ inR d 6) := ⟨inW_y 9 rfl (by omega) h16, inW_y 15 rfl (by omega) h25, inW_y 5 rfl (by omega) h33⟩
      refine xj_aload_n E d_X9_interceptor_39 rfl ?_
      refine xj_geti E fl_X9_64 (by decide) rfl (by decide) rfl d_X9_interceptor_40 ?_
      refine xj_bipush (v := 8) E d_X9_interceptor_43 (by decide) ?_
      refine xj_icmp_ne (tgt := 51) E d_X9_interceptor_45 (by decide) (fun h45 => ?_) (fun h45 => ?_)
      · have hne : ¬ xni μ = 8 := fun q => h45 (by rw [ht.1, q]; rfl)
        have hlt : xni μ < 8 := by omega
        refine xj_aload_n E d_X9_interceptor_51 rfl ?_
        refine xj_geta E fl_X9_18 (by decide) rfl (by decide) rfl d_X9_interceptor_52 ?_
        refine xj_aload_n E d_X9_interceptor_55 rfl ?_
        refine xj_geti E fl_X9_64 (by decide) rfl (by decide) rfl d_X9_interceptor_56 ?_
        refine xj_aald E (by decide) rfl (show vp_in (μ 0 0 2) 8 by rw [ht.1]; exact in_nI hlt (by omega)) d_X9_interceptor_59 ?_
        refine xj_st (st' := [.inr (8, xni μ)]) (by rw [ht.1, cl_nI (by omega)]; try rfl) ?_
        refine xj_iload_n E d_X9_interceptor_60 rfl ?_
        refine xj_iload_n E d_X9_interceptor_61 rfl ?_
        refine xj_iload_n E d_X9_interceptor_62 rfl ?_
        refine xj_callV E (k_X6_declare l G hI (xni μ) a b d _) cw_X9_108 cv_X6_declare (by decide) rfl rfl rfl ⟨by decide, by decide⟩ (Nat.le_of_ble_eq_true rfl) d_X9_interceptor_63 ⟨Nat.zero_le _, Nat.zero_le _⟩ (fun r63 μ63 ho63 hp63 => ?_)
        obtain ⟨rfl, hm63⟩ := hp63
        refine xj_mem hm63 ?_
        refine xj_aload_n E d_X9_interceptor_66 rfl ?_
        refine xj_dup E d_X9_interceptor_67 ?_
        refine xj_geti E fl_X9_64 (by decide) rfl (by decide) rfl d_X9_interceptor_68 ?_
        refine xj_iconst (v := 1) E d_X9_interceptor_71 (by decide) ?_
        refine xj_iadd E d_X9_interceptor_72 ?_
        refine xj_put E fp_X9_64 (by decide) rfl (by decide) rfl (narrow_i _) d_X9_interceptor_73 ?_
        refine xj_aload_n E d_X9_interceptor_76 rfl ?_
        refine xj_geti E fl_X9_64 (by decide) rfl (by decide) rfl d_X9_interceptor_77 ?_
        refine xj_iconst (v := 1) E d_X9_interceptor_80 (by decide) ?_
        refine xj_isub E d_X9_interceptor_81 ?_
        exact xj_iret E hr hlk d_X9_interceptor_82 (Or.inr (Or.inr (Or.inr ⟨h4, hg, hlt, congrArg (fun z => some (Sum.inl z)) (by show μ 0 0 2 + 1 - 1 = _; rw [ht.1, isub1]), by show mset _ 0 0 2 (μ 0 0 2 + 1) = _; rw [ht.1, nI_1]⟩)))
      have he : xni μ = 8 := (nI_eq (b := 8) (by omega) (by omega)).mp (by rw [← ht.1]; exact h45)
      refine xj_bipush (v := -5) E d_X9_interceptor_48 (by decide) ?_
      exact xj_iret E hr hlk d_X9_interceptor_50 (Or.inr (Or.inr (Or.inl ⟨h4, hg, he, rfl, rfl⟩)))
    refine xj_bipush (v := -4) E d_X9_interceptor_36 (by decide) ?_
    exact xj_iret E hr hlk d_X9_interceptor_38 ((by first | exact Or.inr (Or.inl ⟨h4, fun q => inW_n 5 rfl (by omega) h33 q.2.2, rfl, rfl⟩) | exact Or.inr (Or.inl ⟨h4, fun q => inW_n 15 rfl (by omega) h25 q.2.1, rfl, rfl⟩) | exact Or.inr (Or.inl ⟨h4, fun q => inW_n 9 rfl (by omega) h16 q.1, rfl, rfl⟩)))
  refine xj_bipush (v := -2) E d_X9_interceptor_7 (by decide) ?_
  exact xj_iret E hr hlk d_X9_interceptor_9 (Or.inl ⟨h4, rfl, rfl⟩)

set_option maxRecDepth 100000 in
set_option maxHeartbeats 4000000 in
/-- X9 decorator -/
theorem k_X9_decorator (l : Launch) (G : XG) (hI : XI G) (a b d f : Int32) (μ : Mem) (hw : xWF μ) : XMet l G y_X9_decorator c_X9_decorator 5 (some .int) 1 [.inr (0, 0), .inl a, .inl b, .inl d, .inl f] μ (fun r μ' => (¬ μ 0 0 7 = 0 ∧ r = some (.inl (-2)) ∧ μ' = μ) ∨ (μ 0 0 7 = 0 ∧ ¬ (inR a 10 ∧ inR b 8 ∧ inR d 16 ∧ inR f 6) ∧ r = some (.inl (-4)) ∧ μ' = μ) ∨ (μ 0 0 7 = 0 ∧ (inR a 10 ∧ inR b 8 ∧ inR d 16 ∧ inR f 6) ∧ xnd μ = 4 ∧ r = some (.inl (-5)) ∧ μ' = μ) ∨ (μ 0 0 7 = 0 ∧ (inR a 10 ∧ inR b 8 ∧ inR d 16 ∧ inR f 6) ∧ xnd μ < 4 ∧ r = some (.inl (nI (xnd μ))) ∧ μ' = mset (mset (mset (mset (mset μ 10 (xnd μ) 0 a) 10 (xnd μ) 1 b) 10 (xnd μ) 2 d) 10 (xnd μ) 3 f) 0 0 4 (nI (xnd μ + 1)))) := by
  refine xj_met (by decide) hI (Nat.le_of_ble_eq_true rfl) ?_
  intro p e s m args below meth c E hr hlk
  have E : XE G (xA G) RX9 c_X9_decorator 5 p s m args c := E
  refine xj_loc (L' := [some (.inr (0, 0)), some (.inl a), some (.inl b), some (.inl d), some (.inl f)]) rfl ?_
  have ht := hw.2.2.1
  refine xj_aload_n E d_X9_decorator_0 rfl ?_
  refine xj_geti E fl_X9_74 (by decide) rfl (by decide) rfl d_X9_decorator_1 ?_
  refine xj_if_eq (tgt := 10) E d_X9_decorator_4 (by decide) (fun h4 => ?_) (fun h4 => ?_)
  · refine xj_iload_n E d_X9_decorator_10 rfl ?_
    refine xj_bipush (v := 9) E d_X9_decorator_11 (by decide) ?_
    refine xj_callS E (k_X9_isWithin l G hI a 9 _) cw_X9_104 cs_X9_isWithin rfl rfl ⟨by decide, by decide⟩ (Nat.le_of_ble_eq_true rfl) d_X9_decorator_13 ⟨Nat.zero_le _, Nat.zero_le _⟩ (fun r13 μ13 ho13 hp13 => ?_)
    obtain ⟨rfl, hm13⟩ := hp13
    refine xj_mem hm13 ?_
    refine xj_if_eq (tgt := 46) E d_X9_decorator_16 (by decide) (fun h16 => ?_) (fun h16 => ?_)
    · refine xj_bipush (v := -4) E d_X9_decorator_46 (by decide) ?_
      exact xj_iret E hr hlk d_X9_decorator_48 ((by first | exact Or.inr (Or.inl ⟨h4, fun q => inW_n 5 rfl (by omega) h43 q.2.2.2, rfl, rfl⟩) | exact Or.inr (Or.inl ⟨h4, fun q => inW_n 15 rfl (by omega) h34 q.2.2.1, rfl, rfl⟩) | exact Or.inr (Or.inl ⟨h4, fun q => inW_n 7 rfl (by omega) h25 q.2.1, rfl, rfl⟩) | exact Or.inr (Or.inl ⟨h4, fun q => inW_n 9 rfl (by omega) h16 q.1, rfl, rfl⟩)))
    refine xj_iload_n E d_X9_decorator_19 rfl ?_
    refine xj_bipush (v := 7) E d_X9_decorator_20 (by decide) ?_
    refine xj_callS E (k_X9_isWithin l G hI b 7 _) cw_X9_104 cs_X9_isWithin rfl rfl ⟨by decide, by decide⟩ (Nat.le_of_ble_eq_true rfl) d_X9_decorator_22 ⟨Nat.zero_le _, Nat.zero_le _⟩ (fun r22 μ22 ho22 hp22 => ?_)
    obtain ⟨rfl, hm22⟩ := hp22
    refine xj_mem hm22 ?_
    refine xj_if_eq (tgt := 46) E d_X9_decorator_25 (by decide) (fun h25 => ?_) (fun h25 => ?_)
    · refine xj_bipush (v := -4) E d_X9_decorator_46 (by decide) ?_
      exact xj_iret E hr hlk d_X9_decorator_48 ((by first | exact Or.inr (Or.inl ⟨h4, fun q => inW_n 5 rfl (by omega) h43 q.2.2.2, rfl, rfl⟩) | exact Or.inr (Or.inl ⟨h4, fun q => inW_n 15 rfl (by omega) h34 q.2.2.1, rfl, rfl⟩) | exact Or.inr (Or.inl ⟨h4, fun q => inW_n 7 rfl (by omega) h25 q.2.1, rfl, rfl⟩) | exact Or.inr (Or.inl ⟨h4, fun q => inW_n 9 rfl (by omega) h16 q.1, rfl, rfl⟩)))
    refine xj_iload_n E d_X9_decorator_28 rfl ?_
    refine xj_bipush (v := 15) E d_X9_decorator_29 (by decide) ?_
    refine xj_callS E (k_X9_isWithin l G hI d 15 _) cw_X9_104 cs_X9_isWithin rfl rfl ⟨by decide, by decide⟩ (Nat.le_of_ble_eq_true rfl) d_X9_decorator_31 ⟨Nat.zero_le _, Nat.zero_le _⟩ (fun r31 μ31 ho31 hp31 => ?_)
    obtain ⟨rfl, hm31⟩ := hp31
    refine xj_mem hm31 ?_
    refine xj_if_eq (tgt := 46) E d_X9_decorator_34 (by decide) (fun h34 => ?_) (fun h34 => ?_)
    · refine xj_bipush (v := -4) E d_X9_decorator_46 (by decide) ?_
      exact xj_iret E hr hlk d_X9_decorator_48 ((by first | exact Or.inr (Or.inl ⟨h4, fun q => inW_n 5 rfl (by omega) h43 q.2.2.2, rfl, rfl⟩) | exact Or.inr (Or.inl ⟨h4, fun q => inW_n 15 rfl (by omega) h34 q.2.2.1, rfl, rfl⟩) | exact Or.inr (Or.inl ⟨h4, fun q => inW_n 7 rfl (by omega) h25 q.2.1, rfl, rfl⟩) | exact Or.inr (Or.inl ⟨h4, fun q => inW_n 9 rfl (by omega) h16 q.1, rfl, rfl⟩)))
    refine xj_iload E d_X9_decorator_37 rfl ?_
    refine xj_iconst (v := 5) E d_X9_decorator_39 (by decide) ?_
    refine xj_callS E (k_X9_isWithin l G hI f 5 _) cw_X9_104 cs_X9_isWithin rfl rfl ⟨by decide, by decide⟩ (Nat.le_of_ble_eq_true rfl) d_X9_decorator_40 ⟨Nat.zero_le _, Nat.zero_le _⟩ (fun r40 μ40 ho40 hp40 => ?_)
    obtain ⟨rfl, hm40⟩ := hp40
    refine xj_mem hm40 ?_
    refine xj_if_ne (tgt := 49) E d_X9_decorator_43 (by decide) (fun h43 => ?_) (fun h43 => ?_)
    · have hg : (inR a 10 ∧ inR b 8 ∧ inR d 16 ∧ inR f 6) := ⟨inW_y 9 rfl (by omega) h16, inW_y 7 rfl (by omega) h25, inW_y 15 rfl (by omega) h34, inW_y 5 rfl (by omega) h43⟩
      refine xj_aload_n E d_X9_decorator_49 rfl ?_
      refine xj_geti E fl_X9_68 (by decide) rfl (by decide) rfl d_X9_decorator_50 ?_
      refine xj_iconst (v := 4) E d_X9_decorator_53 (by decide) ?_
      refine xj_icmp_ne (tgt := 60) E d_X9_decorator_54 (by decide) (fun h54 => ?_) (fun h54 => ?_)
      · have hne : ¬ xnd μ = 4 := fun q => h54 (by rw [ht.1, q]; rfl)
        have hlt : xnd μ < 4 := by omega
        refine xj_aload_n E d_X9_decorator_60 rfl ?_
        refine xj_geta E fl_X9_25 (by decide) rfl (by decide) rfl d_X9_decorator_61 ?_
        refine xj_aload_n E d_X9_decorator_64 rfl ?_
        refine xj_geti E fl_X9_68 (by decide) rfl (by decide) rfl d_X9_decorator_65 ?_
        refine xj_aald E (by decide) rfl (show vp_in (μ 0 0 4) 4 by rw [ht.1]; exact in_nI hlt (by omega)) d_X9_decorator_68 ?_
        refine xj_st (st' := [.inr (10, xnd μ)]) (by rw [ht.1, cl_nI (by omega)]; try rfl) ?_
        refine xj_iload_n E d_X9_decorator_69 rfl ?_
        refine xj_iload_n E d_X9_decorator_70 rfl ?_
        refine xj_iload_n E d_X9_decorator_71 rfl ?_
        refine xj_iload E d_X9_decorator_72 rfl ?_
        refine xj_callV E (k_X5_declare l G hI (xnd μ) a b d f _) cw_X9_110 cv_X5_declare (by decide) rfl rfl rfl ⟨by decide, by decide⟩ (Nat.le_of_ble_eq_true rfl) d_X9_decorator_74 ⟨Nat.zero_le _, Nat.zero_le _⟩ (fun r74 μ74 ho74 hp74 => ?_)
        obtain ⟨rfl, hm74⟩ := hp74
        refine xj_mem hm74 ?_
        refine xj_aload_n E d_X9_decorator_77 rfl ?_
        refine xj_dup E d_X9_decorator_78 ?_
        refine xj_geti E fl_X9_68 (by decide) rfl (by decide) rfl d_X9_decorator_79 ?_
        refine xj_iconst (v := 1) E d_X9_decorator_82 (by decide) ?_
        refine xj_iadd E d_X9_decorator_83 ?_
        refine xj_put E fp_X9_68 (by decide) rfl (by decide) rfl (narrow_i _) d_X9_decorator_84 ?_
        refine xj_aload_n E d_X9_decorator_87 rfl ?_
        refine xj_geti E fl_X9_68 (by decide) rfl (by decide) rfl d_X9_decorator_88 ?_
        refine xj_iconst (v := 1) E d_X9_decorator_91 (by decide) ?_
        refine xj_isub E d_X9_decorator_92 ?_
        exact xj_iret E hr hlk d_X9_decorator_93 (Or.inr (Or.inr (Or.inr ⟨h4, hg, hlt, congrArg (fun z => some (Sum.inl z)) (by show μ 0 0 4 + 1 - 1 = _; rw [ht.1, isub1]), by show mset _ 0 0 4 (μ 0 0 4 + 1) = _; rw [ht.1, nI_1]⟩)))
      have he : xnd μ = 4 := (nI_eq (b := 4) (by omega) (by omega)).mp (by rw [← ht.1]; exact h54)
      refine xj_bipush (v := -5) E d_X9_decorator_57 (by decide) ?_
      exact xj_iret E hr hlk d_X9_decorator_59 (Or.inr (Or.inr (Or.inl ⟨h4, hg, he, rfl, rfl⟩)))
    refine xj_bipush (v := -4) E d_X9_decorator_46 (by decide) ?_
    exact xj_iret E hr hlk d_X9_decorator_48 ((by first | exact Or.inr (Or.inl ⟨h4, fun q => inW_n 5 rfl (by omega) h43 q.2.2.2, rfl, rfl⟩) | exact Or.inr (Or.inl ⟨h4, fun q => inW_n 15 rfl (by omega) h34 q.2.2.1, rfl, rfl⟩) | exact Or.inr (Or.inl ⟨h4, fun q => inW_n 7 rfl (by omega) h25 q.2.1, rfl, rfl⟩) | exact Or.inr (Or.inl ⟨h4, fun q => inW_n 9 rfl (by omega) h16 q.1, rfl, rfl⟩)))
  refine xj_bipush (v := -2) E d_X9_decorator_7 (by decide) ?_
  exact xj_iret E hr hlk d_X9_decorator_9 (Or.inl ⟨h4, rfl, rfl⟩)

theorem pDecl_o (μ : Mem) (j : Nat) (t : Int32) : ∀ n f, f ≠ 4 → f ≠ 12 → f ≠ 13 → pDecl μ j t n f = μ f
  | 0, f, h1, h2, h3 => by unfold pDecl pForget; rw [mset_f h3, mset_f h3, mset_f h1, mset_f h2]
  | n + 1, f, h1, h2, h3 => by unfold pDecl pForget; rw [mset_f h3, mset_f h3, mset_f h1]; exact pDecl_o μ j t n f h1 h2 h3

set_option maxRecDepth 100000 in
set_option maxHeartbeats 4000000 in
/-- X9 component -/
theorem k_X9_component (l : Launch) (G : XG) (hI : XI G) (a : Int32) (μ : Mem) (hw : xWF μ) : XMet l G y_X9_component c_X9_component 2 (some .int) 2 [.inr (0, 0), .inl a] μ (fun r μ' => (¬ μ 0 0 7 = 0 ∧ r = some (.inl (-2)) ∧ μ' = μ) ∨ (μ 0 0 7 = 0 ∧ ¬ inR a 256 ∧ r = some (.inl (-4)) ∧ μ' = μ) ∨ (μ 0 0 7 = 0 ∧ inR a 256 ∧ xnp μ = 4 ∧ r = some (.inl (-5)) ∧ μ' = μ) ∨ (μ 0 0 7 = 0 ∧ inR a 256 ∧ xnp μ < 4 ∧ r = some (.inl (nI (xnp μ))) ∧ μ' = mset (pDecl μ (xnp μ) a 4) 0 0 6 (nI (xnp μ + 1)))) := by
  refine xj_met (by decide) hI (Nat.le_of_ble_eq_true rfl) ?_
  intro p e s m args below meth c E hr hlk
  have E : XE G (xA G) RX9 c_X9_component 2 p s m args c := E
  refine xj_loc (L' := [some (.inr (0, 0)), some (.inl a)]) rfl ?_
  have ht := hw.2.2.2.1
  refine xj_aload_n E d_X9_component_0 rfl ?_
  refine xj_geti E fl_X9_74 (by decide) rfl (by decide) rfl d_X9_component_1 ?_
  refine xj_if_eq (tgt := 10) E d_X9_component_4 (by decide) (fun h4 => ?_) (fun h4 => ?_)
  · refine xj_iload_n E d_X9_component_10 rfl ?_
    refine xj_sipush (v := 255) E d_X9_component_11 (by decide) ?_
    refine xj_callS E (k_X9_isWithin l G hI a 255 _) cw_X9_104 cs_X9_isWithin rfl rfl ⟨by decide, by decide⟩ (Nat.le_of_ble_eq_true rfl) d_X9_component_14 ⟨Nat.zero_le _, Nat.zero_le _⟩ (fun r14 μ14 ho14 hp14 => ?_)
    obtain ⟨rfl, hm14⟩ := hp14
    refine xj_mem hm14 ?_
    refine xj_if_ne (tgt := 23) E d_X9_component_17 (by decide) (fun h17 => ?_) (fun h17 => ?_)
    · have hg : inR a 256 := inW_y 255 rfl (by omega) h17
      refine xj_aload_n E d_X9_component_23 rfl ?_
      refine xj_geti E fl_X9_71 (by decide) rfl (by decide) rfl d_X9_component_24 ?_
      refine xj_iconst (v := 4) E d_X9_component_27 (by decide) ?_
      refine xj_icmp_ne (tgt := 34) E d_X9_component_28 (by decide) (fun h28 => ?_) (fun h28 => ?_)
      · have hne : ¬ xnp μ = 4 := fun q => h28 (by rw [ht.1, q]; rfl)
        have hlt : xnp μ < 4 := by omega
        refine xj_aload_n E d_X9_component_34 rfl ?_
        refine xj_geta E fl_X9_32 (by decide) rfl (by decide) rfl d_X9_component_35 ?_
        refine xj_aload_n E d_X9_component_38 rfl ?_
        refine xj_geti E fl_X9_71 (by decide) rfl (by decide) rfl d_X9_component_39 ?_
        refine xj_aald E (by decide) rfl (show vp_in (μ 0 0 6) 4 by rw [ht.1]; exact in_nI hlt (by omega)) d_X9_component_42 ?_
        refine xj_st (st' := [.inr (12, xnp μ)]) (by rw [ht.1, cl_nI (by omega)]; try rfl) ?_
        refine xj_iload_n E d_X9_component_43 rfl ?_
        refine xj_callV E (k_X4_declare l G hI (xnp μ) a _) cw_X9_113 cv_X4_declare (by decide) rfl rfl rfl ⟨by decide, by decide⟩ (Nat.le_of_ble_eq_true rfl) d_X9_component_44 ⟨Nat.zero_le _, Nat.zero_le _⟩ (fun r44 μ44 ho44 hp44 => ?_)
        obtain ⟨rfl, hm44⟩ := hp44
        refine xj_mem hm44 ?_
        refine xj_aload_n E d_X9_component_47 rfl ?_
        refine xj_dup E d_X9_component_48 ?_
        refine xj_geti E fl_X9_71 (by decide) rfl (by decide) rfl d_X9_component_49 ?_
        refine xj_iconst (v := 1) E d_X9_component_52 (by decide) ?_
        refine xj_iadd E d_X9_component_53 ?_
        refine xj_put E fp_X9_71 (by decide) rfl (by decide) rfl (narrow_i _) d_X9_component_54 ?_
        refine xj_aload_n E d_X9_component_57 rfl ?_
        refine xj_geti E fl_X9_71 (by decide) rfl (by decide) rfl d_X9_component_58 ?_
        refine xj_iconst (v := 1) E d_X9_component_61 (by decide) ?_
        refine xj_isub E d_X9_component_62 ?_
        exact xj_iret E hr hlk d_X9_component_63 (Or.inr (Or.inr (Or.inr ⟨h4, hg, hlt, congrArg (fun z => some (Sum.inl z)) (by rw [mset_at, pDecl_o _ _ _ _ 0 (by decide) (by decide) (by decide), ht.1, isub1]), by rw [pDecl_o _ _ _ _ 0 (by decide) (by decide) (by decide), ht.1, nI_1]⟩)))
      have he : xnp μ = 4 := (nI_eq (b := 4) (by omega) (by omega)).mp (by rw [← ht.1]; exact h28)
      refine xj_bipush (v := -5) E d_X9_component_31 (by decide) ?_
      exact xj_iret E hr hlk d_X9_component_33 (Or.inr (Or.inr (Or.inl ⟨h4, hg, he, rfl, rfl⟩)))
    refine xj_bipush (v := -4) E d_X9_component_20 (by decide) ?_
    exact xj_iret E hr hlk d_X9_component_22 (Or.inr (Or.inl ⟨h4, inW_n 255 rfl (by omega) h17, rfl, rfl⟩))
  refine xj_bipush (v := -2) E d_X9_component_7 (by decide) ?_
  exact xj_iret E hr hlk d_X9_component_9 (Or.inl ⟨h4, rfl, rfl⟩)
