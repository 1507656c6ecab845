theorem inV_y {x N : Int32} {n : Nat} (hN : N = nI n) (hn : n ≤ 1000) (h : ¬ (if x < 0 then (0 : Int32) else if N - 1 < x then 0 else 1) = 0) : inR x n := by
  subst hN
  by_cases e : n = 0
  · subst e
    exfalso
    apply h
    by_cases h1 : x < 0
    · rw [if_pos h1]
    · rw [if_neg h1, if_pos]
      rw [m1_0, Int32.lt_iff_toInt_lt]
      have := Int32.not_lt.mp h1
      rw [Int32.le_iff_toInt_le] at this
      rw [show (0 : Int32).toInt = 0 by decide] at this
      rw [show (-1 : Int32).toInt = -1 by decide]
      omega
  · have := inW_y (n - 1) (nI_s1 (by omega)) (by omega) h
    rw [show n - 1 + 1 = n by omega] at this
    exact this
theorem inV_n {x N : Int32} {n : Nat} (hN : N = nI n) (hn : n ≤ 1000) (h : (if x < 0 then (0 : Int32) else if N - 1 < x then 0 else 1) = 0) : ¬ inR x n := by
  subst hN
  intro q
  have hpos : 0 < n := by
    obtain ⟨t, ht, -⟩ := q
    omega
  have := inW_n (n - 1) (nI_s1 hpos) (by omega) h
  rw [show n - 1 + 1 = n by omega] at this
  exact this q
theorem mWF.t {μ : Mem} (h : mWF μ) : mnt μ ≤ 8 := h.1.1

set_option maxRecDepth 100000 in
set_option maxHeartbeats 4000000 in
/-- X10 clear -/
theorem k_X10_clear (l : Launch) (G : XG) (hI : XI G)  (μ : Mem)  : XMet l G y_X10_clear c_X10_clear 2 none 0 [.inr (24, 0)] μ (fun r μ' => r = none ∧ frG [48, 49, 52] [0, 1, 3, 7, 11, 16, 35, 37, 38] μ μ' ∧ (∀ j, j ∈ [0, 1, 3, 7, 11, 16, 35, 37, 38] → μ' 24 0 j = 0) ∧ (∀ r, r < 28 → μ' 49 0 r = 0 ∧ μ' 52 0 r = 0) ∧ ∀ r, r < 16 → μ' 48 0 r = 0) := by
  refine xj_met (by decide) hI (Nat.le_of_ble_eq_true rfl) ?_
  intro p e s m args below meth c E hr hlk
  have E : XE G (xA G) RX10 c_X10_clear 2 p s m args c := E
  refine xj_loc (L' := [some (.inr (24, 0)), none]) rfl ?_
  have lp2 : ∀ (Q : State → Prop) (n k : Nat) (μ1 : Mem), 16 - k = n → k ≤ 16 → frG [48, 49, 52] [0, 1, 3, 7, 11, 16, 35, 37, 38] μ μ1 → (∀ j, j ∈ [0, 1, 3, 7, 11, 16, 35, 37, 38] → μ1 24 0 j = 0) → (∀ r, r < 28 → μ1 49 0 r = 0 ∧ μ1 52 0 r = 0) → (∀ r, r < k → μ1 48 0 r = 0) → (∀ μ2, frG [48, 49, 52] [0, 1, 3, 7, 11, 16, 35, 37, 38] μ μ2 → (∀ j, j ∈ [0, 1, 3, 7, 11, 16, 35, 37, 38] → μ2 24 0 j = 0) → (∀ r, r < 28 → μ2 49 0 r = 0 ∧ μ2 52 0 r = 0) → (∀ r, r < 16 → μ2 48 0 r = 0) → XJ G (xA G) 2 p l e (xr 0) s m args below meth c 0 0 Q 94 [some (.inr (24, 0)), some (.inl (nI 16))] [] μ2) → XJ G (xA G) 2 p l e (xr 0) s m args below meth c 0 0 Q 75 [some (.inr (24, 0)), some (.inl (nI k))] [] μ1 := by
    intro Q n
    induction n using Nat.strongRecOn with
    | _ n ih =>
    intro k μ1 hn hk hfr hz h28 h16 hx
    refine xj_iload_n E d_X10_clear_75 rfl ?_
    refine xj_bipush (v := 16) E d_X10_clear_76 (by decide) ?_
    refine xj_icmp_ge (tgt := 94) E d_X10_clear_78 (by decide) (fun h78 => ?_) (fun h78 => ?_)
    · have hk8 : k = 16 := by
        have := ge_nI (a := 16) h78 (by omega) (by omega)
        omega
      subst hk8
      exact hx _ hfr hz h28 h16
    have hlt : k < 16 := ng_nI (a := 16) h78 (by omega) (by omega)
    refine xj_aload_n E d_X10_clear_81 rfl ?_
    refine xj_geta E fl_X10_47 (by decide) rfl (by decide) rfl d_X10_clear_82 ?_
    refine xj_iload_n E d_X10_clear_85 rfl ?_
    refine xj_iconst (v := 0) E d_X10_clear_86 (by decide) ?_
    refine xj_iast E (by decide) (show vp_in (nI k) 16 from in_nI hlt (by omega)) d_X10_clear_87 ?_
    refine xj_mem (μ' := mset μ1 48 0 k 0) (by rw [cl_nI (by omega)]) ?_
    refine xj_iinc (v := nI (k + 1)) E d_X10_clear_88 rfl (nI_inc k) rfl ?_
    refine xj_goto (tgt := 75) E d_X10_clear_91 (by decide) ?_
    exact ih (16 - (k + 1)) (by omega) (k + 1) _ rfl (by omega) (hfr.tr (frG_f (by decide) (by decide))) (fun j hj => by rw [mset_f (by decide)]; exact hz j hj) (fun r hr => by rw [mset_f (by decide), mset_f (by decide)]; exact h28 r hr) (fun r hr => by
      rw [mset_same]
      by_cases q : r = k
      · rw [q, upd_at]
      · rw [upd_ne q]; exact h16 r (by omega)) hx
  have lp1 : ∀ (Q : State → Prop) (n k : Nat) (μ1 : Mem), 28 - k = n → k ≤ 28 → frG [48, 49, 52] [0, 1, 3, 7, 11, 16, 35, 37, 38] μ μ1 → (∀ j, j ∈ [0, 1, 3, 7, 11, 16, 35, 37, 38] → μ1 24 0 j = 0) → (∀ r, r < k → μ1 49 0 r = 0 ∧ μ1 52 0 r = 0) → (∀ μ2, frG [48, 49, 52] [0, 1, 3, 7, 11, 16, 35, 37, 38] μ μ2 → (∀ j, j ∈ [0, 1, 3, 7, 11, 16, 35, 37, 38] → μ2 24 0 j = 0) → (∀ r, r < 28 → μ2 49 0 r = 0 ∧ μ2 52 0 r = 0) → XJ G (xA G) 2 p l e (xr 0) s m args below meth c 0 0 Q 73 [some (.inr (24, 0)), some (.inl (nI 28))] [] μ2) → XJ G (xA G) 2 p l e (xr 0) s m args below meth c 0 0 Q 47 [some (.inr (24, 0)), some (.inl (nI k))] [] μ1 := by
    intro Q n
    induction n using Nat.strongRecOn with
    | _ n ih =>
    intro k μ1 hn hk hfr hz h28 hx
    refine xj_iload_n E d_X10_clear_47 rfl ?_
    refine xj_bipush (v := 28) E d_X10_clear_48 (by decide) ?_
    refine xj_icmp_ge (tgt := 73) E d_X10_clear_50 (by decide) (fun h50 => ?_) (fun h50 => ?_)
    · have hk8 : k = 28 := by
        have := ge_nI (a := 28) h50 (by omega) (by omega)
        omega
      subst hk8
      exact hx _ hfr hz h28
    have hlt : k < 28 := ng_nI (a := 28) h50 (by omega) (by omega)
    refine xj_aload_n E d_X10_clear_53 rfl ?_
    refine xj_geta E fl_X10_50 (by decide) rfl (by decide) rfl d_X10_clear_54 ?_
    refine xj_iload_n E d_X10_clear_57 rfl ?_
    refine xj_iconst (v := 0) E d_X10_clear_58 (by decide) ?_
    refine xj_iast E (by decide) (show vp_in (nI k) 28 from in_nI hlt (by omega)) d_X10_clear_59 ?_
    refine xj_aload_n E d_X10_clear_60 rfl ?_
    refine xj_geta E fl_X10_59 (by decide) rfl (by decide) rfl d_X10_clear_61 ?_
    refine xj_iload_n E d_X10_clear_64 rfl ?_
    refine xj_iconst (v := 0) E d_X10_clear_65 (by decide) ?_
    refine xj_iast E (by decide) (show vp_in (nI k) 28 from in_nI hlt (by omega)) d_X10_clear_66 ?_
    refine xj_mem (μ' := mset (mset μ1 49 0 k 0) 52 0 k 0) (by rw [cl_nI (by omega)]) ?_
    refine xj_iinc (v := nI (k + 1)) E d_X10_clear_67 rfl (nI_inc k) rfl ?_
    refine xj_goto (tgt := 47) E d_X10_clear_70 (by decide) ?_
    exact ih (28 - (k + 1)) (by omega) (k + 1) _ rfl (by omega) ((hfr.tr (frG_f (by decide) (by decide))).tr (frG_f (by decide) (by decide))) (fun j hj => by rw [mset_f (by decide), mset_f (by decide)]; exact hz j hj) (fun r hr => by
      rw [mset_f (f' := 49) (by decide), mset_same, mset_same, mset_f (f' := 52) (by decide)]
      by_cases q : r = k
      · rw [q, upd_at, upd_at]; exact ⟨rfl, rfl⟩
      · rw [upd_ne q, upd_ne q]; exact h28 r (by omega)) hx
  refine xj_aload_n E d_X10_clear_0 rfl ?_
  refine xj_iconst (v := 0) E d_X10_clear_1 (by decide) ?_
  refine xj_put E fp_X10_92 (by decide) rfl (by decide) rfl (narrow_z (Or.inl rfl)) d_X10_clear_2 ?_
  refine xj_aload_n E d_X10_clear_5 rfl ?_
  refine xj_iconst (v := 0) E d_X10_clear_6 (by decide) ?_
  refine xj_put E fp_X10_96 (by decide) rfl (by decide) rfl (narrow_i _) d_X10_clear_7 ?_
  refine xj_aload_n E d_X10_clear_10 rfl ?_
  refine xj_iconst (v := 0) E d_X10_clear_11 (by decide) ?_
  refine xj_put E fp_X10_100 (by decide) rfl (by decide) rfl (narrow_i _) d_X10_clear_12 ?_
  refine xj_aload_n E d_X10_clear_15 rfl ?_
  refine xj_iconst (v := 0) E d_X10_clear_16 (by decide) ?_
  refine xj_put E fp_X10_103 (by decide) rfl (by decide) rfl (narrow_i _) d_X10_clear_17 ?_
  refine xj_aload_n E d_X10_clear_20 rfl ?_
  refine xj_iconst (v := 0) E d_X10_clear_21 (by decide) ?_
  refine xj_put E fp_X10_106 (by decide) rfl (by decide) rfl (narrow_i _) d_X10_clear_22 ?_
  refine xj_aload_n E d_X10_clear_25 rfl ?_
  refine xj_iconst (v := 0) E d_X10_clear_26 (by decide) ?_
  refine xj_put E fp_X10_109 (by decide) rfl (by decide) rfl (narrow_i _) d_X10_clear_27 ?_
  refine xj_aload_n E d_X10_clear_30 rfl ?_
  refine xj_iconst (v := 0) E d_X10_clear_31 (by decide) ?_
  refine xj_put E fp_X10_112 (by decide) rfl (by decide) rfl (narrow_i _) d_X10_clear_32 ?_
  refine xj_aload_n E d_X10_clear_35 rfl ?_
  refine xj_iconst (v := 0) E d_X10_clear_36 (by decide) ?_
  refine xj_put E fp_X10_115 (by decide) rfl (by decide) rfl (narrow_i _) d_X10_clear_37 ?_
  refine xj_aload_n E d_X10_clear_40 rfl ?_
  refine xj_iconst (v := 0) E d_X10_clear_41 (by decide) ?_
  refine xj_put E fp_X10_118 (by decide) rfl (by decide) rfl (narrow_i _) d_X10_clear_42 ?_
  refine xj_iconst (v := 0) E d_X10_clear_45 (by decide) ?_
  refine xj_istore_n E d_X10_clear_46 (by decide) rfl ?_
  refine lp1 _ 28 0 _ rfl (by omega) (((((((((frG_o (by decide)).tr (frG_o (by decide))).tr (frG_o (by decide))).tr (frG_o (by decide))).tr (frG_o (by decide))).tr (frG_o (by decide))).tr (frG_o (by decide))).tr (frG_o (by decide))).tr (frG_o (by decide))) (fun j hj => ?_) (fun r hr => by omega) (fun μ2 hfr2 hz2 h28 => ?_)
  · simp only [List.mem_cons, List.not_mem_nil, or_false] at hj
    rcases hj with rfl | rfl | rfl | rfl | rfl | rfl | rfl | rfl | rfl <;> rfl
  refine xj_iconst (v := 0) E d_X10_clear_73 (by decide) ?_
  refine xj_istore_n E d_X10_clear_74 (by decide) rfl ?_
  refine lp2 _ 16 0 _ rfl (by omega) hfr2 hz2 h28 (fun r hr => by omega) (fun μ3 hfr3 hz3 h283 h163 => ?_)
  exact xj_vret E hr hlk d_X10_clear_94 (⟨rfl, hfr3, hz3, h283, h163⟩)

set_option maxRecDepth 100000 in
set_option maxHeartbeats 4000000 in
/-- X10 binding -/
theorem k_X10_binding (l : Launch) (G : XG) (hI : XI G) (z : Int32) (n : Nat) (μ : Mem) (ht : μ 24 0 1 = nI n) (hn : n ≤ 8) (hz : z = 0 ∨ z = 1) : XMet l G y_X10_binding c_X10_binding 2 (some .int) 0 [.inr (24, 0), .inl z] μ (fun r μ' => (¬ μ 24 0 0 = 0 ∧ r = some (.inl (-2)) ∧ μ' = μ) ∨ (μ 24 0 0 = 0 ∧ n = 8 ∧ r = some (.inl (-5)) ∧ μ' = μ) ∨ (μ 24 0 0 = 0 ∧ n < 8 ∧ r = some (.inl (nI n)) ∧ μ' = mset (mset μ 32 0 n z) 24 0 1 (nI (n + 1)))) := by
  refine xj_met (by decide) hI (Nat.le_of_ble_eq_true rfl) ?_
  intro p e s m args below meth c E hr hlk
  have E : XE G (xA G) RX10 c_X10_binding 2 p s m args c := E
  refine xj_loc (L' := [some (.inr (24, 0)), some (.inl z)]) rfl ?_
  refine xj_aload_n E d_X10_binding_0 rfl ?_
  refine xj_geti E fl_X10_92 (by decide) rfl (by decide) rfl d_X10_binding_1 ?_
  refine xj_if_eq (tgt := 10) E d_X10_binding_4 (by decide) (fun h4 => ?_) (fun h4 => ?_)
  · refine xj_aload_n E d_X10_binding_10 rfl ?_
    refine xj_geti E fl_X10_96 (by decide) rfl (by decide) rfl d_X10_binding_11 ?_
    refine xj_bipush (v := 8) E d_X10_binding_14 (by decide) ?_
    refine xj_icmp_ne (tgt := 22) E d_X10_binding_16 (by decide) (fun h16 => ?_) (fun h16 => ?_)
    · have hne : ¬ n = 8 := fun q => h16 (by rw [ht, q]; rfl)
      have hlt : n < 8 := by omega
      refine xj_aload_n E d_X10_binding_22 rfl ?_
      refine xj_geta E fl_X10_7 (by decide) rfl (by decide) rfl d_X10_binding_23 ?_
      refine xj_aload_n E d_X10_binding_26 rfl ?_
      refine xj_geti E fl_X10_96 (by decide) rfl (by decide) rfl d_X10_binding_27 ?_
      refine xj_iload_n E d_X10_binding_30 rfl ?_
      refine xj_zast E (by decide) (show vp_in (μ 24 0 1) 8 by rw [ht]; exact in_nI hlt (by omega)) hz d_X10_binding_31 ?_
      refine xj_aload_n E d_X10_binding_32 rfl ?_
      refine xj_dup E d_X10_binding_33 ?_
      refine xj_geti E fl_X10_96 (by decide) rfl (by decide) rfl d_X10_binding_34 ?_
      refine xj_iconst (v := 1) E d_X10_binding_37 (by decide) ?_
      refine xj_iadd E d_X10_binding_38 ?_
      refine xj_put E fp_X10_96 (by decide) rfl (by decide) rfl (narrow_i _) d_X10_binding_39 ?_
      refine xj_aload_n E d_X10_binding_42 rfl ?_
      refine xj_geti E fl_X10_96 (by decide) rfl (by decide) rfl d_X10_binding_43 ?_
      refine xj_iconst (v := 1) E d_X10_binding_46 (by decide) ?_
      refine xj_isub E d_X10_binding_47 ?_
      exact xj_iret E hr hlk d_X10_binding_48 (Or.inr (Or.inr ⟨h4, hlt, congrArg (fun z => some (Sum.inl z)) (by show μ 24 0 1 + 1 - 1 = _; rw [ht, isub1]), by show mset (mset μ 32 0 (μ 24 0 1).toNatClampNeg z) 24 0 1 (μ 24 0 1 + 1) = _; rw [ht, nI_1, cl_nI (by omega)]⟩))
    have he : n = 8 := (nI_eq (b := 8) (by omega) (by omega)).mp (by rw [← ht]; exact h16)
    refine xj_bipush (v := -5) E d_X10_binding_19 (by decide) ?_
    exact xj_iret E hr hlk d_X10_binding_21 (Or.inr (Or.inl ⟨h4, he, rfl, rfl⟩))
  refine xj_bipush (v := -2) E d_X10_binding_7 (by decide) ?_
  exact xj_iret E hr hlk d_X10_binding_9 (Or.inl ⟨h4, rfl, rfl⟩)

set_option maxRecDepth 100000 in
set_option maxHeartbeats 4000000 in
/-- X10 carry -/
theorem k_X10_carry (l : Launch) (G : XG) (hI : XI G) (a b v : Int32) (n k : Nat) (μ : Mem) (ht : μ 24 0 1 = nI n) (hn : n ≤ 8) (hc : μ 24 0 3 = nI k) (hk : k ≤ 16) : XMet l G y_X10_carry c_X10_carry 4 (some .int) 1 [.inr (24, 0), .inl a, .inl b, .inl v] μ (fun r μ' => (¬ μ 24 0 0 = 0 ∧ r = some (.inl (-2)) ∧ μ' = μ) ∨ (μ 24 0 0 = 0 ∧ ¬ (inR a n ∧ inR b n) ∧ r = some (.inl (-3)) ∧ μ' = μ) ∨ (μ 24 0 0 = 0 ∧ inR a n ∧ inR b n ∧ k = 16 ∧ r = some (.inl (-5)) ∧ μ' = μ) ∨ (μ 24 0 0 = 0 ∧ inR a n ∧ inR b n ∧ k < 16 ∧ r = some (.inl 0) ∧ μ' = mset (mset (mset (mset μ 34 0 k a) 35 0 k b) 36 0 k (if μ 32 0 b.toNatClampNeg = 0 then 0 else v)) 24 0 3 (nI (k + 1)))) := by
  refine xj_met (by decide) hI (Nat.le_of_ble_eq_true rfl) ?_
  intro p e s m args below meth c E hr hlk
  have E : XE G (xA G) RX10 c_X10_carry 4 p s m args c := E
  refine xj_loc (L' := [some (.inr (24, 0)), some (.inl a), some (.inl b), some (.inl v)]) rfl ?_
  refine xj_aload_n E d_X10_carry_0 rfl ?_
  refine xj_geti E fl_X10_92 (by decide) rfl (by decide) rfl d_X10_carry_1 ?_
  refine xj_if_eq (tgt := 10) E d_X10_carry_4 (by decide) (fun h4 => ?_) (fun h4 => ?_)
  · refine xj_iload_n E d_X10_carry_10 rfl ?_
    refine xj_aload_n E d_X10_carry_11 rfl ?_
    refine xj_geti E fl_X10_96 (by decide) rfl (by decide) rfl d_X10_carry_12 ?_
    refine xj_iconst (v := 1) E d_X10_carry_15 (by decide) ?_
    refine xj_isub E d_X10_carry_16 ?_
    refine xj_callS E (k_X10_within l G hI a _ _) cw_X10_121 cs_X10_within rfl rfl ⟨by decide, by decide⟩ (Nat.le_of_ble_eq_true rfl) d_X10_carry_17 ⟨Nat.zero_le _, Nat.zero_le _⟩ (fun r17 μ17 ho17 hp17 => ?_)
    obtain ⟨rfl, hm17⟩ := hp17
    refine xj_mem hm17 ?_
    refine xj_if_eq (tgt := 36) E d_X10_carry_20 (by decide) (fun h20 => ?_) (fun h20 => ?_)
    · refine xj_bipush (v := -3) E d_X10_carry_36 (by decide) ?_
      exact xj_iret E hr hlk d_X10_carry_38 (by first | exact Or.inr (Or.inl ⟨h4, fun q => inV_n ht (by omega) h33 q.2, rfl, rfl⟩) | exact Or.inr (Or.inl ⟨h4, fun q => inV_n ht (by omega) h20 q.1, rfl, rfl⟩))
    refine xj_iload_n E d_X10_carry_23 rfl ?_
    refine xj_aload_n E d_X10_carry_24 rfl ?_
    refine xj_geti E fl_X10_96 (by decide) rfl (by decide) rfl d_X10_carry_25 ?_
    refine xj_iconst (v := 1) E d_X10_carry_28 (by decide) ?_
    refine xj_isub E d_X10_carry_29 ?_
    refine xj_callS E (k_X10_within l G hI b _ _) cw_X10_121 cs_X10_within rfl rfl ⟨by decide, by decide⟩ (Nat.le_of_ble_eq_true rfl) d_X10_carry_30 ⟨Nat.zero_le _, Nat.zero_le _⟩ (fun r30 μ30 ho30 hp30 => ?_)
    obtain ⟨rfl, hm30⟩ := hp30
    refine xj_mem hm30 ?_
    refine xj_if_ne (tgt := 39) E d_X10_carry_33 (by decide) (fun h33 => ?_) (fun h33 => ?_)
    · have ha : inR a n := inV_y ht (by omega) h20
      have hb : inR b n := inV_y ht (by omega) h33
      refine xj_aload_n E d_X10_carry_39 rfl ?_
      refine xj_geti E fl_X10_100 (by decide) rfl (by decide) rfl d_X10_carry_40 ?_
      refine xj_bipush (v := 16) E d_X10_carry_43 (by decide) ?_
      refine xj_icmp_ne (tgt := 51) E d_X10_carry_45 (by decide) (fun h45 => ?_) (fun h45 => ?_)
      · have hne : ¬ k = 16 := fun q => h45 (by rw [hc, q]; rfl)
        have hlt : k < 16 := by omega
        have hin : vp_in (μ 24 0 3) 16 := by rw [hc]; exact in_nI hlt (by omega)
        refine xj_aload_n E d_X10_carry_51 rfl ?_
        refine xj_geta E fl_X10_13 (by decide) rfl (by decide) rfl d_X10_carry_52 ?_
        refine xj_aload_n E d_X10_carry_55 rfl ?_
        refine xj_geti E fl_X10_100 (by decide) rfl (by decide) rfl d_X10_carry_56 ?_
        refine xj_iload_n E d_X10_carry_59 rfl ?_
        refine xj_iast E (by decide) hin d_X10_carry_60 ?_
        refine xj_aload_n E d_X10_carry_61 rfl ?_
        refine xj_geta E fl_X10_17 (by decide) rfl (by decide) rfl d_X10_carry_62 ?_
        refine xj_aload_n E d_X10_carry_65 rfl ?_
        refine xj_geti E fl_X10_100 (by decide) rfl (by decide) rfl d_X10_carry_66 ?_
        refine xj_iload_n E d_X10_carry_69 rfl ?_
        refine xj_iast E (by decide) hin d_X10_carry_70 ?_
        refine xj_aload_n E d_X10_carry_71 rfl ?_
        refine xj_geta E fl_X10_20 (by decide) rfl (by decide) rfl d_X10_carry_72 ?_
        refine xj_aload_n E d_X10_carry_75 rfl ?_
        refine xj_geti E fl_X10_100 (by decide) rfl (by decide) rfl d_X10_carry_76 ?_
        refine xj_aload_n E d_X10_carry_79 rfl ?_
        refine xj_geta E fl_X10_7 (by decide) rfl (by decide) rfl d_X10_carry_80 ?_
        refine xj_iload_n E d_X10_carry_83 rfl ?_
        refine xj_zald E (by decide) (show vp_in b 8 from hb.in hn (by omega)) d_X10_carry_84 ?_
        refine xj_if_eq (tgt := 92) E d_X10_carry_85 (by decide) (fun h85 => ?_) (fun h85 => ?_)
        · refine xj_iconst (v := 0) E d_X10_carry_92 (by decide) ?_
          refine xj_st (st' := [.inl (if μ 32 0 b.toNatClampNeg = 0 then 0 else v), .inl (μ 24 0 3), .inr (36, 0)]) (by first | (rw [if_pos (show μ 32 0 b.toNatClampNeg = 0 from h85)]; rfl) | (rw [if_neg (show ¬ μ 32 0 b.toNatClampNeg = 0 from h85)]; rfl)) ?_
          refine xj_iast E (by decide) hin d_X10_carry_93 ?_
          refine xj_aload_n E d_X10_carry_94 rfl ?_
          refine xj_dup E d_X10_carry_95 ?_
          refine xj_geti E fl_X10_100 (by decide) rfl (by decide) rfl d_X10_carry_96 ?_
          refine xj_iconst (v := 1) E d_X10_carry_99 (by decide) ?_
          refine xj_iadd E d_X10_carry_100 ?_
          refine xj_put E fp_X10_100 (by decide) rfl (by decide) rfl (narrow_i _) d_X10_carry_101 ?_
          refine xj_iconst (v := 0) E d_X10_carry_104 (by decide) ?_
          exact xj_iret E hr hlk d_X10_carry_105 (Or.inr (Or.inr (Or.inr ⟨h4, ha, hb, hlt, rfl, by show mset (mset (mset (mset μ 34 0 (μ 24 0 3).toNatClampNeg a) 35 0 (μ 24 0 3).toNatClampNeg b) 36 0 (μ 24 0 3).toNatClampNeg _) 24 0 3 (μ 24 0 3 + 1) = _; rw [hc, nI_1, cl_nI (by omega)]⟩)))
        refine xj_iload_n E d_X10_carry_88 rfl ?_
        refine xj_goto (tgt := 93) E d_X10_carry_89 (by decide) ?_
        refine xj_st (st' := [.inl (if μ 32 0 b.toNatClampNeg = 0 then 0 else v), .inl (μ 24 0 3), .inr (36, 0)]) (by first | (rw [if_pos (show μ 32 0 b.toNatClampNeg = 0 from h85)]; rfl) | (rw [if_neg (show ¬ μ 32 0 b.toNatClampNeg = 0 from h85)]; rfl)) ?_
        refine xj_iast E (by decide) hin d_X10_carry_93 ?_
        refine xj_aload_n E d_X10_carry_94 rfl ?_
        refine xj_dup E d_X10_carry_95 ?_
        refine xj_geti E fl_X10_100 (by decide) rfl (by decide) rfl d_X10_carry_96 ?_
        refine xj_iconst (v := 1) E d_X10_carry_99 (by decide) ?_
        refine xj_iadd E d_X10_carry_100 ?_
        refine xj_put E fp_X10_100 (by decide) rfl (by decide) rfl (narrow_i _) d_X10_carry_101 ?_
        refine xj_iconst (v := 0) E d_X10_carry_104 (by decide) ?_
        exact xj_iret E hr hlk d_X10_carry_105 (Or.inr (Or.inr (Or.inr ⟨h4, ha, hb, hlt, rfl, by show mset (mset (mset (mset μ 34 0 (μ 24 0 3).toNatClampNeg a) 35 0 (μ 24 0 3).toNatClampNeg b) 36 0 (μ 24 0 3).toNatClampNeg _) 24 0 3 (μ 24 0 3 + 1) = _; rw [hc, nI_1, cl_nI (by omega)]⟩)))
      have he : k = 16 := (nI_eq (b := 16) (by omega) (by omega)).mp (by rw [← hc]; exact h45)
      refine xj_bipush (v := -5) E d_X10_carry_48 (by decide) ?_
      exact xj_iret E hr hlk d_X10_carry_50 (Or.inr (Or.inr (Or.inl ⟨h4, ha, hb, he, rfl, rfl⟩)))
    refine xj_bipush (v := -3) E d_X10_carry_36 (by decide) ?_
    exact xj_iret E hr hlk d_X10_carry_38 (by first | exact Or.inr (Or.inl ⟨h4, fun q => inV_n ht (by omega) h33 q.2, rfl, rfl⟩) | exact Or.inr (Or.inl ⟨h4, fun q => inV_n ht (by omega) h20 q.1, rfl, rfl⟩))
  refine xj_bipush (v := -2) E d_X10_carry_7 (by decide) ?_
  exact xj_iret E hr hlk d_X10_carry_9 (Or.inl ⟨h4, rfl, rfl⟩)

set_option maxRecDepth 100000 in
set_option maxHeartbeats 4000000 in
/-- X10 interceptor -/
theorem k_X10_interceptor (l : Launch) (G : XG) (hI : XI G) (a b d : Int32) (n : Nat) (μ : Mem) (ht : μ 24 0 7 = nI n) (hn : n ≤ 8) : XMet l G y_X10_interceptor c_X10_interceptor 4 (some .int) 1 [.inr (24, 0), .inl a, .inl b, .inl d] μ (fun r μ' => (¬ μ 24 0 0 = 0 ∧ r = some (.inl (-2)) ∧ μ' = μ) ∨ (μ 24 0 0 = 0 ∧ ¬ (inR a 10 ∧ inR b 16 ∧ inR d 6) ∧ r = some (.inl (-4)) ∧ μ' = μ) ∨ (μ 24 0 0 = 0 ∧ (inR a 10 ∧ inR b 16 ∧ inR d 6) ∧ n = 8 ∧ r = some (.inl (-5)) ∧ μ' = μ) ∨ (μ 24 0 0 = 0 ∧ (inR a 10 ∧ inR b 16 ∧ inR d 6) ∧ n < 8 ∧ r = some (.inl (nI n)) ∧ μ' = mset (mset (mset (mset μ 38 0 n a) 39 0 n b) 40 0 n d) 24 0 7 (nI (n + 1)))) := by
  refine xj_met (by decide) hI (Nat.le_of_ble_eq_true rfl) ?_
  intro p e s m args below meth c E hr hlk
  have E : XE G (xA G) RX10 c_X10_interceptor 4 p s m args c := E
  refine xj_loc (L' := [some (.inr (24, 0)), some (.inl a), some (.inl b), some (.inl d)]) rfl ?_
  refine xj_aload_n E d_X10_interceptor_0 rfl ?_
  refine xj_geti E fl_X10_92 (by decide) rfl (by decide) rfl d_X10_interceptor_1 ?_
  refine xj_if_eq (tgt := 10) E d_X10_interceptor_4 (by decide) (fun h4 => ?_) (fun h4 => ?_)
  · refine xj_iload_n E d_X10_interceptor_10 rfl ?_
    refine xj_bipush (v := 9) E d_X10_interceptor_11 (by decide) ?_
    refine xj_callS E (k_X10_within l G hI a 9 _) cw_X10_121 cs_X10_within rfl rfl ⟨by decide, by decide⟩ (Nat.le_of_ble_eq_true rfl) d_X10_interceptor_13 ⟨Nat.zero_le _, Nat.zero_le _⟩ (fun r13 μ13 ho13 hp13 => ?_)
    obtain ⟨rfl, hm13⟩ := hp13
    refine xj_mem hm13 ?_
    refine xj_if_eq (tgt := 36) E d_X10_interceptor_16 (by decide) (fun h16 => ?_) (fun h16 => ?_)
    · refine xj_bipush (v := -4) E d_X10_interceptor_36 (by decide) ?_
      exact xj_iret E hr hlk d_X10_interceptor_38 (by first | exact Or.inr (Or.inl ⟨h4, fun q => inW_n 5 rfl (by omega) h33 q.2.2, rfl, rfl⟩) | exact Or.inr (Or.inl ⟨h4, fun q => inW_n 15 rfl (by omega) h25 q.2.1, rfl, rfl⟩) | exact Or.inr (Or.inl ⟨h4, fun q => inW_n 9 rfl (by omega) h16 q.1, rfl, rfl⟩))
    refine xj_iload_n E d_X10_interceptor_19 rfl ?_
    refine xj_bipush (v := 15) E d_X10_interceptor_20 (by decide) ?_
    refine xj_callS E (k_X10_within l G hI b 15 _) cw_X10_121 cs_X10_within rfl rfl ⟨by decide, by decide⟩ (Nat.le_of_ble_eq_true rfl) d_X10_interceptor_22 ⟨Nat.zero_le _, Nat.zero_le _⟩ (fun r22 μ22 ho22 hp22 => ?_)
    obtain ⟨rfl, hm22⟩ := hp22
    refine xj_mem hm22 ?_
    refine xj_if_eq (tgt := 36) E d_X10_interceptor_25 (by decide) (fun h25 => ?_) (fun h25 => ?_)
    · refine xj_bipush (v := -4) E d_X10_interceptor_36 (by decide) ?_
      exact xj_iret E hr hlk d_X10_interceptor_38 (by first | exact Or.inr (Or.inl ⟨h4, fun q => inW_n 5 rfl (by omega) h33 q.2.2, rfl, rfl⟩) | exact Or.inr (Or.inl ⟨h4, fun q => inW_n 15 rfl (by omega) h25 q.2.1, rfl, rfl⟩) | exact Or.inr (Or.inl ⟨h4, fun q => inW_n 9 rfl (by omega) h16 q.1, rfl, rfl⟩))
    refine xj_iload_n E d_X10_interceptor_28 rfl ?_
    refine xj_iconst (v := 5) E d_X10_interceptor_29 (by decide) ?_
    refine xj_callS E (k_X10_within l G hI d 5 _) cw_X10_121 cs_X10_within rfl rfl ⟨by decide, by decide⟩ (Nat.le_of_ble_eq_true rfl) d_X10_interceptor_30 ⟨Nat.zero_le _, Nat.zero_le _⟩ (fun r30 μ30 ho30 hp30 => ?_)
    obtain ⟨rfl, hm30⟩ := hp30
    refine xj_mem hm30 ?_
    refine xj_if_ne (tgt := 39) E d_X10_interceptor_33 (by decide) (fun h33 => ?_) (fun h33 => ?_)
    · have hg : (inR a 10 ∧ inR b 16 ∧ inR d 6) := ⟨inW_y 9 rfl (by omega) h16, inW_y 15 rfl (by omega) h25, inW_y 5 rfl (by omega) h33⟩
      refine xj_aload_n E d_X10_interceptor_39 rfl ?_
      refine xj_geti E fl_X10_103 (by decide) rfl (by decide) rfl d_X10_interceptor_40 ?_
      refine xj_bipush (v := 8) E d_X10_interceptor_43 (by decide) ?_
      refine xj_icmp_ne (tgt := 51) E d_X10_interceptor_45 (by decide) (fun h45 => ?_) (fun h45 => ?_)
      · have hne : ¬ n = 8 := fun q => h45 (by rw [ht, q]; rfl)
        have hlt : n < 8 := by omega
        have hin : vp_in (μ 24 0 7) 8 := by rw [ht]; exact in_nI hlt (by omega)
        refine xj_aload_n E d_X10_interceptor_51 rfl ?_
        refine xj_geta E fl_X10_23 (by decide) rfl (by decide) rfl d_X10_interceptor_52 ?_
        refine xj_aload_n E d_X10_interceptor_55 rfl ?_
        refine xj_geti E fl_X10_103 (by decide) rfl (by decide) rfl d_X10_interceptor_56 ?_
        refine xj_iload_n E d_X10_interceptor_59 rfl ?_
        refine xj_iast E (by decide) hin d_X10_interceptor_60 ?_
        refine xj_aload_n E d_X10_interceptor_61 rfl ?_
        refine xj_geta E fl_X10_26 (by decide) rfl (by decide) rfl d_X10_interceptor_62 ?_
        refine xj_aload_n E d_X10_interceptor_65 rfl ?_
        refine xj_geti E fl_X10_103 (by decide) rfl (by decide) rfl d_X10_interceptor_66 ?_
        refine xj_iload_n E d_X10_interceptor_69 rfl ?_
        refine xj_iast E (by decide) hin d_X10_interceptor_70 ?_
        refine xj_aload_n E d_X10_interceptor_71 rfl ?_
        refine xj_geta E fl_X10_29 (by decide) rfl (by decide) rfl d_X10_interceptor_72 ?_
        refine xj_aload_n E d_X10_interceptor_75 rfl ?_
        refine xj_geti E fl_X10_103 (by decide) rfl (by decide) rfl d_X10_interceptor_76 ?_
        refine xj_iload_n E d_X10_interceptor_79 rfl ?_
        refine xj_iast E (by decide) hin d_X10_interceptor_80 ?_
        refine xj_aload_n E d_X10_interceptor_81 rfl ?_
        refine xj_dup E d_X10_interceptor_82 ?_
        refine xj_geti E fl_X10_103 (by decide) rfl (by decide) rfl d_X10_interceptor_83 ?_
        refine xj_iconst (v := 1) E d_X10_interceptor_86 (by decide) ?_
        refine xj_iadd E d_X10_interceptor_87 ?_
        refine xj_put E fp_X10_103 (by decide) rfl (by decide) rfl (narrow_i _) d_X10_interceptor_88 ?_
        refine xj_aload_n E d_X10_interceptor_91 rfl ?_
        refine xj_geti E fl_X10_103 (by decide) rfl (by decide) rfl d_X10_interceptor_92 ?_
        refine xj_iconst (v := 1) E d_X10_interceptor_95 (by decide) ?_
        refine xj_isub E d_X10_interceptor_96 ?_
        exact xj_iret E hr hlk d_X10_interceptor_97 (Or.inr (Or.inr (Or.inr ⟨h4, hg, hlt, congrArg (fun z => some (Sum.inl z)) (by show μ 24 0 7 + 1 - 1 = _; rw [ht, isub1]), by show mset (mset (mset (mset μ 38 0 (μ 24 0 7).toNatClampNeg a) 39 0 (μ 24 0 7).toNatClampNeg b) 40 0 (μ 24 0 7).toNatClampNeg d) 24 0 7 (μ 24 0 7 + 1) = _; rw [ht, nI_1, cl_nI (by omega)]⟩)))
      have he : n = 8 := (nI_eq (b := 8) (by omega) (by omega)).mp (by rw [← ht]; exact h45)
      refine xj_bipush (v := -5) E d_X10_interceptor_48 (by decide) ?_
      exact xj_iret E hr hlk d_X10_interceptor_50 (Or.inr (Or.inr (Or.inl ⟨h4, hg, he, rfl, rfl⟩)))
    refine xj_bipush (v := -4) E d_X10_interceptor_36 (by decide) ?_
    exact xj_iret E hr hlk d_X10_interceptor_38 (by first | exact Or.inr (Or.inl ⟨h4, fun q => inW_n 5 rfl (by omega) h33 q.2.2, rfl, rfl⟩) | exact Or.inr (Or.inl ⟨h4, fun q => inW_n 15 rfl (by omega) h25 q.2.1, rfl, rfl⟩) | exact Or.inr (Or.inl ⟨h4, fun q => inW_n 9 rfl (by omega) h16 q.1, rfl, rfl⟩))
  refine xj_bipush (v := -2) E d_X10_interceptor_7 (by decide) ?_
  exact xj_iret E hr hlk d_X10_interceptor_9 (Or.inl ⟨h4, rfl, rfl⟩)

set_option maxRecDepth 100000 in
set_option maxHeartbeats 4000000 in
/-- X10 decorator -/
theorem k_X10_decorator (l : Launch) (G : XG) (hI : XI G) (a b d f : Int32) (n : Nat) (μ : Mem) (ht : μ 24 0 11 = nI n) (hn : n ≤ 4) : XMet l G y_X10_decorator c_X10_decorator 5 (some .int) 1 [.inr (24, 0), .inl a, .inl b, .inl d, .inl f] μ (fun r μ' => (¬ μ 24 0 0 = 0 ∧ r = some (.inl (-2)) ∧ μ' = μ) ∨ (μ 24 0 0 = 0 ∧ ¬ (inR a 10 ∧ inR b 8 ∧ inR d 16 ∧ inR f 6) ∧ r = some (.inl (-4)) ∧ μ' = μ) ∨ (μ 24 0 0 = 0 ∧ (inR a 10 ∧ inR b 8 ∧ inR d 16 ∧ inR f 6) ∧ n = 4 ∧ r = some (.inl (-5)) ∧ μ' = μ) ∨ (μ 24 0 0 = 0 ∧ (inR a 10 ∧ inR b 8 ∧ inR d 16 ∧ inR f 6) ∧ n < 4 ∧ r = some (.inl (nI n)) ∧ μ' = mset (mset (mset (mset (mset μ 42 0 n a) 43 0 n b) 44 0 n d) 45 0 n f) 24 0 11 (nI (n + 1)))) := by
  refine xj_met (by decide) hI (Nat.le_of_ble_eq_true rfl) ?_
  intro p e s m args below meth c E hr hlk
  have E : XE G (xA G) RX10 c_X10_decorator 5 p s m args c := E
  refine xj_loc (L' := [some (.inr (24, 0)), some (.inl a), some (.inl b), some (.inl d), some (.inl f)]) rfl ?_
  refine xj_aload_n E d_X10_decorator_0 rfl ?_
  refine xj_geti E fl_X10_92 (by decide) rfl (by decide) rfl d_X10_decorator_1 ?_
  refine xj_if_eq (tgt := 10) E d_X10_decorator_4 (by decide) (fun h4 => ?_) (fun h4 => ?_)
  · refine xj_iload_n E d_X10_decorator_10 rfl ?_
    refine xj_bipush (v := 9) E d_X10_decorator_11 (by decide) ?_
    refine xj_callS E (k_X10_within l G hI a 9 _) cw_X10_121 cs_X10_within rfl rfl ⟨by decide, by decide⟩ (Nat.le_of_ble_eq_true rfl) d_X10_decorator_13 ⟨Nat.zero_le _, Nat.zero_le _⟩ (fun r13 μ13 ho13 hp13 => ?_)
    obtain ⟨rfl, hm13⟩ := hp13
    refine xj_mem hm13 ?_
    refine xj_if_eq (tgt := 46) E d_X10_decorator_16 (by decide) (fun h16 => ?_) (fun h16 => ?_)
    · refine xj_bipush (v := -4) E d_X10_decorator_46 (by decide) ?_
      exact xj_iret E hr hlk d_X10_decorator_48 (by first | exact Or.inr (Or.inl ⟨h4, fun q => inW_n 5 rfl (by omega) h43 q.2.2.2, rfl, rfl⟩) | exact Or.inr (Or.inl ⟨h4, fun q => inW_n 15 rfl (by omega) h34 q.2.2.1, rfl, rfl⟩) | exact Or.inr (Or.inl ⟨h4, fun q => inW_n 7 rfl (by omega) h25 q.2.1, rfl, rfl⟩) | exact Or.inr (Or.inl ⟨h4, fun q => inW_n 9 rfl (by omega) h16 q.1, rfl, rfl⟩))
    refine xj_iload_n E d_X10_decorator_19 rfl ?_
    refine xj_bipush (v := 7) E d_X10_decorator_20 (by decide) ?_
    refine xj_callS E (k_X10_within l G hI b 7 _) cw_X10_121 cs_X10_within rfl rfl ⟨by decide, by decide⟩ (Nat.le_of_ble_eq_true rfl) d_X10_decorator_22 ⟨Nat.zero_le _, Nat.zero_le _⟩ (fun r22 μ22 ho22 hp22 => ?_)
    obtain ⟨rfl, hm22⟩ := hp22
    refine xj_mem hm22 ?_
    refine xj_if_eq (tgt := 46) E d_X10_decorator_25 (by decide) (fun h25 => ?_) (fun h25 => ?_)
    · refine xj_bipush (v := -4) E d_X10_decorator_46 (by decide) ?_
      exact xj_iret E hr hlk d_X10_decorator_48 (by first | exact Or.inr (Or.inl ⟨h4, fun q => inW_n 5 rfl (by omega) h43 q.2.2.2, rfl, rfl⟩) | exact Or.inr (Or.inl ⟨h4, fun q => inW_n 15 rfl (by omega) h34 q.2.2.1, rfl, rfl⟩) | exact Or.inr (Or.inl ⟨h4, fun q => inW_n 7 rfl (by omega) h25 q.2.1, rfl, rfl⟩) | exact Or.inr (Or.inl ⟨h4, fun q => inW_n 9 rfl (by omega) h16 q.1, rfl, rfl⟩))
    refine xj_iload_n E d_X10_decorator_28 rfl ?_
    refine xj_bipush (v := 15) E d_X10_decorator_29 (by decide) ?_
    refine xj_callS E (k_X10_within l G hI d 15 _) cw_X10_121 cs_X10_within rfl rfl ⟨by decide, by decide⟩ (Nat.le_of_ble_eq_true rfl) d_X10_decorator_31 ⟨Nat.zero_le _, Nat.zero_le _⟩ (fun r31 μ31 ho31 hp31 => ?_)
    obtain ⟨rfl, hm31⟩ := hp31
    refine xj_mem hm31 ?_
    refine xj_if_eq (tgt := 46) E d_X10_decorator_34 (by decide) (fun h34 => ?_) (fun h34 => ?_)
    · refine xj_bipush (v := -4) E d_X10_decorator_46 (by decide) ?_
      exact xj_iret E hr hlk d_X10_decorator_48 (by first | exact Or.inr (Or.inl ⟨h4, fun q => inW_n 5 rfl (by omega) h43 q.2.2.2, rfl, rfl⟩) | exact Or.inr (Or.inl ⟨h4, fun q => inW_n 15 rfl (by omega) h34 q.2.2.1, rfl, rfl⟩) | exact Or.inr (Or.inl ⟨h4, fun q => inW_n 7 rfl (by omega) h25 q.2.1, rfl, rfl⟩) | exact Or.inr (Or.inl ⟨h4, fun q => inW_n 9 rfl (by omega) h16 q.1, rfl, rfl⟩))
    refine xj_iload E d_X10_decorator_37 rfl ?_
    refine xj_iconst (v := 5) E d_X10_decorator_39 (by decide) ?_
    refine xj_callS E (k_X10_within l G hI f 5 _) cw_X10_121 cs_X10_within rfl rfl ⟨by decide, by decide⟩ (Nat.le_of_ble_eq_true rfl) d_X10_decorator_40 ⟨Nat.zero_le _, Nat.zero_le _⟩ (fun r40 μ40 ho40 hp40 => ?_)
    obtain ⟨rfl, hm40⟩ := hp40
    refine xj_mem hm40 ?_
    refine xj_if_ne (tgt := 49) E d_X10_decorator_43 (by decide) (fun h43 => ?_) (fun h43 => ?_)
    · have hg : (inR a 10 ∧ inR b 8 ∧ inR d 16 ∧ inR f 6) := ⟨inW_y 9 rfl (by omega) h16, inW_y 7 rfl (by omega) h25, inW_y 15 rfl (by omega) h34, inW_y 5 rfl (by omega) h43⟩
      refine xj_aload_n E d_X10_decorator_49 rfl ?_
      refine xj_geti E fl_X10_106 (by decide) rfl (by decide) rfl d_X10_decorator_50 ?_
      refine xj_iconst (v := 4) E d_X10_decorator_53 (by decide) ?_
      refine xj_icmp_ne (tgt := 60) E d_X10_decorator_54 (by decide) (fun h54 => ?_) (fun h54 => ?_)
      · have hne : ¬ n = 4 := fun q => h54 (by rw [ht, q]; rfl)
        have hlt : n < 4 := by omega
        have hin : vp_in (μ 24 0 11) 4 := by rw [ht]; exact in_nI hlt (by omega)
        refine xj_aload_n E d_X10_decorator_60 rfl ?_
        refine xj_geta E fl_X10_32 (by decide) rfl (by decide) rfl d_X10_decorator_61 ?_
        refine xj_aload_n E d_X10_decorator_64 rfl ?_
        refine xj_geti E fl_X10_106 (by decide) rfl (by decide) rfl d_X10_decorator_65 ?_
        refine xj_iload_n E d_X10_decorator_68 rfl ?_
        refine xj_iast E (by decide) hin d_X10_decorator_69 ?_
        refine xj_aload_n E d_X10_decorator_70 rfl ?_
        refine xj_geta E fl_X10_35 (by decide) rfl (by decide) rfl d_X10_decorator_71 ?_
        refine xj_aload_n E d_X10_decorator_74 rfl ?_
        refine xj_geti E fl_X10_106 (by decide) rfl (by decide) rfl d_X10_decorator_75 ?_
        refine xj_iload_n E d_X10_decorator_78 rfl ?_
        refine xj_iast E (by decide) hin d_X10_decorator_79 ?_
        refine xj_aload_n E d_X10_decorator_80 rfl ?_
        refine xj_geta E fl_X10_38 (by decide) rfl (by decide) rfl d_X10_decorator_81 ?_
        refine xj_aload_n E d_X10_decorator_84 rfl ?_
        refine xj_geti E fl_X10_106 (by decide) rfl (by decide) rfl d_X10_decorator_85 ?_
        refine xj_iload_n E d_X10_decorator_88 rfl ?_
        refine xj_iast E (by decide) hin d_X10_decorator_89 ?_
        refine xj_aload_n E d_X10_decorator_90 rfl ?_
        refine xj_geta E fl_X10_41 (by decide) rfl (by decide) rfl d_X10_decorator_91 ?_
        refine xj_aload_n E d_X10_decorator_94 rfl ?_
        refine xj_geti E fl_X10_106 (by decide) rfl (by decide) rfl d_X10_decorator_95 ?_
        refine xj_iload E d_X10_decorator_98 rfl ?_
        refine xj_iast E (by decide) hin d_X10_decorator_100 ?_
        refine xj_aload_n E d_X10_decorator_101 rfl ?_
        refine xj_dup E d_X10_decorator_102 ?_
        refine xj_geti E fl_X10_106 (by decide) rfl (by decide) rfl d_X10_decorator_103 ?_
        refine xj_iconst (v := 1) E d_X10_decorator_106 (by decide) ?_
        refine xj_iadd E d_X10_decorator_107 ?_
        refine xj_put E fp_X10_106 (by decide) rfl (by decide) rfl (narrow_i _) d_X10_decorator_108 ?_
        refine xj_aload_n E d_X10_decorator_111 rfl ?_
        refine xj_geti E fl_X10_106 (by decide) rfl (by decide) rfl d_X10_decorator_112 ?_
        refine xj_iconst (v := 1) E d_X10_decorator_115 (by decide) ?_
        refine xj_isub E d_X10_decorator_116 ?_
        exact xj_iret E hr hlk d_X10_decorator_117 (Or.inr (Or.inr (Or.inr ⟨h4, hg, hlt, congrArg (fun z => some (Sum.inl z)) (by show μ 24 0 11 + 1 - 1 = _; rw [ht, isub1]), by show mset (mset (mset (mset (mset μ 42 0 (μ 24 0 11).toNatClampNeg a) 43 0 (μ 24 0 11).toNatClampNeg b) 44 0 (μ 24 0 11).toNatClampNeg d) 45 0 (μ 24 0 11).toNatClampNeg f) 24 0 11 (μ 24 0 11 + 1) = _; rw [ht, nI_1, cl_nI (by omega)]⟩)))
      have he : n = 4 := (nI_eq (b := 4) (by omega) (by omega)).mp (by rw [← ht]; exact h54)
      refine xj_bipush (v := -5) E d_X10_decorator_57 (by decide) ?_
      exact xj_iret E hr hlk d_X10_decorator_59 (Or.inr (Or.inr (Or.inl ⟨h4, hg, he, rfl, rfl⟩)))
    refine xj_bipush (v := -4) E d_X10_decorator_46 (by decide) ?_
    exact xj_iret E hr hlk d_X10_decorator_48 (by first | exact Or.inr (Or.inl ⟨h4, fun q => inW_n 5 rfl (by omega) h43 q.2.2.2, rfl, rfl⟩) | exact Or.inr (Or.inl ⟨h4, fun q => inW_n 15 rfl (by omega) h34 q.2.2.1, rfl, rfl⟩) | exact Or.inr (Or.inl ⟨h4, fun q => inW_n 7 rfl (by omega) h25 q.2.1, rfl, rfl⟩) | exact Or.inr (Or.inl ⟨h4, fun q => inW_n 9 rfl (by omega) h16 q.1, rfl, rfl⟩))
  refine xj_bipush (v := -2) E d_X10_decorator_7 (by decide) ?_
  exact xj_iret E hr hlk d_X10_decorator_9 (Or.inl ⟨h4, rfl, rfl⟩)

set_option maxRecDepth 100000 in
set_option maxHeartbeats 4000000 in
/-- X10 component -/
theorem k_X10_component (l : Launch) (G : XG) (hI : XI G) (a : Int32) (n : Nat) (μ : Mem) (ht : μ 24 0 16 = nI n) (hn : n ≤ 4) : XMet l G y_X10_component c_X10_component 2 (some .int) 1 [.inr (24, 0), .inl a] μ (fun r μ' => (¬ μ 24 0 0 = 0 ∧ r = some (.inl (-2)) ∧ μ' = μ) ∨ (μ 24 0 0 = 0 ∧ ¬ inR a 256 ∧ r = some (.inl (-4)) ∧ μ' = μ) ∨ (μ 24 0 0 = 0 ∧ inR a 256 ∧ n = 4 ∧ r = some (.inl (-5)) ∧ μ' = μ) ∨ (μ 24 0 0 = 0 ∧ inR a 256 ∧ n < 4 ∧ r = some (.inl (nI n)) ∧ μ' = mset (mset μ 47 0 n a) 24 0 16 (nI (n + 1)))) := by
  refine xj_met (by decide) hI (Nat.le_of_ble_eq_true rfl) ?_
  intro p e s m args below meth c E hr hlk
  have E : XE G (xA G) RX10 c_X10_component 2 p s m args c := E
  refine xj_loc (L' := [some (.inr (24, 0)), some (.inl a)]) rfl ?_
  refine xj_aload_n E d_X10_component_0 rfl ?_
  refine xj_geti E fl_X10_92 (by decide) rfl (by decide) rfl d_X10_component_1 ?_
  refine xj_if_eq (tgt := 10) E d_X10_component_4 (by decide) (fun h4 => ?_) (fun h4 => ?_)
  · refine xj_iload_n E d_X10_component_10 rfl ?_
    refine xj_sipush (v := 255) E d_X10_component_11 (by decide) ?_
    refine xj_callS E (k_X10_within l G hI a 255 _) cw_X10_121 cs_X10_within rfl rfl ⟨by decide, by decide⟩ (Nat.le_of_ble_eq_true rfl) d_X10_component_14 ⟨Nat.zero_le _, Nat.zero_le _⟩ (fun r14 μ14 ho14 hp14 => ?_)
    obtain ⟨rfl, hm14⟩ := hp14
    refine xj_mem hm14 ?_
    refine xj_if_ne (tgt := 23) E d_X10_component_17 (by decide) (fun h17 => ?_) (fun h17 => ?_)
    · have hg : inR a 256 := inW_y 255 rfl (by omega) h17
      refine xj_aload_n E d_X10_component_23 rfl ?_
      refine xj_geti E fl_X10_109 (by decide) rfl (by decide) rfl d_X10_component_24 ?_
      refine xj_iconst (v := 4) E d_X10_component_27 (by decide) ?_
      refine xj_icmp_ne (tgt := 34) E d_X10_component_28 (by decide) (fun h28 => ?_) (fun h28 => ?_)
      · have hne : ¬ n = 4 := fun q => h28 (by rw [ht, q]; rfl)
        have hlt : n < 4 := by omega
        have hin : vp_in (μ 24 0 16) 4 := by rw [ht]; exact in_nI hlt (by omega)
        refine xj_aload_n E d_X10_component_34 rfl ?_
        refine xj_geta E fl_X10_44 (by decide) rfl (by decide) rfl d_X10_component_35 ?_
        refine xj_aload_n E d_X10_component_38 rfl ?_
        refine xj_geti E fl_X10_109 (by decide) rfl (by decide) rfl d_X10_component_39 ?_
        refine xj_iload_n E d_X10_component_42 rfl ?_
        refine xj_iast E (by decide) hin d_X10_component_43 ?_
        refine xj_aload_n E d_X10_component_44 rfl ?_
        refine xj_dup E d_X10_component_45 ?_
        refine xj_geti E fl_X10_109 (by decide) rfl (by decide) rfl d_X10_component_46 ?_
        refine xj_iconst (v := 1) E d_X10_component_49 (by decide) ?_
        refine xj_iadd E d_X10_component_50 ?_
        refine xj_put E fp_X10_109 (by decide) rfl (by decide) rfl (narrow_i _) d_X10_component_51 ?_
        refine xj_aload_n E d_X10_component_54 rfl ?_
        refine xj_geti E fl_X10_109 (by decide) rfl (by decide) rfl d_X10_component_55 ?_
        refine xj_iconst (v := 1) E d_X10_component_58 (by decide) ?_
        refine xj_isub E d_X10_component_59 ?_
        exact xj_iret E hr hlk d_X10_component_60 (Or.inr (Or.inr (Or.inr ⟨h4, hg, hlt, congrArg (fun z => some (Sum.inl z)) (by show μ 24 0 16 + 1 - 1 = _; rw [ht, isub1]), by show mset (mset μ 47 0 (μ 24 0 16).toNatClampNeg a) 24 0 16 (μ 24 0 16 + 1) = _; rw [ht, nI_1, cl_nI (by omega)]⟩)))
      have he : n = 4 := (nI_eq (b := 4) (by omega) (by omega)).mp (by rw [← ht]; exact h28)
      refine xj_bipush (v := -5) E d_X10_component_31 (by decide) ?_
      exact xj_iret E hr hlk d_X10_component_33 (Or.inr (Or.inr (Or.inl ⟨h4, hg, he, rfl, rfl⟩)))
    refine xj_bipush (v := -4) E d_X10_component_20 (by decide) ?_
    exact xj_iret E hr hlk d_X10_component_22 (Or.inr (Or.inl ⟨h4, inW_n 255 rfl (by omega) h17, rfl, rfl⟩))
  refine xj_bipush (v := -2) E d_X10_component_7 (by decide) ?_
  exact xj_iret E hr hlk d_X10_component_9 (Or.inl ⟨h4, rfl, rfl⟩)

def addM (μ : Mem) (r : Nat) (t v : Int32) : Mem := mset (mset (mset μ 50 0 (4 * r + mnb μ r) t) 51 0 (4 * r + mnb μ r) (if μ 32 0 t.toNatClampNeg = 0 then 0 else v)) 49 0 r (nI (mnb μ r + 1))

set_option maxRecDepth 100000 in
set_option maxHeartbeats 4000000 in
/-- X10 bindRow -/
theorem k_X10_bindRow (l : Launch) (G : XG) (hI : XI G) (q : Nat) (b v : Int32) (μ : Mem) (hq : q < 28) (hR : μ 49 0 q = nI (mnb μ q) ∧ mnb μ q ≤ 4) (hb : vp_in b 8) : XMet l G y_X10_bindRow c_X10_bindRow 4 (some .int) 0 [.inr (24, 0), .inl (nI q), .inl b, .inl v] μ (fun r μ' => ((mnb μ q = 4 ∧ r = some (.inl (-5)) ∧ μ' = μ) ∨ (mnb μ q < 4 ∧ r = some (.inl 0) ∧ μ' = addM μ q b v))) := by
  refine xj_met (by decide) hI (Nat.le_of_ble_eq_true rfl) ?_
  intro p e s m args below meth c E hr hlk
  have E : XE G (xA G) RX10 c_X10_bindRow 4 p s m args c := E
  refine xj_loc (L' := [some (.inr (24, 0)), some (.inl (nI q)), some (.inl b), some (.inl v)]) rfl ?_
  have hcq : (nI q).toNatClampNeg = q := cl_nI (by omega)
  have hiq : vp_in (nI q) 28 := in_nI hq (by omega)
  refine xj_aload_n E d_X10_bindRow_0 rfl ?_
  refine xj_geta E fl_X10_50 (by decide) rfl (by decide) rfl d_X10_bindRow_1 ?_
  refine xj_iload_n E d_X10_bindRow_4 rfl ?_
  refine xj_iald E (by decide) hiq d_X10_bindRow_5 ?_
  refine xj_st (st' := [.inl (nI (mnb μ q))]) (by rw [hcq, hR.1]) ?_
  refine xj_iconst (v := 4) E d_X10_bindRow_6 (by decide) ?_
  refine xj_icmp_ne (tgt := 13) E d_X10_bindRow_7 (by decide) (fun h7 => ?_) (fun h7 => ?_)
  · have hne : ¬ mnb μ q = 4 := fun z => h7 (by rw [z]; rfl)
    have hlt : mnb μ q < 4 := by omega
    have hin : vp_in (nI (4 * q + mnb μ q)) 112 := in_nI (by omega) (by omega)
    have hck : (nI (4 * q + mnb μ q)).toNatClampNeg = 4 * q + mnb μ q := cl_nI (by omega)
    refine xj_aload_n E d_X10_bindRow_13 rfl ?_
    refine xj_geta E fl_X10_53 (by decide) rfl (by decide) rfl d_X10_bindRow_14 ?_
    refine xj_iconst (v := 4) E d_X10_bindRow_17 (by decide) ?_
    refine xj_iload_n E d_X10_bindRow_18 rfl ?_
    refine xj_imul E d_X10_bindRow_19 ?_
    refine xj_aload_n E d_X10_bindRow_20 rfl ?_
    refine xj_geta E fl_X10_50 (by decide) rfl (by decide) rfl d_X10_bindRow_21 ?_
    refine xj_iload_n E d_X10_bindRow_24 rfl ?_
    refine xj_iald E (by decide) hiq d_X10_bindRow_25 ?_
    refine xj_iadd E d_X10_bindRow_26 ?_
    refine xj_st (st' := [.inl (nI (4 * q + mnb μ q)), .inr (50, 0)]) (by rw [hcq, hR.1, ← ix4]) ?_
    refine xj_iload_n E d_X10_bindRow_27 rfl ?_
    refine xj_iast E (by decide) hin d_X10_bindRow_28 ?_
    refine xj_aload_n E d_X10_bindRow_29 rfl ?_
    refine xj_geta E fl_X10_56 (by decide) rfl (by decide) rfl d_X10_bindRow_30 ?_
    refine xj_iconst (v := 4) E d_X10_bindRow_33 (by decide) ?_
    refine xj_iload_n E d_X10_bindRow_34 rfl ?_
    refine xj_imul E d_X10_bindRow_35 ?_
    refine xj_aload_n E d_X10_bindRow_36 rfl ?_
    refine xj_geta E fl_X10_50 (by decide) rfl (by decide) rfl d_X10_bindRow_37 ?_
    refine xj_iload_n E d_X10_bindRow_40 rfl ?_
    refine xj_iald E (by decide) hiq d_X10_bindRow_41 ?_
    refine xj_iadd E d_X10_bindRow_42 ?_
    refine xj_st (st' := [.inl (nI (4 * q + mnb μ q)), .inr (51, 0)]) (by show ([.inl (4 * nI q + μ 49 0 (nI q).toNatClampNeg), .inr (51, 0)] : List XV) = _; rw [hcq, hR.1, ← ix4]) ?_
    refine xj_aload_n E d_X10_bindRow_43 rfl ?_
    refine xj_geta E fl_X10_7 (by decide) rfl (by decide) rfl d_X10_bindRow_44 ?_
    refine xj_iload_n E d_X10_bindRow_47 rfl ?_
    refine xj_zald E (by decide) hb d_X10_bindRow_48 ?_
    refine xj_if_eq (tgt := 56) E d_X10_bindRow_49 (by decide) (fun h49 => ?_) (fun h49 => ?_)
    · refine xj_iconst (v := 0) E d_X10_bindRow_56 (by decide) ?_
      refine xj_st (st' := [.inl (if μ 32 0 b.toNatClampNeg = 0 then 0 else v), .inl (nI (4 * q + mnb μ q)), .inr (51, 0)]) (by first | (rw [if_pos (show μ 32 0 b.toNatClampNeg = 0 from h49)]) | (rw [if_neg (show ¬ μ 32 0 b.toNatClampNeg = 0 from h49)])) ?_
      refine xj_iast E (by decide) hin d_X10_bindRow_57 ?_
      refine xj_aload_n E d_X10_bindRow_58 rfl ?_
      refine xj_geta E fl_X10_50 (by decide) rfl (by decide) rfl d_X10_bindRow_59 ?_
      refine xj_iload_n E d_X10_bindRow_62 rfl ?_
      refine xj_dup2 E d_X10_bindRow_63 ?_
      refine xj_iald E (by decide) hiq d_X10_bindRow_64 ?_
      refine xj_iconst (v := 1) E d_X10_bindRow_65 (by decide) ?_
      refine xj_iadd E d_X10_bindRow_66 ?_
      refine xj_iast E (by decide) hiq d_X10_bindRow_67 ?_
      refine xj_iconst (v := 0) E d_X10_bindRow_68 (by decide) ?_
      exact xj_iret E hr hlk d_X10_bindRow_69 (Or.inr ⟨hlt, rfl, by unfold addM; show mset (mset (mset μ 50 0 (nI (4 * q + mnb μ q)).toNatClampNeg b) 51 0 (nI (4 * q + mnb μ q)).toNatClampNeg _) 49 0 (nI q).toNatClampNeg (μ 49 0 (nI q).toNatClampNeg + 1) = _; rw [hck, hcq, hR.1, nI_1]⟩)
    refine xj_iload_n E d_X10_bindRow_52 rfl ?_
    refine xj_goto (tgt := 57) E d_X10_bindRow_53 (by decide) ?_
    refine xj_st (st' := [.inl (if μ 32 0 b.toNatClampNeg = 0 then 0 else v), .inl (nI (4 * q + mnb μ q)), .inr (51, 0)]) (by first | (rw [if_pos (show μ 32 0 b.toNatClampNeg = 0 from h49)]) | (rw [if_neg (show ¬ μ 32 0 b.toNatClampNeg = 0 from h49)])) ?_
    refine xj_iast E (by decide) hin d_X10_bindRow_57 ?_
    refine xj_aload_n E d_X10_bindRow_58 rfl ?_
    refine xj_geta E fl_X10_50 (by decide) rfl (by decide) rfl d_X10_bindRow_59 ?_
    refine xj_iload_n E d_X10_bindRow_62 rfl ?_
    refine xj_dup2 E d_X10_bindRow_63 ?_
    refine xj_iald E (by decide) hiq d_X10_bindRow_64 ?_
    refine xj_iconst (v := 1) E d_X10_bindRow_65 (by decide) ?_
    refine xj_iadd E d_X10_bindRow_66 ?_
    refine xj_iast E (by decide) hiq d_X10_bindRow_67 ?_
    refine xj_iconst (v := 0) E d_X10_bindRow_68 (by decide) ?_
    exact xj_iret E hr hlk d_X10_bindRow_69 (Or.inr ⟨hlt, rfl, by unfold addM; show mset (mset (mset μ 50 0 (nI (4 * q + mnb μ q)).toNatClampNeg b) 51 0 (nI (4 * q + mnb μ q)).toNatClampNeg _) 49 0 (nI q).toNatClampNeg (μ 49 0 (nI q).toNatClampNeg + 1) = _; rw [hck, hcq, hR.1, nI_1]⟩)
  have he : mnb μ q = 4 := (nI_eq (b := 4) (by omega) (by omega)).mp h7
  refine xj_bipush (v := -5) E d_X10_bindRow_10 (by decide) ?_
  exact xj_iret E hr hlk d_X10_bindRow_12 (Or.inl ⟨he, rfl, rfl⟩)

set_option maxRecDepth 100000 in
set_option maxHeartbeats 4000000 in
/-- X10 bindInterceptor -/
theorem k_X10_bindInterceptor (l : Launch) (G : XG) (hI : XI G) (a b v : Int32) (n k : Nat) (μ : Mem) (ht : μ 24 0 1 = nI n) (hn : n ≤ 8) (hc : μ 24 0 7 = nI k) (hk : k ≤ 8) (hR : ∀ i, i < k → μ 49 0 i = nI (mnb μ i) ∧ mnb μ i ≤ 4) : XMet l G y_X10_bindInterceptor c_X10_bindInterceptor 4 (some .int) 1 [.inr (24, 0), .inl a, .inl b, .inl v] μ (fun r μ' => (¬ μ 24 0 0 = 0 ∧ r = some (.inl (-2)) ∧ μ' = μ) ∨ (μ 24 0 0 = 0 ∧ ¬ (inR a k ∧ inR b n) ∧ r = some (.inl (-3)) ∧ μ' = μ) ∨ (μ 24 0 0 = 0 ∧ ∃ i, i < k ∧ a = nI i ∧ inR b n ∧ ((mnb μ i = 4 ∧ r = some (.inl (-5)) ∧ μ' = μ) ∨ (mnb μ i < 4 ∧ r = some (.inl 0) ∧ μ' = addM μ i b v)))) := by
  refine xj_met (by decide) hI (Nat.le_of_ble_eq_true rfl) ?_
  intro p e s m args below meth c E hr hlk
  have E : XE G (xA G) RX10 c_X10_bindInterceptor 4 p s m args c := E
  refine xj_loc (L' := [some (.inr (24, 0)), some (.inl a), some (.inl b), some (.inl v)]) rfl ?_
  refine xj_aload_n E d_X10_bindInterceptor_0 rfl ?_
  refine xj_geti E fl_X10_92 (by decide) rfl (by decide) rfl d_X10_bindInterceptor_1 ?_
  refine xj_if_eq (tgt := 10) E d_X10_bindInterceptor_4 (by decide) (fun h4 => ?_) (fun h4 => ?_)
  · refine xj_iload_n E d_X10_bindInterceptor_10 rfl ?_
    refine xj_aload_n E d_X10_bindInterceptor_11 rfl ?_
    refine xj_geti E fl_X10_103 (by decide) rfl (by decide) rfl d_X10_bindInterceptor_12 ?_
    refine xj_iconst (v := 1) E d_X10_bindInterceptor_15 (by decide) ?_
    refine xj_isub E d_X10_bindInterceptor_16 ?_
    refine xj_callS E (k_X10_within l G hI a _ _) cw_X10_121 cs_X10_within rfl rfl ⟨by decide, by decide⟩ (Nat.le_of_ble_eq_true rfl) d_X10_bindInterceptor_17 ⟨Nat.zero_le _, Nat.zero_le _⟩ (fun r17 μ17 ho17 hp17 => ?_)
    obtain ⟨rfl, hm17⟩ := hp17
    refine xj_mem hm17 ?_
    refine xj_if_eq (tgt := 36) E d_X10_bindInterceptor_20 (by decide) (fun h20 => ?_) (fun h20 => ?_)
    · refine xj_bipush (v := -3) E d_X10_bindInterceptor_36 (by decide) ?_
      exact xj_iret E hr hlk d_X10_bindInterceptor_38 (by first | exact Or.inr (Or.inl ⟨h4, fun q => inV_n ht (by omega) h33 q.2, rfl, rfl⟩) | exact Or.inr (Or.inl ⟨h4, fun q => inV_n hc (by omega) h20 q.1, rfl, rfl⟩))
    refine xj_iload_n E d_X10_bindInterceptor_23 rfl ?_
    refine xj_aload_n E d_X10_bindInterceptor_24 rfl ?_
    refine xj_geti E fl_X10_96 (by decide) rfl (by decide) rfl d_X10_bindInterceptor_25 ?_
    refine xj_iconst (v := 1) E d_X10_bindInterceptor_28 (by decide) ?_
    refine xj_isub E d_X10_bindInterceptor_29 ?_
    refine xj_callS E (k_X10_within l G hI b _ _) cw_X10_121 cs_X10_within rfl rfl ⟨by decide, by decide⟩ (Nat.le_of_ble_eq_true rfl) d_X10_bindInterceptor_30 ⟨Nat.zero_le _, Nat.zero_le _⟩ (fun r30 μ30 ho30 hp30 => ?_)
    obtain ⟨rfl, hm30⟩ := hp30
    refine xj_mem hm30 ?_
    refine xj_if_ne (tgt := 39) E d_X10_bindInterceptor_33 (by decide) (fun h33 => ?_) (fun h33 => ?_)
    · have hb : inR b n := inV_y ht (by omega) h33
      obtain ⟨i, hi, rfl⟩ := inV_y hc (by omega) h20
      refine xj_aload_n E d_X10_bindInterceptor_39 rfl ?_
      refine xj_iload_n E d_X10_bindInterceptor_40 rfl ?_
      refine xj_iload_n E d_X10_bindInterceptor_41 rfl ?_
      refine xj_iload_n E d_X10_bindInterceptor_42 rfl ?_
      refine xj_callV E (k_X10_bindRow l G hI i b v _ (by omega) (hR i hi) (hb.in hn (by omega))) cw_X10_125 cv_X10_bindRow (by decide) rfl rfl rfl ⟨by decide, by decide⟩ (Nat.le_of_ble_eq_true rfl) d_X10_bindInterceptor_43 ⟨Nat.zero_le _, Nat.zero_le _⟩ (fun r43 μ43 ho43 hp43 => ?_)
      obtain ⟨x, rfl⟩ : ∃ x, r43 = some (.inl x) := by
        rcases hp43 with h | h
        · exact ⟨_, h.2.1⟩
        · exact ⟨_, h.2.1⟩
      refine xj_st (st' := [.inl x]) rfl ?_
      exact xj_iret E hr hlk d_X10_bindInterceptor_46 (Or.inr (Or.inr ⟨h4, i, hi, rfl, hb, hp43⟩))
    refine xj_bipush (v := -3) E d_X10_bindInterceptor_36 (by decide) ?_
    exact xj_iret E hr hlk d_X10_bindInterceptor_38 (by first | exact Or.inr (Or.inl ⟨h4, fun q => inV_n ht (by omega) h33 q.2, rfl, rfl⟩) | exact Or.inr (Or.inl ⟨h4, fun q => inV_n hc (by omega) h20 q.1, rfl, rfl⟩))
  refine xj_bipush (v := -2) E d_X10_bindInterceptor_7 (by decide) ?_
  exact xj_iret E hr hlk d_X10_bindInterceptor_9 (Or.inl ⟨h4, rfl, rfl⟩)

theorem row_s {j s : Nat} (hs : s < 5) : (if (0 : Int32) ≤ nI s - 1 then 12 + 4 * nI j + (nI s - 1) else 8 + nI j) = nI (rq (5 * j + s)) := by
  by_cases e : s = 0
  · subst e
    rw [m1_0, row_own]
    show _ = nI (rq (5 * j))
    rw [rq_own]
  · rw [nI_s1 (by omega), row_m (by omega)]
    rw [show 5 * j + s = 5 * j + 1 + (s - 1) by omega, rq_m (by omega)]
theorem le3 {y : Int32} : 3 < y ↔ 4 ≤ y := by
  rw [Int32.lt_iff_toInt_lt, Int32.le_iff_toInt_le, show (3 : Int32).toInt = 3 by decide, show (4 : Int32).toInt = 4 by decide]
  omega

set_option maxRecDepth 100000 in
set_option maxHeartbeats 4000000 in
/-- X10 bind -/
theorem k_X10_bind (l : Launch) (G : XG) (hI : XI G) (a y b v : Int32) (n k : Nat) (μ : Mem) (ht : μ 24 0 1 = nI n) (hn : n ≤ 8) (hc : μ 24 0 16 = nI k) (hk : k ≤ 4) (hR : ∀ q, q < 5 * k → μ 49 0 (rq q) = nI (mnb μ (rq q)) ∧ mnb μ (rq q) ≤ 4) : XMet l G y_X10_bind c_X10_bind 6 (some .int) 1 [.inr (24, 0), .inl a, .inl y, .inl b, .inl v] μ (fun r μ' => (¬ μ 24 0 0 = 0 ∧ r = some (.inl (-2)) ∧ μ' = μ) ∨ (μ 24 0 0 = 0 ∧ ¬ ((inR a k ∧ ¬ y < -1 ∧ ¬ 4 ≤ y) ∧ inR b n) ∧ r = some (.inl (-3)) ∧ μ' = μ) ∨ (μ 24 0 0 = 0 ∧ ∃ j u, j < k ∧ u < 5 ∧ a = nI j ∧ y = nI u - 1 ∧ inR b n ∧ ((mnb μ (rq (5 * j + u)) = 4 ∧ r = some (.inl (-5)) ∧ μ' = μ) ∨ (mnb μ (rq (5 * j + u)) < 4 ∧ r = some (.inl 0) ∧ μ' = addM μ (rq (5 * j + u)) b v)))) := by
  refine xj_met (by decide) hI (Nat.le_of_ble_eq_true rfl) ?_
  intro p e s m args below meth c E hr hlk
  have E : XE G (xA G) RX10 c_X10_bind 6 p s m args c := E
  refine xj_loc (L' := [some (.inr (24, 0)), some (.inl a), some (.inl y), some (.inl b), some (.inl v), none]) rfl ?_
  refine xj_aload_n E d_X10_bind_0 rfl ?_
  refine xj_geti E fl_X10_92 (by decide) rfl (by decide) rfl d_X10_bind_1 ?_
  refine xj_if_eq (tgt := 10) E d_X10_bind_4 (by decide) (fun h4 => ?_) (fun h4 => ?_)
  · refine xj_iload_n E d_X10_bind_10 rfl ?_
    refine xj_aload_n E d_X10_bind_11 rfl ?_
    refine xj_geti E fl_X10_109 (by decide) rfl (by decide) rfl d_X10_bind_12 ?_
    refine xj_iconst (v := 1) E d_X10_bind_15 (by decide) ?_
    refine xj_isub E d_X10_bind_16 ?_
    refine xj_callS E (k_X10_within l G hI a _ _) cw_X10_121 cs_X10_within rfl rfl ⟨by decide, by decide⟩ (Nat.le_of_ble_eq_true rfl) d_X10_bind_17 ⟨Nat.zero_le _, Nat.zero_le _⟩ (fun r17 μ17 ho17 hp17 => ?_)
    obtain ⟨rfl, hm17⟩ := hp17
    refine xj_mem hm17 ?_
    refine xj_if_eq (tgt := 46) E d_X10_bind_20 (by decide) (fun h20 => ?_) (fun h20 => ?_)
    · refine xj_bipush (v := -3) E d_X10_bind_46 (by decide) ?_
      exact xj_iret E hr hlk d_X10_bind_48 (by first | exact Or.inr (Or.inl ⟨h4, fun q => inV_n ht (by omega) h43 q.2, rfl, rfl⟩) | exact Or.inr (Or.inl ⟨h4, fun q => q.1.2.2 (le3.mp h30), rfl, rfl⟩) | exact Or.inr (Or.inl ⟨h4, fun q => q.1.2.1 h25, rfl, rfl⟩) | exact Or.inr (Or.inl ⟨h4, fun q => inV_n hc (by omega) h20 q.1.1, rfl, rfl⟩))
    refine xj_iload_n E d_X10_bind_23 rfl ?_
    refine xj_iconst (v := -1) E d_X10_bind_24 (by decide) ?_
    refine xj_icmp_lt (tgt := 46) E d_X10_bind_25 (by decide) (fun h25 => ?_) (fun h25 => ?_)
    · refine xj_bipush (v := -3) E d_X10_bind_46 (by decide) ?_
      exact xj_iret E hr hlk d_X10_bind_48 (by first | exact Or.inr (Or.inl ⟨h4, fun q => inV_n ht (by omega) h43 q.2, rfl, rfl⟩) | exact Or.inr (Or.inl ⟨h4, fun q => q.1.2.2 (le3.mp h30), rfl, rfl⟩) | exact Or.inr (Or.inl ⟨h4, fun q => q.1.2.1 h25, rfl, rfl⟩) | exact Or.inr (Or.inl ⟨h4, fun q => inV_n hc (by omega) h20 q.1.1, rfl, rfl⟩))
    refine xj_iload_n E d_X10_bind_28 rfl ?_
    refine xj_iconst (v := 3) E d_X10_bind_29 (by decide) ?_
    refine xj_icmp_gt (tgt := 46) E d_X10_bind_30 (by decide) (fun h30 => ?_) (fun h30 => ?_)
    · refine xj_bipush (v := -3) E d_X10_bind_46 (by decide) ?_
      exact xj_iret E hr hlk d_X10_bind_48 (by first | exact Or.inr (Or.inl ⟨h4, fun q => inV_n ht (by omega) h43 q.2, rfl, rfl⟩) | exact Or.inr (Or.inl ⟨h4, fun q => q.1.2.2 (le3.mp h30), rfl, rfl⟩) | exact Or.inr (Or.inl ⟨h4, fun q => q.1.2.1 h25, rfl, rfl⟩) | exact Or.inr (Or.inl ⟨h4, fun q => inV_n hc (by omega) h20 q.1.1, rfl, rfl⟩))
    refine xj_iload_n E d_X10_bind_33 rfl ?_
    refine xj_aload_n E d_X10_bind_34 rfl ?_
    refine xj_geti E fl_X10_96 (by decide) rfl (by decide) rfl d_X10_bind_35 ?_
    refine xj_iconst (v := 1) E d_X10_bind_38 (by decide) ?_
    refine xj_isub E d_X10_bind_39 ?_
    refine xj_callS E (k_X10_within l G hI b _ _) cw_X10_121 cs_X10_within rfl rfl ⟨by decide, by decide⟩ (Nat.le_of_ble_eq_true rfl) d_X10_bind_40 ⟨Nat.zero_le _, Nat.zero_le _⟩ (fun r40 μ40 ho40 hp40 => ?_)
    obtain ⟨rfl, hm40⟩ := hp40
    refine xj_mem hm40 ?_
    refine xj_if_ne (tgt := 49) E d_X10_bind_43 (by decide) (fun h43 => ?_) (fun h43 => ?_)
    · have hb : inR b n := inV_y ht (by omega) h43
      obtain ⟨j, hj, rfl⟩ := inV_y hc (by omega) h20
      obtain ⟨u, hu, rfl⟩ := five h25 (fun q => h30 (le3.mpr q))
      refine xj_iload_n E d_X10_bind_49 rfl ?_
      refine xj_iload_n E d_X10_bind_50 rfl ?_
      refine xj_callS E (k_X10_rowOf l G hI (nI j) (nI u - 1) _) cw_X10_129 cs_X10_rowOf rfl rfl ⟨by decide, by decide⟩ (Nat.le_of_ble_eq_true rfl) d_X10_bind_51 ⟨Nat.zero_le _, Nat.zero_le _⟩ (fun r51 μ51 ho51 hp51 => ?_)
      obtain ⟨rfl, hm51⟩ := hp51
      refine xj_mem hm51 ?_
      refine xj_st (st' := [.inl (nI (rq (5 * j + u)))]) (by rw [row_s hu]; try rfl) ?_
      refine xj_istore E d_X10_bind_54 (by decide) rfl ?_
      refine xj_aload_n E d_X10_bind_56 rfl ?_
      refine xj_iload E d_X10_bind_57 rfl ?_
      refine xj_iload_n E d_X10_bind_59 rfl ?_
      refine xj_iload E d_X10_bind_60 rfl ?_
      refine xj_callV E (k_X10_bindRow l G hI (rq (5 * j + u)) b v _ (rq_lt (by omega)) (hR (5 * j + u) (by omega)) (hb.in hn (by omega))) cw_X10_125 cv_X10_bindRow (by decide) rfl rfl rfl ⟨by decide, by decide⟩ (Nat.le_of_ble_eq_true rfl) d_X10_bind_62 ⟨Nat.zero_le _, Nat.zero_le _⟩ (fun r62 μ62 ho62 hp62 => ?_)
      obtain ⟨x, rfl⟩ : ∃ x, r62 = some (.inl x) := by
        rcases hp62 with h | h
        · exact ⟨_, h.2.1⟩
        · exact ⟨_, h.2.1⟩
      refine xj_st (st' := [.inl x]) rfl ?_
      exact xj_iret E hr hlk d_X10_bind_65 (Or.inr (Or.inr ⟨h4, j, u, hj, hu, rfl, rfl, hb, hp62⟩))
    refine xj_bipush (v := -3) E d_X10_bind_46 (by decide) ?_
    exact xj_iret E hr hlk d_X10_bind_48 (by first | exact Or.inr (Or.inl ⟨h4, fun q => inV_n ht (by omega) h43 q.2, rfl, rfl⟩) | exact Or.inr (Or.inl ⟨h4, fun q => q.1.2.2 (le3.mp h30), rfl, rfl⟩) | exact Or.inr (Or.inl ⟨h4, fun q => q.1.2.1 h25, rfl, rfl⟩) | exact Or.inr (Or.inl ⟨h4, fun q => inV_n hc (by omega) h20 q.1.1, rfl, rfl⟩))
  refine xj_bipush (v := -2) E d_X10_bind_7 (by decide) ?_
  exact xj_iret E hr hlk d_X10_bind_9 (Or.inl ⟨h4, rfl, rfl⟩)

set_option maxRecDepth 100000 in
set_option maxHeartbeats 4000000 in
/-- X10 list -/
theorem k_X10_list (l : Launch) (G : XG) (hI : XI G) (a y b : Int32) (n k : Nat) (μ : Mem) (ht : μ 24 0 7 = nI n) (hn : n ≤ 8) (hc : μ 24 0 16 = nI k) (hk : k ≤ 4) (hR : ∀ q, q < 5 * k → μ 52 0 (rq q) = nI (mnl μ (rq q)) ∧ mnl μ (rq q) ≤ 4) : XMet l G y_X10_list c_X10_list 5 (some .int) 1 [.inr (24, 0), .inl a, .inl y, .inl b] μ (fun r μ' => (¬ μ 24 0 0 = 0 ∧ r = some (.inl (-2)) ∧ μ' = μ) ∨ (μ 24 0 0 = 0 ∧ ¬ ((inR a k ∧ ¬ y < -1 ∧ ¬ 4 ≤ y) ∧ inR b n) ∧ r = some (.inl (-3)) ∧ μ' = μ) ∨ (μ 24 0 0 = 0 ∧ ∃ j u, j < k ∧ u < 5 ∧ a = nI j ∧ y = nI u - 1 ∧ inR b n ∧ ((mnl μ (rq (5 * j + u)) = 4 ∧ r = some (.inl (-5)) ∧ μ' = μ) ∨ (mnl μ (rq (5 * j + u)) < 4 ∧ r = some (.inl 0) ∧ μ' = mset (mset μ 53 0 (4 * (rq (5 * j + u)) + mnl μ (rq (5 * j + u))) b) 52 0 (rq (5 * j + u)) (nI (mnl μ (rq (5 * j + u)) + 1)))))) := by
  refine xj_met (by decide) hI (Nat.le_of_ble_eq_true rfl) ?_
  intro p e s m args below meth c E hr hlk
  have E : XE G (xA G) RX10 c_X10_list 5 p s m args c := E
  refine xj_loc (L' := [some (.inr (24, 0)), some (.inl a), some (.inl y), some (.inl b), none]) rfl ?_
  refine xj_aload_n E d_X10_list_0 rfl ?_
  refine xj_geti E fl_X10_92 (by decide) rfl (by decide) rfl d_X10_list_1 ?_
  refine xj_if_eq (tgt := 10) E d_X10_list_4 (by decide) (fun h4 => ?_) (fun h4 => ?_)
  · refine xj_iload_n E d_X10_list_10 rfl ?_
    refine xj_aload_n E d_X10_list_11 rfl ?_
    refine xj_geti E fl_X10_109 (by decide) rfl (by decide) rfl d_X10_list_12 ?_
    refine xj_iconst (v := 1) E d_X10_list_15 (by decide) ?_
    refine xj_isub E d_X10_list_16 ?_
    refine xj_callS E (k_X10_within l G hI a _ _) cw_X10_121 cs_X10_within rfl rfl ⟨by decide, by decide⟩ (Nat.le_of_ble_eq_true rfl) d_X10_list_17 ⟨Nat.zero_le _, Nat.zero_le _⟩ (fun r17 μ17 ho17 hp17 => ?_)
    obtain ⟨rfl, hm17⟩ := hp17
    refine xj_mem hm17 ?_
    refine xj_if_eq (tgt := 46) E d_X10_list_20 (by decide) (fun h20 => ?_) (fun h20 => ?_)
    · refine xj_bipush (v := -3) E d_X10_list_46 (by decide) ?_
      exact xj_iret E hr hlk d_X10_list_48 (by first | exact Or.inr (Or.inl ⟨h4, fun q => inV_n ht (by omega) h43 q.2, rfl, rfl⟩) | exact Or.inr (Or.inl ⟨h4, fun q => q.1.2.2 (le3.mp h30), rfl, rfl⟩) | exact Or.inr (Or.inl ⟨h4, fun q => q.1.2.1 h25, rfl, rfl⟩) | exact Or.inr (Or.inl ⟨h4, fun q => inV_n hc (by omega) h20 q.1.1, rfl, rfl⟩))
    refine xj_iload_n E d_X10_list_23 rfl ?_
    refine xj_iconst (v := -1) E d_X10_list_24 (by decide) ?_
    refine xj_icmp_lt (tgt := 46) E d_X10_list_25 (by decide) (fun h25 => ?_) (fun h25 => ?_)
    · refine xj_bipush (v := -3) E d_X10_list_46 (by decide) ?_
      exact xj_iret E hr hlk d_X10_list_48 (by first | exact Or.inr (Or.inl ⟨h4, fun q => inV_n ht (by omega) h43 q.2, rfl, rfl⟩) | exact Or.inr (Or.inl ⟨h4, fun q => q.1.2.2 (le3.mp h30), rfl, rfl⟩) | exact Or.inr (Or.inl ⟨h4, fun q => q.1.2.1 h25, rfl, rfl⟩) | exact Or.inr (Or.inl ⟨h4, fun q => inV_n hc (by omega) h20 q.1.1, rfl, rfl⟩))
    refine xj_iload_n E d_X10_list_28 rfl ?_
    refine xj_iconst (v := 3) E d_X10_list_29 (by decide) ?_
    refine xj_icmp_gt (tgt := 46) E d_X10_list_30 (by decide) (fun h30 => ?_) (fun h30 => ?_)
    · refine xj_bipush (v := -3) E d_X10_list_46 (by decide) ?_
      exact xj_iret E hr hlk d_X10_list_48 (by first | exact Or.inr (Or.inl ⟨h4, fun q => inV_n ht (by omega) h43 q.2, rfl, rfl⟩) | exact Or.inr (Or.inl ⟨h4, fun q => q.1.2.2 (le3.mp h30), rfl, rfl⟩) | exact Or.inr (Or.inl ⟨h4, fun q => q.1.2.1 h25, rfl, rfl⟩) | exact Or.inr (Or.inl ⟨h4, fun q => inV_n hc (by omega) h20 q.1.1, rfl, rfl⟩))
    refine xj_iload_n E d_X10_list_33 rfl ?_
    refine xj_aload_n E d_X10_list_34 rfl ?_
    refine xj_geti E fl_X10_103 (by decide) rfl (by decide) rfl d_X10_list_35 ?_
    refine xj_iconst (v := 1) E d_X10_list_38 (by decide) ?_
    refine xj_isub E d_X10_list_39 ?_
    refine xj_callS E (k_X10_within l G hI b _ _) cw_X10_121 cs_X10_within rfl rfl ⟨by decide, by decide⟩ (Nat.le_of_ble_eq_true rfl) d_X10_list_40 ⟨Nat.zero_le _, Nat.zero_le _⟩ (fun r40 μ40 ho40 hp40 => ?_)
    obtain ⟨rfl, hm40⟩ := hp40
    refine xj_mem hm40 ?_
    refine xj_if_ne (tgt := 49) E d_X10_list_43 (by decide) (fun h43 => ?_) (fun h43 => ?_)
    · have hb : inR b n := inV_y ht (by omega) h43
      obtain ⟨j, hj, rfl⟩ := inV_y hc (by omega) h20
      obtain ⟨u, hu, rfl⟩ := five h25 (fun q => h30 (le3.mpr q))
      refine xj_iload_n E d_X10_list_49 rfl ?_
      refine xj_iload_n E d_X10_list_50 rfl ?_
      refine xj_callS E (k_X10_rowOf l G hI (nI j) (nI u - 1) _) cw_X10_129 cs_X10_rowOf rfl rfl ⟨by decide, by decide⟩ (Nat.le_of_ble_eq_true rfl) d_X10_list_51 ⟨Nat.zero_le _, Nat.zero_le _⟩ (fun r51 μ51 ho51 hp51 => ?_)
      obtain ⟨rfl, hm51⟩ := hp51
      refine xj_mem hm51 ?_
      refine xj_st (st' := [.inl (nI (rq (5 * j + u)))]) (by rw [row_s hu]; try rfl) ?_
      have hr28 := rq_lt (q := 5 * j + u) (by omega)
      have hR1 := hR (5 * j + u) (by omega)
      have hcq : (nI (rq (5 * j + u))).toNatClampNeg = (rq (5 * j + u)) := cl_nI (by omega)
      have hiq : vp_in (nI (rq (5 * j + u))) 28 := in_nI hr28 (by omega)
      refine xj_istore E d_X10_list_54 (by decide) rfl ?_
      refine xj_aload_n E d_X10_list_56 rfl ?_
      refine xj_geta E fl_X10_59 (by decide) rfl (by decide) rfl d_X10_list_57 ?_
      refine xj_iload E d_X10_list_60 rfl ?_
      refine xj_iald E (by decide) hiq d_X10_list_62 ?_
      refine xj_st (st' := [.inl (nI (mnl μ (rq (5 * j + u))))]) (by rw [hcq, hR1.1]) ?_
      refine xj_iconst (v := 4) E d_X10_list_63 (by decide) ?_
      refine xj_icmp_ne (tgt := 70) E d_X10_list_64 (by decide) (fun h64 => ?_) (fun h64 => ?_)
      · have hne : ¬ mnl μ (rq (5 * j + u)) = 4 := fun z => h64 (by rw [z]; rfl)
        have hlt : mnl μ (rq (5 * j + u)) < 4 := by omega
        have hin : vp_in (nI (4 * (rq (5 * j + u)) + mnl μ (rq (5 * j + u)))) 112 := in_nI (by omega) (by omega)
        have hck : (nI (4 * (rq (5 * j + u)) + mnl μ (rq (5 * j + u)))).toNatClampNeg = 4 * (rq (5 * j + u)) + mnl μ (rq (5 * j + u)) := cl_nI (by omega)
        refine xj_aload_n E d_X10_list_70 rfl ?_
        refine xj_geta E fl_X10_62 (by decide) rfl (by decide) rfl d_X10_list_71 ?_
        refine xj_iconst (v := 4) E d_X10_list_74 (by decide) ?_
        refine xj_iload E d_X10_list_75 rfl ?_
        refine xj_imul E d_X10_list_77 ?_
        refine xj_aload_n E d_X10_list_78 rfl ?_
        refine xj_geta E fl_X10_59 (by decide) rfl (by decide) rfl d_X10_list_79 ?_
        refine xj_iload E d_X10_list_82 rfl ?_
        refine xj_iald E (by decide) hiq d_X10_list_84 ?_
        refine xj_iadd E d_X10_list_85 ?_
        refine xj_st (st' := [.inl (nI (4 * (rq (5 * j + u)) + mnl μ (rq (5 * j + u)))), .inr (53, 0)]) (by rw [hcq, hR1.1, ← ix4]) ?_
        refine xj_iload_n E d_X10_list_86 rfl ?_
        refine xj_iast E (by decide) hin d_X10_list_87 ?_
        refine xj_aload_n E d_X10_list_88 rfl ?_
        refine xj_geta E fl_X10_59 (by decide) rfl (by decide) rfl d_X10_list_89 ?_
        refine xj_iload E d_X10_list_92 rfl ?_
        refine xj_dup2 E d_X10_list_94 ?_
        refine xj_iald E (by decide) hiq d_X10_list_95 ?_
        refine xj_iconst (v := 1) E d_X10_list_96 (by decide) ?_
        refine xj_iadd E d_X10_list_97 ?_
        refine xj_iast E (by decide) hiq d_X10_list_98 ?_
        refine xj_iconst (v := 0) E d_X10_list_99 (by decide) ?_
        exact xj_iret E hr hlk d_X10_list_100 (Or.inr (Or.inr ⟨h4, j, u, hj, hu, rfl, rfl, hb, Or.inr ⟨hlt, rfl, by show mset (mset μ 53 0 (nI (4 * (rq (5 * j + u)) + mnl μ (rq (5 * j + u)))).toNatClampNeg b) 52 0 (nI (rq (5 * j + u))).toNatClampNeg (μ 52 0 (nI (rq (5 * j + u))).toNatClampNeg + 1) = _; rw [hck, hcq, hR1.1, nI_1]⟩⟩))
      have he : mnl μ (rq (5 * j + u)) = 4 := (nI_eq (b := 4) (by omega) (by omega)).mp h64
      refine xj_bipush (v := -5) E d_X10_list_67 (by decide) ?_
      exact xj_iret E hr hlk d_X10_list_69 (Or.inr (Or.inr ⟨h4, j, u, hj, hu, rfl, rfl, hb, Or.inl ⟨he, rfl, rfl⟩⟩))
    refine xj_bipush (v := -3) E d_X10_list_46 (by decide) ?_
    exact xj_iret E hr hlk d_X10_list_48 (by first | exact Or.inr (Or.inl ⟨h4, fun q => inV_n ht (by omega) h43 q.2, rfl, rfl⟩) | exact Or.inr (Or.inl ⟨h4, fun q => q.1.2.2 (le3.mp h30), rfl, rfl⟩) | exact Or.inr (Or.inl ⟨h4, fun q => q.1.2.1 h25, rfl, rfl⟩) | exact Or.inr (Or.inl ⟨h4, fun q => inV_n hc (by omega) h20 q.1.1, rfl, rfl⟩))
  refine xj_bipush (v := -2) E d_X10_list_7 (by decide) ?_
  exact xj_iret E hr hlk d_X10_list_9 (Or.inl ⟨h4, rfl, rfl⟩)

set_option maxRecDepth 100000 in
set_option maxHeartbeats 4000000 in
/-- X10 flags -/
theorem k_X10_flags (l : Launch) (G : XG) (hI : XI G) (a y b : Int32) (k : Nat) (μ : Mem) (hc : μ 24 0 16 = nI k) (hk : k ≤ 4) : XMet l G y_X10_flags c_X10_flags 4 (some .int) 1 [.inr (24, 0), .inl a, .inl y, .inl b] μ (fun r μ' => (¬ μ 24 0 0 = 0 ∧ r = some (.inl (-2)) ∧ μ' = μ) ∨ (μ 24 0 0 = 0 ∧ ¬ (inR a k ∧ inR y 4) ∧ r = some (.inl (-3)) ∧ μ' = μ) ∨ (μ 24 0 0 = 0 ∧ (inR a k ∧ inR y 4) ∧ ¬ inR b 8 ∧ r = some (.inl (-4)) ∧ μ' = μ) ∨ (μ 24 0 0 = 0 ∧ ∃ j u, j < k ∧ u < 4 ∧ a = nI j ∧ y = nI u ∧ inR b 8 ∧ r = some (.inl 0) ∧ μ' = mset μ 48 0 (4 * j + u) b)) := by
  refine xj_met (by decide) hI (Nat.le_of_ble_eq_true rfl) ?_
  intro p e s m args below meth c E hr hlk
  have E : XE G (xA G) RX10 c_X10_flags 4 p s m args c := E
  refine xj_loc (L' := [some (.inr (24, 0)), some (.inl a), some (.inl y), some (.inl b)]) rfl ?_
  refine xj_aload_n E d_X10_flags_0 rfl ?_
  refine xj_geti E fl_X10_92 (by decide) rfl (by decide) rfl d_X10_flags_1 ?_
  refine xj_if_eq (tgt := 10) E d_X10_flags_4 (by decide) (fun h4 => ?_) (fun h4 => ?_)
  · refine xj_iload_n E d_X10_flags_10 rfl ?_
    refine xj_aload_n E d_X10_flags_11 rfl ?_
    refine xj_geti E fl_X10_109 (by decide) rfl (by decide) rfl d_X10_flags_12 ?_
    refine xj_iconst (v := 1) E d_X10_flags_15 (by decide) ?_
    refine xj_isub E d_X10_flags_16 ?_
    refine xj_callS E (k_X10_within l G hI a _ _) cw_X10_121 cs_X10_within rfl rfl ⟨by decide, by decide⟩ (Nat.le_of_ble_eq_true rfl) d_X10_flags_17 ⟨Nat.zero_le _, Nat.zero_le _⟩ (fun r17 μ17 ho17 hp17 => ?_)
    obtain ⟨rfl, hm17⟩ := hp17
    refine xj_mem hm17 ?_
    refine xj_if_eq (tgt := 31) E d_X10_flags_20 (by decide) (fun h20 => ?_) (fun h20 => ?_)
    · refine xj_bipush (v := -3) E d_X10_flags_31 (by decide) ?_
      exact xj_iret E hr hlk d_X10_flags_33 (by first | exact Or.inr (Or.inl ⟨h4, fun q => inW_n 3 rfl (by omega) h28 q.2, rfl, rfl⟩) | exact Or.inr (Or.inl ⟨h4, fun q => inV_n hc (by omega) h20 q.1, rfl, rfl⟩))
    refine xj_iload_n E d_X10_flags_23 rfl ?_
    refine xj_iconst (v := 3) E d_X10_flags_24 (by decide) ?_
    refine xj_callS E (k_X10_within l G hI y 3 _) cw_X10_121 cs_X10_within rfl rfl ⟨by decide, by decide⟩ (Nat.le_of_ble_eq_true rfl) d_X10_flags_25 ⟨Nat.zero_le _, Nat.zero_le _⟩ (fun r25 μ25 ho25 hp25 => ?_)
    obtain ⟨rfl, hm25⟩ := hp25
    refine xj_mem hm25 ?_
    refine xj_if_ne (tgt := 34) E d_X10_flags_28 (by decide) (fun h28 => ?_) (fun h28 => ?_)
    · have hA : inR a k := inV_y hc (by omega) h20
      have hY : inR y 4 := inW_y 3 rfl (by omega) h28
      refine xj_iload_n E d_X10_flags_34 rfl ?_
      refine xj_bipush (v := 7) E d_X10_flags_35 (by decide) ?_
      refine xj_callS E (k_X10_within l G hI b 7 _) cw_X10_121 cs_X10_within rfl rfl ⟨by decide, by decide⟩ (Nat.le_of_ble_eq_true rfl) d_X10_flags_37 ⟨Nat.zero_le _, Nat.zero_le _⟩ (fun r37 μ37 ho37 hp37 => ?_)
      obtain ⟨rfl, hm37⟩ := hp37
      refine xj_mem hm37 ?_
      refine xj_if_ne (tgt := 46) E d_X10_flags_40 (by decide) (fun h40 => ?_) (fun h40 => ?_)
      · have hB : inR b 8 := inW_y 7 rfl (by omega) h40
        obtain ⟨j, hj, rfl⟩ := hA
        obtain ⟨u, hu, rfl⟩ := hY
        refine xj_aload_n E d_X10_flags_46 rfl ?_
        refine xj_geta E fl_X10_47 (by decide) rfl (by decide) rfl d_X10_flags_47 ?_
        refine xj_iconst (v := 4) E d_X10_flags_50 (by decide) ?_
        refine xj_iload_n E d_X10_flags_51 rfl ?_
        refine xj_imul E d_X10_flags_52 ?_
        refine xj_iload_n E d_X10_flags_53 rfl ?_
        refine xj_iadd E d_X10_flags_54 ?_
        refine xj_st (st' := [.inl (nI (4 * j + u)), .inr (48, 0)]) (by rw [← ix4]; try rfl) ?_
        refine xj_iload_n E d_X10_flags_55 rfl ?_
        refine xj_iast E (by decide) (show vp_in (nI (4 * j + u)) 16 from in_nI (by omega) (by omega)) d_X10_flags_56 ?_
        refine xj_iconst (v := 0) E d_X10_flags_57 (by decide) ?_
        exact xj_iret E hr hlk d_X10_flags_58 (Or.inr (Or.inr (Or.inr ⟨h4, j, u, hj, hu, rfl, rfl, hB, rfl, by rw [cl_nI (by omega)]⟩)))
      refine xj_bipush (v := -4) E d_X10_flags_43 (by decide) ?_
      exact xj_iret E hr hlk d_X10_flags_45 (Or.inr (Or.inr (Or.inl ⟨h4, ⟨hA, hY⟩, inW_n 7 rfl (by omega) h40, rfl, rfl⟩)))
    refine xj_bipush (v := -3) E d_X10_flags_31 (by decide) ?_
    exact xj_iret E hr hlk d_X10_flags_33 (by first | exact Or.inr (Or.inl ⟨h4, fun q => inW_n 3 rfl (by omega) h28 q.2, rfl, rfl⟩) | exact Or.inr (Or.inl ⟨h4, fun q => inV_n hc (by omega) h20 q.1, rfl, rfl⟩))
  refine xj_bipush (v := -2) E d_X10_flags_7 (by decide) ?_
  exact xj_iret E hr hlk d_X10_flags_9 (Or.inl ⟨h4, rfl, rfl⟩)

set_option maxRecDepth 100000 in
set_option maxHeartbeats 4000000 in
/-- X10 result -/
theorem k_X10_result (l : Launch) (G : XG) (hI : XI G)  (μ : Mem)  : XMet l G y_X10_result c_X10_result 1 (some .int) 0 [.inr (24, 0)] μ (fun r μ' => r = some (.inl (μ 24 0 37)) ∧ μ' = μ) := by
  refine xj_met (by decide) hI (Nat.le_of_ble_eq_true rfl) ?_
  intro p e s m args below meth c E hr hlk
  have E : XE G (xA G) RX10 c_X10_result 1 p s m args c := E
  refine xj_loc (L' := [some (.inr (24, 0))]) rfl ?_
  refine xj_aload_n E d_X10_result_0 rfl ?_
  refine xj_geti E fl_X10_115 (by decide) rfl (by decide) rfl d_X10_result_1 ?_
  exact xj_iret E hr hlk d_X10_result_4 (⟨rfl, rfl⟩)

set_option maxRecDepth 100000 in
set_option maxHeartbeats 4000000 in
/-- X10 error -/
theorem k_X10_error (l : Launch) (G : XG) (hI : XI G)  (μ : Mem)  : XMet l G y_X10_error c_X10_error 1 (some .int) 0 [.inr (24, 0)] μ (fun r μ' => r = some (.inl (μ 24 0 38)) ∧ μ' = μ) := by
  refine xj_met (by decide) hI (Nat.le_of_ble_eq_true rfl) ?_
  intro p e s m args below meth c E hr hlk
  have E : XE G (xA G) RX10 c_X10_error 1 p s m args c := E
  refine xj_loc (L' := [some (.inr (24, 0))]) rfl ?_
  refine xj_aload_n E d_X10_error_0 rfl ?_
  refine xj_geti E fl_X10_118 (by decide) rfl (by decide) rfl d_X10_error_1 ?_
  exact xj_iret E hr hlk d_X10_error_4 (⟨rfl, rfl⟩)

set_option maxRecDepth 100000 in
set_option maxHeartbeats 4000000 in
/-- X10 log -/
theorem k_X10_log (l : Launch) (G : XG) (hI : XI G) (b : Int32) (n : Nat) (μ : Mem) (hn : n ≤ 64) (hl : μ 24 0 35 = nI n) : XMet l G y_X10_log c_X10_log 2 (some .int) 1 [.inr (24, 0), .inl b] μ (fun r μ' => μ' = μ ∧ ((¬ inR b n ∧ r = some (.inl (-3))) ∨ ∃ i, i < n ∧ b = nI i ∧ r = some (.inl (μ 66 0 i)))) := by
  refine xj_met (by decide) hI (Nat.le_of_ble_eq_true rfl) ?_
  intro p e s m args below meth c E hr hlk
  have E : XE G (xA G) RX10 c_X10_log 2 p s m args c := E
  refine xj_loc (L' := [some (.inr (24, 0)), some (.inl b)]) rfl ?_
  refine xj_iload_n E d_X10_log_0 rfl ?_
  refine xj_aload_n E d_X10_log_1 rfl ?_
  refine xj_geti E fl_X10_112 (by decide) rfl (by decide) rfl d_X10_log_2 ?_
  refine xj_iconst (v := 1) E d_X10_log_5 (by decide) ?_
  refine xj_isub E d_X10_log_6 ?_
  refine xj_callS E (k_X10_within l G hI b _ _) cw_X10_121 cs_X10_within rfl rfl ⟨by decide, by decide⟩ (Nat.le_of_ble_eq_true rfl) d_X10_log_7 ⟨Nat.zero_le _, Nat.zero_le _⟩ (fun r7 μ7 ho7 hp7 => ?_)
  obtain ⟨rfl, hm7⟩ := hp7
  refine xj_mem hm7 ?_
  refine xj_if_eq (tgt := 22) E d_X10_log_10 (by decide) (fun h10 => ?_) (fun h10 => ?_)
  · refine xj_bipush (v := -3) E d_X10_log_22 (by decide) ?_
    exact xj_iret E hr hlk d_X10_log_24 (by first | exact ⟨rfl, Or.inl ⟨inV_n hl (by omega) h10, rfl⟩⟩ | exact ⟨rfl, Or.inr ⟨i, hi, rfl, rfl⟩⟩)
  obtain ⟨i, hi, rfl⟩ := inV_y hl (by omega) h10
  refine xj_aload_n E d_X10_log_13 rfl ?_
  refine xj_geta E fl_X10_89 (by decide) rfl (by decide) rfl d_X10_log_14 ?_
  refine xj_iload_n E d_X10_log_17 rfl ?_
  refine xj_iald E (by decide) (show vp_in (nI i) 64 from in_nI (by omega) (by omega)) d_X10_log_18 ?_
  refine xj_st (st' := [.inl (μ 66 0 i)]) (by rw [cl_nI (by omega)]; try rfl) ?_
  refine xj_goto (tgt := 24) E d_X10_log_19 (by decide) ?_
  exact xj_iret E hr hlk d_X10_log_24 (by first | exact ⟨rfl, Or.inl ⟨inV_n hl (by omega) h10, rfl⟩⟩ | exact ⟨rfl, Or.inr ⟨i, hi, rfl, rfl⟩⟩)
