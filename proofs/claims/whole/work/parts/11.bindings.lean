theorem nI_inc (k : Nat) : nI k + Int32.ofInt 1 = nI (k + 1) := nI_1 k
theorem lt31 {k n : Nat} (h : k ≤ n) (hn : n ≤ 1000) : k < 2 ^ 31 := by omega
theorem cl_nI {k : Nat} (h : k ≤ 1000) : (nI k).toNatClampNeg = k := nI_clamp (by omega)
theorem in_nI {k n : Nat} (h : k < n) (hn : n ≤ 1000) : vp_in (nI k) n := vp_in_nI h (by omega)
theorem ge_nI {a b : Nat} (h : nI a ≤ nI b) (ha : a ≤ 1000) (hb : b ≤ 1000) : a ≤ b := (nI_leI (by omega) (by omega)).mp h
theorem ng_nI {a b : Nat} (h : ¬ nI a ≤ nI b) (ha : a ≤ 1000) (hb : b ≤ 1000) : b < a := Nat.not_le.mp fun q => h ((nI_leI (by omega) (by omega)).mpr q)

theorem in_lt {x : Int32} {n : Nat} (h0 : ¬ x < 0) (h : x < nI n) (hn : n ≤ 1000) : vp_in x n := by
  obtain ⟨j, hj, rfl⟩ := nI_of h0
  exact vp_in_nI ((nI_ltI hj (by omega)).mp h) (by omega)

set_option maxRecDepth 100000 in
set_option maxHeartbeats 4000000 in
/-- X1 isFull -/
theorem k_X1_isFull (l : Launch) (G : XG) (hI : XI G) (b : Nat) (μ : Mem)  : XMet l G y_X1_isFull c_X1_isFull 1 (some .boolean) 0 [.inr (4, b)] μ (fun r μ' => r = some (.inl (if μ 4 b 0 < nI (xln 5 b) then 0 else 1)) ∧ μ' = μ) := by
  refine xj_met (by decide) hI (Nat.le_of_ble_eq_true rfl) ?_
  intro p e s m args below meth c E hr hlk
  have E : XE G (xA G) RX1 c_X1_isFull 1 p s m args c := E
  refine xj_loc (L' := [some (.inr (4, b))]) rfl ?_
  refine xj_aload_n E d_X1_isFull_0 rfl ?_
  refine xj_geti E fl_X1_16 (by decide) rfl (by decide) rfl d_X1_isFull_1 ?_
  refine xj_aload_n E d_X1_isFull_4 rfl ?_
  refine xj_geta E fl_X1_7 (by decide) rfl (by decide) rfl d_X1_isFull_5 ?_
  refine xj_len (n := nI (xln 5 b)) E (by decide) rfl d_X1_isFull_8 ?_
  refine xj_icmp_lt (tgt := 16) E d_X1_isFull_9 (by decide) (fun h9 => ?_) (fun h9 => ?_)
  · refine xj_iconst (v := 0) E d_X1_isFull_16 (by decide) ?_
    exact xj_zret E hr hlk (by decide) d_X1_isFull_17 (by simp [h9])
  refine xj_iconst (v := 1) E d_X1_isFull_12 (by decide) ?_
  refine xj_goto (tgt := 17) E d_X1_isFull_13 (by decide) ?_
  exact xj_zret E hr hlk (by decide) d_X1_isFull_17 (by simp [h9])

set_option maxRecDepth 100000 in
set_option maxHeartbeats 4000000 in
/-- X1 add -/
theorem k_X1_add (l : Launch) (G : XG) (hI : XI G) (b : Nat)  (t v : Int32) (μ : Mem) (h0 : ¬ μ 4 b 0 < 0) : XMet l G y_X1_add c_X1_add 3 none 1 [.inr (4, b), .inl t, .inl v] μ (fun r μ' => r = none ∧ μ' = if μ 4 b 0 < nI (xln 5 b) then mset (mset (mset μ 5 b (μ 4 b 0).toNatClampNeg t) 6 b (μ 4 b 0).toNatClampNeg v) 4 b 0 (μ 4 b 0 + 1) else μ) := by
  refine xj_met (by decide) hI (Nat.le_of_ble_eq_true rfl) ?_
  intro p e s m args below meth c E hr hlk
  have E : XE G (xA G) RX1 c_X1_add 3 p s m args c := E
  refine xj_loc (L' := [some (.inr (4, b)), some (.inl t), some (.inl v)]) rfl ?_
  refine xj_aload_n E d_X1_add_0 rfl ?_
  refine xj_callV E (k_X1_isFull l G hI b μ) cw_X1_20 cv_X1_isFull (by decide) rfl rfl rfl ⟨by decide, by decide⟩ (Nat.le_of_ble_eq_true rfl) d_X1_add_1 ⟨by decide, by decide⟩ (fun r1 μ1 ho1 hp1 => ?_)
  obtain ⟨rfl, rfl⟩ := hp1
  refine xj_st (st' := [.inl (if μ1 4 b 0 < nI (xln 5 b) then 0 else 1)]) rfl ?_
  refine xj_if_eq (tgt := 8) E d_X1_add_4 (by decide) (fun h4 => ?_) (fun h4 => ?_)
  · have hlt : μ1 4 b 0 < nI (xln 5 b) := by
      apply Classical.byContradiction
      intro q
      rw [if_neg q] at h4
      exact i1_0 h4
    have hin : vp_in (μ1 4 b 0) (xln 5 b) := in_lt h0 hlt (by show (if b = 0 then 16 else 4) ≤ 1000; split <;> omega)
    refine xj_aload_n E d_X1_add_8 rfl ?_
    refine xj_geta E fl_X1_7 (by decide) rfl (by decide) rfl d_X1_add_9 ?_
    refine xj_aload_n E d_X1_add_12 rfl ?_
    refine xj_geti E fl_X1_16 (by decide) rfl (by decide) rfl d_X1_add_13 ?_
    refine xj_iload_n E d_X1_add_16 rfl ?_
    refine xj_iast E (by decide) hin d_X1_add_17 ?_
    refine xj_aload_n E d_X1_add_18 rfl ?_
    refine xj_geta E fl_X1_13 (by decide) rfl (by decide) rfl d_X1_add_19 ?_
    refine xj_aload_n E d_X1_add_22 rfl ?_
    refine xj_geti E fl_X1_16 (by decide) rfl (by decide) rfl d_X1_add_23 ?_
    refine xj_iload_n E d_X1_add_26 rfl ?_
    refine xj_iast E (by decide) hin d_X1_add_27 ?_
    refine xj_aload_n E d_X1_add_28 rfl ?_
    refine xj_dup E d_X1_add_29 ?_
    refine xj_geti E fl_X1_16 (by decide) rfl (by decide) rfl d_X1_add_30 ?_
    refine xj_iconst (v := 1) E d_X1_add_33 (by decide) ?_
    refine xj_iadd E d_X1_add_34 ?_
    refine xj_put E fp_X1_16 (by decide) rfl (by decide) rfl (narrow_i _) d_X1_add_35 ?_
    exact xj_vret E hr hlk d_X1_add_38 ⟨rfl, (if_pos hlt).symm⟩
  exact xj_vret E hr hlk d_X1_add_7 ⟨rfl, (if_neg (fun q => h4 (by rw [if_pos q]))).symm⟩
