/-! the memory of an invocation of the class -/
def mrs (μ : Mem) (S : RS) : Mem := fun f i => if f = 23 ∧ i = 0 then S.2.1 else if f = 22 ∧ i = 0 then upd (upd (upd (μ 22 0) 1 (nI S.1)) 3 S.2.2.2) 6 S.2.2.1 else μ f i
theorem upd_ne {f : Nat → Int32} {k j : Nat} {x : Int32} (h : j ≠ k) : upd f k x j = f j := by simp [upd, h]
theorem upd_at (f : Nat → Int32) (k : Nat) (x : Int32) : upd f k x k = x := by simp [upd]
theorem upd_comm {f : Nat → Int32} {k j : Nat} {x y : Int32} (h : k ≠ j) : upd (upd f k x) j y = upd (upd f j y) k x := by
  funext i
  by_cases h1 : i = j
  · subst h1
    rw [upd_at, upd_ne (Ne.symm h), upd_at]
  · rw [upd_ne h1]
    by_cases h2 : i = k
    · subst h2; rw [upd_at, upd_at]
    · rw [upd_ne h2, upd_ne h2, upd_ne h1]
theorem mrs_22 {μ : Mem} {S S' : RS} {ν : Mem} (h23 : ν 23 0 = S'.2.1) (h22 : ν 22 0 = upd (upd (upd (μ 22 0) 1 (nI S'.1)) 3 S'.2.2.2) 6 S'.2.2.1) (ho : ∀ f i, ¬ (f = 23 ∧ i = 0) → ¬ (f = 22 ∧ i = 0) → ν f i = μ f i) : ν = mrs μ S' := by
  funext f i
  by_cases h1 : f = 23 ∧ i = 0
  · obtain ⟨rfl, rfl⟩ := h1; rw [h23]; rfl
  · by_cases h2 : f = 22 ∧ i = 0
    · obtain ⟨rfl, rfl⟩ := h2; rw [h22]; rfl
    · rw [ho f i h1 h2]; simp [mrs, h1, h2]
theorem mrs_o {μ : Mem} {S : RS} {f i : Nat} (h1 : ¬ (f = 23 ∧ i = 0)) (h2 : ¬ (f = 22 ∧ i = 0)) : mrs μ S f i = μ f i := by simp [mrs, h1, h2]
theorem mrs_th (μ : Mem) (S : RS) (x : Int32) : mset (mrs μ S) 22 0 3 x = mrs μ (rTh S x) := by
  refine mrs_22 (S := S) rfl ?_ (fun f i h1 h2 => by rw [mset_ne h2, mrs_o h1 h2])
  rw [mset_same]
  show upd (upd (upd (upd (μ 22 0) 1 (nI S.1)) 3 S.2.2.2) 6 S.2.2.1) 3 x = upd (upd (upd (μ 22 0) 1 (nI S.1)) 3 x) 6 S.2.2.1
  rw [upd_comm (by decide), upd_upd]
theorem mrs_sh (μ : Mem) (S : RS) (x : Int32) : mset (mrs μ S) 22 0 6 x = mrs μ (rSh S x) := by
  refine mrs_22 (S := S) rfl ?_ (fun f i h1 h2 => by rw [mset_ne h2, mrs_o h1 h2])
  rw [mset_same]
  show upd (upd (upd (upd (μ 22 0) 1 (nI S.1)) 3 S.2.2.2) 6 S.2.2.1) 6 x = _
  rw [upd_upd]
  rfl
theorem mrs_log (μ : Mem) (S : RS) (x : Int32) : mset (mset (mrs μ S) 23 0 S.1 x) 22 0 1 (nI (S.1 + 1)) = mrs μ (rLog S x) := by
  refine mrs_22 (S := S) ?_ ?_ (fun f i h1 h2 => by rw [mset_ne h2, mset_ne h1, mrs_o h1 h2])
  · rw [mset_f (by decide), mset_same]; rfl
  · rw [mset_same]
    show upd (upd (upd (upd (μ 22 0) 1 (nI S.1)) 3 S.2.2.2) 6 S.2.2.1) 1 (nI (S.1 + 1)) = upd (upd (upd (μ 22 0) 1 (nI (S.1 + 1))) 3 S.2.2.2) 6 S.2.2.1
    rw [upd_comm (by decide), upd_comm (k := 3) (by decide), upd_upd]

set_option maxRecDepth 100000 in
set_option maxHeartbeats 4000000 in
/-- X7 forget -/
theorem k_X7_forget (l : Launch) (G : XG) (hI : XI G)  (μ : Mem)  : XMet l G y_X7_forget c_X7_forget 1 none 0 [.inr (22, 0)] μ (fun r μ' => r = none ∧ μ' = mset (mset (mset μ 22 0 1 0) 22 0 2 0) 22 0 3 0) := by
  refine xj_met (by decide) hI (Nat.le_of_ble_eq_true rfl) ?_
  intro p e s m args below meth c E hr hlk
  have E : XE G (xA G) RX7 c_X7_forget 1 p s m args c := E
  refine xj_loc (L' := [some (.inr (22, 0))]) rfl ?_
  refine xj_aload_n E d_X7_forget_0 rfl ?_
  refine xj_iconst (v := 0) E d_X7_forget_1 (by decide) ?_
  refine xj_put E fp_X7_15 (by decide) rfl (by decide) rfl (narrow_i _) d_X7_forget_2 ?_
  refine xj_aload_n E d_X7_forget_5 rfl ?_
  refine xj_iconst (v := 0) E d_X7_forget_6 (by decide) ?_
  refine xj_put E fp_X7_19 (by decide) rfl (by decide) rfl (narrow_i _) d_X7_forget_7 ?_
  refine xj_aload_n E d_X7_forget_10 rfl ?_
  refine xj_iconst (v := 0) E d_X7_forget_11 (by decide) ?_
  refine xj_put E fp_X7_22 (by decide) rfl (by decide) rfl (narrow_i _) d_X7_forget_12 ?_
  exact xj_vret E hr hlk d_X7_forget_15 ⟨rfl, rfl⟩

set_option maxRecDepth 100000 in
set_option maxHeartbeats 4000000 in
/-- X7 fail -/
theorem k_X7_fail (l : Launch) (G : XG) (hI : XI G) (x : Int32) (μ : Mem)  : XMet l G y_X7_fail c_X7_fail 2 (some .int) 0 [.inr (22, 0), .inl x] μ (fun r μ' => r = some (.inl 0) ∧ μ' = mset μ 22 0 3 x) := by
  refine xj_met (by decide) hI (Nat.le_of_ble_eq_true rfl) ?_
  intro p e s m args below meth c E hr hlk
  have E : XE G (xA G) RX7 c_X7_fail 2 p s m args c := E
  refine xj_loc (L' := [some (.inr (22, 0)), some (.inl x)]) rfl ?_
  refine xj_aload_n E d_X7_fail_0 rfl ?_
  refine xj_iload_n E d_X7_fail_1 rfl ?_
  refine xj_put E fp_X7_22 (by decide) rfl (by decide) rfl (narrow_i _) d_X7_fail_2 ?_
  refine xj_iconst (v := 0) E d_X7_fail_5 (by decide) ?_
  exact xj_iret E hr hlk d_X7_fail_6 ⟨rfl, rfl⟩

set_option maxRecDepth 100000 in
set_option maxHeartbeats 4000000 in
/-- X7 reachTarget -/
theorem k_X7_reachTarget (l : Launch) (G : XG) (hI : XI G) (g : Int32) (S : RS) (μ : Mem)  : XMet l G y_X7_reachTarget c_X7_reachTarget 2 (some .int) 1 [.inr (22, 0), .inl g] (mrs μ S) (fun rr μ' => rr = some (.inl (rTg (μ 22 0 4) (μ 22 0 5) g S).1) ∧ μ' = mrs μ (rTg (μ 22 0 4) (μ 22 0 5) g S).2) := by
  refine xj_met (by decide) hI (Nat.le_of_ble_eq_true rfl) ?_
  intro p e s m args below meth c E hr hlk
  have E : XE G (xA G) RX7 c_X7_reachTarget 2 p s m args c := E
  refine xj_loc (L' := [some (.inr (22, 0)), some (.inl g)]) rfl ?_
  refine xj_aload_n E d_X7_reachTarget_0 rfl ?_
  refine xj_geti E fl_X7_28 (by decide) rfl (by decide) rfl d_X7_reachTarget_1 ?_
  refine xj_iconst (v := 4) E d_X7_reachTarget_4 (by decide) ?_
  refine xj_icmp_lt (tgt := 11) E d_X7_reachTarget_5 (by decide) (fun h5 => ?_) (fun h5 => ?_)
  · refine xj_aload_n E d_X7_reachTarget_11 rfl ?_
    refine xj_geti E fl_X7_31 (by decide) rfl (by decide) rfl d_X7_reachTarget_12 ?_
    refine xj_if_eq (tgt := 32) E d_X7_reachTarget_15 (by decide) (fun h15 => ?_) (fun h15 => ?_)
    · refine xj_iconst (v := 3) E d_X7_reachTarget_32 (by decide) ?_
      refine xj_iload_n E d_X7_reachTarget_33 rfl ?_
      refine xj_imul E d_X7_reachTarget_34 ?_
      refine xj_aload_n E d_X7_reachTarget_35 rfl ?_
      refine xj_geti E fl_X7_28 (by decide) rfl (by decide) rfl d_X7_reachTarget_36 ?_
      refine xj_iadd E d_X7_reachTarget_39 ?_
      exact xj_iret E hr hlk d_X7_reachTarget_40 (by first | (unfold rTg; rw [if_pos (show μ 22 0 4 < 4 from h5), if_pos (show μ 22 0 5 = 0 from h15)]; exact ⟨rfl, rfl⟩) | (unfold rTg; rw [if_pos (show μ 22 0 4 < 4 from h5), if_neg (show ¬ μ 22 0 5 = 0 from h15)]; exact ⟨rfl, rfl⟩))
    refine xj_aload_n E d_X7_reachTarget_18 rfl ?_
    refine xj_bipush (v := 33) E d_X7_reachTarget_19 (by decide) ?_
    refine xj_aload_n E d_X7_reachTarget_21 rfl ?_
    refine xj_geti E fl_X7_28 (by decide) rfl (by decide) rfl d_X7_reachTarget_22 ?_
    refine xj_iadd E d_X7_reachTarget_25 ?_
    refine xj_callV E (k_X7_fail l G hI _ _) cw_X7_47 cv_X7_fail (by decide) rfl rfl rfl ⟨by decide, by decide⟩ (Nat.le_of_ble_eq_true rfl) d_X7_reachTarget_26 ⟨Nat.zero_le _, Nat.zero_le _⟩ (fun r26 μ26 ho26 hp26 => ?_)
    obtain ⟨rfl, hm26⟩ := hp26
    refine xj_mem (hm26.trans (mrs_th μ S _)) ?_
    refine xj_goto (tgt := 40) E d_X7_reachTarget_29 (by decide) ?_
    exact xj_iret E hr hlk d_X7_reachTarget_40 (by first | (unfold rTg; rw [if_pos (show μ 22 0 4 < 4 from h5), if_pos (show μ 22 0 5 = 0 from h15)]; exact ⟨rfl, rfl⟩) | (unfold rTg; rw [if_pos (show μ 22 0 4 < 4 from h5), if_neg (show ¬ μ 22 0 5 = 0 from h15)]; exact ⟨rfl, rfl⟩))
  refine xj_bipush (v := 7) E d_X7_reachTarget_8 (by decide) ?_
  exact xj_iret E hr hlk d_X7_reachTarget_10 (by unfold rTg; rw [if_neg (show ¬ μ 22 0 4 < 4 from h5)]; exact ⟨rfl, rfl⟩)

/-- enter, with r places left of a chain of n -/
def EnterOK (l : Launch) (G : XG) (μ : Mem) (n r : Nat) : Prop := ∀ (k : Nat) (g : Int32) (S : RS), k + r = n → S.1 ≤ 64 → XMet l G y_X7_enter c_X7_enter 5 (some .int) (4 * r + 2) [.inr (22, 0), .inr (19, 0), .inl (nI k), .inl g] (mrs μ S) (fun rr μ' => rr = some (.inl (rn (μ 20 0) (μ 21 0) (μ 22 0 4) (μ 22 0 5) r k g S).1) ∧ μ' = mrs μ (rn (μ 20 0) (μ 21 0) (μ 22 0 4) (μ 22 0 5) r k g S).2)

set_option maxRecDepth 100000 in
set_option maxHeartbeats 4000000 in
/-- X7 proceed -/
theorem k_X7_proceed (l : Launch) (G : XG) (hI : XI G) (n r k : Nat) (o : Int32) (S : RS) (μ : Mem) (hn : n ≤ 21) (hkr : k + 1 + r = n) (hE : EnterOK l G μ n r) (hS : S.1 ≤ 64) : XMet l G y_X7_proceed c_X7_proceed 5 (some .int) (4 * r + 3) [.inr (22, 0), .inr (19, 0), .inl (nI k), .inl o] (mrs μ S) (fun rr μ' => rr = some (.inl (rPr (rn (μ 20 0) (μ 21 0) (μ 22 0 4) (μ 22 0 5) r (k + 1)) (μ 20 0 k) o S).1) ∧ μ' = mrs μ (rPr (rn (μ 20 0) (μ 21 0) (μ 22 0 4) (μ 22 0 5) r (k + 1)) (μ 20 0 k) o S).2) := by
  refine xj_met (by decide) hI (Nat.le_of_ble_eq_true rfl) ?_
  intro p e s m args below meth c E hr hlk
  have E : XE G (xA G) RX7 c_X7_proceed 5 p s m args c := E
  refine xj_loc (L' := [some (.inr (22, 0)), some (.inr (19, 0)), some (.inl (nI k)), some (.inl o), none]) rfl ?_
  have hcl : (nI k).toNatClampNeg = k := cl_nI (by omega)
  refine xj_aload_n E d_X7_proceed_0 rfl ?_
  refine xj_geta E fl_X7_51 (by decide) rfl (by decide) rfl d_X7_proceed_1 ?_
  refine xj_iload_n E d_X7_proceed_4 rfl ?_
  refine xj_iald E (by decide) (show vp_in (nI k) 21 from in_nI (by omega) (by omega)) d_X7_proceed_5 ?_
  refine xj_st (st' := [.inl (μ 20 0 k)]) (by rw [hcl]; rfl) ?_
  refine xj_bipush (v := 16) E d_X7_proceed_6 (by decide) ?_
  refine xj_icmp_ge (tgt := 15) E d_X7_proceed_8 (by decide) (fun h8 => ?_) (fun h8 => ?_)
  · refine xj_iconst (v := 0) E d_X7_proceed_15 (by decide) ?_
    refine xj_istore E d_X7_proceed_16 (by decide) rfl ?_
    refine xj_aload_n E d_X7_proceed_18 rfl ?_
    refine xj_aload_n E d_X7_proceed_19 rfl ?_
    refine xj_iload_n E d_X7_proceed_20 rfl ?_
    refine xj_iconst (v := 1) E d_X7_proceed_21 (by decide) ?_
    refine xj_iadd E d_X7_proceed_22 ?_
    refine xj_iload E d_X7_proceed_23 rfl ?_
    refine xj_if_eq (tgt := 35) E d_X7_proceed_25 (by decide) (fun h25 => ?_) (fun h25 => absurd rfl h25)
    refine xj_iload_n E d_X7_proceed_35 rfl ?_
    refine xj_st (st' := [.inl (if μ 20 0 k < 16 then S.2.2.1 else o), .inl (nI (k + 1)), .inr (19, 0), .inr (22, 0)]) (by rw [if_neg (fun q => Int32.not_lt.mpr h8 q), ← nI_1]; try rfl) ?_
    refine xj_callV E (hE (k + 1) (if μ 20 0 k < 16 then S.2.2.1 else o) S (by omega) hS) cw_X7_38 cv_X7_enter (by decide) rfl rfl rfl ⟨by show 4 * r + 2 + 1 ≤ 4 * r + 3; omega, by show 40 * (4 * r + 2) + 40 ≤ 40 * (4 * r + 3); omega⟩ (Nat.le_of_ble_eq_true rfl) d_X7_proceed_36 ⟨Nat.zero_le _, Nat.zero_le _⟩ (fun r36 μ36 ho36 hp36 => ?_)
    obtain ⟨rfl, rfl⟩ := hp36
    exact xj_iret E hr hlk d_X7_proceed_39 ⟨rfl, rfl⟩
  refine xj_iconst (v := 1) E d_X7_proceed_11 (by decide) ?_
  refine xj_goto (tgt := 16) E d_X7_proceed_12 (by decide) ?_
  refine xj_istore E d_X7_proceed_16 (by decide) rfl ?_
  refine xj_aload_n E d_X7_proceed_18 rfl ?_
  refine xj_aload_n E d_X7_proceed_19 rfl ?_
  refine xj_iload_n E d_X7_proceed_20 rfl ?_
  refine xj_iconst (v := 1) E d_X7_proceed_21 (by decide) ?_
  refine xj_iadd E d_X7_proceed_22 ?_
  refine xj_iload E d_X7_proceed_23 rfl ?_
  refine xj_if_eq (tgt := 35) E d_X7_proceed_25 (by decide) (fun h25 => absurd h25 i1_0) (fun h25 => ?_)
  refine xj_aload_n E d_X7_proceed_28 rfl ?_
  refine xj_geti E fl_X7_35 (by decide) rfl (by decide) rfl d_X7_proceed_29 ?_
  refine xj_goto (tgt := 36) E d_X7_proceed_32 (by decide) ?_
  refine xj_st (st' := [.inl (if μ 20 0 k < 16 then S.2.2.1 else o), .inl (nI (k + 1)), .inr (19, 0), .inr (22, 0)]) (by rw [if_pos (Int32.not_le.mp h8), ← nI_1]; try rfl) ?_
  refine xj_callV E (hE (k + 1) (if μ 20 0 k < 16 then S.2.2.1 else o) S (by omega) hS) cw_X7_38 cv_X7_enter (by decide) rfl rfl rfl ⟨by show 4 * r + 2 + 1 ≤ 4 * r + 3; omega, by show 40 * (4 * r + 2) + 40 ≤ 40 * (4 * r + 3); omega⟩ (Nat.le_of_ble_eq_true rfl) d_X7_proceed_36 ⟨Nat.zero_le _, Nat.zero_le _⟩ (fun r36 μ36 ho36 hp36 => ?_)
  obtain ⟨rfl, rfl⟩ := hp36
  exact xj_iret E hr hlk d_X7_proceed_39 ⟨rfl, rfl⟩

set_option maxRecDepth 100000 in
set_option maxHeartbeats 4000000 in
/-- X7 proceedTwice -/
theorem k_X7_proceedTwice (l : Launch) (G : XG) (hI : XI G) (n r k : Nat) (o : Int32) (S : RS) (μ : Mem) (hn : n ≤ 21) (hkr : k + 1 + r = n) (hE : EnterOK l G μ n r) (hS : S.1 ≤ 64) : XMet l G y_X7_proceedTwice c_X7_proceedTwice 5 (some .int) (4 * r + 4) [.inr (22, 0), .inr (19, 0), .inl (nI k), .inl o] (mrs μ S) (fun rr μ' => rr = some (.inl (rP2 (rn (μ 20 0) (μ 21 0) (μ 22 0 4) (μ 22 0 5) r (k + 1)) (μ 20 0 k) o S).1) ∧ μ' = mrs μ (rP2 (rn (μ 20 0) (μ 21 0) (μ 22 0 4) (μ 22 0 5) r (k + 1)) (μ 20 0 k) o S).2) := by
  refine xj_met (by decide) hI (Nat.le_of_ble_eq_true rfl) ?_
  intro p e s m args below meth c E hr hlk
  have E : XE G (xA G) RX7 c_X7_proceedTwice 5 p s m args c := E
  refine xj_loc (L' := [some (.inr (22, 0)), some (.inr (19, 0)), some (.inl (nI k)), some (.inl o), none]) rfl ?_
  refine xj_aload_n E d_X7_proceedTwice_0 rfl ?_
  refine xj_aload_n E d_X7_proceedTwice_1 rfl ?_
  refine xj_iload_n E d_X7_proceedTwice_2 rfl ?_
  refine xj_iload_n E d_X7_proceedTwice_3 rfl ?_
  refine xj_callV E (k_X7_proceed l G hI n r k o S μ hn hkr hE hS) cw_X7_70 cv_X7_proceed (by decide) rfl rfl rfl ⟨by show 4 * r + 3 + 1 ≤ 4 * r + 4; omega, by show 40 * (4 * r + 3) + 40 ≤ 40 * (4 * r + 4); omega⟩ (Nat.le_of_ble_eq_true rfl) d_X7_proceedTwice_4 ⟨Nat.zero_le _, Nat.zero_le _⟩ (fun r4 μ4 ho4 hp4 => ?_)
  obtain ⟨rfl, hm4⟩ := hp4
  refine xj_mem hm4 ?_
  refine xj_istore E d_X7_proceedTwice_7 (by decide) rfl ?_
  refine xj_aload_n E d_X7_proceedTwice_9 rfl ?_
  refine xj_geti E fl_X7_22 (by decide) rfl (by decide) rfl d_X7_proceedTwice_10 ?_
  refine xj_if_eq (tgt := 18) E d_X7_proceedTwice_13 (by decide) (fun h13 => ?_) (fun h13 => ?_)
  · refine xj_iload E d_X7_proceedTwice_18 rfl ?_
    refine xj_aload_n E d_X7_proceedTwice_20 rfl ?_
    refine xj_aload_n E d_X7_proceedTwice_21 rfl ?_
    refine xj_iload_n E d_X7_proceedTwice_22 rfl ?_
    refine xj_iload_n E d_X7_proceedTwice_23 rfl ?_
    refine xj_callV E (k_X7_proceed l G hI n r k o (rPr (rn (μ 20 0) (μ 21 0) (μ 22 0 4) (μ 22 0 5) r (k + 1)) (μ 20 0 k) o S).2 μ hn hkr hE (rPr_le (rn_le _ _ _ _ _ _) hS)) cw_X7_70 cv_X7_proceed (by decide) rfl rfl rfl ⟨by show 4 * r + 3 + 1 ≤ 4 * r + 4; omega, by show 40 * (4 * r + 3) + 40 ≤ 40 * (4 * r + 4); omega⟩ (Nat.le_of_ble_eq_true rfl) d_X7_proceedTwice_24 ⟨Nat.zero_le _, Nat.zero_le _⟩ (fun r24 μ24 ho24 hp24 => ?_)
    obtain ⟨rfl, hm24⟩ := hp24
    refine xj_mem hm24 ?_
    refine xj_iadd E d_X7_proceedTwice_27 ?_
    exact xj_iret E hr hlk d_X7_proceedTwice_28 (by unfold rP2; rw [if_pos (show (rPr (rn (μ 20 0) (μ 21 0) (μ 22 0 4) (μ 22 0 5) r (k + 1)) (μ 20 0 k) o S).2.2.2.2 = 0 from h13)]; exact ⟨rfl, rfl⟩)
  refine xj_iconst (v := 0) E d_X7_proceedTwice_16 (by decide) ?_
  exact xj_iret E hr hlk d_X7_proceedTwice_17 (by unfold rP2; rw [if_neg (show ¬ (rPr (rn (μ 20 0) (μ 21 0) (μ 22 0 4) (μ 22 0 5) r (k + 1)) (μ 20 0 k) o S).2.2.2.2 = 0 from h13)]; exact ⟨rfl, rfl⟩)

set_option maxRecDepth 100000 in
set_option maxHeartbeats 4000000 in
/-- X7 growShared -/
theorem k_X7_growShared (l : Launch) (G : XG) (hI : XI G) (n r k : Nat) (S : RS) (μ : Mem) (hn : n ≤ 21) (hkr : k + 1 + r = n) (hE : EnterOK l G μ n r) (hS : S.1 ≤ 64) : XMet l G y_X7_growShared c_X7_growShared 3 (some .int) (4 * r + 4) [.inr (22, 0), .inr (19, 0), .inl (nI k)] (mrs μ S) (fun rr μ' => rr = some (.inl (rGs (rn (μ 20 0) (μ 21 0) (μ 22 0 4) (μ 22 0 5) r (k + 1)) (μ 20 0 k) (μ 22 0 4) S).1) ∧ μ' = mrs μ (rGs (rn (μ 20 0) (μ 21 0) (μ 22 0 4) (μ 22 0 5) r (k + 1)) (μ 20 0 k) (μ 22 0 4) S).2) := by
  refine xj_met (by decide) hI (Nat.le_of_ble_eq_true rfl) ?_
  intro p e s m args below meth c E hr hlk
  have E : XE G (xA G) RX7 c_X7_growShared 3 p s m args c := E
  refine xj_loc (L' := [some (.inr (22, 0)), some (.inr (19, 0)), some (.inl (nI k))]) rfl ?_
  refine xj_aload_n E d_X7_growShared_0 rfl ?_
  refine xj_geti E fl_X7_28 (by decide) rfl (by decide) rfl d_X7_growShared_1 ?_
  refine xj_iconst (v := 4) E d_X7_growShared_4 (by decide) ?_
  refine xj_icmp_lt (tgt := 15) E d_X7_growShared_5 (by decide) (fun h5 => ?_) (fun h5 => ?_)
  · refine xj_aload_n E d_X7_growShared_15 rfl ?_
    refine xj_dup E d_X7_growShared_16 ?_
    refine xj_geti E fl_X7_35 (by decide) rfl (by decide) rfl d_X7_growShared_17 ?_
    refine xj_iconst (v := 1) E d_X7_growShared_20 (by decide) ?_
    refine xj_iadd E d_X7_growShared_21 ?_
    refine xj_put E fp_X7_35 (by decide) rfl (by decide) rfl (narrow_i _) d_X7_growShared_22 ?_
    refine xj_mem (mrs_sh μ S _) ?_
    refine xj_iconst (v := 2) E d_X7_growShared_25 (by decide) ?_
    refine xj_aload_n E d_X7_growShared_26 rfl ?_
    refine xj_aload_n E d_X7_growShared_27 rfl ?_
    refine xj_iload_n E d_X7_growShared_28 rfl ?_
    refine xj_aload_n E d_X7_growShared_29 rfl ?_
    refine xj_geti E fl_X7_35 (by decide) rfl (by decide) rfl d_X7_growShared_30 ?_
    refine xj_callV E (k_X7_proceed l G hI n r k _ (rSh S (S.2.2.1 + 1)) μ hn hkr hE hS) cw_X7_70 cv_X7_proceed (by decide) rfl rfl rfl ⟨by show 4 * r + 3 + 1 ≤ 4 * r + 4; omega, by show 40 * (4 * r + 3) + 40 ≤ 40 * (4 * r + 4); omega⟩ (Nat.le_of_ble_eq_true rfl) d_X7_growShared_33 ⟨Nat.zero_le _, Nat.zero_le _⟩ (fun r33 μ33 ho33 hp33 => ?_)
    obtain ⟨rfl, hm33⟩ := hp33
    refine xj_mem hm33 ?_
    refine xj_imul E d_X7_growShared_36 ?_
    exact xj_iret E hr hlk d_X7_growShared_37 (by unfold rGs; rw [if_pos (show μ 22 0 4 < 4 from h5)]; exact ⟨rfl, rfl⟩)
  refine xj_aload_n E d_X7_growShared_8 rfl ?_
  refine xj_bipush (v := 50) E d_X7_growShared_9 (by decide) ?_
  refine xj_callV E (k_X7_fail l G hI _ _) cw_X7_47 cv_X7_fail (by decide) rfl rfl rfl ⟨by show 0 + 1 ≤ 4 * r + 4; omega, by show 40 * (0) + 40 ≤ 40 * (4 * r + 4); omega⟩ (Nat.le_of_ble_eq_true rfl) d_X7_growShared_11 ⟨Nat.zero_le _, Nat.zero_le _⟩ (fun r11 μ11 ho11 hp11 => ?_)
  obtain ⟨rfl, hm11⟩ := hp11
  refine xj_mem (hm11.trans (mrs_th μ S _)) ?_
  exact xj_iret E hr hlk d_X7_growShared_14 (by unfold rGs; rw [if_neg (show ¬ μ 22 0 4 < 4 from h5)]; exact ⟨rfl, rfl⟩)

set_option maxRecDepth 100000 in
set_option maxHeartbeats 4000000 in
/-- X7 proceedAndCatch -/
theorem k_X7_proceedAndCatch (l : Launch) (G : XG) (hI : XI G) (n r k : Nat) (o : Int32) (S : RS) (μ : Mem) (hn : n ≤ 21) (hkr : k + 1 + r = n) (hE : EnterOK l G μ n r) (hS : S.1 ≤ 64) : XMet l G y_X7_proceedAndCatch c_X7_proceedAndCatch 6 (some .int) (4 * r + 4) [.inr (22, 0), .inr (19, 0), .inl (nI k), .inl o] (mrs μ S) (fun rr μ' => rr = some (.inl (rPc (rn (μ 20 0) (μ 21 0) (μ 22 0 4) (μ 22 0 5) r (k + 1)) (μ 20 0 k) o S).1) ∧ μ' = mrs μ (rPc (rn (μ 20 0) (μ 21 0) (μ 22 0 4) (μ 22 0 5) r (k + 1)) (μ 20 0 k) o S).2) := by
  refine xj_met (by decide) hI (Nat.le_of_ble_eq_true rfl) ?_
  intro p e s m args below meth c E hr hlk
  have E : XE G (xA G) RX7 c_X7_proceedAndCatch 6 p s m args c := E
  refine xj_loc (L' := [some (.inr (22, 0)), some (.inr (19, 0)), some (.inl (nI k)), some (.inl o), none, none]) rfl ?_
  refine xj_aload_n E d_X7_proceedAndCatch_0 rfl ?_
  refine xj_aload_n E d_X7_proceedAndCatch_1 rfl ?_
  refine xj_iload_n E d_X7_proceedAndCatch_2 rfl ?_
  refine xj_iload_n E d_X7_proceedAndCatch_3 rfl ?_
  refine xj_callV E (k_X7_proceed l G hI n r k o S μ hn hkr hE hS) cw_X7_70 cv_X7_proceed (by decide) rfl rfl rfl ⟨by show 4 * r + 3 + 1 ≤ 4 * r + 4; omega, by show 40 * (4 * r + 3) + 40 ≤ 40 * (4 * r + 4); omega⟩ (Nat.le_of_ble_eq_true rfl) d_X7_proceedAndCatch_4 ⟨Nat.zero_le _, Nat.zero_le _⟩ (fun r4 μ4 ho4 hp4 => ?_)
  obtain ⟨rfl, hm4⟩ := hp4
  refine xj_mem hm4 ?_
  refine xj_istore E d_X7_proceedAndCatch_7 (by decide) rfl ?_
  refine xj_aload_n E d_X7_proceedAndCatch_9 rfl ?_
  refine xj_geti E fl_X7_22 (by decide) rfl (by decide) rfl d_X7_proceedAndCatch_10 ?_
  refine xj_if_eq (tgt := 25) E d_X7_proceedAndCatch_13 (by decide) (fun h13 => ?_) (fun h13 => ?_)
  · refine xj_iload E d_X7_proceedAndCatch_25 rfl ?_
    exact xj_iret E hr hlk d_X7_proceedAndCatch_27 (by first | (unfold rPc; rw [if_pos (show (rPr (rn (μ 20 0) (μ 21 0) (μ 22 0 4) (μ 22 0 5) r (k + 1)) (μ 20 0 k) o S).2.2.2.2 = 0 from h13)]; exact ⟨rfl, rfl⟩) | (unfold rPc; rw [if_neg (show ¬ (rPr (rn (μ 20 0) (μ 21 0) (μ 22 0 4) (μ 22 0 5) r (k + 1)) (μ 20 0 k) o S).2.2.2.2 = 0 from h13), if_pos (show (rPr (rn (μ 20 0) (μ 21 0) (μ 22 0 4) (μ 22 0 5) r (k + 1)) (μ 20 0 k) o S).2.2.2.2 = 99 from h22)]; exact ⟨rfl, rfl⟩))
  refine xj_aload_n E d_X7_proceedAndCatch_16 rfl ?_
  refine xj_geti E fl_X7_22 (by decide) rfl (by decide) rfl d_X7_proceedAndCatch_17 ?_
  refine xj_bipush (v := 99) E d_X7_proceedAndCatch_20 (by decide) ?_
  refine xj_icmp_ne (tgt := 28) E d_X7_proceedAndCatch_22 (by decide) (fun h22 => ?_) (fun h22 => ?_)
  · refine xj_aload_n E d_X7_proceedAndCatch_28 rfl ?_
    refine xj_geti E fl_X7_22 (by decide) rfl (by decide) rfl d_X7_proceedAndCatch_29 ?_
    refine xj_istore E d_X7_proceedAndCatch_32 (by decide) rfl ?_
    refine xj_aload_n E d_X7_proceedAndCatch_34 rfl ?_
    refine xj_iconst (v := 0) E d_X7_proceedAndCatch_35 (by decide) ?_
    refine xj_put E fp_X7_22 (by decide) rfl (by decide) rfl (narrow_i _) d_X7_proceedAndCatch_36 ?_
    refine xj_mem (mrs_th μ _ _) ?_
    refine xj_iload E d_X7_proceedAndCatch_39 rfl ?_
    refine xj_ineg E d_X7_proceedAndCatch_41 ?_
    exact xj_iret E hr hlk d_X7_proceedAndCatch_42 (by unfold rPc; rw [if_neg (show ¬ (rPr (rn (μ 20 0) (μ 21 0) (μ 22 0 4) (μ 22 0 5) r (k + 1)) (μ 20 0 k) o S).2.2.2.2 = 0 from h13), if_neg (show ¬ (rPr (rn (μ 20 0) (μ 21 0) (μ 22 0 4) (μ 22 0 5) r (k + 1)) (μ 20 0 k) o S).2.2.2.2 = 99 from h22)]; exact ⟨rfl, rfl⟩)
  refine xj_iload E d_X7_proceedAndCatch_25 rfl ?_
  exact xj_iret E hr hlk d_X7_proceedAndCatch_27 (by first | (unfold rPc; rw [if_pos (show (rPr (rn (μ 20 0) (μ 21 0) (μ 22 0 4) (μ 22 0 5) r (k + 1)) (μ 20 0 k) o S).2.2.2.2 = 0 from h13)]; exact ⟨rfl, rfl⟩) | (unfold rPc; rw [if_neg (show ¬ (rPr (rn (μ 20 0) (μ 21 0) (μ 22 0 4) (μ 22 0 5) r (k + 1)) (μ 20 0 k) o S).2.2.2.2 = 0 from h13), if_pos (show (rPr (rn (μ 20 0) (μ 21 0) (μ 22 0 4) (μ 22 0 5) r (k + 1)) (μ 20 0 k) o S).2.2.2.2 = 99 from h22)]; exact ⟨rfl, rfl⟩))
