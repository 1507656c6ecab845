theorem mcl_put' (μ : Mem) (c t : Nat) (v : Int32) : mcl μ c (pput t v (dS μ c)) = (if μ 17 c t = 0 then mset (mset μ 17 c t 1) 18 c t v else if μ 18 c t = v then μ else mset μ 16 c 2 1) := by
  rw [mcl_put, mcl_dS]
  rfl

set_option maxRecDepth 100000 in
set_option maxHeartbeats 4000000 in
/-- X3 forget -/
theorem k_X3_forget (l : Launch) (G : XG) (hI : XI G) (i : Nat) (μ : Mem)  : XMet l G y_X3_forget c_X3_forget 2 none 0 [.inr (16, i)] μ (fun r μ' => r = none ∧ ∃ S : CS, μ' = mcl μ i S ∧ (∀ t, t < 8 → S.1 t = 0) ∧ S.2.2 = 0) := by
  refine xj_met (by decide) hI (Nat.le_of_ble_eq_true rfl) ?_
  intro p e s m args below meth c E hr hlk
  have E : XE G (xA G) RX3 c_X3_forget 2 p s m args c := E
  refine xj_loc (L' := [some (.inr (16, i)), none]) rfl ?_
  have lp : ∀ (Q : State → Prop) (n k : Nat) (S : CS), 8 - k = n → k ≤ 8 → (∀ t, t < k → S.1 t = 0) → (∀ S' : CS, (∀ t, t < 8 → S'.1 t = 0) → XJ G (xA G) 2 p l e (xr 0) s m args below meth c 0 0 Q 21 [some (.inr (16, i)), some (.inl (nI 8))] [] (mcl μ i S')) → XJ G (xA G) 2 p l e (xr 0) s m args below meth c 0 0 Q 2 [some (.inr (16, i)), some (.inl (nI k))] [] (mcl μ i S) := by
    intro Q n
    induction n using Nat.strongRecOn with
    | _ n ih =>
    intro k S hn hk hinv hx
    refine xj_iload_n E d_X3_forget_2 rfl ?_
    refine xj_bipush (v := 8) E d_X3_forget_3 (by decide) ?_
    refine xj_icmp_ge (tgt := 21) E d_X3_forget_5 (by decide) (fun h5 => ?_) (fun h5 => ?_)
    · have hk8 : k = 8 := by
        have := ge_nI (a := 8) h5 (by omega) (by omega)
        omega
      subst hk8
      exact hx S hinv
    have hlt : k < 8 := ng_nI (a := 8) h5 (by omega) (by omega)
    refine xj_aload_n E d_X3_forget_8 rfl ?_
    refine xj_geta E fl_X3_9 (by decide) rfl (by decide) rfl d_X3_forget_9 ?_
    refine xj_iload_n E d_X3_forget_12 rfl ?_
    refine xj_iconst (v := 0) E d_X3_forget_13 (by decide) ?_
    refine xj_zast E (by decide) (show vp_in (nI k) 8 from in_nI hlt (by omega)) (Or.inl rfl) d_X3_forget_14 ?_
    refine xj_mem (μ' := mcl μ i (upd S.1 k 0, S.2.1, S.2.2)) (by rw [cl_nI (by omega)]; exact mset_mcl17 _ _ _ _ _) ?_
    refine xj_iinc (v := nI (k + 1)) E d_X3_forget_15 rfl (nI_inc k) rfl ?_
    refine xj_goto (tgt := 2) E d_X3_forget_18 (by decide) ?_
    exact ih (8 - (k + 1)) (by omega) (k + 1) _ rfl (by omega) (fun t ht => by
      show upd S.1 k 0 t = 0
      by_cases q : t = k
      · simp [upd, q]
      · simp only [upd, q, if_false]
        exact hinv t (by omega)) hx
  refine xj_iconst (v := 0) E d_X3_forget_0 (by decide) ?_
  refine xj_istore_n E d_X3_forget_1 (by decide) rfl ?_
  refine xj_mem (mcl_dS μ i).symm ?_
  refine lp _ 8 0 (dS μ i) rfl (by omega) (fun t ht => by omega) (fun S' hS' => ?_)
  refine xj_aload_n E d_X3_forget_21 rfl ?_
  refine xj_iconst (v := 0) E d_X3_forget_22 (by decide) ?_
  refine xj_put E fp_X3_19 (by decide) rfl (by decide) rfl (narrow_z (Or.inl rfl)) d_X3_forget_23 ?_
  exact xj_vret E hr hlk d_X3_forget_26 ⟨rfl, (S'.1, S'.2.1, 0), mset_mcl16 _ _ _ _, hS', rfl⟩

set_option maxRecDepth 100000 in
set_option maxHeartbeats 4000000 in
/-- X3 put -/
theorem k_X3_put (l : Launch) (G : XG) (hI : XI G) (i : Nat) (t v : Int32) (μ : Mem) (ht : vp_in t 8) : XMet l G y_X3_put c_X3_put 3 none 0 [.inr (16, i), .inl t, .inl v] μ (fun r μ' => r = none ∧ μ' = mcl μ i (pput t.toNatClampNeg v (dS μ i))) := by
  refine xj_met (by decide) hI (Nat.le_of_ble_eq_true rfl) ?_
  intro p e s m args below meth c E hr hlk
  have E : XE G (xA G) RX3 c_X3_put 3 p s m args c := E
  refine xj_loc (L' := [some (.inr (16, i)), some (.inl t), some (.inl v)]) rfl ?_
  refine xj_aload_n E d_X3_put_0 rfl ?_
  refine xj_geta E fl_X3_9 (by decide) rfl (by decide) rfl d_X3_put_1 ?_
  refine xj_iload_n E d_X3_put_4 rfl ?_
  refine xj_zald E (by decide) ht d_X3_put_5 ?_
  refine xj_if_ne (tgt := 26) E d_X3_put_6 (by decide) (fun h6 => ?_) (fun h6 => ?_)
  · refine xj_aload_n E d_X3_put_26 rfl ?_
    refine xj_geta E fl_X3_15 (by decide) rfl (by decide) rfl d_X3_put_27 ?_
    refine xj_iload_n E d_X3_put_30 rfl ?_
    refine xj_iald E (by decide) ht d_X3_put_31 ?_
    refine xj_iload_n E d_X3_put_32 rfl ?_
    refine xj_icmp_eq (tgt := 41) E d_X3_put_33 (by decide) (fun h33 => ?_) (fun h33 => ?_)
    · exact xj_vret E hr hlk d_X3_put_41 (by first | exact ⟨rfl, by rw [mcl_put', if_pos h6]⟩ | exact ⟨rfl, by rw [mcl_put', if_neg h6, if_pos h33]⟩ | exact ⟨rfl, by rw [mcl_put', if_neg h6, if_neg h33]⟩)
    refine xj_aload_n E d_X3_put_36 rfl ?_
    refine xj_iconst (v := 1) E d_X3_put_37 (by decide) ?_
    refine xj_put E fp_X3_19 (by decide) rfl (by decide) rfl (narrow_z (Or.inr rfl)) d_X3_put_38 ?_
    exact xj_vret E hr hlk d_X3_put_41 (by first | exact ⟨rfl, by rw [mcl_put', if_pos h6]⟩ | exact ⟨rfl, by rw [mcl_put', if_neg h6, if_pos h33]⟩ | exact ⟨rfl, by rw [mcl_put', if_neg h6, if_neg h33]⟩)
  refine xj_aload_n E d_X3_put_9 rfl ?_
  refine xj_geta E fl_X3_9 (by decide) rfl (by decide) rfl d_X3_put_10 ?_
  refine xj_iload_n E d_X3_put_13 rfl ?_
  refine xj_iconst (v := 1) E d_X3_put_14 (by decide) ?_
  refine xj_zast E (by decide) ht (Or.inr rfl) d_X3_put_15 ?_
  refine xj_aload_n E d_X3_put_16 rfl ?_
  refine xj_geta E fl_X3_15 (by decide) rfl (by decide) rfl d_X3_put_17 ?_
  refine xj_iload_n E d_X3_put_20 rfl ?_
  refine xj_iload_n E d_X3_put_21 rfl ?_
  refine xj_iast E (by decide) ht d_X3_put_22 ?_
  refine xj_goto (tgt := 41) E d_X3_put_23 (by decide) ?_
  exact xj_vret E hr hlk d_X3_put_41 (by first | exact ⟨rfl, by rw [mcl_put', if_pos h6]⟩ | exact ⟨rfl, by rw [mcl_put', if_neg h6, if_pos h33]⟩ | exact ⟨rfl, by rw [mcl_put', if_neg h6, if_neg h33]⟩)

/-- the types of R that S0 has not, taken over, up to k -/
def cMrg (R S0 : CS) (k : Nat) (S : CS) : Prop := S.2.2 = S0.2.2 ∧ ∀ t, t < 8 → (t < k ∧ ¬ R.1 t = 0 ∧ S0.1 t = 0 → S.1 t = 1 ∧ S.2.1 t = R.2.1 t) ∧ (¬ (t < k ∧ ¬ R.1 t = 0 ∧ S0.1 t = 0) → S.1 t = S0.1 t ∧ S.2.1 t = S0.2.1 t)
theorem cMrg_0 (R S0 : CS) : cMrg R S0 0 S0 := ⟨rfl, fun t ht => ⟨fun h => by omega, fun _ => ⟨rfl, rfl⟩⟩⟩
theorem cMrg_put {R S0 S : CS} {k : Nat} (hk : k < 8) (h : cMrg R S0 k S) (h1 : ¬ R.1 k = 0) (h2 : S.1 k = 0) : cMrg R S0 (k + 1) (pput k (R.2.1 k) S) := by
  have h0 : S0.1 k = 0 := by
    have := ((h.2 k hk).2 (fun q => by omega)).1
    rw [← this]; exact h2
  unfold pput
  rw [if_pos h2]
  refine ⟨h.1, fun t ht => ?_⟩
  by_cases e : t = k
  · subst e
    refine ⟨fun _ => ?_, fun q => absurd ⟨by omega, h1, h0⟩ q⟩
    simp [upd]
  · have h3 := h.2 t ht
    simp only [upd, e, if_false]
    exact ⟨fun q => h3.1 ⟨by omega, q.2⟩, fun q => h3.2 (fun z => q ⟨by omega, z.2⟩)⟩
theorem cMrg_no {R S0 S : CS} {k : Nat} (hk : k < 8) (h : cMrg R S0 k S) (h1 : R.1 k = 0 ∨ ¬ S.1 k = 0) : cMrg R S0 (k + 1) S := by
  refine ⟨h.1, fun t ht => ?_⟩
  by_cases e : t = k
  · subst e
    have h3 := (h.2 t hk).2 (fun q => by omega)
    refine ⟨fun q => ?_, fun _ => h3⟩
    rcases h1 with h1 | h1
    · exact absurd h1 q.2.1
    · exact absurd (h3.1.trans q.2.2) h1
  · have h3 := h.2 t ht
    exact ⟨fun q => h3.1 ⟨by omega, q.2⟩, fun q => h3.2 (fun z => q ⟨by omega, z.2⟩)⟩

set_option maxRecDepth 100000 in
set_option maxHeartbeats 4000000 in
/-- X3 addMissingTypes -/
theorem k_X3_addMissingTypes (l : Launch) (G : XG) (hI : XI G) (i j : Nat) (μ : Mem) (hij : j ≠ i) : XMet l G y_X3_addMissingTypes c_X3_addMissingTypes 3 none 1 [.inr (16, i), .inr (16, j)] μ (fun r μ' => r = none ∧ ∃ S : CS, μ' = mcl μ i S ∧ cMrg (dS μ j) (dS μ i) 8 S) := by
  refine xj_met (by decide) hI (Nat.le_of_ble_eq_true rfl) ?_
  intro p e s m args below meth c E hr hlk
  have E : XE G (xA G) RX3 c_X3_addMissingTypes 3 p s m args c := E
  refine xj_loc (L' := [some (.inr (16, i)), some (.inr (16, j)), none]) rfl ?_
  have lp : ∀ (Q : State → Prop) (n k : Nat) (S : CS), 8 - k = n → k ≤ 8 → cMrg (dS μ j) (dS μ i) k S → (∀ S' : CS, cMrg (dS μ j) (dS μ i) 8 S' → XJ G (xA G) 3 p l e (xr 1) s m args below meth c 0 0 Q 43 [some (.inr (16, i)), some (.inr (16, j)), some (.inl (nI 8))] [] (mcl μ i S')) → XJ G (xA G) 3 p l e (xr 1) s m args below meth c 0 0 Q 2 [some (.inr (16, i)), some (.inr (16, j)), some (.inl (nI k))] [] (mcl μ i S) := by
    intro Q n
    induction n using Nat.strongRecOn with
    | _ n ih =>
    intro k S hn hk hinv hx
    refine xj_iload_n E d_X3_addMissingTypes_2 rfl ?_
    refine xj_bipush (v := 8) E d_X3_addMissingTypes_3 (by decide) ?_
    refine xj_icmp_ge (tgt := 43) E d_X3_addMissingTypes_5 (by decide) (fun h5 => ?_) (fun h5 => ?_)
    · have hk8 : k = 8 := by
        have := ge_nI (a := 8) h5 (by omega) (by omega)
        omega
      subst hk8
      exact hx S hinv
    have hlt : k < 8 := ng_nI (a := 8) h5 (by omega) (by omega)
    have hin : vp_in (nI k) 8 := in_nI hlt (by omega)
    have hcl : (nI k).toNatClampNeg = k := cl_nI (by omega)
    refine xj_aload_n E d_X3_addMissingTypes_8 rfl ?_
    refine xj_geta E fl_X3_9 (by decide) rfl (by decide) rfl d_X3_addMissingTypes_9 ?_
    refine xj_iload_n E d_X3_addMissingTypes_12 rfl ?_
    refine xj_zald E (by decide) hin d_X3_addMissingTypes_13 ?_
    refine xj_if_eq (tgt := 37) E d_X3_addMissingTypes_14 (by decide) (fun h14 => ?_) (fun h14 => ?_)
    · refine xj_iinc (v := nI (k + 1)) E d_X3_addMissingTypes_37 rfl (nI_inc k) rfl ?_
      refine xj_goto (tgt := 2) E d_X3_addMissingTypes_40 (by decide) ?_
      first
        | exact ih (8 - (k + 1)) (by omega) (k + 1) _ rfl (by omega) (cMrg_put hlt hinv (by rw [hcl, mcl_i hij] at h14; exact h14) (by rw [hcl, mcl_17] at h23; exact h23)) hx
        | exact ih (8 - (k + 1)) (by omega) (k + 1) _ rfl (by omega) (cMrg_no hlt hinv (Or.inr (by rw [hcl, mcl_17] at h23; exact h23))) hx
        | exact ih (8 - (k + 1)) (by omega) (k + 1) _ rfl (by omega) (cMrg_no hlt hinv (Or.inl (by rw [hcl, mcl_i hij] at h14; exact h14))) hx
    refine xj_aload_n E d_X3_addMissingTypes_17 rfl ?_
    refine xj_geta E fl_X3_9 (by decide) rfl (by decide) rfl d_X3_addMissingTypes_18 ?_
    refine xj_iload_n E d_X3_addMissingTypes_21 rfl ?_
    refine xj_zald E (by decide) hin d_X3_addMissingTypes_22 ?_
    refine xj_if_ne (tgt := 37) E d_X3_addMissingTypes_23 (by decide) (fun h23 => ?_) (fun h23 => ?_)
    · refine xj_iinc (v := nI (k + 1)) E d_X3_addMissingTypes_37 rfl (nI_inc k) rfl ?_
      refine xj_goto (tgt := 2) E d_X3_addMissingTypes_40 (by decide) ?_
      first
        | exact ih (8 - (k + 1)) (by omega) (k + 1) _ rfl (by omega) (cMrg_put hlt hinv (by rw [hcl, mcl_i hij] at h14; exact h14) (by rw [hcl, mcl_17] at h23; exact h23)) hx
        | exact ih (8 - (k + 1)) (by omega) (k + 1) _ rfl (by omega) (cMrg_no hlt hinv (Or.inr (by rw [hcl, mcl_17] at h23; exact h23))) hx
        | exact ih (8 - (k + 1)) (by omega) (k + 1) _ rfl (by omega) (cMrg_no hlt hinv (Or.inl (by rw [hcl, mcl_i hij] at h14; exact h14))) hx
    refine xj_aload_n E d_X3_addMissingTypes_26 rfl ?_
    refine xj_iload_n E d_X3_addMissingTypes_27 rfl ?_
    refine xj_aload_n E d_X3_addMissingTypes_28 rfl ?_
    refine xj_geta E fl_X3_15 (by decide) rfl (by decide) rfl d_X3_addMissingTypes_29 ?_
    refine xj_iload_n E d_X3_addMissingTypes_32 rfl ?_
    refine xj_iald E (by decide) hin d_X3_addMissingTypes_33 ?_
    refine xj_callV E (k_X3_put l G hI i (nI k) _ _ hin) cw_X3_23 cv_X3_put (by decide) rfl rfl rfl ⟨by decide, by decide⟩ (Nat.le_of_ble_eq_true rfl) d_X3_addMissingTypes_34 ⟨by decide, by decide⟩ (fun r34 μ34 ho34 hp34 => ?_)
    obtain ⟨rfl, rfl⟩ := hp34
    refine xj_mem (μ' := mcl μ i (pput k (μ 18 j k) S)) (by rw [dS_mcl, mcl_mcl, hcl, mcl_i hij]) ?_
    refine xj_iinc (v := nI (k + 1)) E d_X3_addMissingTypes_37 rfl (nI_inc k) rfl ?_
    refine xj_goto (tgt := 2) E d_X3_addMissingTypes_40 (by decide) ?_
    first
      | exact ih (8 - (k + 1)) (by omega) (k + 1) _ rfl (by omega) (cMrg_put hlt hinv (by rw [hcl, mcl_i hij] at h14; exact h14) (by rw [hcl, mcl_17] at h23; exact h23)) hx
      | exact ih (8 - (k + 1)) (by omega) (k + 1) _ rfl (by omega) (cMrg_no hlt hinv (Or.inr (by rw [hcl, mcl_17] at h23; exact h23))) hx
      | exact ih (8 - (k + 1)) (by omega) (k + 1) _ rfl (by omega) (cMrg_no hlt hinv (Or.inl (by rw [hcl, mcl_i hij] at h14; exact h14))) hx
  refine xj_iconst (v := 0) E d_X3_addMissingTypes_0 (by decide) ?_
  refine xj_istore_n E d_X3_addMissingTypes_1 (by decide) rfl ?_
  refine xj_mem (mcl_dS μ i).symm ?_
  refine lp _ 8 0 (dS μ i) rfl (by omega) (cMrg_0 _ _) (fun S' hS' => ?_)
  exact xj_vret E hr hlk d_X3_addMissingTypes_43 ⟨rfl, S', rfl, hS'⟩

set_option maxRecDepth 100000 in
set_option maxHeartbeats 4000000 in
/-- X3 isAmong -/
theorem k_X3_isAmong (l : Launch) (G : XG) (hI : XI G) (i j : Nat) (μ : Mem)  : XMet l G y_X3_isAmong c_X3_isAmong 3 (some .boolean) 0 [.inr (16, i), .inr (16, j)] μ (fun r μ' => ∃ x : Int32, r = some (.inl x) ∧ (x = 0 ∨ x = 1) ∧ (x = 1 ↔ ∀ t, t < 8 → ¬ μ 17 i t = 0 → ¬ μ 17 j t = 0 ∧ μ 18 j t = μ 18 i t) ∧ μ' = μ) := by
  refine xj_met (by decide) hI (Nat.le_of_ble_eq_true rfl) ?_
  intro p e s m args below meth c E hr hlk
  have E : XE G (xA G) RX3 c_X3_isAmong 3 p s m args c := E
  refine xj_loc (L' := [some (.inr (16, i)), some (.inr (16, j)), none]) rfl ?_
  have lp : ∀ (Q : State → Prop) (n k : Nat), 8 - k = n → k ≤ 8 → (∀ t, t < k → ¬ μ 17 i t = 0 → ¬ μ 17 j t = 0 ∧ μ 18 j t = μ 18 i t) → ((∀ t, t < 8 → ¬ μ 17 i t = 0 → ¬ μ 17 j t = 0 ∧ μ 18 j t = μ 18 i t) → XJ G (xA G) 3 p l e (xr 0) s m args below meth c 0 0 Q 49 [some (.inr (16, i)), some (.inr (16, j)), some (.inl (nI 8))] [] μ) → (∀ k, (¬ ∀ t, t < 8 → ¬ μ 17 i t = 0 → ¬ μ 17 j t = 0 ∧ μ 18 j t = μ 18 i t) → XJ G (xA G) 3 p l e (xr 0) s m args below meth c 0 0 Q 41 [some (.inr (16, i)), some (.inr (16, j)), some (.inl (nI k))] [] μ) → XJ G (xA G) 3 p l e (xr 0) s m args below meth c 0 0 Q 2 [some (.inr (16, i)), some (.inr (16, j)), some (.inl (nI k))] [] μ := by
    intro Q n
    induction n using Nat.strongRecOn with
    | _ n ih =>
    intro k hn hk hinv hx hy
    refine xj_iload_n E d_X3_isAmong_2 rfl ?_
    refine xj_bipush (v := 8) E d_X3_isAmong_3 (by decide) ?_
    refine xj_icmp_ge (tgt := 49) E d_X3_isAmong_5 (by decide) (fun h5 => ?_) (fun h5 => ?_)
    · have hk8 : k = 8 := by
        have := ge_nI (a := 8) h5 (by omega) (by omega)
        omega
      subst hk8
      exact hx hinv
    have hlt : k < 8 := ng_nI (a := 8) h5 (by omega) (by omega)
    have hin : vp_in (nI k) 8 := in_nI hlt (by omega)
    have hcl : (nI k).toNatClampNeg = k := cl_nI (by omega)
    refine xj_aload_n E d_X3_isAmong_8 rfl ?_
    refine xj_geta E fl_X3_9 (by decide) rfl (by decide) rfl d_X3_isAmong_9 ?_
    refine xj_iload_n E d_X3_isAmong_12 rfl ?_
    refine xj_zald E (by decide) hin d_X3_isAmong_13 ?_
    refine xj_if_eq (tgt := 43) E d_X3_isAmong_14 (by decide) (fun h14 => ?_) (fun h14 => ?_)
    · refine xj_iinc (v := nI (k + 1)) E d_X3_isAmong_43 rfl (nI_inc k) rfl ?_
      refine xj_goto (tgt := 2) E d_X3_isAmong_46 (by decide) ?_
      refine ih (8 - (k + 1)) (by omega) (k + 1) rfl (by omega) (fun t ht h1 => ?_) hx hy
      by_cases q : t = k
      · subst q
        rw [hcl] at h14
        first
          | (rw [hcl] at h23 h38; exact ⟨h23, h38⟩)
          | exact absurd h14 h1
      · exact hinv t (by omega) h1
    refine xj_aload_n E d_X3_isAmong_17 rfl ?_
    refine xj_geta E fl_X3_9 (by decide) rfl (by decide) rfl d_X3_isAmong_18 ?_
    refine xj_iload_n E d_X3_isAmong_21 rfl ?_
    refine xj_zald E (by decide) hin d_X3_isAmong_22 ?_
    refine xj_if_eq (tgt := 41) E d_X3_isAmong_23 (by decide) (fun h23 => ?_) (fun h23 => ?_)
    · refine hy k (fun q => ?_)
      rw [hcl] at h14
      first
        | (rw [hcl] at h38; exact h38 (q k hlt h14).2)
        | (rw [hcl] at h23; exact (q k hlt h14).1 h23)
    refine xj_aload_n E d_X3_isAmong_26 rfl ?_
    refine xj_geta E fl_X3_15 (by decide) rfl (by decide) rfl d_X3_isAmong_27 ?_
    refine xj_iload_n E d_X3_isAmong_30 rfl ?_
    refine xj_iald E (by decide) hin d_X3_isAmong_31 ?_
    refine xj_aload_n E d_X3_isAmong_32 rfl ?_
    refine xj_geta E fl_X3_15 (by decide) rfl (by decide) rfl d_X3_isAmong_33 ?_
    refine xj_iload_n E d_X3_isAmong_36 rfl ?_
    refine xj_iald E (by decide) hin d_X3_isAmong_37 ?_
    refine xj_icmp_eq (tgt := 43) E d_X3_isAmong_38 (by decide) (fun h38 => ?_) (fun h38 => ?_)
    · refine xj_iinc (v := nI (k + 1)) E d_X3_isAmong_43 rfl (nI_inc k) rfl ?_
      refine xj_goto (tgt := 2) E d_X3_isAmong_46 (by decide) ?_
      refine ih (8 - (k + 1)) (by omega) (k + 1) rfl (by omega) (fun t ht h1 => ?_) hx hy
      by_cases q : t = k
      · subst q
        rw [hcl] at h14
        first
          | (rw [hcl] at h23 h38; exact ⟨h23, h38⟩)
          | exact absurd h14 h1
      · exact hinv t (by omega) h1
    refine hy k (fun q => ?_)
    rw [hcl] at h14
    first
      | (rw [hcl] at h38; exact h38 (q k hlt h14).2)
      | (rw [hcl] at h23; exact (q k hlt h14).1 h23)
  refine xj_iconst (v := 0) E d_X3_isAmong_0 (by decide) ?_
  refine xj_istore_n E d_X3_isAmong_1 (by decide) rfl ?_
  refine lp _ 8 0 rfl (by omega) (fun t ht => by omega) (fun hq => ?_) (fun k hq => ?_)
  · refine xj_iconst (v := 1) E d_X3_isAmong_49 (by decide) ?_
    exact xj_zret E hr hlk (Or.inr rfl) d_X3_isAmong_50 ⟨1, rfl, Or.inr rfl, ⟨fun _ => hq, fun _ => rfl⟩, rfl⟩
  · refine xj_iconst (v := 0) E d_X3_isAmong_41 (by decide) ?_
    exact xj_zret E hr hlk (Or.inl rfl) d_X3_isAmong_42 ⟨0, rfl, Or.inl rfl, ⟨fun q => absurd q i0_1, fun q => absurd q hq⟩, rfl⟩
