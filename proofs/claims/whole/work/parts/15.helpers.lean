/-- what the closures and the chain are made in may change, nothing else -/
def frS (μ μ' : Mem) : Prop := ∀ f, f < 16 ∨ 22 ≤ f → μ' f = μ f
theorem frS.rf (μ : Mem) : frS μ μ := fun _ _ => rfl
theorem frS.tr {μ μ1 μ2 : Mem} (h1 : frS μ μ1) (h2 : frS μ1 μ2) : frS μ μ2 := fun f hf => (h2 f hf).trans (h1 f hf)
theorem frS_mcl (μ : Mem) (i : Nat) (S : CS) : frS μ (mcl μ i S) := fun f hf => mcl_f ⟨by omega, by omega, by omega⟩
/-- besides, the bindings in force stay -/
def frB (μ μ' : Mem) : Prop := frS μ μ' ∧ dS μ' 0 = dS μ 0
theorem frB.rf (μ : Mem) : frB μ μ := ⟨frS.rf μ, rfl⟩
theorem frB.tr {μ μ1 μ2 : Mem} (h1 : frB μ μ1) (h2 : frB μ1 μ2) : frB μ μ2 := ⟨h1.1.tr h2.1, h2.2.trans h1.2⟩
theorem frB_mcl (μ : Mem) (S : CS) : frB μ (mcl μ 1 S) := ⟨frS_mcl μ 1 S, dS_mcl_ne (by decide)⟩
theorem frB_ch {μ μ' : Mem} (h : ∀ f, f ≠ 19 → f ≠ 20 → f ≠ 21 → μ' f = μ f) : frB μ μ' := ⟨fun f hf => h f (by omega) (by omega) (by omega), by
  unfold dS
  rw [h 17 (by decide) (by decide) (by decide), h 18 (by decide) (by decide) (by decide), h 16 (by decide) (by decide) (by decide)]⟩
theorem xCh_keep {μ μ' : Mem} {l : List (Int32 × Int32)} (h : xCh μ l) (h1 : μ' 19 = μ 19) (h2 : μ' 20 = μ 20) (h3 : μ' 21 = μ 21) : xCh μ' l := by
  unfold xCh
  rw [h1, h2, h3]
  exact h
theorem xCh_mcl {μ : Mem} {l : List (Int32 × Int32)} {i : Nat} {S : CS} (h : xCh μ l) : xCh (mcl μ i S) l := xCh_keep h (mcl_f ⟨by decide, by decide, by decide⟩) (mcl_f ⟨by decide, by decide, by decide⟩) (mcl_f ⟨by decide, by decide, by decide⟩)
theorem frS.nb {μ μ' : Mem} (h : frS μ μ') (b : Nat) : xnb μ' b = xnb μ b := by unfold xnb; rw [h 4 (by omega)]
theorem frS.bt {μ μ' : Mem} (h : frS μ μ') (b : Nat) : xbt μ' b = xbt μ b := by funext k; unfold xbt; rw [h 5 (by omega)]
theorem frS.bv {μ μ' : Mem} (h : frS μ μ') (b : Nat) : xbv μ' b = xbv μ b := by funext k; unfold xbv; rw [h 6 (by omega)]
theorem frS.ca {μ μ' : Mem} (h : frS μ μ') : xca μ' = xca μ := by funext k; unfold xca; rw [h 3 (by omega)]
theorem frS.pair {μ μ' : Mem} (h : frS μ μ') (b : Nat) : xPair μ' b = xPair μ b := by unfold xPair; rw [h.nb, h.bt, h.bv, h.nb, h.ca, h.bt, h.bv]
theorem frS.conf {μ μ' : Mem} (h : frS μ μ') (b : Nat) : xConf μ' b = xConf μ b := by unfold xConf; rw [h.nb, h.bt, h.bv, h.nb, h.ca, h.bt, h.bv]
theorem frS.clok {μ μ' : Mem} (h : frS μ μ') (b : Nat) : xClOK μ' b = xClOK μ b := by funext S; unfold xClOK; rw [h.nb, h.bt, h.bv, h.nb, h.ca, h.bt, h.bv]
theorem frS.row {μ μ' : Mem} (h : frS μ μ') (b nt : Nat) : xRow μ' b nt = xRow μ b nt := by unfold xRow; rw [h.nb, h 4 (by omega), h 5 (by omega)]
theorem frS.typ {μ μ' : Mem} (h : frS μ μ') (nt : Nat) : xTyp μ' nt = xTyp μ nt := by unfold xTyp; rw [h.nb, h.row, h 1 (by omega), h 3 (by omega)]
def xnt (μ : Mem) : Nat := (μ 1 0 0).toNatClampNeg
def xni (μ : Mem) : Nat := (μ 0 0 2).toNatClampNeg
def xnd (μ : Mem) : Nat := (μ 0 0 4).toNatClampNeg
def xnp (μ : Mem) : Nat := (μ 0 0 6).toNatClampNeg
def xnl (μ : Mem) (q : Nat) : Nat := (μ 13 q 2).toNatClampNeg
/-- the class's declarations are as they must be -/
def xWF (μ : Mem) : Prop := xTyp μ (xnt μ) ∧ (μ 0 0 2 = nI (xni μ) ∧ xni μ ≤ 8) ∧ (μ 0 0 4 = nI (xnd μ) ∧ xnd μ ≤ 4) ∧ (μ 0 0 6 = nI (xnp μ) ∧ xnp μ ≤ 4) ∧ (∀ i, i < xni μ → xRow μ (i + 1) (xnt μ)) ∧ ∀ q, q < 5 * xnp μ → xRow μ (q + 9) (xnt μ) ∧ (μ 13 q 2 = nI (xnl μ q) ∧ xnl μ q ≤ 4) ∧ ∀ k, k < xnl μ q → ∃ i, i < xni μ ∧ μ 14 q k = nI i
theorem frS.wf {μ μ' : Mem} (h : frS μ μ') (hw : xWF μ) : xWF μ' := by
  unfold xWF xnt xni xnd xnp xnl at *
  rw [h.typ, h 0 (by omega), h 1 (by omega), h 13 (by omega), h 14 (by omega)]
  simp only [h.row]
  exact hw
/-- a proposition as a truth value -/
noncomputable def bq (P : Prop) : Bool := @decide P (Classical.propDecidable P)
theorem bq_t {P : Prop} (h : P) : bq P = true := by unfold bq; exact @decide_eq_true P (Classical.propDecidable P) h
theorem bq_f {P : Prop} (h : ¬ P) : bq P = false := by unfold bq; exact @decide_eq_false P (Classical.propDecidable P) h
theorem bq_i {P : Prop} : bq P = true ↔ P := by
  constructor
  · intro q
    apply Classical.byContradiction
    intro n
    rw [bq_f n] at q
    cases q
  · exact bq_t

set_option maxRecDepth 100000 in
set_option maxHeartbeats 4000000 in
/-- X9 isWithin -/
theorem k_X9_isWithin (l : Launch) (G : XG) (hI : XI G) (x n : Int32) (μ : Mem)  : XMet l G y_X9_isWithin c_X9_isWithin 2 (some .boolean) 0 [.inl x, .inl n] μ (fun r μ' => r = some (.inl (if x < 0 then 0 else if n < x then 0 else 1)) ∧ μ' = μ) := by
  refine xj_met (by decide) hI (Nat.le_of_ble_eq_true rfl) ?_
  intro p e s m args below meth c E hr hlk
  have E : XE G (xA G) RX9 c_X9_isWithin 2 p s m args c := E
  refine xj_loc (L' := [some (.inl x), some (.inl n)]) rfl ?_
  refine xj_iload_n E d_X9_isWithin_0 rfl ?_
  refine xj_if_lt (tgt := 13) E d_X9_isWithin_1 (by decide) (fun h1 => ?_) (fun h1 => ?_)
  · refine xj_iconst (v := 0) E d_X9_isWithin_13 (by decide) ?_
    exact xj_zret E hr hlk (by decide) d_X9_isWithin_14 (by first | exact ⟨by rw [if_pos h1], rfl⟩ | exact ⟨by rw [if_neg h1, if_pos h6], rfl⟩ | exact ⟨by rw [if_neg h1, if_neg h6], rfl⟩)
  refine xj_iload_n E d_X9_isWithin_4 rfl ?_
  refine xj_iload_n E d_X9_isWithin_5 rfl ?_
  refine xj_icmp_gt (tgt := 13) E d_X9_isWithin_6 (by decide) (fun h6 => ?_) (fun h6 => ?_)
  · refine xj_iconst (v := 0) E d_X9_isWithin_13 (by decide) ?_
    exact xj_zret E hr hlk (by decide) d_X9_isWithin_14 (by first | exact ⟨by rw [if_pos h1], rfl⟩ | exact ⟨by rw [if_neg h1, if_pos h6], rfl⟩ | exact ⟨by rw [if_neg h1, if_neg h6], rfl⟩)
  refine xj_iconst (v := 1) E d_X9_isWithin_9 (by decide) ?_
  refine xj_goto (tgt := 14) E d_X9_isWithin_10 (by decide) ?_
  exact xj_zret E hr hlk (by decide) d_X9_isWithin_14 (by first | exact ⟨by rw [if_pos h1], rfl⟩ | exact ⟨by rw [if_neg h1, if_pos h6], rfl⟩ | exact ⟨by rw [if_neg h1, if_neg h6], rfl⟩)

set_option maxRecDepth 100000 in
set_option maxHeartbeats 4000000 in
/-- X9 isInterceptor -/
theorem k_X9_isInterceptor (l : Launch) (G : XG) (hI : XI G) (x : Int32) (μ : Mem)  : XMet l G y_X9_isInterceptor c_X9_isInterceptor 2 (some .boolean) 0 [.inr (0, 0), .inl x] μ (fun r μ' => r = some (.inl (if x < 0 then 0 else if μ 0 0 2 ≤ x then 0 else 1)) ∧ μ' = μ) := by
  refine xj_met (by decide) hI (Nat.le_of_ble_eq_true rfl) ?_
  intro p e s m args below meth c E hr hlk
  have E : XE G (xA G) RX9 c_X9_isInterceptor 2 p s m args c := E
  refine xj_loc (L' := [some (.inr (0, 0)), some (.inl x)]) rfl ?_
  refine xj_iload_n E d_X9_isInterceptor_0 rfl ?_
  refine xj_if_lt (tgt := 16) E d_X9_isInterceptor_1 (by decide) (fun h1 => ?_) (fun h1 => ?_)
  · refine xj_iconst (v := 0) E d_X9_isInterceptor_16 (by decide) ?_
    exact xj_zret E hr hlk (by decide) d_X9_isInterceptor_17 (by first | exact ⟨by rw [if_pos h1], rfl⟩ | exact ⟨by rw [if_neg h1, if_pos h9], rfl⟩ | exact ⟨by rw [if_neg h1, if_neg h9], rfl⟩)
  refine xj_iload_n E d_X9_isInterceptor_4 rfl ?_
  refine xj_aload_n E d_X9_isInterceptor_5 rfl ?_
  refine xj_geti E fl_X9_64 (by decide) rfl (by decide) rfl d_X9_isInterceptor_6 ?_
  refine xj_icmp_ge (tgt := 16) E d_X9_isInterceptor_9 (by decide) (fun h9 => ?_) (fun h9 => ?_)
  · refine xj_iconst (v := 0) E d_X9_isInterceptor_16 (by decide) ?_
    exact xj_zret E hr hlk (by decide) d_X9_isInterceptor_17 (by first | exact ⟨by rw [if_pos h1], rfl⟩ | exact ⟨by rw [if_neg h1, if_pos h9], rfl⟩ | exact ⟨by rw [if_neg h1, if_neg h9], rfl⟩)
  refine xj_iconst (v := 1) E d_X9_isInterceptor_12 (by decide) ?_
  refine xj_goto (tgt := 17) E d_X9_isInterceptor_13 (by decide) ?_
  exact xj_zret E hr hlk (by decide) d_X9_isInterceptor_17 (by first | exact ⟨by rw [if_pos h1], rfl⟩ | exact ⟨by rw [if_neg h1, if_pos h9], rfl⟩ | exact ⟨by rw [if_neg h1, if_neg h9], rfl⟩)

set_option maxRecDepth 100000 in
set_option maxHeartbeats 4000000 in
/-- X9 isComponent -/
theorem k_X9_isComponent (l : Launch) (G : XG) (hI : XI G) (x : Int32) (μ : Mem)  : XMet l G y_X9_isComponent c_X9_isComponent 2 (some .boolean) 0 [.inr (0, 0), .inl x] μ (fun r μ' => r = some (.inl (if x < 0 then 0 else if μ 0 0 6 ≤ x then 0 else 1)) ∧ μ' = μ) := by
  refine xj_met (by decide) hI (Nat.le_of_ble_eq_true rfl) ?_
  intro p e s m args below meth c E hr hlk
  have E : XE G (xA G) RX9 c_X9_isComponent 2 p s m args c := E
  refine xj_loc (L' := [some (.inr (0, 0)), some (.inl x)]) rfl ?_
  refine xj_iload_n E d_X9_isComponent_0 rfl ?_
  refine xj_if_lt (tgt := 16) E d_X9_isComponent_1 (by decide) (fun h1 => ?_) (fun h1 => ?_)
  · refine xj_iconst (v := 0) E d_X9_isComponent_16 (by decide) ?_
    exact xj_zret E hr hlk (by decide) d_X9_isComponent_17 (by first | exact ⟨by rw [if_pos h1], rfl⟩ | exact ⟨by rw [if_neg h1, if_pos h9], rfl⟩ | exact ⟨by rw [if_neg h1, if_neg h9], rfl⟩)
  refine xj_iload_n E d_X9_isComponent_4 rfl ?_
  refine xj_aload_n E d_X9_isComponent_5 rfl ?_
  refine xj_geti E fl_X9_71 (by decide) rfl (by decide) rfl d_X9_isComponent_6 ?_
  refine xj_icmp_ge (tgt := 16) E d_X9_isComponent_9 (by decide) (fun h9 => ?_) (fun h9 => ?_)
  · refine xj_iconst (v := 0) E d_X9_isComponent_16 (by decide) ?_
    exact xj_zret E hr hlk (by decide) d_X9_isComponent_17 (by first | exact ⟨by rw [if_pos h1], rfl⟩ | exact ⟨by rw [if_neg h1, if_pos h9], rfl⟩ | exact ⟨by rw [if_neg h1, if_neg h9], rfl⟩)
  refine xj_iconst (v := 1) E d_X9_isComponent_12 (by decide) ?_
  refine xj_goto (tgt := 17) E d_X9_isComponent_13 (by decide) ?_
  exact xj_zret E hr hlk (by decide) d_X9_isComponent_17 (by first | exact ⟨by rw [if_pos h1], rfl⟩ | exact ⟨by rw [if_neg h1, if_pos h9], rfl⟩ | exact ⟨by rw [if_neg h1, if_neg h9], rfl⟩)

set_option maxRecDepth 100000 in
set_option maxHeartbeats 4000000 in
/-- X9 isPlace -/
theorem k_X9_isPlace (l : Launch) (G : XG) (hI : XI G) (x y : Int32) (μ : Mem)  : XMet l G y_X9_isPlace c_X9_isPlace 3 (some .boolean) 1 [.inr (0, 0), .inl x, .inl y] μ (fun r μ' => r = some (.inl (if (if x < 0 then (0 : Int32) else if μ 0 0 6 ≤ x then 0 else 1) = 0 then 0 else if y < -1 then 0 else if 4 ≤ y then 0 else 1)) ∧ μ' = μ) := by
  refine xj_met (by decide) hI (Nat.le_of_ble_eq_true rfl) ?_
  intro p e s m args below meth c E hr hlk
  have E : XE G (xA G) RX9 c_X9_isPlace 3 p s m args c := E
  refine xj_loc (L' := [some (.inr (0, 0)), some (.inl x), some (.inl y)]) rfl ?_
  refine xj_aload_n E d_X9_isPlace_0 rfl ?_
  refine xj_iload_n E d_X9_isPlace_1 rfl ?_
  refine xj_callV E (k_X9_isComponent l G hI x _) cw_X9_184 cv_X9_isComponent (by decide) rfl rfl rfl ⟨by decide, by decide⟩ (Nat.le_of_ble_eq_true rfl) d_X9_isPlace_2 ⟨by decide, by decide⟩ (fun r2 μ2 ho2 hp2 => ?_)
  obtain ⟨rfl, rfl⟩ := hp2
  refine xj_if_eq (tgt := 22) E d_X9_isPlace_5 (by decide) (fun h5 => ?_) (fun h5 => ?_)
  · refine xj_iconst (v := 0) E d_X9_isPlace_22 (by decide) ?_
    exact xj_zret E hr hlk (by decide) d_X9_isPlace_23 (by first | exact ⟨by rw [if_pos h5], rfl⟩ | exact ⟨by rw [if_neg h5, if_pos h10], rfl⟩ | exact ⟨by rw [if_neg h5, if_neg h10, if_pos h15], rfl⟩ | exact ⟨by rw [if_neg h5, if_neg h10, if_neg h15], rfl⟩)
  refine xj_iload_n E d_X9_isPlace_8 rfl ?_
  refine xj_iconst (v := -1) E d_X9_isPlace_9 (by decide) ?_
  refine xj_icmp_lt (tgt := 22) E d_X9_isPlace_10 (by decide) (fun h10 => ?_) (fun h10 => ?_)
  · refine xj_iconst (v := 0) E d_X9_isPlace_22 (by decide) ?_
    exact xj_zret E hr hlk (by decide) d_X9_isPlace_23 (by first | exact ⟨by rw [if_pos h5], rfl⟩ | exact ⟨by rw [if_neg h5, if_pos h10], rfl⟩ | exact ⟨by rw [if_neg h5, if_neg h10, if_pos h15], rfl⟩ | exact ⟨by rw [if_neg h5, if_neg h10, if_neg h15], rfl⟩)
  refine xj_iload_n E d_X9_isPlace_13 rfl ?_
  refine xj_iconst (v := 4) E d_X9_isPlace_14 (by decide) ?_
  refine xj_icmp_ge (tgt := 22) E d_X9_isPlace_15 (by decide) (fun h15 => ?_) (fun h15 => ?_)
  · refine xj_iconst (v := 0) E d_X9_isPlace_22 (by decide) ?_
    exact xj_zret E hr hlk (by decide) d_X9_isPlace_23 (by first | exact ⟨by rw [if_pos h5], rfl⟩ | exact ⟨by rw [if_neg h5, if_pos h10], rfl⟩ | exact ⟨by rw [if_neg h5, if_neg h10, if_pos h15], rfl⟩ | exact ⟨by rw [if_neg h5, if_neg h10, if_neg h15], rfl⟩)
  refine xj_iconst (v := 1) E d_X9_isPlace_18 (by decide) ?_
  refine xj_goto (tgt := 23) E d_X9_isPlace_19 (by decide) ?_
  exact xj_zret E hr hlk (by decide) d_X9_isPlace_23 (by first | exact ⟨by rw [if_pos h5], rfl⟩ | exact ⟨by rw [if_neg h5, if_pos h10], rfl⟩ | exact ⟨by rw [if_neg h5, if_neg h10, if_pos h15], rfl⟩ | exact ⟨by rw [if_neg h5, if_neg h10, if_neg h15], rfl⟩)

set_option maxRecDepth 100000 in
set_option maxHeartbeats 4000000 in
/-- X9 hasChain -/
theorem k_X9_hasChain (l : Launch) (G : XG) (hI : XI G) (x y : Int32) (μ : Mem)  : XMet l G y_X9_hasChain c_X9_hasChain 3 (some .boolean) 1 [.inr (0, 0), .inl x, .inl y] μ (fun r μ' => r = some (.inl (if (if x < 0 then (0 : Int32) else if μ 0 0 6 ≤ x then 0 else 1) = 0 then 0 else if y < 0 then 0 else if 7 ≤ y then 0 else 1)) ∧ μ' = μ) := by
  refine xj_met (by decide) hI (Nat.le_of_ble_eq_true rfl) ?_
  intro p e s m args below meth c E hr hlk
  have E : XE G (xA G) RX9 c_X9_hasChain 3 p s m args c := E
  refine xj_loc (L' := [some (.inr (0, 0)), some (.inl x), some (.inl y)]) rfl ?_
  refine xj_aload_n E d_X9_hasChain_0 rfl ?_
  refine xj_iload_n E d_X9_hasChain_1 rfl ?_
  refine xj_callV E (k_X9_isComponent l G hI x _) cw_X9_184 cv_X9_isComponent (by decide) rfl rfl rfl ⟨by decide, by decide⟩ (Nat.le_of_ble_eq_true rfl) d_X9_hasChain_2 ⟨by decide, by decide⟩ (fun r2 μ2 ho2 hp2 => ?_)
  obtain ⟨rfl, rfl⟩ := hp2
  refine xj_if_eq (tgt := 22) E d_X9_hasChain_5 (by decide) (fun h5 => ?_) (fun h5 => ?_)
  · refine xj_iconst (v := 0) E d_X9_hasChain_22 (by decide) ?_
    exact xj_zret E hr hlk (by decide) d_X9_hasChain_23 (by first | exact ⟨by rw [if_pos h5], rfl⟩ | exact ⟨by rw [if_neg h5, if_pos h9], rfl⟩ | exact ⟨by rw [if_neg h5, if_neg h9, if_pos h15], rfl⟩ | exact ⟨by rw [if_neg h5, if_neg h9, if_neg h15], rfl⟩)
  refine xj_iload_n E d_X9_hasChain_8 rfl ?_
  refine xj_if_lt (tgt := 22) E d_X9_hasChain_9 (by decide) (fun h9 => ?_) (fun h9 => ?_)
  · refine xj_iconst (v := 0) E d_X9_hasChain_22 (by decide) ?_
    exact xj_zret E hr hlk (by decide) d_X9_hasChain_23 (by first | exact ⟨by rw [if_pos h5], rfl⟩ | exact ⟨by rw [if_neg h5, if_pos h9], rfl⟩ | exact ⟨by rw [if_neg h5, if_neg h9, if_pos h15], rfl⟩ | exact ⟨by rw [if_neg h5, if_neg h9, if_neg h15], rfl⟩)
  refine xj_iload_n E d_X9_hasChain_12 rfl ?_
  refine xj_bipush (v := 7) E d_X9_hasChain_13 (by decide) ?_
  refine xj_icmp_ge (tgt := 22) E d_X9_hasChain_15 (by decide) (fun h15 => ?_) (fun h15 => ?_)
  · refine xj_iconst (v := 0) E d_X9_hasChain_22 (by decide) ?_
    exact xj_zret E hr hlk (by decide) d_X9_hasChain_23 (by first | exact ⟨by rw [if_pos h5], rfl⟩ | exact ⟨by rw [if_neg h5, if_pos h9], rfl⟩ | exact ⟨by rw [if_neg h5, if_neg h9, if_pos h15], rfl⟩ | exact ⟨by rw [if_neg h5, if_neg h9, if_neg h15], rfl⟩)
  refine xj_iconst (v := 1) E d_X9_hasChain_18 (by decide) ?_
  refine xj_goto (tgt := 23) E d_X9_hasChain_19 (by decide) ?_
  exact xj_zret E hr hlk (by decide) d_X9_hasChain_23 (by first | exact ⟨by rw [if_pos h5], rfl⟩ | exact ⟨by rw [if_neg h5, if_pos h9], rfl⟩ | exact ⟨by rw [if_neg h5, if_neg h9, if_pos h15], rfl⟩ | exact ⟨by rw [if_neg h5, if_neg h9, if_neg h15], rfl⟩)

theorem b01 {P : Prop} [Decidable P] (h : (if P then (0 : Int32) else 1) = 0) : P := by
  apply Classical.byContradiction
  intro q
  rw [if_neg q] at h
  exact i1_0 h
theorem b01n {P : Prop} [Decidable P] (h : ¬ (if P then (0 : Int32) else 1) = 0) : ¬ P := fun q => h (if_pos q)

set_option maxRecDepth 100000 in
set_option maxHeartbeats 4000000 in
/-- X9 addBinding -/
theorem k_X9_addBinding (l : Launch) (G : XG) (hI : XI G) (b : Nat) (t v : Int32) (μ : Mem) (h0 : ¬ μ 4 b 0 < 0) (ht : vp_in t 8) : XMet l G y_X9_addBinding c_X9_addBinding 4 (some .int) 2 [.inr (0, 0), .inr (4, b), .inl t, .inl v] μ (fun r μ' => (μ 4 b 0 < nI (xln 5 b) → r = some (.inl 0) ∧ μ' = mset (mset (mset μ 5 b (μ 4 b 0).toNatClampNeg t) 6 b (μ 4 b 0).toNatClampNeg (if μ 2 0 t.toNatClampNeg = 0 then 0 else v)) 4 b 0 (μ 4 b 0 + 1)) ∧ (¬ μ 4 b 0 < nI (xln 5 b) → r = some (.inl (-5)) ∧ μ' = μ)) := by
  refine xj_met (by decide) hI (Nat.le_of_ble_eq_true rfl) ?_
  intro p e s m args below meth c E hr hlk
  have E : XE G (xA G) RX9 c_X9_addBinding 4 p s m args c := E
  refine xj_loc (L' := [some (.inr (0, 0)), some (.inr (4, b)), some (.inl t), some (.inl v)]) rfl ?_
  refine xj_aload_n E d_X9_addBinding_0 rfl ?_
  refine xj_callV E (k_X1_isFull l G hI b _) cw_X9_94 cv_X1_isFull (by decide) rfl rfl rfl ⟨by decide, by decide⟩ (Nat.le_of_ble_eq_true rfl) d_X9_addBinding_1 ⟨by decide, by decide⟩ (fun r1 μ1 ho1 hp1 => ?_)
  obtain ⟨rfl, rfl⟩ := hp1
  refine xj_if_eq (tgt := 10) E d_X9_addBinding_4 (by decide) (fun h4 => ?_) (fun h4 => ?_)
  · refine xj_aload_n E d_X9_addBinding_10 rfl ?_
    refine xj_iload_n E d_X9_addBinding_11 rfl ?_
    refine xj_aload_n E d_X9_addBinding_12 rfl ?_
    refine xj_geta E fl_X9_10 (by decide) rfl (by decide) rfl d_X9_addBinding_13 ?_
    refine xj_iload_n E d_X9_addBinding_16 rfl ?_
    refine xj_iload_n E d_X9_addBinding_17 rfl ?_
    refine xj_callV E (k_X0_valueThatMatters l G hI t v _ ht) cw_X9_187 cv_X0_valueThatMatters (by decide) rfl rfl rfl ⟨by decide, by decide⟩ (Nat.le_of_ble_eq_true rfl) d_X9_addBinding_18 ⟨by decide, by decide⟩ (fun r18 μ18 ho18 hp18 => ?_)
    obtain ⟨rfl, rfl⟩ := hp18
    refine xj_callV E (k_X1_add l G hI b t _ _ h0) cw_X9_191 cv_X1_add (by decide) rfl rfl rfl ⟨by decide, by decide⟩ (Nat.le_of_ble_eq_true rfl) d_X9_addBinding_21 ⟨by decide, by decide⟩ (fun r21 μ21 ho21 hp21 => ?_)
    obtain ⟨rfl, rfl⟩ := hp21
    refine xj_iconst (v := 0) E d_X9_addBinding_24 (by decide) ?_
    exact xj_iret E hr hlk d_X9_addBinding_25 ⟨fun q => ⟨rfl, if_pos q⟩, fun q => absurd (b01 h4) q⟩
  refine xj_bipush (v := -5) E d_X9_addBinding_7 (by decide) ?_
  exact xj_iret E hr hlk d_X9_addBinding_9 ⟨fun q => absurd q (b01n h4), fun _ => ⟨rfl, rfl⟩⟩

set_option maxRecDepth 100000 in
set_option maxHeartbeats 4000000 in
/-- X9 hasConflict -/
theorem k_X9_hasConflict (l : Launch) (G : XG) (hI : XI G) (b nt : Nat) (μ : Mem) (hT : xTyp μ nt) (hR : xRow μ b nt) : XMet l G y_X9_hasConflict c_X9_hasConflict 2 (some .boolean) 2 [.inr (0, 0), .inr (4, b)] μ (fun r μ' => ∃ x : Int32, r = some (.inl x) ∧ (x = 0 ∨ x = 1) ∧ (x = 1 ↔ xConf μ b) ∧ frS μ μ') := by
  refine xj_met (by decide) hI (Nat.le_of_ble_eq_true rfl) ?_
  intro p e s m args below meth c E hr hlk
  have E : XE G (xA G) RX9 c_X9_hasConflict 2 p s m args c := E
  refine xj_loc (L' := [some (.inr (0, 0)), some (.inr (4, b))]) rfl ?_
  refine xj_aload_n E d_X9_hasConflict_0 rfl ?_
  refine xj_geta E fl_X9_10 (by decide) rfl (by decide) rfl d_X9_hasConflict_1 ?_
  refine xj_aload_n E d_X9_hasConflict_4 rfl ?_
  refine xj_aload_n E d_X9_hasConflict_5 rfl ?_
  refine xj_geta E fl_X9_44 (by decide) rfl (by decide) rfl d_X9_hasConflict_6 ?_
  refine xj_callV E (k_X0_close l G hI b 1 nt _ hT hR) cw_X9_203 cv_X0_close (by decide) rfl rfl rfl ⟨by decide, by decide⟩ (Nat.le_of_ble_eq_true rfl) d_X9_hasConflict_9 ⟨by decide, by decide⟩ (fun r9 μ9 ho9 hp9 => ?_)
  obtain ⟨rfl, S, rfl, hS⟩ := hp9
  refine xj_aload_n E d_X9_hasConflict_12 rfl ?_
  refine xj_geta E fl_X9_44 (by decide) rfl (by decide) rfl d_X9_hasConflict_13 ?_
  refine xj_geti E fl_X9_207 (by decide) rfl (by decide) rfl d_X9_hasConflict_16 ?_
  refine xj_st (st' := [.inl S.2.2]) (by rw [mcl_16]; rfl) ?_
  exact xj_zret E hr hlk hS.1.2 d_X9_hasConflict_19 ⟨_, rfl, hS.1.2, hS.2.2.2, frS_mcl _ _ _⟩

/-- a closure that is done, without a conflict, is among what is in force just when each of its pairs is -/
theorem xAmong {μ : Mem} {b nt : Nat} {S F : CS} {FP : Nat → Int32 → Prop} (hT : xTyp μ nt) (hR : xRow μ b nt) (hc : ¬ xConf μ b) (hS : xClOK μ b S) (hF : ∀ t, t < 8 → ∀ v, (¬ F.1 t = 0 ∧ F.2.1 t = v) ↔ FP t v) : (∀ t, t < 8 → ¬ S.1 t = 0 → ¬ F.1 t = 0 ∧ F.2.1 t = S.2.1 t) ↔ ∀ t v, xPair μ b t v → FP t v := by
  have hlt : ∀ t v, xPair μ b t v → t < 8 := by
    intro t v hp
    rcases hp with ⟨k, hk, rfl, -⟩ | ⟨k, hk, -, rfl, -⟩
    · have := (hR.typ hT.1 hk).2
      have := hT.1
      omega
    · have := (hT.2.2.1.typ hT.1 hk).2
      have := hT.1
      omega
  constructor
  · intro h t v hp
    have ht := hlt t v hp
    have h1 : S.1 t = 1 := (hS.2.1 t ht).mpr hp.reach
    have h2 := hS.2.2.1 t ht h1
    have e : S.2.1 t = v := by
      apply Classical.byContradiction
      intro q
      exact hc ⟨t, _, _, h2, hp, q⟩
    have h3 := h t ht (by rw [h1]; exact i1_0)
    exact (hF t ht v).mp ⟨h3.1, h3.2.trans e⟩
  · intro h t ht h1
    have h2 : S.1 t = 1 := (hS.1.1 t ht).resolve_left h1
    exact (hF t ht _).mpr (h t _ (hS.2.2.1 t ht h2))

set_option maxRecDepth 100000 in
set_option maxHeartbeats 4000000 in
/-- X9 isInForce -/
theorem k_X9_isInForce (l : Launch) (G : XG) (hI : XI G) (b nt : Nat) (FP : Nat → Int32 → Prop) (μ : Mem) (hT : xTyp μ nt) (hR : xRow μ b nt) (hc : ¬ xConf μ b) (hF : ∀ t, t < 8 → ∀ v, (¬ (dS μ 0).1 t = 0 ∧ (dS μ 0).2.1 t = v) ↔ FP t v) : XMet l G y_X9_isInForce c_X9_isInForce 2 (some .boolean) 2 [.inr (0, 0), .inr (4, b)] μ (fun r μ' => r = some (.inl (if bq (0 < xnb μ b ∧ ∀ t v, xPair μ b t v → FP t v) then 1 else 0)) ∧ ∃ S : CS, μ' = mcl μ 1 S) := by
  refine xj_met (by decide) hI (Nat.le_of_ble_eq_true rfl) ?_
  intro p e s m args below meth c E hr hlk
  have E : XE G (xA G) RX9 c_X9_isInForce 2 p s m args c := E
  refine xj_loc (L' := [some (.inr (0, 0)), some (.inr (4, b))]) rfl ?_
  have hb := hR.cnt
  have hb5 := xln5 b
  refine xj_aload_n E d_X9_isInForce_0 rfl ?_
  refine xj_geta E fl_X9_10 (by decide) rfl (by decide) rfl d_X9_isInForce_1 ?_
  refine xj_aload_n E d_X9_isInForce_4 rfl ?_
  refine xj_aload_n E d_X9_isInForce_5 rfl ?_
  refine xj_geta E fl_X9_44 (by decide) rfl (by decide) rfl d_X9_isInForce_6 ?_
  refine xj_callV E (k_X0_close l G hI b 1 nt _ hT hR) cw_X9_203 cv_X0_close (by decide) rfl rfl rfl ⟨by decide, by decide⟩ (Nat.le_of_ble_eq_true rfl) d_X9_isInForce_9 ⟨by decide, by decide⟩ (fun r9 μ9 ho9 hp9 => ?_)
  obtain ⟨rfl, S, rfl, hS⟩ := hp9
  refine xj_aload_n E d_X9_isInForce_12 rfl ?_
  refine xj_geti E fl_X9_246 (by decide) rfl (by decide) rfl d_X9_isInForce_13 ?_
  refine xj_if_le (tgt := 37) E d_X9_isInForce_16 (by decide) (fun h16 => ?_) (fun h16 => ?_)
  · try
      have hge : ¬ 0 < xnb μ b := fun q => nI_nle q (by omega) (by rw [← hb.1]; exact h16)
    refine xj_iconst (v := 0) E d_X9_isInForce_37 (by decide) ?_
    exact xj_zret E hr hlk (by decide) d_X9_isInForce_38 (by first | exact ⟨by rw [bq_f (fun q => hge q.1)]; rfl, _, rfl⟩ | exact ⟨by rw [bq_f (fun q => i0_1 ((h30.symm.trans (hA.mpr q.2))))]; rfl, _, rfl⟩ | exact ⟨by rw [bq_t ⟨hgt, hA.mp (hx.resolve_left h30)⟩]; rfl, _, rfl⟩)
  have hgt : 0 < xnb μ b := by
    apply Classical.byContradiction
    intro q
    have q0 : xnb μ b = 0 := by omega
    apply h16
    show μ 4 b 0 ≤ 0
    rw [hb.1, q0]
    decide
  refine xj_aload_n E d_X9_isInForce_19 rfl ?_
  refine xj_geta E fl_X9_44 (by decide) rfl (by decide) rfl d_X9_isInForce_20 ?_
  refine xj_aload_n E d_X9_isInForce_23 rfl ?_
  refine xj_geta E fl_X9_40 (by decide) rfl (by decide) rfl d_X9_isInForce_24 ?_
  refine xj_callV E (k_X3_isAmong l G hI 1 0 _) cw_X9_247 cv_X3_isAmong (by decide) rfl rfl rfl ⟨by decide, by decide⟩ (Nat.le_of_ble_eq_true rfl) d_X9_isInForce_27 ⟨by decide, by decide⟩ (fun r27 μ27 ho27 hp27 => ?_)
  obtain ⟨x, rfl, hx, hxi, rfl⟩ := hp27
  refine xj_st (st' := [.inl x]) rfl ?_
  have hA : x = 1 ↔ ∀ t v, xPair μ b t v → FP t v := by
    rw [hxi]
    refine Iff.trans ?_ (xAmong hT hR hc hS hF)
    rw [mcl_17, mcl_18, mcl_i (by decide), mcl_i (by decide)]
    exact Iff.rfl
  refine xj_if_eq (tgt := 37) E d_X9_isInForce_30 (by decide) (fun h30 => ?_) (fun h30 => ?_)
  · try
      have hge : ¬ 0 < xnb μ b := fun q => nI_nle q (by omega) (by rw [← hb.1]; exact h16)
    refine xj_iconst (v := 0) E d_X9_isInForce_37 (by decide) ?_
    exact xj_zret E hr hlk (by decide) d_X9_isInForce_38 (by first | exact ⟨by rw [bq_f (fun q => hge q.1)]; rfl, _, rfl⟩ | exact ⟨by rw [bq_f (fun q => i0_1 ((h30.symm.trans (hA.mpr q.2))))]; rfl, _, rfl⟩ | exact ⟨by rw [bq_t ⟨hgt, hA.mp (hx.resolve_left h30)⟩]; rfl, _, rfl⟩)
  refine xj_iconst (v := 1) E d_X9_isInForce_33 (by decide) ?_
  refine xj_goto (tgt := 38) E d_X9_isInForce_34 (by decide) ?_
  exact xj_zret E hr hlk (by decide) d_X9_isInForce_38 (by first | exact ⟨by rw [bq_f (fun q => hge q.1)]; rfl, _, rfl⟩ | exact ⟨by rw [bq_f (fun q => i0_1 ((h30.symm.trans (hA.mpr q.2))))]; rfl, _, rfl⟩ | exact ⟨by rw [bq_t ⟨hgt, hA.mp (hx.resolve_left h30)⟩]; rfl, _, rfl⟩)

/-- what is in force for a method: its own closure, and of the component's what is of no type of its own -/
theorem xForce {μ : Mem} {b b0 nt : Nat} {S S0 F : CS} (hT : xTyp μ nt) (hS : xClOK μ b S) (hS0 : xClOK μ b0 S0) (hc : ¬ xConf μ b) (hc0 : ¬ xConf μ b0) (hM : cMrg S0 S 8 F) : ∀ t, t < 8 → ∀ v, (¬ F.1 t = 0 ∧ F.2.1 t = v) ↔ (xPair μ b t v ∨ (xPair μ b0 t v ∧ ¬ ∃ v', xPair μ b t v')) := by
  intro t ht v
  have h := hM.2 t ht
  have uq : ∀ {b1 : Nat} {S1 : CS}, xClOK μ b1 S1 → ¬ xConf μ b1 → S1.1 t = 1 → ∀ w, xPair μ b1 t w ↔ S1.2.1 t = w := by
    intro b1 S1 h1 h2 h3 w
    have h4 := h1.2.2.1 t ht h3
    constructor
    · intro h5
      apply Classical.byContradiction
      intro q
      exact h2 ⟨t, _, _, h4, h5, q⟩
    · intro e; rw [← e]; exact h4
  have no : ∀ {b1 : Nat} {S1 : CS}, xClOK μ b1 S1 → S1.1 t = 0 → ∀ w, ¬ xPair μ b1 t w := by
    intro b1 S1 h1 h2 w h3
    have := (h1.2.1 t ht).mpr h3.reach
    rw [h2] at this
    exact i0_1 this
  rcases hS.1.1 t ht with e | e
  · by_cases e0 : S0.1 t = 0
    · have h1 := h.2 (fun q => q.2.1 e0)
      constructor
      · rintro ⟨q, -⟩; exact absurd (h1.1.trans e) q
      · rintro (q | ⟨q, -⟩)
        · exact absurd q (no hS e v)
        · exact absurd q (no hS0 e0 v)
    · have h1 := h.1 ⟨by omega, e0, e⟩
      have e1 : S0.1 t = 1 := (hS0.1.1 t ht).resolve_left e0
      rw [h1.1, h1.2]
      constructor
      · rintro ⟨-, q⟩
        exact Or.inr ⟨(uq hS0 hc0 e1 v).mpr q, fun ⟨w, hw⟩ => no hS e w hw⟩
      · rintro (q | ⟨q, -⟩)
        · exact absurd q (no hS e v)
        · exact ⟨i1_0, (uq hS0 hc0 e1 v).mp q⟩
  · have h1 := h.2 (fun q => by rw [e] at q; exact i1_0 q.2.2)
    rw [h1.1, h1.2, e]
    constructor
    · rintro ⟨-, q⟩; exact Or.inl ((uq hS hc e v).mpr q)
    · rintro (q | ⟨-, q⟩)
      · exact ⟨i1_0, (uq hS hc e v).mp q⟩
      · exact absurd ⟨_, (uq hS hc e _).mpr rfl⟩ q
theorem xForce1 {μ : Mem} {b : Nat} {S : CS} (hS : xClOK μ b S) (hc : ¬ xConf μ b) : ∀ t, t < 8 → ∀ v, (¬ S.1 t = 0 ∧ S.2.1 t = v) ↔ xPair μ b t v := by
  intro t ht v
  constructor
  · rintro ⟨h1, rfl⟩
    exact hS.2.2.1 t ht ((hS.1.1 t ht).resolve_left h1)
  · intro h
    have h1 := (hS.2.1 t ht).mpr h.reach
    refine ⟨by rw [h1]; exact i1_0, ?_⟩
    apply Classical.byContradiction
    intro q
    exact hc ⟨t, _, _, hS.2.2.1 t ht h1, h, q⟩

set_option maxRecDepth 100000 in
set_option maxHeartbeats 4000000 in
/-- X9 findInForceForMethod -/
theorem k_X9_findInForceForMethod (l : Launch) (G : XG) (hI : XI G) (j q nt : Nat) (μ : Mem) (hT : xTyp μ nt) (hR : xRow μ (q + 9) nt) (hR0 : xRow μ (5 * j + 9) nt) (hc : ¬ xConf μ (q + 9)) (hc0 : ¬ xConf μ (5 * j + 9)) : XMet l G y_X9_findInForceForMethod c_X9_findInForceForMethod 3 none 2 [.inr (0, 0), .inr (12, j), .inr (13, q)] μ (fun r μ' => r = none ∧ frS μ μ' ∧ (∀ f, f = 19 ∨ f = 20 ∨ f = 21 → μ' f = μ f) ∧ ∀ t, t < 8 → ∀ v, (¬ (dS μ' 0).1 t = 0 ∧ (dS μ' 0).2.1 t = v) ↔ (xPair μ (q + 9) t v ∨ (xPair μ (5 * j + 9) t v ∧ ¬ ∃ v', xPair μ (q + 9) t v'))) := by
  refine xj_met (by decide) hI (Nat.le_of_ble_eq_true rfl) ?_
  intro p e s m args below meth c E hr hlk
  have E : XE G (xA G) RX9 c_X9_findInForceForMethod 3 p s m args c := E
  refine xj_loc (L' := [some (.inr (0, 0)), some (.inr (12, j)), some (.inr (13, q))]) rfl ?_
  refine xj_aload_n E d_X9_findInForceForMethod_0 rfl ?_
  refine xj_geta E fl_X9_10 (by decide) rfl (by decide) rfl d_X9_findInForceForMethod_1 ?_
  refine xj_aload_n E d_X9_findInForceForMethod_4 rfl ?_
  refine xj_geta E fl_X9_133 (by decide) rfl (by decide) rfl d_X9_findInForceForMethod_5 ?_
  refine xj_aload_n E d_X9_findInForceForMethod_8 rfl ?_
  refine xj_geta E fl_X9_40 (by decide) rfl (by decide) rfl d_X9_findInForceForMethod_9 ?_
  refine xj_callV E (k_X0_close l G hI (q + 9) 0 nt _ hT hR) cw_X9_203 cv_X0_close (by decide) rfl rfl rfl ⟨by decide, by decide⟩ (Nat.le_of_ble_eq_true rfl) d_X9_findInForceForMethod_12 ⟨by decide, by decide⟩ (fun r12 μ12 ho12 hp12 => ?_)
  obtain ⟨rfl, S, rfl, hS⟩ := hp12
  refine xj_aload_n E d_X9_findInForceForMethod_15 rfl ?_
  refine xj_geta E fl_X9_10 (by decide) rfl (by decide) rfl d_X9_findInForceForMethod_16 ?_
  refine xj_aload_n E d_X9_findInForceForMethod_19 rfl ?_
  refine xj_geta E fl_X9_199 (by decide) rfl (by decide) rfl d_X9_findInForceForMethod_20 ?_
  refine xj_geta E fl_X9_133 (by decide) rfl (by decide) rfl d_X9_findInForceForMethod_23 ?_
  refine xj_aload_n E d_X9_findInForceForMethod_26 rfl ?_
  refine xj_geta E fl_X9_44 (by decide) rfl (by decide) rfl d_X9_findInForceForMethod_27 ?_
  refine xj_callV E (k_X0_close l G hI (5 * j + 9) 1 nt _ (by rw [(frS_mcl μ 0 S).typ]; exact hT) (by rw [(frS_mcl μ 0 S).row]; exact hR0)) cw_X9_203 cv_X0_close (by decide) rfl rfl rfl ⟨by decide, by decide⟩ (Nat.le_of_ble_eq_true rfl) d_X9_findInForceForMethod_30 ⟨by decide, by decide⟩ (fun r30 μ30 ho30 hp30 => ?_)
  obtain ⟨rfl, S0, rfl, hS0⟩ := hp30
  rw [(frS_mcl μ 0 S).clok] at hS0
  refine xj_aload_n E d_X9_findInForceForMethod_33 rfl ?_
  refine xj_geta E fl_X9_40 (by decide) rfl (by decide) rfl d_X9_findInForceForMethod_34 ?_
  refine xj_aload_n E d_X9_findInForceForMethod_37 rfl ?_
  refine xj_geta E fl_X9_44 (by decide) rfl (by decide) rfl d_X9_findInForceForMethod_38 ?_
  refine xj_callV E (k_X3_addMissingTypes l G hI 0 1 _ (by decide)) cw_X9_227 cv_X3_addMissingTypes (by decide) rfl rfl rfl ⟨by decide, by decide⟩ (Nat.le_of_ble_eq_true rfl) d_X9_findInForceForMethod_41 ⟨by decide, by decide⟩ (fun r41 μ41 ho41 hp41 => ?_)
  obtain ⟨rfl, F, rfl, hF⟩ := hp41
  rw [dS_mcl, dS_mcl_ne (by decide), dS_mcl] at hF
  exact xj_vret E hr hlk d_X9_findInForceForMethod_44 ⟨rfl, ((frS_mcl _ _ _).tr (frS_mcl _ _ _)).tr (frS_mcl _ _ _), fun f hf => by rw [mcl_f ⟨by omega, by omega, by omega⟩, mcl_f ⟨by omega, by omega, by omega⟩, mcl_f ⟨by omega, by omega, by omega⟩], by rw [dS_mcl]; exact xForce hT hS hS0 hc hc0 hF⟩
