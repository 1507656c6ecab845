def pForget (μ : Mem) (q : Nat) : Mem := mset (mset (mset μ 4 (q + 9) 0 0) 13 q 2 0) 13 q 3 0
def pDecl (μ : Mem) (j : Nat) (t : Int32) : Nat → Mem
  | 0 => pForget (mset μ 12 j 0 t) (5 * j)
  | n + 1 => pForget (pDecl μ j t n) (5 * j + 1 + n)
/-- the chain in memory: elements and their behaviours -/
def xCh (μ : Mem) (l : List (Int32 × Int32)) : Prop := μ 19 0 0 = nI l.length ∧ ∀ (k : Nat) (q : Int32 × Int32), l[k]? = some q → μ 20 0 k = q.1 ∧ μ 21 0 k = q.2
theorem xCh_add {μ : Mem} {l : List (Int32 × Int32)} {n b : Int32} (h : xCh μ l) (hl : l.length < 21) : xCh (mset (mset (mset μ 20 0 (μ 19 0 0).toNatClampNeg n) 21 0 (μ 19 0 0).toNatClampNeg b) 19 0 0 (μ 19 0 0 + 1)) (l ++ [(n, b)]) := by
  have hc : (μ 19 0 0).toNatClampNeg = l.length := by rw [h.1]; exact cl_nI (by omega)
  rw [hc]
  refine ⟨by rw [mset_at, h.1, nI_1]; simp, fun k q hk => ?_⟩
  show upd (μ 20 0) l.length n k = q.1 ∧ upd (μ 21 0) l.length b k = q.2
  by_cases e : k < l.length
  · rw [List.getElem?_append_left e] at hk
    have hne : ¬ k = l.length := by omega
    simp only [upd, hne, if_false]
    exact h.2 k q hk
  · rw [List.getElem?_append_right (by omega)] at hk
    have hz : k - l.length < 1 := (List.getElem?_eq_some_iff.mp hk).1
    have e2 : k = l.length := by omega
    subst e2
    simp at hk
    subst hk
    simp [upd]

set_option maxRecDepth 100000 in
set_option maxHeartbeats 4000000 in
/-- X6 declare -/
theorem k_X6_declare (l : Launch) (G : XG) (hI : XI G) (i : Nat) (a b d : Int32) (μ : Mem)  : XMet l G y_X6_declare c_X6_declare 4 none 0 [.inr (8, i), .inl a, .inl b, .inl d] μ (fun r μ' => r = none ∧ μ' = mset (mset (mset (mset μ 8 i 0 a) 8 i 1 b) 8 i 2 d) 4 (i + 1) 0 0) := by
  refine xj_met (by decide) hI (Nat.le_of_ble_eq_true rfl) ?_
  intro p e s m args below meth c E hr hlk
  have E : XE G (xA G) RX6 c_X6_declare 4 p s m args c := E
  refine xj_loc (L' := [some (.inr (8, i)), some (.inl a), some (.inl b), some (.inl d)]) rfl ?_
  refine xj_aload_n E d_X6_declare_0 rfl ?_
  refine xj_iload_n E d_X6_declare_1 rfl ?_
  refine xj_put E fp_X6_20 (by decide) rfl (by decide) rfl (narrow_i _) d_X6_declare_2 ?_
  refine xj_aload_n E d_X6_declare_5 rfl ?_
  refine xj_iload_n E d_X6_declare_6 rfl ?_
  refine xj_put E fp_X6_24 (by decide) rfl (by decide) rfl (narrow_i _) d_X6_declare_7 ?_
  refine xj_aload_n E d_X6_declare_10 rfl ?_
  refine xj_iload_n E d_X6_declare_11 rfl ?_
  refine xj_put E fp_X6_27 (by decide) rfl (by decide) rfl (narrow_i _) d_X6_declare_12 ?_
  refine xj_aload_n E d_X6_declare_15 rfl ?_
  refine xj_geta E fl_X6_14 (by decide) rfl (by decide) rfl d_X6_declare_16 ?_
  refine xj_iconst (v := 0) E d_X6_declare_19 (by decide) ?_
  refine xj_put E fp_X6_30 (by decide) rfl (by decide) rfl (narrow_i _) d_X6_declare_20 ?_
  exact xj_vret E hr hlk d_X6_declare_23 ⟨rfl, rfl⟩

set_option maxRecDepth 100000 in
set_option maxHeartbeats 4000000 in
/-- X6 takesPartIn -/
theorem k_X6_takesPartIn (l : Launch) (G : XG) (hI : XI G) (i : Nat) (x : Int32) (μ : Mem)  : XMet l G y_X6_takesPartIn c_X6_takesPartIn 2 (some .boolean) 0 [.inr (8, i), .inl x] μ (fun r μ' => r = some (.inl (if μ 8 i 1 &&& x = 0 then 0 else 1)) ∧ μ' = μ) := by
  refine xj_met (by decide) hI (Nat.le_of_ble_eq_true rfl) ?_
  intro p e s m args below meth c E hr hlk
  have E : XE G (xA G) RX6 c_X6_takesPartIn 2 p s m args c := E
  refine xj_loc (L' := [some (.inr (8, i)), some (.inl x)]) rfl ?_
  refine xj_aload_n E d_X6_takesPartIn_0 rfl ?_
  refine xj_geti E fl_X6_24 (by decide) rfl (by decide) rfl d_X6_takesPartIn_1 ?_
  refine xj_iload_n E d_X6_takesPartIn_4 rfl ?_
  refine xj_iand E d_X6_takesPartIn_5 ?_
  refine xj_if_eq (tgt := 13) E d_X6_takesPartIn_6 (by decide) (fun h6 => ?_) (fun h6 => ?_)
  · refine xj_iconst (v := 0) E d_X6_takesPartIn_13 (by decide) ?_
    exact xj_zret E hr hlk (by decide) d_X6_takesPartIn_14 (by first | exact ⟨by rw [if_pos h6], rfl⟩ | exact ⟨by rw [if_neg h6], rfl⟩)
  refine xj_iconst (v := 1) E d_X6_takesPartIn_9 (by decide) ?_
  refine xj_goto (tgt := 14) E d_X6_takesPartIn_10 (by decide) ?_
  exact xj_zret E hr hlk (by decide) d_X6_takesPartIn_14 (by first | exact ⟨by rw [if_pos h6], rfl⟩ | exact ⟨by rw [if_neg h6], rfl⟩)

set_option maxRecDepth 100000 in
set_option maxHeartbeats 4000000 in
/-- X5 declare -/
theorem k_X5_declare (l : Launch) (G : XG) (hI : XI G) (i : Nat) (a b x d : Int32) (μ : Mem)  : XMet l G y_X5_declare c_X5_declare 5 none 0 [.inr (10, i), .inl a, .inl b, .inl x, .inl d] μ (fun r μ' => r = none ∧ μ' = mset (mset (mset (mset μ 10 i 0 a) 10 i 1 b) 10 i 2 x) 10 i 3 d) := by
  refine xj_met (by decide) hI (Nat.le_of_ble_eq_true rfl) ?_
  intro p e s m args below meth c E hr hlk
  have E : XE G (xA G) RX5 c_X5_declare 5 p s m args c := E
  refine xj_loc (L' := [some (.inr (10, i)), some (.inl a), some (.inl b), some (.inl x), some (.inl d)]) rfl ?_
  refine xj_aload_n E d_X5_declare_0 rfl ?_
  refine xj_iload_n E d_X5_declare_1 rfl ?_
  refine xj_put E fp_X5_7 (by decide) rfl (by decide) rfl (narrow_i _) d_X5_declare_2 ?_
  refine xj_aload_n E d_X5_declare_5 rfl ?_
  refine xj_iload_n E d_X5_declare_6 rfl ?_
  refine xj_put E fp_X5_13 (by decide) rfl (by decide) rfl (narrow_i _) d_X5_declare_7 ?_
  refine xj_aload_n E d_X5_declare_10 rfl ?_
  refine xj_iload_n E d_X5_declare_11 rfl ?_
  refine xj_put E fp_X5_16 (by decide) rfl (by decide) rfl (narrow_i _) d_X5_declare_12 ?_
  refine xj_aload_n E d_X5_declare_15 rfl ?_
  refine xj_iload E d_X5_declare_16 rfl ?_
  refine xj_put E fp_X5_19 (by decide) rfl (by decide) rfl (narrow_i _) d_X5_declare_18 ?_
  exact xj_vret E hr hlk d_X5_declare_21 ⟨rfl, rfl⟩

set_option maxRecDepth 100000 in
set_option maxHeartbeats 4000000 in
/-- X5 decorates -/
theorem k_X5_decorates (l : Launch) (G : XG) (hI : XI G) (i : Nat) (x y : Int32) (μ : Mem)  : XMet l G y_X5_decorates c_X5_decorates 3 (some .boolean) 0 [.inr (10, i), .inl x, .inl y] μ (fun r μ' => r = some (.inl (if (x >>> (μ 10 i 1 &&& 31)) &&& 1 = 0 then 0 else if (μ 10 i 2 >>> (y &&& 31)) &&& 1 = 0 then 0 else 1)) ∧ μ' = μ) := by
  refine xj_met (by decide) hI (Nat.le_of_ble_eq_true rfl) ?_
  intro p e s m args below meth c E hr hlk
  have E : XE G (xA G) RX5 c_X5_decorates 3 p s m args c := E
  refine xj_loc (L' := [some (.inr (10, i)), some (.inl x), some (.inl y)]) rfl ?_
  refine xj_iload_n E d_X5_decorates_0 rfl ?_
  refine xj_aload_n E d_X5_decorates_1 rfl ?_
  refine xj_geti E fl_X5_13 (by decide) rfl (by decide) rfl d_X5_decorates_2 ?_
  refine xj_ishr E d_X5_decorates_5 ?_
  refine xj_iconst (v := 1) E d_X5_decorates_6 (by decide) ?_
  refine xj_iand E d_X5_decorates_7 ?_
  refine xj_if_eq (tgt := 26) E d_X5_decorates_8 (by decide) (fun h8 => ?_) (fun h8 => ?_)
  · refine xj_iconst (v := 0) E d_X5_decorates_26 (by decide) ?_
    exact xj_zret E hr hlk (by decide) d_X5_decorates_27 (by first | exact ⟨by rw [if_pos h8], rfl⟩ | exact ⟨by rw [if_neg h8, if_pos h19], rfl⟩ | exact ⟨by rw [if_neg h8, if_neg h19], rfl⟩)
  refine xj_aload_n E d_X5_decorates_11 rfl ?_
  refine xj_geti E fl_X5_16 (by decide) rfl (by decide) rfl d_X5_decorates_12 ?_
  refine xj_iload_n E d_X5_decorates_15 rfl ?_
  refine xj_ishr E d_X5_decorates_16 ?_
  refine xj_iconst (v := 1) E d_X5_decorates_17 (by decide) ?_
  refine xj_iand E d_X5_decorates_18 ?_
  refine xj_if_eq (tgt := 26) E d_X5_decorates_19 (by decide) (fun h19 => ?_) (fun h19 => ?_)
  · refine xj_iconst (v := 0) E d_X5_decorates_26 (by decide) ?_
    exact xj_zret E hr hlk (by decide) d_X5_decorates_27 (by first | exact ⟨by rw [if_pos h8], rfl⟩ | exact ⟨by rw [if_neg h8, if_pos h19], rfl⟩ | exact ⟨by rw [if_neg h8, if_neg h19], rfl⟩)
  refine xj_iconst (v := 1) E d_X5_decorates_22 (by decide) ?_
  refine xj_goto (tgt := 27) E d_X5_decorates_23 (by decide) ?_
  exact xj_zret E hr hlk (by decide) d_X5_decorates_27 (by first | exact ⟨by rw [if_pos h8], rfl⟩ | exact ⟨by rw [if_neg h8, if_pos h19], rfl⟩ | exact ⟨by rw [if_neg h8, if_neg h19], rfl⟩)

set_option maxRecDepth 100000 in
set_option maxHeartbeats 4000000 in
/-- X8 forget -/
theorem k_X8_forget (l : Launch) (G : XG) (hI : XI G) (q : Nat) (μ : Mem)  : XMet l G y_X8_forget c_X8_forget 1 none 0 [.inr (13, q)] μ (fun r μ' => r = none ∧ μ' = pForget μ q) := by
  refine xj_met (by decide) hI (Nat.le_of_ble_eq_true rfl) ?_
  intro p e s m args below meth c E hr hlk
  have E : XE G (xA G) RX8 c_X8_forget 1 p s m args c := E
  refine xj_loc (L' := [some (.inr (13, q))]) rfl ?_
  refine xj_aload_n E d_X8_forget_0 rfl ?_
  refine xj_geta E fl_X8_14 (by decide) rfl (by decide) rfl d_X8_forget_1 ?_
  refine xj_iconst (v := 0) E d_X8_forget_4 (by decide) ?_
  refine xj_put E fp_X8_24 (by decide) rfl (by decide) rfl (narrow_i _) d_X8_forget_5 ?_
  refine xj_aload_n E d_X8_forget_8 rfl ?_
  refine xj_iconst (v := 0) E d_X8_forget_9 (by decide) ?_
  refine xj_put E fp_X8_28 (by decide) rfl (by decide) rfl (narrow_i _) d_X8_forget_10 ?_
  refine xj_aload_n E d_X8_forget_13 rfl ?_
  refine xj_iconst (v := 0) E d_X8_forget_14 (by decide) ?_
  refine xj_put E fp_X8_31 (by decide) rfl (by decide) rfl (narrow_i _) d_X8_forget_15 ?_
  exact xj_vret E hr hlk d_X8_forget_18 ⟨rfl, rfl⟩

set_option maxRecDepth 100000 in
set_option maxHeartbeats 4000000 in
/-- X8 addListed -/
theorem k_X8_addListed (l : Launch) (G : XG) (hI : XI G) (q : Nat) (x : Int32) (μ : Mem) (hc : vp_in (μ 13 q 2) 4) : XMet l G y_X8_addListed c_X8_addListed 2 none 0 [.inr (13, q), .inl x] μ (fun r μ' => r = none ∧ μ' = mset (mset μ 14 q (μ 13 q 2).toNatClampNeg x) 13 q 2 (μ 13 q 2 + 1)) := by
  refine xj_met (by decide) hI (Nat.le_of_ble_eq_true rfl) ?_
  intro p e s m args below meth c E hr hlk
  have E : XE G (xA G) RX8 c_X8_addListed 2 p s m args c := E
  refine xj_loc (L' := [some (.inr (13, q)), some (.inl x)]) rfl ?_
  refine xj_aload_n E d_X8_addListed_0 rfl ?_
  refine xj_geta E fl_X8_20 (by decide) rfl (by decide) rfl d_X8_addListed_1 ?_
  refine xj_aload_n E d_X8_addListed_4 rfl ?_
  refine xj_geti E fl_X8_28 (by decide) rfl (by decide) rfl d_X8_addListed_5 ?_
  refine xj_iload_n E d_X8_addListed_8 rfl ?_
  refine xj_iast E (by decide) hc d_X8_addListed_9 ?_
  refine xj_aload_n E d_X8_addListed_10 rfl ?_
  refine xj_dup E d_X8_addListed_11 ?_
  refine xj_geti E fl_X8_28 (by decide) rfl (by decide) rfl d_X8_addListed_12 ?_
  refine xj_iconst (v := 1) E d_X8_addListed_15 (by decide) ?_
  refine xj_iadd E d_X8_addListed_16 ?_
  refine xj_put E fp_X8_28 (by decide) rfl (by decide) rfl (narrow_i _) d_X8_addListed_17 ?_
  exact xj_vret E hr hlk d_X8_addListed_20 ⟨rfl, rfl⟩

set_option maxRecDepth 100000 in
set_option maxHeartbeats 4000000 in
/-- X8 has -/
theorem k_X8_has (l : Launch) (G : XG) (hI : XI G) (q : Nat) (x : Int32) (μ : Mem)  : XMet l G y_X8_has c_X8_has 2 (some .boolean) 0 [.inr (13, q), .inl x] μ (fun r μ' => r = some (.inl (if μ 13 q 3 &&& x = 0 then 0 else 1)) ∧ μ' = μ) := by
  refine xj_met (by decide) hI (Nat.le_of_ble_eq_true rfl) ?_
  intro p e s m args below meth c E hr hlk
  have E : XE G (xA G) RX8 c_X8_has 2 p s m args c := E
  refine xj_loc (L' := [some (.inr (13, q)), some (.inl x)]) rfl ?_
  refine xj_aload_n E d_X8_has_0 rfl ?_
  refine xj_geti E fl_X8_31 (by decide) rfl (by decide) rfl d_X8_has_1 ?_
  refine xj_iload_n E d_X8_has_4 rfl ?_
  refine xj_iand E d_X8_has_5 ?_
  refine xj_if_eq (tgt := 13) E d_X8_has_6 (by decide) (fun h6 => ?_) (fun h6 => ?_)
  · refine xj_iconst (v := 0) E d_X8_has_13 (by decide) ?_
    exact xj_zret E hr hlk (by decide) d_X8_has_14 (by first | exact ⟨by rw [if_pos h6], rfl⟩ | exact ⟨by rw [if_neg h6], rfl⟩)
  refine xj_iconst (v := 1) E d_X8_has_9 (by decide) ?_
  refine xj_goto (tgt := 14) E d_X8_has_10 (by decide) ?_
  exact xj_zret E hr hlk (by decide) d_X8_has_14 (by first | exact ⟨by rw [if_pos h6], rfl⟩ | exact ⟨by rw [if_neg h6], rfl⟩)

set_option maxRecDepth 100000 in
set_option maxHeartbeats 4000000 in
/-- X4 place -/
theorem k_X4_place (l : Launch) (G : XG) (hI : XI G) (j : Nat) (x : Int32) (μ : Mem)  : XMet l G y_X4_place c_X4_place 2 (some (.object "BoundChains$Place")) 0 [.inr (12, j), .inl x] μ (fun r μ' => r = some (.inr (13, if x < 0 then 5 * j else if x < 4 then 5 * j + 1 + x.toNatClampNeg else 5 * j)) ∧ μ' = μ) := by
  refine xj_met (by decide) hI (Nat.le_of_ble_eq_true rfl) ?_
  intro p e s m args below meth c E hr hlk
  have E : XE G (xA G) RX4 c_X4_place 2 p s m args c := E
  refine xj_loc (L' := [some (.inr (12, j)), some (.inl x)]) rfl ?_
  refine xj_iload_n E d_X4_place_0 rfl ?_
  refine xj_if_lt (tgt := 9) E d_X4_place_1 (by decide) (fun h1 => ?_) (fun h1 => ?_)
  · refine xj_aload_n E d_X4_place_9 rfl ?_
    refine xj_geta E fl_X4_12 (by decide) rfl (by decide) rfl d_X4_place_10 ?_
    refine xj_goto (tgt := 22) E d_X4_place_13 (by decide) ?_
    exact xj_aret E hr hlk d_X4_place_22 (by first | exact ⟨by rw [if_pos h1], rfl⟩ | exact ⟨by rw [if_neg h1, if_pos h6], rfl⟩ | exact ⟨by rw [if_neg h1, if_neg h6], rfl⟩)
  refine xj_iload_n E d_X4_place_4 rfl ?_
  refine xj_iconst (v := 4) E d_X4_place_5 (by decide) ?_
  refine xj_icmp_lt (tgt := 16) E d_X4_place_6 (by decide) (fun h6 => ?_) (fun h6 => ?_)
  · refine xj_aload_n E d_X4_place_16 rfl ?_
    refine xj_geta E fl_X4_18 (by decide) rfl (by decide) rfl d_X4_place_17 ?_
    refine xj_iload_n E d_X4_place_20 rfl ?_
    refine xj_aald E (by decide) rfl (in_lt (n := 4) h1 h6 (by omega)) d_X4_place_21 ?_
    exact xj_aret E hr hlk d_X4_place_22 (by first | exact ⟨by rw [if_pos h1], rfl⟩ | exact ⟨by rw [if_neg h1, if_pos h6], rfl⟩ | exact ⟨by rw [if_neg h1, if_neg h6], rfl⟩)
  refine xj_aload_n E d_X4_place_9 rfl ?_
  refine xj_geta E fl_X4_12 (by decide) rfl (by decide) rfl d_X4_place_10 ?_
  refine xj_goto (tgt := 22) E d_X4_place_13 (by decide) ?_
  exact xj_aret E hr hlk d_X4_place_22 (by first | exact ⟨by rw [if_pos h1], rfl⟩ | exact ⟨by rw [if_neg h1, if_pos h6], rfl⟩ | exact ⟨by rw [if_neg h1, if_neg h6], rfl⟩)

set_option maxRecDepth 100000 in
set_option maxHeartbeats 4000000 in
/-- X4 declare -/
theorem k_X4_declare (l : Launch) (G : XG) (hI : XI G) (j : Nat) (t : Int32) (μ : Mem)  : XMet l G y_X4_declare c_X4_declare 3 none 1 [.inr (12, j), .inl t] μ (fun r μ' => r = none ∧ μ' = pDecl μ j t 4) := by
  refine xj_met (by decide) hI (Nat.le_of_ble_eq_true rfl) ?_
  intro p e s m args below meth c E hr hlk
  have E : XE G (xA G) RX4 c_X4_declare 3 p s m args c := E
  refine xj_loc (L' := [some (.inr (12, j)), some (.inl t), none]) rfl ?_
  have lp : ∀ (Q : State → Prop) (n k : Nat), 4 - k = n → k ≤ 4 → (XJ G (xA G) 3 p l e (xr 1) s m args below meth c 0 0 Q 34 [some (.inr (12, j)), some (.inl t), some (.inl (nI 4))] [] (pDecl μ j t 4)) → XJ G (xA G) 3 p l e (xr 1) s m args below meth c 0 0 Q 14 [some (.inr (12, j)), some (.inl t), some (.inl (nI k))] [] (pDecl μ j t k) := by
    intro Q n
    induction n using Nat.strongRecOn with
    | _ n ih =>
    intro k hn hk hx
    refine xj_iload_n E d_X4_declare_14 rfl ?_
    refine xj_iconst (v := 4) E d_X4_declare_15 (by decide) ?_
    refine xj_icmp_ge (tgt := 34) E d_X4_declare_16 (by decide) (fun h16 => ?_) (fun h16 => ?_)
    · have hk8 : k = 4 := by
        have := ge_nI (a := 4) h16 (by omega) (by omega)
        omega
      subst hk8
      exact hx
    have hlt : k < 4 := ng_nI (a := 4) h16 (by omega) (by omega)
    have hcl : (nI k).toNatClampNeg = k := cl_nI (by omega)
    refine xj_aload_n E d_X4_declare_19 rfl ?_
    refine xj_geta E fl_X4_18 (by decide) rfl (by decide) rfl d_X4_declare_20 ?_
    refine xj_iload_n E d_X4_declare_23 rfl ?_
    refine xj_aald E (by decide) rfl (show vp_in (nI k) 4 from in_nI hlt (by omega)) d_X4_declare_24 ?_
    refine xj_callV E (k_X8_forget l G hI _ _) cw_X4_26 cv_X8_forget (by decide) rfl rfl rfl ⟨by decide, by decide⟩ (Nat.le_of_ble_eq_true rfl) d_X4_declare_25 ⟨by decide, by decide⟩ (fun r25 μ25 ho25 hp25 => ?_)
    obtain ⟨rfl, rfl⟩ := hp25
    refine xj_mem (μ' := pDecl μ j t (k + 1)) (by rw [hcl]; rfl) ?_
    refine xj_iinc (v := nI (k + 1)) E d_X4_declare_28 rfl (nI_inc k) rfl ?_
    refine xj_goto (tgt := 14) E d_X4_declare_31 (by decide) ?_
    exact ih (4 - (k + 1)) (by omega) (k + 1) rfl (by omega) hx
  refine xj_aload_n E d_X4_declare_0 rfl ?_
  refine xj_iload_n E d_X4_declare_1 rfl ?_
  refine xj_put E fp_X4_22 (by decide) rfl (by decide) rfl (narrow_i _) d_X4_declare_2 ?_
  refine xj_aload_n E d_X4_declare_5 rfl ?_
  refine xj_geta E fl_X4_12 (by decide) rfl (by decide) rfl d_X4_declare_6 ?_
  refine xj_callV E (k_X8_forget l G hI _ _) cw_X4_26 cv_X8_forget (by decide) rfl rfl rfl ⟨by decide, by decide⟩ (Nat.le_of_ble_eq_true rfl) d_X4_declare_9 ⟨by decide, by decide⟩ (fun r9 μ9 ho9 hp9 => ?_)
  obtain ⟨rfl, rfl⟩ := hp9
  refine xj_iconst (v := 0) E d_X4_declare_12 (by decide) ?_
  refine xj_istore_n E d_X4_declare_13 (by decide) rfl ?_
  refine lp _ 4 0 rfl (by omega) ?_
  exact xj_vret E hr hlk d_X4_declare_34 ⟨rfl, rfl⟩

set_option maxRecDepth 100000 in
set_option maxHeartbeats 4000000 in
/-- X2 add -/
theorem k_X2_add (l : Launch) (G : XG) (hI : XI G) (n b : Int32) (ls0 : List (Int32 × Int32)) (μ : Mem) (hc : xCh μ ls0) (hl : ls0.length < 21) : XMet l G y_X2_add c_X2_add 3 none 0 [.inr (19, 0), .inl n, .inl b] μ (fun r μ' => r = none ∧ xCh μ' (ls0 ++ [(n, b)]) ∧ ∀ f, f ≠ 19 → f ≠ 20 → f ≠ 21 → μ' f = μ f) := by
  refine xj_met (by decide) hI (Nat.le_of_ble_eq_true rfl) ?_
  intro p e s m args below meth c E hr hlk
  have E : XE G (xA G) RX2 c_X2_add 3 p s m args c := E
  refine xj_loc (L' := [some (.inr (19, 0)), some (.inl n), some (.inl b)]) rfl ?_
  have hlt : μ 19 0 0 < 21 := by
    rw [hc.1]
    exact nI_lt (b := 21) hl (by omega)
  have hin : vp_in (μ 19 0 0) 21 := by
    rw [hc.1]
    exact in_nI hl (by omega)
  refine xj_aload_n E d_X2_add_0 rfl ?_
  refine xj_geti E fl_X2_18 (by decide) rfl (by decide) rfl d_X2_add_1 ?_
  refine xj_bipush (v := 21) E d_X2_add_4 (by decide) ?_
  refine xj_icmp_lt (tgt := 10) E d_X2_add_6 (by decide) (fun h6 => ?_) (fun h6 => absurd hlt h6)
  refine xj_aload_n E d_X2_add_10 rfl ?_
  refine xj_geta E fl_X2_9 (by decide) rfl (by decide) rfl d_X2_add_11 ?_
  refine xj_aload_n E d_X2_add_14 rfl ?_
  refine xj_geti E fl_X2_18 (by decide) rfl (by decide) rfl d_X2_add_15 ?_
  refine xj_iload_n E d_X2_add_18 rfl ?_
  refine xj_iast E (by decide) hin d_X2_add_19 ?_
  refine xj_aload_n E d_X2_add_20 rfl ?_
  refine xj_geta E fl_X2_15 (by decide) rfl (by decide) rfl d_X2_add_21 ?_
  refine xj_aload_n E d_X2_add_24 rfl ?_
  refine xj_geti E fl_X2_18 (by decide) rfl (by decide) rfl d_X2_add_25 ?_
  refine xj_iload_n E d_X2_add_28 rfl ?_
  refine xj_iast E (by decide) hin d_X2_add_29 ?_
  refine xj_aload_n E d_X2_add_30 rfl ?_
  refine xj_dup E d_X2_add_31 ?_
  refine xj_geti E fl_X2_18 (by decide) rfl (by decide) rfl d_X2_add_32 ?_
  refine xj_iconst (v := 1) E d_X2_add_35 (by decide) ?_
  refine xj_iadd E d_X2_add_36 ?_
  refine xj_put E fp_X2_18 (by decide) rfl (by decide) rfl (narrow_i _) d_X2_add_37 ?_
  exact xj_vret E hr hlk d_X2_add_40 ⟨rfl, xCh_add hc hl, fun f h1 h2 h3 => by rw [mset_f h1, mset_f h3, mset_f h2]⟩
