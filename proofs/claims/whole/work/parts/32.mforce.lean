def sameT (l : PL) (a b : Nat) : Prop := ∃ p q : Nat × Int32, l[a]? = some p ∧ l[b]? = some q ∧ p.1 = q.1
def fnd (l : PL) (k j : Nat) : Prop := (∃ a b, a < b ∧ b < k ∧ sameT l a b) ∨ ∃ a, a < j ∧ sameT l a k
theorem fnd_next {l : PL} {k : Nat} : fnd l k k ↔ fnd l (k + 1) 0 := by
  constructor
  · rintro (⟨a, b, h1, h2, h3⟩ | ⟨a, h1, h3⟩)
    · exact Or.inl ⟨a, b, h1, by omega, h3⟩
    · exact Or.inl ⟨a, k, h1, by omega, h3⟩
  · rintro (⟨a, b, h1, h2, h3⟩ | ⟨a, h1, -⟩)
    · by_cases e : b = k
      · subst e; exact Or.inr ⟨a, h1, h3⟩
      · exact Or.inl ⟨a, b, h1, by omega, h3⟩
    · omega
theorem fnd_keep {l : PL} {k j : Nat} (h : fnd l k j) : fnd l k (j + 1) := by
  rcases h with h | ⟨a, h1, h3⟩
  · exact Or.inl h
  · exact Or.inr ⟨a, by omega, h3⟩
theorem fnd_no {l : PL} {k j : Nat} (h : ¬ fnd l k j) (hs : ¬ sameT l j k) : ¬ fnd l k (j + 1) := by
  rintro (q | ⟨a, h1, h3⟩)
  · exact h (Or.inl q)
  · by_cases e : a = j
    · subst e; exact hs h3
    · exact h (Or.inr ⟨a, by omega, h3⟩)
theorem fnd_end {l : PL} : fnd l l.length 0 ↔ ∃ j k : Nat, j < k ∧ ∃ p q : Nat × Int32, l[j]? = some p ∧ l[k]? = some q ∧ p.1 = q.1 := by
  constructor
  · rintro (⟨a, b, h1, h2, p, q, h3⟩ | ⟨a, h1, -⟩)
    · exact ⟨a, b, h1, p, q, h3⟩
    · omega
  · rintro ⟨a, b, h1, p, q, h3, h4, h5⟩
    exact Or.inl ⟨a, b, h1, (List.getElem?_eq_some_iff.mp h4).1, p, q, h3, h4, h5⟩
theorem sameT_iff {μ : Mem} {l : PL} (hc : cIs μ l) (hty : ∀ q, q ∈ l → q.1 ≤ 1000) {a b : Nat} (ha : a < l.length) (hb : b < l.length) : sameT l a b ↔ μ 55 0 a = μ 55 0 b := by
  have h1 := hc.2 a _ (List.getElem?_eq_getElem ha)
  have h2 := hc.2 b _ (List.getElem?_eq_getElem hb)
  have t1 := hty _ (List.getElem_mem ha)
  have t2 := hty _ (List.getElem_mem hb)
  rw [h1.1, h2.1, nI_eq (by omega) (by omega)]
  constructor
  · rintro ⟨p, q, e1, e2, e⟩
    rw [List.getElem?_eq_getElem ha] at e1
    rw [List.getElem?_eq_getElem hb] at e2
    cases e1; cases e2
    exact e
  · intro e
    exact ⟨_, _, List.getElem?_eq_getElem ha, List.getElem?_eq_getElem hb, e⟩

set_option maxRecDepth 100000 in
set_option maxHeartbeats 4000000 in
/-- X10 conflict -/
theorem k_X10_conflict (l : Launch) (G : XG) (hI : XI G) (r nt : Nat) (μ : Mem) (hr28 : r < 28) (hT : mTyp μ nt) (hR : mRow μ r nt) : XMet l G y_X10_conflict c_X10_conflict 5 (some .boolean) 2 [.inr (24, 0), .inl (nI r)] μ (fun rr μ' => ∃ x : Int32, rr = some (.inl x) ∧ (x = 0 ∨ x = 1) ∧ (x = 1 ↔ mConf μ r) ∧ frC μ μ') := by
  refine xj_met (by decide) hI (Nat.le_of_ble_eq_true rfl) ?_
  intro p e s m args below meth c E hr hlk
  have E : XE G (xA G) RX10 c_X10_conflict 5 p s m args c := E
  refine xj_loc (L' := [some (.inr (24, 0)), some (.inl (nI r)), none, none, none]) rfl ?_
  have hc16 := hT.2.1.2
  have hb4 := hR.1.2
  have lps : ∀ (μ1 : Mem) (l1 : PL), cIs μ1 l1 → l1.length ≤ 20 → (∀ q, q ∈ l1 → q.1 ≤ 1000) → ∀ (Q : State → Prop), (∀ x : Int32, ((x = 0 ∨ x = 1) ∧ (x = 1 ↔ fnd l1 l1.length 0)) → XJ G (xA G) 5 p l e (xr 2) s m args below meth c 0 0 Q 64 [some (.inr (24, 0)), some (.inl (nI r)), some (.inl x), some (.inl (nI l1.length)), none] [] μ1) → XJ G (xA G) 5 p l e (xr 2) s m args below meth c 0 0 Q 9 [some (.inr (24, 0)), some (.inl (nI r)), some (.inl 0), some (.inl (nI 0)), none] [] μ1 := by
    intro μ1 l1 hc hlen hty Q hx
    have lp2 : ∀ (n k j : Nat) (x : Int32), k - j = n → j ≤ k → k < l1.length → ((x = 0 ∨ x = 1) ∧ (x = 1 ↔ fnd l1 k j)) → (∀ x : Int32, ((x = 0 ∨ x = 1) ∧ (x = 1 ↔ fnd l1 k k)) → XJ G (xA G) 5 p l e (xr 2) s m args below meth c 0 0 Q 58 [some (.inr (24, 0)), some (.inl (nI r)), some (.inl x), some (.inl (nI k)), none] [] μ1) → XJ G (xA G) 5 p l e (xr 2) s m args below meth c 0 0 Q 20 [some (.inr (24, 0)), some (.inl (nI r)), some (.inl x), some (.inl (nI k)), some (.inl (nI j))] [] μ1 := by
      intro n
      induction n using Nat.strongRecOn with
      | _ n ih =>
      intro k j x hn hj hk hinv hy
      have hcj : (nI j).toNatClampNeg = j := cl_nI (by omega)
      have hck : (nI k).toNatClampNeg = k := cl_nI (by omega)
      refine xj_iload E d_X10_conflict_20 rfl ?_
      refine xj_iload_n E d_X10_conflict_22 rfl ?_
      refine xj_icmp_ge (tgt := 58) E d_X10_conflict_23 (by decide) (fun h23 => ?_) (fun h23 => ?_)
      · have hk8 : j = k := by
          have := ge_nI h23 (by omega) (by omega)
          omega
        subst hk8
        refine xj_forget 4 ?_
        exact hy x hinv
      have hlt : j < k := ng_nI h23 (by omega) (by omega)
      refine xj_iload_n E d_X10_conflict_26 rfl ?_
      refine xj_if_ne (tgt := 46) E d_X10_conflict_27 (by decide) (fun h27 => ?_) (fun h27 => ?_)
      · refine xj_iconst (v := 1) E d_X10_conflict_46 (by decide) ?_
        refine xj_goto (tgt := 51) E d_X10_conflict_47 (by decide) ?_
        refine xj_istore_n E d_X10_conflict_51 (by decide) rfl ?_
        refine xj_iinc (v := nI (j + 1)) E d_X10_conflict_52 rfl (nI_inc j) rfl ?_
        refine xj_goto (tgt := 20) E d_X10_conflict_55 (by decide) ?_
        first
          | exact ih (k - (j + 1)) (by omega) k (j + 1) 0 rfl (by omega) hk ⟨Or.inl rfl, ⟨fun q => absurd q i0_1, fun q => absurd q (fnd_no (fun z => i0_1 (h27.symm.trans (hinv.2.mpr z))) (fun z => h43 (by rw [hcj, hck]; exact (sameT_iff hc hty (by omega) hk).mp z)))⟩⟩ hy
          | exact ih (k - (j + 1)) (by omega) k (j + 1) 1 rfl (by omega) hk ⟨Or.inr rfl, ⟨fun _ => Or.inr ⟨j, by omega, (sameT_iff hc hty (by omega) hk).mpr (by rw [hcj, hck] at h43; exact h43)⟩, fun _ => rfl⟩⟩ hy
          | exact ih (k - (j + 1)) (by omega) k (j + 1) 1 rfl (by omega) hk ⟨Or.inr rfl, ⟨fun _ => fnd_keep (hinv.2.mp (hinv.1.resolve_left h27)), fun _ => rfl⟩⟩ hy
      refine xj_aload_n E d_X10_conflict_30 rfl ?_
      refine xj_geta E fl_X10_65 (by decide) rfl (by decide) rfl d_X10_conflict_31 ?_
      refine xj_iload E d_X10_conflict_34 rfl ?_
      refine xj_iald E (by decide) (show vp_in (nI j) 24 from in_nI (by omega) (by omega)) d_X10_conflict_36 ?_
      refine xj_aload_n E d_X10_conflict_37 rfl ?_
      refine xj_geta E fl_X10_65 (by decide) rfl (by decide) rfl d_X10_conflict_38 ?_
      refine xj_iload_n E d_X10_conflict_41 rfl ?_
      refine xj_iald E (by decide) (show vp_in (nI k) 24 from in_nI (by omega) (by omega)) d_X10_conflict_42 ?_
      refine xj_icmp_ne (tgt := 50) E d_X10_conflict_43 (by decide) (fun h43 => ?_) (fun h43 => ?_)
      · refine xj_iconst (v := 0) E d_X10_conflict_50 (by decide) ?_
        refine xj_istore_n E d_X10_conflict_51 (by decide) rfl ?_
        refine xj_iinc (v := nI (j + 1)) E d_X10_conflict_52 rfl (nI_inc j) rfl ?_
        refine xj_goto (tgt := 20) E d_X10_conflict_55 (by decide) ?_
        first
          | exact ih (k - (j + 1)) (by omega) k (j + 1) 0 rfl (by omega) hk ⟨Or.inl rfl, ⟨fun q => absurd q i0_1, fun q => absurd q (fnd_no (fun z => i0_1 (h27.symm.trans (hinv.2.mpr z))) (fun z => h43 (by rw [hcj, hck]; exact (sameT_iff hc hty (by omega) hk).mp z)))⟩⟩ hy
          | exact ih (k - (j + 1)) (by omega) k (j + 1) 1 rfl (by omega) hk ⟨Or.inr rfl, ⟨fun _ => Or.inr ⟨j, by omega, (sameT_iff hc hty (by omega) hk).mpr (by rw [hcj, hck] at h43; exact h43)⟩, fun _ => rfl⟩⟩ hy
          | exact ih (k - (j + 1)) (by omega) k (j + 1) 1 rfl (by omega) hk ⟨Or.inr rfl, ⟨fun _ => fnd_keep (hinv.2.mp (hinv.1.resolve_left h27)), fun _ => rfl⟩⟩ hy
      refine xj_iconst (v := 1) E d_X10_conflict_46 (by decide) ?_
      refine xj_goto (tgt := 51) E d_X10_conflict_47 (by decide) ?_
      refine xj_istore_n E d_X10_conflict_51 (by decide) rfl ?_
      refine xj_iinc (v := nI (j + 1)) E d_X10_conflict_52 rfl (nI_inc j) rfl ?_
      refine xj_goto (tgt := 20) E d_X10_conflict_55 (by decide) ?_
      first
        | exact ih (k - (j + 1)) (by omega) k (j + 1) 0 rfl (by omega) hk ⟨Or.inl rfl, ⟨fun q => absurd q i0_1, fun q => absurd q (fnd_no (fun z => i0_1 (h27.symm.trans (hinv.2.mpr z))) (fun z => h43 (by rw [hcj, hck]; exact (sameT_iff hc hty (by omega) hk).mp z)))⟩⟩ hy
        | exact ih (k - (j + 1)) (by omega) k (j + 1) 1 rfl (by omega) hk ⟨Or.inr rfl, ⟨fun _ => Or.inr ⟨j, by omega, (sameT_iff hc hty (by omega) hk).mpr (by rw [hcj, hck] at h43; exact h43)⟩, fun _ => rfl⟩⟩ hy
        | exact ih (k - (j + 1)) (by omega) k (j + 1) 1 rfl (by omega) hk ⟨Or.inr rfl, ⟨fun _ => fnd_keep (hinv.2.mp (hinv.1.resolve_left h27)), fun _ => rfl⟩⟩ hy
    have lp1 : ∀ (n k : Nat) (x : Int32), l1.length - k = n → k ≤ l1.length → ((x = 0 ∨ x = 1) ∧ (x = 1 ↔ fnd l1 k 0)) → XJ G (xA G) 5 p l e (xr 2) s m args below meth c 0 0 Q 9 [some (.inr (24, 0)), some (.inl (nI r)), some (.inl x), some (.inl (nI k)), none] [] μ1 := by
      intro n
      induction n using Nat.strongRecOn with
      | _ n ih =>
      intro k x hn hk hinv
      refine xj_iload_n E d_X10_conflict_9 rfl ?_
      refine xj_aload_n E d_X10_conflict_10 rfl ?_
      refine xj_geti E fl_X10_133 (by decide) rfl (by decide) rfl d_X10_conflict_11 ?_
      refine xj_icmp_ge (tgt := 64) E d_X10_conflict_14 (by decide) (fun h14 => ?_) (fun h14 => ?_)
      · have hk8 : k = l1.length := by
          have := ge_nI (b := k) (by rw [← hc.1]; exact h14) (by omega) (by omega)
          omega
        subst hk8
        exact hx x hinv
      have hlt : k < l1.length := ng_nI (b := k) (by rw [← hc.1]; exact h14) (by omega) (by omega)
      refine xj_iconst (v := 0) E d_X10_conflict_17 (by decide) ?_
      refine xj_istore E d_X10_conflict_18 (by decide) rfl ?_
      refine lp2 k k 0 x (by omega) (by omega) hlt hinv (fun x hinv2 => ?_)
      refine xj_iinc (v := nI (k + 1)) E d_X10_conflict_58 rfl (nI_inc k) rfl ?_
      refine xj_goto (tgt := 9) E d_X10_conflict_61 (by decide) ?_
      exact ih (l1.length - (k + 1)) (by omega) (k + 1) x rfl (by omega) ⟨hinv2.1, hinv2.2.trans fnd_next⟩
    refine lp1 l1.length 0 0 (by omega) (by omega) ⟨Or.inl rfl, ⟨fun q => absurd q i0_1, fun q => ?_⟩⟩
    rcases q with ⟨a, b, h1, h2, -⟩ | ⟨a, h1, -⟩ <;> omega
  refine xj_aload_n E d_X10_conflict_0 rfl ?_
  refine xj_iload_n E d_X10_conflict_1 rfl ?_
  refine xj_callV E (k_X10_close l G hI r nt _ hr28 hT hR) cw_X10_140 cv_X10_close (by decide) rfl rfl rfl ⟨by decide, by decide⟩ (Nat.le_of_ble_eq_true rfl) d_X10_conflict_2 ⟨Nat.zero_le _, Nat.zero_le _⟩ (fun r2 μ2 ho2 hp2 => ?_)
  obtain ⟨rfl, l1, hc, hok, hlen, hfr⟩ := hp2
  have hty := mOK_lt hT hR (fun q hq => (hok.2 q.1 q.2).mp hq)
  refine xj_iconst (v := 0) E d_X10_conflict_5 (by decide) ?_
  refine xj_istore_n E d_X10_conflict_6 (by decide) rfl ?_
  refine xj_iconst (v := 0) E d_X10_conflict_7 (by decide) ?_
  refine xj_istore_n E d_X10_conflict_8 (by decide) rfl ?_
  refine lps _ l1 hc (by omega) hty _ (fun x hx => ?_)
  refine xj_iload_n E d_X10_conflict_64 rfl ?_
  exact xj_zret E hr hlk hx.1 d_X10_conflict_65 (⟨x, rfl, hx.1, (hx.2.trans fnd_end).trans (hok.conf _ _ _ _ _ _ _), hfr⟩)

set_option maxRecDepth 100000 in
set_option maxHeartbeats 4000000 in
/-- X10 rowOf -/
theorem k_X10_rowOf (l : Launch) (G : XG) (hI : XI G) (x y : Int32) (μ : Mem)  : XMet l G y_X10_rowOf c_X10_rowOf 2 (some .int) 0 [.inl x, .inl y] μ (fun rr μ' => rr = some (.inl (if 0 ≤ y then 12 + 4 * x + y else 8 + x)) ∧ μ' = μ) := by
  refine xj_met (by decide) hI (Nat.le_of_ble_eq_true rfl) ?_
  intro p e s m args below meth c E hr hlk
  have E : XE G (xA G) RX10 c_X10_rowOf 2 p s m args c := E
  refine xj_loc (L' := [some (.inl x), some (.inl y)]) rfl ?_
  refine xj_iload_n E d_X10_rowOf_0 rfl ?_
  refine xj_if_ge (tgt := 11) E d_X10_rowOf_1 (by decide) (fun h1 => ?_) (fun h1 => ?_)
  · refine xj_bipush (v := 12) E d_X10_rowOf_11 (by decide) ?_
    refine xj_iconst (v := 4) E d_X10_rowOf_13 (by decide) ?_
    refine xj_iload_n E d_X10_rowOf_14 rfl ?_
    refine xj_imul E d_X10_rowOf_15 ?_
    refine xj_iadd E d_X10_rowOf_16 ?_
    refine xj_iload_n E d_X10_rowOf_17 rfl ?_
    refine xj_iadd E d_X10_rowOf_18 ?_
    exact xj_iret E hr hlk d_X10_rowOf_19 (by first | exact ⟨by rw [if_pos h1], rfl⟩ | exact ⟨by rw [if_neg h1], rfl⟩)
  refine xj_bipush (v := 8) E d_X10_rowOf_4 (by decide) ?_
  refine xj_iload_n E d_X10_rowOf_6 rfl ?_
  refine xj_iadd E d_X10_rowOf_7 ?_
  refine xj_goto (tgt := 19) E d_X10_rowOf_8 (by decide) ?_
  exact xj_iret E hr hlk d_X10_rowOf_19 (by first | exact ⟨by rw [if_pos h1], rfl⟩ | exact ⟨by rw [if_neg h1], rfl⟩)

theorem row_own (j : Nat) : (if (0 : Int32) ≤ -1 then 12 + 4 * nI j + -1 else 8 + nI j) = nI (8 + j) := by
  rw [if_neg (by decide), ← nI_add]
  rfl
theorem row_m {j k : Nat} (h : k < 7) : (if (0 : Int32) ≤ nI k then 12 + 4 * nI j + nI k else 8 + nI j) = nI (12 + 4 * j + k) := by
  rw [if_pos (nI_pos' (by omega)), ← nI_add, ← nI_add, ← pk_mul]
  rfl
/-- those of the first n of l that are of no type of the first b of f -/
def tkf (l : PL) (keep : Nat → Bool) : Nat → PL
  | 0 => []
  | n + 1 => match l[n]? with
    | some q => if keep q.1 = true then tkf l keep n ++ [q] else tkf l keep n
    | none => tkf l keep n
theorem tkf_yes {l : PL} {keep : Nat → Bool} {n : Nat} {q : Nat × Int32} (h : l[n]? = some q) (hk : keep q.1 = true) : tkf l keep (n + 1) = tkf l keep n ++ [q] := by
  simp only [tkf, h, hk, if_true]
theorem tkf_no {l : PL} {keep : Nat → Bool} {n : Nat} {q : Nat × Int32} (h : l[n]? = some q) (hk : keep q.1 = false) : tkf l keep (n + 1) = tkf l keep n := by
  simp only [tkf, h, hk]
  rfl
theorem tkf_mem {l : PL} {keep : Nat → Bool} {p : Nat × Int32} : ∀ {n : Nat}, n ≤ l.length → (p ∈ tkf l keep n ↔ ∃ i, i < n ∧ l[i]? = some p ∧ keep p.1 = true)
  | 0, _ => ⟨fun h => absurd h List.not_mem_nil, fun ⟨i, h, _⟩ => by omega⟩
  | n + 1, hn => by
    have ih := tkf_mem (l := l) (keep := keep) (p := p) (n := n) (by omega)
    have hat := List.getElem?_eq_getElem (l := l) (i := n) (by omega)
    cases hk : keep (l[n]).1 with
    | true =>
      rw [tkf_yes hat hk]
      constructor
      · intro h
        rcases List.mem_append.mp h with h | h
        · obtain ⟨i, h1, h2⟩ := ih.mp h
          exact ⟨i, by omega, h2⟩
        · have := List.mem_singleton.mp h
          subst this
          exact ⟨n, by omega, hat, hk⟩
      · rintro ⟨i, h1, h2, h3⟩
        by_cases e : i = n
        · subst e
          rw [hat] at h2
          cases h2
          exact List.mem_append_right _ (List.mem_singleton.mpr rfl)
        · exact List.mem_append_left _ (ih.mpr ⟨i, by omega, h2, h3⟩)
    | false =>
      rw [tkf_no hat hk]
      constructor
      · intro h
        obtain ⟨i, h1, h2⟩ := ih.mp h
        exact ⟨i, by omega, h2⟩
      · rintro ⟨i, h1, h2, h3⟩
        by_cases e : i = n
        · subst e
          rw [hat] at h2
          cases h2
          rw [hk] at h3
          cases h3
        · exact ih.mpr ⟨i, by omega, h2, h3⟩
theorem tkf_len {l : PL} {keep : Nat → Bool} : ∀ {n : Nat}, (tkf l keep n).length ≤ n
  | 0 => Nat.le_refl _
  | n + 1 => by
    have ih := tkf_len (l := l) (keep := keep) (n := n)
    unfold tkf
    split
    · split
      · simp; exact ih
      · omega
    · omega
noncomputable def kpt (f : PL) (b : Nat) (t : Nat) : Bool := bq (∀ (i : Nat) (q : Nat × Int32), i < b → f[i]? = some q → q.1 ≠ t)

theorem h54n {x : Int32} (h : x = 0) (q : x = 1) : False := i0_1 (h.symm.trans q)

set_option maxRecDepth 100000 in
set_option maxHeartbeats 4000000 in
/-- X10 takeOver -/
theorem k_X10_takeOver (l : Launch) (G : XG) (hI : XI G) (b : Nat) (l1 f0 : PL) (μ : Mem) (hc : cIs μ l1) (hf : fIs μ f0) (hl1 : l1.length ≤ 20) (hf0 : f0.length ≤ 20) (hb : b ≤ f0.length) (hty : ∀ q, q ∈ l1 → q.1 ≤ 1000) (hfy : ∀ q, q ∈ f0 → q.1 ≤ 1000) : XMet l G y_X10_takeOver c_X10_takeOver 5 none 0 [.inr (24, 0), .inl (nI b)] μ (fun rr μ' => rr = none ∧ fIs μ' (f0 ++ tkf l1 (kpt f0 b) l1.length) ∧ frG [58, 59] [27] μ μ') := by
  refine xj_met (by decide) hI (Nat.le_of_ble_eq_true rfl) ?_
  intro p e s m args below meth c E hr hlk
  have E : XE G (xA G) RX10 c_X10_takeOver 5 p s m args c := E
  refine xj_loc (L' := [some (.inr (24, 0)), some (.inl (nI b)), none, none, none]) rfl ?_
  have e_c : ∀ μ1, frG [58, 59] [27] μ μ1 → cIs μ1 l1 := fun μ1 h => hc.keep (h.2 0 24 (by decide)) (h.1 55 (by decide) (by decide)) (h.1 56 (by decide) (by decide))
  have lp2 : ∀ (Q : State → Prop) (n k j : Nat) (hk : k < l1.length) (x : Int32) (μ1 : Mem), b - j = n → j ≤ b → frG [58, 59] [27] μ μ1 → fIs μ1 (f0 ++ tkf l1 (kpt f0 b) k) → ((x = 0 ∨ x = 1) ∧ (x = 1 ↔ (∃ (i : Nat) (q : Nat × Int32), i < j ∧ f0[i]? = some q ∧ q.1 = (l1[k]'hk).1))) → (∀ x : Int32, ((x = 0 ∨ x = 1) ∧ (x = 1 ↔ (∃ (i : Nat) (q : Nat × Int32), i < b ∧ f0[i]? = some q ∧ q.1 = (l1[k]'hk).1))) → XJ G (xA G) 5 p l e (xr 0) s m args below meth c 0 0 Q 53 [some (.inr (24, 0)), some (.inl (nI b)), some (.inl (nI k)), some (.inl (x)), none] [] μ1) → XJ G (xA G) 5 p l e (xr 0) s m args below meth c 0 0 Q 15 [some (.inr (24, 0)), some (.inl (nI b)), some (.inl (nI k)), some (.inl (x)), some (.inl (nI j))] [] μ1 := by
    intro Q n
    induction n using Nat.strongRecOn with
    | _ n ih =>
    intro k j hk x μ1 hn hj hfr hf hinv hy
    have hc1 := e_c μ1 hfr
    have hcj : (nI j).toNatClampNeg = j := cl_nI (by omega)
    have hck : (nI k).toNatClampNeg = k := cl_nI (by omega)
    refine xj_iload E d_X10_takeOver_15 rfl ?_
    refine xj_iload_n E d_X10_takeOver_17 rfl ?_
    refine xj_icmp_ge (tgt := 53) E d_X10_takeOver_18 (by decide) (fun h18 => ?_) (fun h18 => ?_)
    · have hk8 : j = b := by
        have := ge_nI h18 (by omega) (by omega)
        omega
      subst hk8
      refine xj_forget 4 ?_
      exact hy x hinv
    have hlt : j < b := ng_nI h18 (by omega) (by omega)
    have hfat : f0[j]? = some f0[j] := List.getElem?_eq_getElem (by omega)
    have hfm := hf.2 j _ (by rw [List.getElem?_append_left (by omega)]; exact hfat)
    have hlm := hc1.2 k _ (List.getElem?_eq_getElem hk)
    have t1 := hfy _ (List.getElem_mem (by omega : j < f0.length))
    have t2 := hty _ (List.getElem_mem hk)
    refine xj_iload_n E d_X10_takeOver_21 rfl ?_
    refine xj_if_ne (tgt := 41) E d_X10_takeOver_22 (by decide) (fun h22 => ?_) (fun h22 => ?_)
    · refine xj_iconst (v := 1) E d_X10_takeOver_41 (by decide) ?_
      refine xj_goto (tgt := 46) E d_X10_takeOver_42 (by decide) ?_
      refine xj_istore_n E d_X10_takeOver_46 (by decide) rfl ?_
      refine xj_iinc (v := nI (j + 1)) E d_X10_takeOver_47 rfl (nI_inc j) rfl ?_
      refine xj_goto (tgt := 15) E d_X10_takeOver_50 (by decide) ?_
      first
        | exact ih (b - (j + 1)) (by omega) k (j + 1) hk 0 μ1 rfl (by omega) hfr hf ⟨Or.inl rfl, ⟨fun q => absurd q i0_1, fun ⟨i, q, h1, h2, h3⟩ => by
            exfalso
            by_cases z : i = j
            · subst z
              rw [hfat] at h2
              cases h2
              apply h38
              rw [hcj, hck, hfm.1, hlm.1, h3]
            · exact i0_1 (h22.symm.trans (hinv.2.mpr ⟨i, q, by omega, h2, h3⟩))⟩⟩ hy
        | exact ih (b - (j + 1)) (by omega) k (j + 1) hk 1 μ1 rfl (by omega) hfr hf ⟨Or.inr rfl, ⟨fun _ => ⟨j, _, by omega, hfat, by
            rw [hcj, hck, hfm.1, hlm.1] at h38
            exact (nI_eq (by omega) (by omega)).mp h38⟩, fun _ => rfl⟩⟩ hy
        | exact ih (b - (j + 1)) (by omega) k (j + 1) hk 1 μ1 rfl (by omega) hfr hf ⟨Or.inr rfl, ⟨fun _ => by
            obtain ⟨i, q, h1, h2⟩ := hinv.2.mp (hinv.1.resolve_left h22)
            exact ⟨i, q, by omega, h2⟩, fun _ => rfl⟩⟩ hy
    refine xj_aload_n E d_X10_takeOver_25 rfl ?_
    refine xj_geta E fl_X10_71 (by decide) rfl (by decide) rfl d_X10_takeOver_26 ?_
    refine xj_iload E d_X10_takeOver_29 rfl ?_
    refine xj_iald E (by decide) (show vp_in (nI j) 48 from in_nI (by omega) (by omega)) d_X10_takeOver_31 ?_
    refine xj_aload_n E d_X10_takeOver_32 rfl ?_
    refine xj_geta E fl_X10_65 (by decide) rfl (by decide) rfl d_X10_takeOver_33 ?_
    refine xj_iload_n E d_X10_takeOver_36 rfl ?_
    refine xj_iald E (by decide) (show vp_in (nI k) 24 from in_nI (by omega) (by omega)) d_X10_takeOver_37 ?_
    refine xj_icmp_ne (tgt := 45) E d_X10_takeOver_38 (by decide) (fun h38 => ?_) (fun h38 => ?_)
    · refine xj_iconst (v := 0) E d_X10_takeOver_45 (by decide) ?_
      refine xj_istore_n E d_X10_takeOver_46 (by decide) rfl ?_
      refine xj_iinc (v := nI (j + 1)) E d_X10_takeOver_47 rfl (nI_inc j) rfl ?_
      refine xj_goto (tgt := 15) E d_X10_takeOver_50 (by decide) ?_
      first
        | exact ih (b - (j + 1)) (by omega) k (j + 1) hk 0 μ1 rfl (by omega) hfr hf ⟨Or.inl rfl, ⟨fun q => absurd q i0_1, fun ⟨i, q, h1, h2, h3⟩ => by
            exfalso
            by_cases z : i = j
            · subst z
              rw [hfat] at h2
              cases h2
              apply h38
              rw [hcj, hck, hfm.1, hlm.1, h3]
            · exact i0_1 (h22.symm.trans (hinv.2.mpr ⟨i, q, by omega, h2, h3⟩))⟩⟩ hy
        | exact ih (b - (j + 1)) (by omega) k (j + 1) hk 1 μ1 rfl (by omega) hfr hf ⟨Or.inr rfl, ⟨fun _ => ⟨j, _, by omega, hfat, by
            rw [hcj, hck, hfm.1, hlm.1] at h38
            exact (nI_eq (by omega) (by omega)).mp h38⟩, fun _ => rfl⟩⟩ hy
        | exact ih (b - (j + 1)) (by omega) k (j + 1) hk 1 μ1 rfl (by omega) hfr hf ⟨Or.inr rfl, ⟨fun _ => by
            obtain ⟨i, q, h1, h2⟩ := hinv.2.mp (hinv.1.resolve_left h22)
            exact ⟨i, q, by omega, h2⟩, fun _ => rfl⟩⟩ hy
    refine xj_iconst (v := 1) E d_X10_takeOver_41 (by decide) ?_
    refine xj_goto (tgt := 46) E d_X10_takeOver_42 (by decide) ?_
    refine xj_istore_n E d_X10_takeOver_46 (by decide) rfl ?_
    refine xj_iinc (v := nI (j + 1)) E d_X10_takeOver_47 rfl (nI_inc j) rfl ?_
    refine xj_goto (tgt := 15) E d_X10_takeOver_50 (by decide) ?_
    first
      | exact ih (b - (j + 1)) (by omega) k (j + 1) hk 0 μ1 rfl (by omega) hfr hf ⟨Or.inl rfl, ⟨fun q => absurd q i0_1, fun ⟨i, q, h1, h2, h3⟩ => by
          exfalso
          by_cases z : i = j
          · subst z
            rw [hfat] at h2
            cases h2
            apply h38
            rw [hcj, hck, hfm.1, hlm.1, h3]
          · exact i0_1 (h22.symm.trans (hinv.2.mpr ⟨i, q, by omega, h2, h3⟩))⟩⟩ hy
      | exact ih (b - (j + 1)) (by omega) k (j + 1) hk 1 μ1 rfl (by omega) hfr hf ⟨Or.inr rfl, ⟨fun _ => ⟨j, _, by omega, hfat, by
          rw [hcj, hck, hfm.1, hlm.1] at h38
          exact (nI_eq (by omega) (by omega)).mp h38⟩, fun _ => rfl⟩⟩ hy
      | exact ih (b - (j + 1)) (by omega) k (j + 1) hk 1 μ1 rfl (by omega) hfr hf ⟨Or.inr rfl, ⟨fun _ => by
          obtain ⟨i, q, h1, h2⟩ := hinv.2.mp (hinv.1.resolve_left h22)
          exact ⟨i, q, by omega, h2⟩, fun _ => rfl⟩⟩ hy
  have lp1 : ∀ (Q : State → Prop) (n k : Nat) (μ1 : Mem), l1.length - k = n → k ≤ l1.length → frG [58, 59] [27] μ μ1 → fIs μ1 (f0 ++ tkf l1 (kpt f0 b) k) → (∀ μ2, frG [58, 59] [27] μ μ2 → fIs μ2 (f0 ++ tkf l1 (kpt f0 b) l1.length) → XJ G (xA G) 5 p l e (xr 0) s m args below meth c 0 0 Q 103 [some (.inr (24, 0)), some (.inl (nI b)), some (.inl (nI l1.length)), none, none] [] μ2) → XJ G (xA G) 5 p l e (xr 0) s m args below meth c 0 0 Q 2 [some (.inr (24, 0)), some (.inl (nI b)), some (.inl (nI k)), none, none] [] μ1 := by
    intro Q n
    induction n using Nat.strongRecOn with
    | _ n ih =>
    intro k μ1 hn hk hfr hf hx
    have hc1 := e_c μ1 hfr
    have htl := tkf_len (l := l1) (keep := kpt f0 b) (n := k)
    have hfl : (f0 ++ tkf l1 (kpt f0 b) k).length ≤ f0.length + k := by rw [List.length_append]; omega
    refine xj_iload_n E d_X10_takeOver_2 rfl ?_
    refine xj_aload_n E d_X10_takeOver_3 rfl ?_
    refine xj_geti E fl_X10_133 (by decide) rfl (by decide) rfl d_X10_takeOver_4 ?_
    refine xj_icmp_ge (tgt := 103) E d_X10_takeOver_7 (by decide) (fun h7 => ?_) (fun h7 => ?_)
    · have hk8 : k = l1.length := by
        have := ge_nI (b := k) (by rw [← hc1.1]; exact h7) (by omega) (by omega)
        omega
      subst hk8
      exact hx _ hfr hf
    have hlt : k < l1.length := ng_nI (b := k) (by rw [← hc1.1]; exact h7) (by omega) (by omega)
    refine xj_iconst (v := 0) E d_X10_takeOver_10 (by decide) ?_
    refine xj_istore_n E d_X10_takeOver_11 (by decide) rfl ?_
    refine xj_iconst (v := 0) E d_X10_takeOver_12 (by decide) ?_
    refine xj_istore E d_X10_takeOver_13 (by decide) rfl ?_
    refine lp2 Q b k 0 hlt 0 μ1 (by omega) (by omega) hfr hf ⟨Or.inl rfl, ⟨fun q => absurd q i0_1, fun ⟨i, q, h1, _⟩ => by omega⟩⟩ (fun x hinv => ?_)
    have hck : (nI k).toNatClampNeg = k := cl_nI (by omega)
    have hat := List.getElem?_eq_getElem hlt
    have hlm := hc1.2 k _ hat
    have hin : vp_in (μ1 24 0 27) 48 := by rw [hf.1]; exact in_nI (by omega) (by omega)
    have hcl : (μ1 24 0 27).toNatClampNeg = (f0 ++ tkf l1 (kpt f0 b) k).length := by rw [hf.1]; exact cl_nI (by omega)
    refine xj_iload_n E d_X10_takeOver_53 rfl ?_
    refine xj_if_ne (tgt := 97) E d_X10_takeOver_54 (by decide) (fun h54 => ?_) (fun h54 => ?_)
    · refine xj_iinc (v := nI (k + 1)) E d_X10_takeOver_97 rfl (nI_inc k) rfl ?_
      refine xj_goto (tgt := 2) E d_X10_takeOver_100 (by decide) ?_
      refine xj_forget 3 ?_
      refine xj_forget 4 ?_
      first
        | (refine ih (l1.length - (k + 1)) (by omega) (k + 1) _ rfl (by omega) (((hfr.tr (frG_f (by decide) (by decide))).tr (frG_f (by decide) (by decide))).tr (frG_o (by decide))) ?_ hx
           have hkp : kpt f0 b (l1[k]).1 = true := bq_t (fun i q hi hq e => h54n h54 (hinv.2.mpr ⟨i, q, hi, hq, e⟩))
           rw [tkf_yes hat hkp, ← List.append_assoc]
           show fIs (mset (mset (mset μ1 58 0 (μ1 24 0 27).toNatClampNeg (nI (l1[k]).1)) 59 0 (μ1 24 0 27).toNatClampNeg (l1[k]).2) 24 0 27 (μ1 24 0 27 + 1)) _
           rw [hcl, hf.1, nI_1]
           exact hf.app (by decide) (by decide) (by decide))
        | (refine ih (l1.length - (k + 1)) (by omega) (k + 1) _ rfl (by omega) hfr ?_ hx
           have hkp : kpt f0 b (l1[k]).1 = false := bq_f (fun q => by
             obtain ⟨i, p, h1, h2, h3⟩ := hinv.2.mp (hinv.1.resolve_left h54)
             exact q i p h1 h2 h3)
           rw [tkf_no hat hkp]
           exact hf)
    refine xj_aload_n E d_X10_takeOver_57 rfl ?_
    refine xj_geta E fl_X10_71 (by decide) rfl (by decide) rfl d_X10_takeOver_58 ?_
    refine xj_aload_n E d_X10_takeOver_61 rfl ?_
    refine xj_geti E fl_X10_144 (by decide) rfl (by decide) rfl d_X10_takeOver_62 ?_
    refine xj_aload_n E d_X10_takeOver_65 rfl ?_
    refine xj_geta E fl_X10_65 (by decide) rfl (by decide) rfl d_X10_takeOver_66 ?_
    refine xj_iload_n E d_X10_takeOver_69 rfl ?_
    refine xj_iald E (by decide) (show vp_in (nI k) 24 from in_nI (by omega) (by omega)) d_X10_takeOver_70 ?_
    refine xj_st (st' := [.inl (nI (l1[k]).1), .inl (μ1 24 0 27), .inr (58, 0)]) (by rw [hck, hlm.1]) ?_
    refine xj_iast E (by decide) hin d_X10_takeOver_71 ?_
    refine xj_aload_n E d_X10_takeOver_72 rfl ?_
    refine xj_geta E fl_X10_74 (by decide) rfl (by decide) rfl d_X10_takeOver_73 ?_
    refine xj_aload_n E d_X10_takeOver_76 rfl ?_
    refine xj_geti E fl_X10_144 (by decide) rfl (by decide) rfl d_X10_takeOver_77 ?_
    refine xj_aload_n E d_X10_takeOver_80 rfl ?_
    refine xj_geta E fl_X10_68 (by decide) rfl (by decide) rfl d_X10_takeOver_81 ?_
    refine xj_iload_n E d_X10_takeOver_84 rfl ?_
    refine xj_iald E (by decide) (show vp_in (nI k) 24 from in_nI (by omega) (by omega)) d_X10_takeOver_85 ?_
    refine xj_st (st' := [.inl (l1[k]).2, .inl (μ1 24 0 27), .inr (59, 0)]) (by show ([.inl (μ1 56 0 (nI k).toNatClampNeg), .inl (μ1 24 0 27), .inr (59, 0)] : List XV) = _; rw [hck, hlm.2]) ?_
    refine xj_iast E (by decide) hin d_X10_takeOver_86 ?_
    refine xj_aload_n E d_X10_takeOver_87 rfl ?_
    refine xj_dup E d_X10_takeOver_88 ?_
    refine xj_geti E fl_X10_144 (by decide) rfl (by decide) rfl d_X10_takeOver_89 ?_
    refine xj_iconst (v := 1) E d_X10_takeOver_92 (by decide) ?_
    refine xj_iadd E d_X10_takeOver_93 ?_
    refine xj_put E fp_X10_144 (by decide) rfl (by decide) rfl (narrow_i _) d_X10_takeOver_94 ?_
    refine xj_iinc (v := nI (k + 1)) E d_X10_takeOver_97 rfl (nI_inc k) rfl ?_
    refine xj_goto (tgt := 2) E d_X10_takeOver_100 (by decide) ?_
    refine xj_forget 3 ?_
    refine xj_forget 4 ?_
    first
      | (refine ih (l1.length - (k + 1)) (by omega) (k + 1) _ rfl (by omega) (((hfr.tr (frG_f (by decide) (by decide))).tr (frG_f (by decide) (by decide))).tr (frG_o (by decide))) ?_ hx
         have hkp : kpt f0 b (l1[k]).1 = true := bq_t (fun i q hi hq e => h54n h54 (hinv.2.mpr ⟨i, q, hi, hq, e⟩))
         rw [tkf_yes hat hkp, ← List.append_assoc]
         show fIs (mset (mset (mset μ1 58 0 (μ1 24 0 27).toNatClampNeg (nI (l1[k]).1)) 59 0 (μ1 24 0 27).toNatClampNeg (l1[k]).2) 24 0 27 (μ1 24 0 27 + 1)) _
         rw [hcl, hf.1, nI_1]
         exact hf.app (by decide) (by decide) (by decide))
      | (refine ih (l1.length - (k + 1)) (by omega) (k + 1) _ rfl (by omega) hfr ?_ hx
         have hkp : kpt f0 b (l1[k]).1 = false := bq_f (fun q => by
           obtain ⟨i, p, h1, h2, h3⟩ := hinv.2.mp (hinv.1.resolve_left h54)
           exact q i p h1 h2 h3)
         rw [tkf_no hat hkp]
         exact hf)
  refine xj_iconst (v := 0) E d_X10_takeOver_0 (by decide) ?_
  refine xj_istore_n E d_X10_takeOver_1 (by decide) rfl ?_
  refine lp1 _ l1.length 0 μ (by omega) (by omega) (frG.rf _ _ _) (by show fIs μ (f0 ++ []); rw [List.append_nil]; exact hf) (fun μ2 hfr2 hf2 => ?_)
  exact xj_vret E hr hlk d_X10_takeOver_103 (⟨rfl, hf2, hfr2⟩)
