theorem rn_congr {ch ch' bh bh' : Nat → Int32} {m fl : Int32} : ∀ r k, (∀ i, k ≤ i → i < k + r → ch i = ch' i ∧ (ch' i = 32 ∨ bh i = bh' i)) → rn ch bh m fl r k = rn ch' bh' m fl r k
  | 0, _ => fun _ => rfl
  | r + 1, k => fun h => by
    funext g S
    have h1 := h k (by omega) (by omega)
    have h2 := rn_congr (m := m) (fl := fl) r (k + 1) (fun i a b => h i (by omega) (by omega))
    show (if S.1 < 64 then (if ch k = 32 then rTg m fl g (rLog S (ch k)) else rBv (rn ch bh m fl r (k + 1)) (ch k) (bh k) m g (rLog S (ch k))) else (0, rTh S 99)) = (if S.1 < 64 then (if ch' k = 32 then rTg m fl g (rLog S (ch' k)) else rBv (rn ch' bh' m fl r (k + 1)) (ch' k) (bh' k) m g (rLog S (ch' k))) else (0, rTh S 99))
    rw [h1.1, h2]
    rcases h1.2 with e | e
    · rw [if_pos e, if_pos e]
    · rw [e]
theorem mLs_mem {μ : Mem} {r N : Nat} {kind : Int32} : ∀ n, (∀ k, k < n → ∃ i, i < N ∧ μ 53 0 (4 * r + k) = nI i) → N ≤ 8 → ∀ x, x ∈ mLs μ r kind n → x < N
  | 0 => fun _ _ x hx => by cases hx
  | n + 1 => fun h hN x hx => by
    have ih := mLs_mem (kind := kind) n (fun k hk => h k (by omega)) hN
    unfold mLs at hx
    split at hx
    · exact ih x hx
    · rcases List.mem_append.mp hx with h1 | h1
      · exact ih x h1
      · obtain ⟨i, hi, e⟩ := h n (by omega)
        have : x = (μ 53 0 (4 * r + n)).toNatClampNeg := List.mem_singleton.mp h1
        rw [e, cl_nI (by omega)] at this
        omega
theorem okE_i {t : Nat} (h : t < 8) : okE (nI t) ∧ ¬ nI t = 32 ∧ nI t < 16 := by
  have : t = 0 ∨ t = 1 ∨ t = 2 ∨ t = 3 ∨ t = 4 ∨ t = 5 ∨ t = 6 ∨ t = 7 := by omega
  unfold okE
  rcases this with rfl | rfl | rfl | rfl | rfl | rfl | rfl | rfl <;> exact ⟨⟨fun z => absurd z (by decide), fun _ => in_nI (by omega) (by omega)⟩, by decide, by decide⟩
theorem okE_d {t : Nat} (h : t < 4) : okE (nI (16 + t)) ∧ ¬ nI (16 + t) = 32 := by
  have : t = 0 ∨ t = 1 ∨ t = 2 ∨ t = 3 := by omega
  unfold okE
  rcases this with rfl | rfl | rfl | rfl
  · exact ⟨⟨fun _ => in_nI (k := 0) (by omega) (by omega), fun z => absurd (show (16 : Int32) ≤ nI (16 + 0) by decide) z⟩, by decide⟩
  · exact ⟨⟨fun _ => in_nI (k := 1) (by omega) (by omega), fun z => absurd (show (16 : Int32) ≤ nI (16 + 1) by decide) z⟩, by decide⟩
  · exact ⟨⟨fun _ => in_nI (k := 2) (by omega) (by omega), fun z => absurd (show (16 : Int32) ≤ nI (16 + 2) by decide) z⟩, by decide⟩
  · exact ⟨⟨fun _ => in_nI (k := 3) (by omega) (by omega), fun z => absurd (show (16 : Int32) ≤ nI (16 + 3) by decide) z⟩, by decide⟩
theorem mChn_init {μ : Mem} (hw : mWF μ) {j k : Nat} (hj : j < mnp μ) (x : Int32) (hx : x ∈ mA1 μ j k ++ mA2 μ j k ++ mBs μ j k 9 0 ++ (if k < 4 then mDs μ j k 9 0 else [])) : (∃ t, t < 8 ∧ x = nI t) ∨ (k < 4 ∧ ∃ t, t < 4 ∧ x = nI (16 + t)) := by
  have hni := hw.2.1.2
  rcases List.mem_append.mp hx with hx | hx
  · left
    rcases List.mem_append.mp hx with hx | hx
    · rcases List.mem_append.mp hx with hx | hx
      · unfold mA1 at hx
        split at hx
        · cases hx
        · obtain ⟨t, ht, rfl⟩ := List.mem_map.mp hx
          have h := (hw.2.2.2.2.2 (5 * j) (by omega)).2.2
          rw [rq_own] at h
          have := mLs_mem _ h hni t ht
          exact ⟨t, by omega, rfl⟩
      · unfold mA2 at hx
        split at hx
        · rename_i h4
          obtain ⟨t, ht, rfl⟩ := List.mem_map.mp hx
          have h := (hw.2.2.2.2.2 (5 * j + 1 + k) (by omega)).2.2
          rw [rq_m h4] at h
          have := mLs_mem _ h hni t ht
          exact ⟨t, by omega, rfl⟩
        · cases hx
    · unfold mBs at hx
      obtain ⟨t, ht, rfl⟩ := List.mem_map.mp hx
      rcases sel_mem.mp ht with ⟨p', -, h, -⟩ | ⟨h, -⟩
      · exact ⟨t, by omega, rfl⟩
      · omega
  · right
    have hnd := hw.2.2.1.2
    split at hx
    · rename_i h4
      unfold mDs at hx
      obtain ⟨t, ht, rfl⟩ := List.mem_map.mp hx
      rcases sel_mem.mp ht with ⟨p', -, h, -⟩ | ⟨h, -⟩
      · exact ⟨h4, t, by omega, rfl⟩
      · omega
    · cases hx
theorem mChn_els {μ μ1 : Mem} (hw : mWF μ) {j k : Nat} (hj : j < mnp μ) (hc : nIs μ1 (mChn μ j k)) : μ1 61 0 ((mChn μ j k).length - 1) = 32 ∧ ∀ i, i + 1 < (mChn μ j k).length → okE (μ1 61 0 i) ∧ ¬ μ1 61 0 i = 32 ∧ (¬ nI k < 4 → μ1 61 0 i < 16) := by
  have hm := mChn_init hw (k := k) hj
  revert hc
  unfold mChn
  intro hc
  generalize mA1 μ j k ++ mA2 μ j k ++ mBs μ j k 9 0 ++ (if k < 4 then mDs μ j k 9 0 else []) = l0 at hm hc
  constructor
  · refine hc.2 _ _ ?_
    rw [List.length_append, List.length_singleton, Nat.add_sub_cancel]
    simp
  · intro i hi
    rw [List.length_append, List.length_singleton] at hi
    have hi : i < l0.length := by omega
    have e : (l0 ++ [32])[i]? = some l0[i] := by rw [List.getElem?_append_left hi, List.getElem?_eq_getElem hi]
    rw [hc.2 i _ e]
    rcases hm _ (List.getElem_mem hi) with ⟨t, ht, h⟩ | ⟨hk, t, ht, h⟩
    · rw [h]
      exact ⟨(okE_i ht).1, (okE_i ht).2.1, fun _ => (okE_i ht).2.2⟩
    · rw [h]
      exact ⟨(okE_d ht).1, (okE_d ht).2, fun z => absurd (lt4 hk) z⟩
abbrev frW : Mem → Mem → Prop := frG [55, 56, 58, 59, 61, 62, 63, 64, 66] [24, 27, 30, 35, 37, 38, 39, 40, 41]
theorem frL.w {μ μ' : Mem} (h : frL μ μ') : frW μ μ' := h.up (by decide) (by decide)
theorem frV.w {μ μ' : Mem} (h : frV μ μ') : frW μ μ' := h.up (by decide) (by decide)
/-- what the reference's invoke leaves -/
def mInv (L0 : Nat → Int32) (μ : Mem) (j k : Nat) (b : Int32) (r : Option XV) (μ' : Mem) : Prop := ∀ (ch bh : Nat → Int32), (∀ i x, (mChn μ j k)[i]? = some x → ch i = x ∧ (x = 32 ∨ bh i = mBh μ x)) → ∃ q, q = rn ch bh (nI k) (mFz μ j k) (mChn μ j k).length 0 b (0, L0, b, 0) ∧ r = some (.inl (nI q.2.1)) ∧ μ' 24 0 35 = nI q.2.1 ∧ q.2.1 ≤ 64 ∧ (∀ i, i < q.2.1 → μ' 66 0 i = q.2.2.1 i) ∧ μ' 24 0 37 = (if q.2.2.2.2 = 0 then q.1 else 0) ∧ μ' 24 0 38 = q.2.2.2.2

theorem mInv_of {L0 : Nat → Int32} {μ μ1 μ' : Mem} {j k : Nat} {b : Int32} {q : Int32 × RS} (eq : q = rn (μ1 61 0) (fun i => mBh μ (μ1 61 0 i)) (nI k) (mFz μ j k) (mChn μ j k).length 0 b (0, L0, b, 0)) (hc : nIs μ1 (mChn μ j k)) {x : Int32} (h1 : x = nI q.2.1) (h2 : q.2.1 ≤ 64) (h3 : ∀ i, i < q.2.1 → μ' 66 0 i = q.2.2.1 i) (h4 : μ' 24 0 37 = (if q.2.2.2.2 = 0 then q.1 else 0)) (h5 : μ' 24 0 38 = q.2.2.2.2) (h6 : μ' 24 0 35 = x) : mInv L0 μ j k b (some (.inl x)) μ' := by
  intro ch bh hcb
  refine ⟨q, ?_, by rw [h1], by rw [h6, h1], h2, h3, h4, h5⟩
  rw [eq]
  refine congrFun (congrFun (rn_congr _ 0 (fun i _ hi => ?_)) _) _
  have hi : i < (mChn μ j k).length := by omega
  have e := List.getElem?_eq_getElem hi
  have := hcb i _ e
  rw [hc.2 i _ e]
  refine ⟨this.1.symm, ?_⟩
  rcases this.2 with h | h
  · exact Or.inl (this.1.trans h)
  · exact Or.inr h.symm
theorem isub1s (i : Nat) : nI (i + 1) - 1 = nI i := by rw [nI_s1 (by omega)]; rfl
theorem isub2 (i : Nat) : nI (i + 2) - 1 = nI i + 1 := by rw [nI_s1 (by omega), nI_1]; rfl

set_option maxRecDepth 100000 in
set_option maxHeartbeats 4000000 in
/-- X10 invoke -/
theorem k_X10_invoke (l : Launch) (G : XG) (hI : XI G) (L0 : Nat → Int32) (a y b : Int32) (μ : Mem) (hw : mWF μ) : XMet l G y_X10_invoke c_X10_invoke 7 (some .int) 5 [.inr (24, 0), .inl a, .inl y, .inl b] μ (fun r μ' => (μ 24 0 0 = 0 ∧ r = some (.inl (-6)) ∧ μ' = μ) ∨ (¬ μ 24 0 0 = 0 ∧ ¬ (inR a (mnp μ) ∧ inR y 7) ∧ r = some (.inl (-3)) ∧ μ' = μ) ∨ (¬ μ 24 0 0 = 0 ∧ ∃ j k, j < mnp μ ∧ k < 7 ∧ a = nI j ∧ y = nI k ∧ frW μ μ' ∧ mInv L0 μ j k (if k < 4 then b else 0) r μ')) := by
  refine xj_met (by decide) hI (Nat.le_of_ble_eq_true rfl) ?_
  intro p e s m args below meth c E hr hlk
  have E : XE G (xA G) RX10 c_X10_invoke 7 p s m args c := E
  refine xj_loc (L' := [some (.inr (24, 0)), some (.inl a), some (.inl y), some (.inl b), none, none, none]) rfl ?_
  have main : ∀ (j k : Nat) (μ1 : Mem), j < mnp μ → k < 7 → a = nI j → y = nI k → ¬ μ 24 0 0 = 0 → nIs μ1 (mChn μ j k) → frL μ μ1 → XJ G (xA G) 7 p l e (xr 5) s m args below meth c 0 0 (MQ below (xQ G (fun r μ' => (μ 24 0 0 = 0 ∧ r = some (.inl (-6)) ∧ μ' = μ) ∨ (¬ μ 24 0 0 = 0 ∧ ¬ (inR a (mnp μ) ∧ inR y 7) ∧ r = some (.inl (-3)) ∧ μ' = μ) ∨ (¬ μ 24 0 0 = 0 ∧ ∃ j k, j < mnp μ ∧ k < 7 ∧ a = nI j ∧ y = nI k ∧ frW μ μ' ∧ mInv L0 μ j k (if k < 4 then b else 0) r μ'))) args s 0 0 (xA G)) 16 [some (.inr (24, 0)), some (.inl (nI j)), some (.inl (nI k)), some (.inl b), none, none, none] [] μ1 := by
    intro j k μ1 hj hk ea ey hd hc hfr
    have hlen := mChn_len hw hj (k := k)
    have hj4 : j < 4 := by have := hw.2.2.2.1.2; omega
    have hT : TF (fun (i : Nat) (d : Int32) (μx : Mem) => XJ G (xA G) 7 p l e (xr 5) s m args below meth c 0 0 (MQ below (xQ G (fun r μ' => (μ 24 0 0 = 0 ∧ r = some (.inl (-6)) ∧ μ' = μ) ∨ (¬ μ 24 0 0 = 0 ∧ ¬ (inR a (mnp μ) ∧ inR y 7) ∧ r = some (.inl (-3)) ∧ μ' = μ) ∨ (¬ μ 24 0 0 = 0 ∧ ∃ j k, j < mnp μ ∧ k < 7 ∧ a = nI j ∧ y = nI k ∧ frW μ μ' ∧ mInv L0 μ j k (if k < 4 then b else 0) r μ'))) args s 0 0 (xA G)) 41 [some (.inr (24, 0)), some (.inl (nI j)), some (.inl (nI k)), some (.inl b), none, some (.inl (nI i - 1)), some (.inl (d))] [] μx) ∧ TE j k (fun (i : Nat) (d : Int32) (μx : Mem) => XJ G (xA G) 7 p l e (xr 5) s m args below meth c 0 0 (MQ below (xQ G (fun r μ' => (μ 24 0 0 = 0 ∧ r = some (.inl (-6)) ∧ μ' = μ) ∨ (¬ μ 24 0 0 = 0 ∧ ¬ (inR a (mnp μ) ∧ inR y 7) ∧ r = some (.inl (-3)) ∧ μ' = μ) ∨ (¬ μ 24 0 0 = 0 ∧ ∃ j k, j < mnp μ ∧ k < 7 ∧ a = nI j ∧ y = nI k ∧ frW μ μ' ∧ mInv L0 μ j k (if k < 4 then b else 0) r μ'))) args s 0 0 (xA G)) 41 [some (.inr (24, 0)), some (.inl (nI j)), some (.inl (nI k)), some (.inl b), none, some (.inl (nI i - 1)), some (.inl (d))] [] μx) ∧ TR (fun (i : Nat) (d : Int32) (μx : Mem) => XJ G (xA G) 7 p l e (xr 5) s m args below meth c 0 0 (MQ below (xQ G (fun r μ' => (μ 24 0 0 = 0 ∧ r = some (.inl (-6)) ∧ μ' = μ) ∨ (¬ μ 24 0 0 = 0 ∧ ¬ (inR a (mnp μ) ∧ inR y 7) ∧ r = some (.inl (-3)) ∧ μ' = μ) ∨ (¬ μ 24 0 0 = 0 ∧ ∃ j k, j < mnp μ ∧ k < 7 ∧ a = nI j ∧ y = nI k ∧ frW μ μ' ∧ mInv L0 μ j k (if k < 4 then b else 0) r μ'))) args s 0 0 (xA G)) 41 [some (.inr (24, 0)), some (.inl (nI j)), some (.inl (nI k)), some (.inl b), none, some (.inl (nI i - 1)), some (.inl (d))] [] μx) := by
      refine ⟨?_, ?_, ?_⟩
      · intro i μx hi he hK
        refine xj_loc (L' := [some (.inr (24, 0)), some (.inl (nI j)), some (.inl (nI k)), some (.inl b), none, some (.inl (nI i)), some (.inl (1))]) (by rw [isub1s]) ?_
        refine xj_iload E d_X10_invoke_41 rfl ?_
        refine xj_if_lt (tgt := 164) E d_X10_invoke_43 (by decide) (fun h43 => absurd h43 (nI_pos (by omega))) (fun h43 => ?_)
        refine xj_iload E d_X10_invoke_46 rfl ?_
        refine xj_if_eq (tgt := 73) E d_X10_invoke_48 (by decide) (fun h48 => absurd h48 (by decide)) (fun h48 => ?_)
        refine xj_aload_n E d_X10_invoke_51 rfl ?_
        refine xj_geti E fl_X10_112 (by decide) rfl (by decide) rfl d_X10_invoke_52 ?_
        refine xj_bipush (v := 64) E d_X10_invoke_55 (by decide) ?_
        refine xj_icmp_ne (tgt := 73) E d_X10_invoke_57 (by decide) (fun h57 => absurd he h57) (fun h57 => ?_)
        refine xj_aload_n E d_X10_invoke_60 rfl ?_
        refine xj_iconst (v := 1) E d_X10_invoke_61 (by decide) ?_
        refine xj_bipush (v := 99) E d_X10_invoke_62 (by decide) ?_
        refine xj_callV E (k_X10_answer l G hI 1 99 _ (Or.inr rfl)) cw_X10_184 cv_X10_answer (by decide) rfl rfl rfl ⟨by decide, by decide⟩ (Nat.le_of_ble_eq_true rfl) d_X10_invoke_64 ⟨Nat.zero_le _, Nat.zero_le _⟩ (fun r64 μ64 ho64 hp64 => ?_)
        obtain ⟨rfl, hm64⟩ := hp64
        refine xj_mem hm64 ?_
        refine xj_iconst (v := -1) E d_X10_invoke_67 (by decide) ?_
        refine xj_istore E d_X10_invoke_68 (by decide) rfl ?_
        refine xj_goto (tgt := 41) E d_X10_invoke_70 (by decide) ?_
        exact hK
      · intro i n g μx hi hn he hok hg hK
        refine xj_loc (L' := [some (.inr (24, 0)), some (.inl (nI j)), some (.inl (nI k)), some (.inl b), none, some (.inl (nI i)), some (.inl (1))]) (by rw [isub1s]) ?_
        refine xj_iload E d_X10_invoke_41 rfl ?_
        refine xj_if_lt (tgt := 164) E d_X10_invoke_43 (by decide) (fun h43 => absurd h43 (nI_pos (by omega))) (fun h43 => ?_)
        refine xj_iload E d_X10_invoke_46 rfl ?_
        refine xj_if_eq (tgt := 73) E d_X10_invoke_48 (by decide) (fun h48 => absurd h48 (by decide)) (fun h48 => ?_)
        refine xj_aload_n E d_X10_invoke_51 rfl ?_
        refine xj_geti E fl_X10_112 (by decide) rfl (by decide) rfl d_X10_invoke_52 ?_
        refine xj_bipush (v := 64) E d_X10_invoke_55 (by decide) ?_
        refine xj_icmp_ne (tgt := 73) E d_X10_invoke_57 (by decide) (fun h57 => ?_) (fun h57 => absurd (he.symm.trans (show μx 24 0 35 = nI 64 from h57)) (fun z => by have := congrArg Int32.toNatClampNeg z; rw [cl_nI (by omega), cl_nI (by omega)] at this; omega))
        refine xj_iload E d_X10_invoke_73 rfl ?_
        refine xj_if_eq (tgt := 135) E d_X10_invoke_75 (by decide) (fun h75 => absurd h75 (by decide)) (fun h75 => ?_)
        refine xj_aload_n E d_X10_invoke_78 rfl ?_
        refine xj_geta E fl_X10_89 (by decide) rfl (by decide) rfl d_X10_invoke_79 ?_
        refine xj_aload_n E d_X10_invoke_82 rfl ?_
        refine xj_geti E fl_X10_112 (by decide) rfl (by decide) rfl d_X10_invoke_83 ?_
        refine xj_aload_n E d_X10_invoke_86 rfl ?_
        refine xj_geta E fl_X10_77 (by decide) rfl (by decide) rfl d_X10_invoke_87 ?_
        refine xj_iload E d_X10_invoke_90 rfl ?_
        refine xj_iald E (by decide) (show vp_in (nI i) 24 from in_nI (by omega) (by omega)) d_X10_invoke_92 ?_
        refine xj_iast E (by decide) (show vp_in (μx 24 0 35) 64 from by rw [he]; exact in_nI (by omega) (by omega)) d_X10_invoke_93 ?_
        refine xj_aload_n E d_X10_invoke_94 rfl ?_
        refine xj_dup E d_X10_invoke_95 ?_
        refine xj_geti E fl_X10_112 (by decide) rfl (by decide) rfl d_X10_invoke_96 ?_
        refine xj_iconst (v := 1) E d_X10_invoke_99 (by decide) ?_
        refine xj_iadd E d_X10_invoke_100 ?_
        refine xj_st (st' := [.inl (nI (n + 1)), .inr (24, 0)]) (by rw [mset_f (by decide), he, nI_1]) ?_
        refine xj_put E fp_X10_112 (by decide) rfl (by decide) rfl (narrow_i _) d_X10_invoke_101 ?_
        refine xj_mem (μ' := mset (mset μx 66 0 n (μx 61 0 i)) 24 0 35 (nI (n + 1))) (by rw [he, cl_nI (by omega), cl_nI (by omega)]) ?_
        refine xj_aload_n E d_X10_invoke_104 rfl ?_
        refine xj_iload E d_X10_invoke_105 rfl ?_
        refine xj_iload_n E d_X10_invoke_107 rfl ?_
        refine xj_iload_n E d_X10_invoke_108 rfl ?_
        refine xj_callV E (k_X10_enter l G hI i j k g _ (by omega) hj4 hk hok (by exact hg)) cw_X10_192 cv_X10_enter (by decide) rfl rfl rfl ⟨by decide, by decide⟩ (Nat.le_of_ble_eq_true rfl) d_X10_invoke_109 ⟨Nat.zero_le _, Nat.zero_le _⟩ (fun r109 μ109 ho109 hp109 => ?_)
        have hx109 : ∃ x : Int32, r109 = some (.inl x) ∧ (x = 0 ∨ x = 1) := by
          rcases hp109 with z | z | z | z | z
          · exact ⟨0, z.2.1, Or.inl rfl⟩
          · exact ⟨0, z.2.2.1, Or.inl rfl⟩
          · exact ⟨0, z.2.2.1, Or.inl rfl⟩
          · exact ⟨0, z.2.2.2.1, Or.inl rfl⟩
          · exact ⟨1, z.2.2.2.2.1, Or.inr rfl⟩
        have hp109 := hK _ _ hp109
        obtain ⟨x, rfl, hx⟩ : ∃ x : Int32, r109 = some (.inl x) ∧ (x = 0 ∨ x = 1) := hx109
        refine xj_st (st' := [.inl x]) rfl ?_
        refine xj_istore E d_X10_invoke_112 (by decide) rfl ?_
        refine xj_iload E d_X10_invoke_114 rfl ?_
        refine xj_if_eq (tgt := 126) E d_X10_invoke_116 (by decide) (fun h116 => ?_) (fun h116 => ?_)
        · subst h116
          refine xj_iload E d_X10_invoke_126 rfl ?_
          refine xj_iconst (v := 1) E d_X10_invoke_128 (by decide) ?_
          refine xj_isub E d_X10_invoke_129 ?_
          refine xj_istore E d_X10_invoke_130 (by decide) rfl ?_
          refine xj_goto (tgt := 41) E d_X10_invoke_132 (by decide) ?_
          first
            | (refine xj_loc (L' := [some (.inr (24, 0)), some (.inl (nI j)), some (.inl (nI k)), some (.inl b), none, some (.inl (nI (i + 2) - 1)), some (.inl (1))]) (by rw [isub2]; rfl) ?_
               exact hp109.1 rfl)
            | (refine xj_loc (L' := [some (.inr (24, 0)), some (.inl (nI j)), some (.inl (nI k)), some (.inl b), none, some (.inl (nI i - 1)), some (.inl (0))]) rfl ?_
               exact hp109.2 rfl)
        have e1 := (hx.resolve_left h116)
        subst e1
        refine xj_iload E d_X10_invoke_119 rfl ?_
        refine xj_iconst (v := 1) E d_X10_invoke_121 (by decide) ?_
        refine xj_iadd E d_X10_invoke_122 ?_
        refine xj_goto (tgt := 130) E d_X10_invoke_123 (by decide) ?_
        refine xj_istore E d_X10_invoke_130 (by decide) rfl ?_
        refine xj_goto (tgt := 41) E d_X10_invoke_132 (by decide) ?_
        first
          | (refine xj_loc (L' := [some (.inr (24, 0)), some (.inl (nI j)), some (.inl (nI k)), some (.inl b), none, some (.inl (nI (i + 2) - 1)), some (.inl (1))]) (by rw [isub2]; rfl) ?_
             exact hp109.1 rfl)
          | (refine xj_loc (L' := [some (.inr (24, 0)), some (.inl (nI j)), some (.inl (nI k)), some (.inl b), none, some (.inl (nI i - 1)), some (.inl (0))]) rfl ?_
             exact hp109.2 rfl)
      · intro i μx hi hok hK
        refine xj_loc (L' := [some (.inr (24, 0)), some (.inl (nI j)), some (.inl (nI k)), some (.inl b), none, some (.inl (nI i)), some (.inl (0))]) (by rw [isub1s]) ?_
        refine xj_iload E d_X10_invoke_41 rfl ?_
        refine xj_if_lt (tgt := 164) E d_X10_invoke_43 (by decide) (fun h43 => absurd h43 (nI_pos (by omega))) (fun h43 => ?_)
        refine xj_iload E d_X10_invoke_46 rfl ?_
        refine xj_if_eq (tgt := 73) E d_X10_invoke_48 (by decide) (fun h48 => ?_) (fun h48 => absurd rfl h48)
        refine xj_iload E d_X10_invoke_73 rfl ?_
        refine xj_if_eq (tgt := 135) E d_X10_invoke_75 (by decide) (fun h75 => ?_) (fun h75 => absurd rfl h75)
        refine xj_aload_n E d_X10_invoke_135 rfl ?_
        refine xj_iload E d_X10_invoke_136 rfl ?_
        refine xj_callV E (k_X10_resume l G hI i _ (by omega) hok) cw_X10_196 cv_X10_resume (by decide) rfl rfl rfl ⟨by decide, by decide⟩ (Nat.le_of_ble_eq_true rfl) d_X10_invoke_138 ⟨Nat.zero_le _, Nat.zero_le _⟩ (fun r138 μ138 ho138 hp138 => ?_)
        have hx138 : ∃ x : Int32, r138 = some (.inl x) ∧ (x = 0 ∨ x = 1) := by
          rcases hp138 with z | z | z | z
          · exact ⟨0, z.2.2.1, Or.inl rfl⟩
          · exact ⟨0, z.2.2.1, Or.inl rfl⟩
          · exact ⟨1, z.2.2.2.1, Or.inr rfl⟩
          · exact ⟨0, z.2.2.1, Or.inl rfl⟩
        have hp138 := hK _ _ hp138
        obtain ⟨x, rfl, hx⟩ : ∃ x : Int32, r138 = some (.inl x) ∧ (x = 0 ∨ x = 1) := hx138
        refine xj_st (st' := [.inl x]) rfl ?_
        refine xj_istore E d_X10_invoke_141 (by decide) rfl ?_
        refine xj_iload E d_X10_invoke_143 rfl ?_
        refine xj_if_eq (tgt := 155) E d_X10_invoke_145 (by decide) (fun h145 => ?_) (fun h145 => ?_)
        · subst h145
          refine xj_iload E d_X10_invoke_155 rfl ?_
          refine xj_iconst (v := 1) E d_X10_invoke_157 (by decide) ?_
          refine xj_isub E d_X10_invoke_158 ?_
          refine xj_istore E d_X10_invoke_159 (by decide) rfl ?_
          refine xj_goto (tgt := 41) E d_X10_invoke_161 (by decide) ?_
          first
            | (refine xj_loc (L' := [some (.inr (24, 0)), some (.inl (nI j)), some (.inl (nI k)), some (.inl b), none, some (.inl (nI (i + 2) - 1)), some (.inl (1))]) (by rw [isub2]; rfl) ?_
               exact hp138.1 rfl)
            | (refine xj_loc (L' := [some (.inr (24, 0)), some (.inl (nI j)), some (.inl (nI k)), some (.inl b), none, some (.inl (nI i - 1)), some (.inl (0))]) rfl ?_
               exact hp138.2 rfl)
        have e1 := (hx.resolve_left h145)
        subst e1
        refine xj_iload E d_X10_invoke_148 rfl ?_
        refine xj_iconst (v := 1) E d_X10_invoke_150 (by decide) ?_
        refine xj_iadd E d_X10_invoke_151 ?_
        refine xj_goto (tgt := 159) E d_X10_invoke_152 (by decide) ?_
        refine xj_istore E d_X10_invoke_159 (by decide) rfl ?_
        refine xj_goto (tgt := 41) E d_X10_invoke_161 (by decide) ?_
        first
          | (refine xj_loc (L' := [some (.inr (24, 0)), some (.inl (nI j)), some (.inl (nI k)), some (.inl b), none, some (.inl (nI (i + 2) - 1)), some (.inl (1))]) (by rw [isub2]; rfl) ?_
             exact hp138.1 rfl)
          | (refine xj_loc (L' := [some (.inr (24, 0)), some (.inl (nI j)), some (.inl (nI k)), some (.inl b), none, some (.inl (nI i - 1)), some (.inl (0))]) rfl ?_
             exact hp138.2 rfl)
    obtain ⟨hTF, hTE, hTR⟩ := hT
    have els := mChn_els hw hj hc
    obtain ⟨q, eq⟩ : ∃ q, q = rn (μ1 61 0) (fun i => mBh μ (μ1 61 0 i)) (nI k) (mFz μ j k) (mChn μ j k).length 0 (if k < 4 then b else 0) (0, L0, (if k < 4 then b else 0), 0) := ⟨_, rfl⟩
    have fin : ∀ (μ2 : Mem) (d : Int32), frW μ μ2 → sIs μ2 q.2 → aIs μ2 q.1 q.2 → XJ G (xA G) 7 p l e (xr 5) s m args below meth c 0 0 (MQ below (xQ G (fun r μ' => (μ 24 0 0 = 0 ∧ r = some (.inl (-6)) ∧ μ' = μ) ∨ (¬ μ 24 0 0 = 0 ∧ ¬ (inR a (mnp μ) ∧ inR y 7) ∧ r = some (.inl (-3)) ∧ μ' = μ) ∨ (¬ μ 24 0 0 = 0 ∧ ∃ j k, j < mnp μ ∧ k < 7 ∧ a = nI j ∧ y = nI k ∧ frW μ μ' ∧ mInv L0 μ j k (if k < 4 then b else 0) r μ'))) args s 0 0 (xA G)) 41 [some (.inr (24, 0)), some (.inl (nI j)), some (.inl (nI k)), some (.inl b), none, some (.inl (nI 0 - 1)), some (.inl (d))] [] μ2 := by
      intro μ2 d fr2 s2 a2
      refine xj_less (L' := [some (.inr (24, 0)), some (.inl (nI j)), some (.inl (nI k)), some (.inl b), none, some (.inl (nI 0 - 1)), none]) rfl (fun kk v hv => by
    rcases kk with _ | _ | _ | _ | _ | _ | _ | kk
    all_goals first | exact hv | (simp at hv)) ?_
      by_cases q0 : q.2.2.2.2 = 0
      · have a0 := a2
        unfold aIs at a0
        rw [if_pos q0] at a0
        refine xj_iload E d_X10_invoke_41 rfl ?_
        refine xj_if_lt (tgt := 164) E d_X10_invoke_43 (by decide) (fun h43 => ?_) (fun h43 => absurd (show nI 0 - 1 < 0 by decide) h43)
        refine xj_aload_n E d_X10_invoke_164 rfl ?_
        refine xj_aload_n E d_X10_invoke_165 rfl ?_
        refine xj_geti E fl_X10_175 (by decide) rfl (by decide) rfl d_X10_invoke_166 ?_
        refine xj_if_eq (tgt := 176) E d_X10_invoke_169 (by decide) (fun h169 => ?_) (fun h169 => absurd a0.1 h169)
        refine xj_aload_n E d_X10_invoke_176 rfl ?_
        refine xj_geti E fl_X10_178 (by decide) rfl (by decide) rfl d_X10_invoke_177 ?_
        refine xj_put E fp_X10_115 (by decide) rfl (by decide) rfl (narrow_i _) d_X10_invoke_180 ?_
        refine xj_aload_n E d_X10_invoke_183 rfl ?_
        refine xj_aload_n E d_X10_invoke_184 rfl ?_
        refine xj_geti E fl_X10_175 (by decide) rfl (by decide) rfl d_X10_invoke_185 ?_
        refine xj_if_eq (tgt := 198) E d_X10_invoke_188 (by decide) (fun h188 => ?_) (fun h188 => absurd (show mset μ2 24 0 37 _ 24 0 40 = 0 by rw [mset_j (by decide)]; exact a0.1) h188)
        refine xj_iconst (v := 0) E d_X10_invoke_198 (by decide) ?_
        refine xj_put E fp_X10_118 (by decide) rfl (by decide) rfl (narrow_i _) d_X10_invoke_199 ?_
        refine xj_aload_n E d_X10_invoke_202 rfl ?_
        refine xj_geti E fl_X10_112 (by decide) rfl (by decide) rfl d_X10_invoke_203 ?_
        exact xj_iret E hr hlk d_X10_invoke_206 (Or.inr (Or.inr ⟨hd, j, k, hj, hk, ea, ey, (fr2.tr (frG_o (by decide))).tr (frG_o (by decide)), mInv_of eq hc (by rw [mset_j (by decide), mset_j (by decide)]; exact s2.1) s2.2.1 (fun i hi => by rw [mset_f (by decide), mset_f (by decide)]; exact s2.2.2.1 i hi) (by rw [mset_j (by decide), mset_at]; rw [if_pos q0]; exact a0.2) (by rw [mset_at]; exact q0.symm) rfl⟩))
      · have a0 := a2
        unfold aIs at a0
        rw [if_neg q0] at a0
        refine xj_iload E d_X10_invoke_41 rfl ?_
        refine xj_if_lt (tgt := 164) E d_X10_invoke_43 (by decide) (fun h43 => ?_) (fun h43 => absurd (show nI 0 - 1 < 0 by decide) h43)
        refine xj_aload_n E d_X10_invoke_164 rfl ?_
        refine xj_aload_n E d_X10_invoke_165 rfl ?_
        refine xj_geti E fl_X10_175 (by decide) rfl (by decide) rfl d_X10_invoke_166 ?_
        refine xj_if_eq (tgt := 176) E d_X10_invoke_169 (by decide) (fun h169 => absurd (a0.1.symm.trans h169) (by decide)) (fun h169 => ?_)
        refine xj_iconst (v := 0) E d_X10_invoke_172 (by decide) ?_
        refine xj_goto (tgt := 180) E d_X10_invoke_173 (by decide) ?_
        refine xj_put E fp_X10_115 (by decide) rfl (by decide) rfl (narrow_i _) d_X10_invoke_180 ?_
        refine xj_aload_n E d_X10_invoke_183 rfl ?_
        refine xj_aload_n E d_X10_invoke_184 rfl ?_
        refine xj_geti E fl_X10_175 (by decide) rfl (by decide) rfl d_X10_invoke_185 ?_
        refine xj_if_eq (tgt := 198) E d_X10_invoke_188 (by decide) (fun h188 => absurd (a0.1.symm.trans ((mset_j (x := 0) (by decide)).symm.trans h188)) (by decide)) (fun h188 => ?_)
        refine xj_aload_n E d_X10_invoke_191 rfl ?_
        refine xj_geti E fl_X10_178 (by decide) rfl (by decide) rfl d_X10_invoke_192 ?_
        refine xj_goto (tgt := 199) E d_X10_invoke_195 (by decide) ?_
        refine xj_put E fp_X10_118 (by decide) rfl (by decide) rfl (narrow_i _) d_X10_invoke_199 ?_
        refine xj_aload_n E d_X10_invoke_202 rfl ?_
        refine xj_geti E fl_X10_112 (by decide) rfl (by decide) rfl d_X10_invoke_203 ?_
        exact xj_iret E hr hlk d_X10_invoke_206 (Or.inr (Or.inr ⟨hd, j, k, hj, hk, ea, ey, (fr2.tr (frG_o (by decide))).tr (frG_o (by decide)), mInv_of eq hc (by rw [mset_j (by decide), mset_j (by decide)]; exact s2.1) s2.2.1 (fun i hi => by rw [mset_f (by decide), mset_f (by decide)]; exact s2.2.2.1 i hi) (by rw [mset_j (by decide), mset_at]; rw [if_neg q0]) (by rw [mset_at]; rw [mset_j (by decide)]; exact a0.2) rfl⟩))
    have D := fun f0 f1 => down (fun (i : Nat) (d : Int32) (μx : Mem) => XJ G (xA G) 7 p l e (xr 5) s m args below meth c 0 0 (MQ below (xQ G (fun r μ' => (μ 24 0 0 = 0 ∧ r = some (.inl (-6)) ∧ μ' = μ) ∨ (¬ μ 24 0 0 = 0 ∧ ¬ (inR a (mnp μ) ∧ inR y 7) ∧ r = some (.inl (-3)) ∧ μ' = μ) ∨ (¬ μ 24 0 0 = 0 ∧ ∃ j k, j < mnp μ ∧ k < 7 ∧ a = nI j ∧ y = nI k ∧ frW μ μ' ∧ mInv L0 μ j k (if k < 4 then b else 0) r μ'))) args s 0 0 (xA G)) 41 [some (.inr (24, 0)), some (.inl (nI j)), some (.inl (nI k)), some (.inl b), none, some (.inl (nI i - 1)), some (.inl (d))] [] μx) (mset (mset μ1 24 0 35 0) 24 0 39 (if k < 4 then b else 0)) (mChn μ j k).length j k hlen.2 hk hTF hTE hTR f0 f1 (mChn μ j k).length 0 (by omega) (by omega)
    have fr0 : frV μ1 (mset (mset μ1 24 0 35 0) 24 0 39 (if k < 4 then b else 0)) := (frG_o (by decide)).tr (frG_o (by decide))
    have eBh : (fun i => mBh (mset (mset μ1 24 0 35 0) 24 0 39 (if k < 4 then b else 0)) (mset (mset μ1 24 0 35 0) 24 0 39 (if k < 4 then b else 0) 61 0 i)) = fun i => mBh μ (μ1 61 0 i) := by
      funext i
      rw [fr0.ch, fr0.bh]
      unfold mBh
      rw [hfr.1 45 (by decide) (by decide), hfr.1 40 (by decide) (by decide)]
    have eFz : mFz (mset (mset μ1 24 0 35 0) 24 0 39 (if k < 4 then b else 0)) j k = mFz μ j k := by
      rw [fr0.fz]
      unfold mFz
      rw [hfr.1 48 (by decide) (by decide)]
    rw [eBh, eFz, fr0.ch] at D
    have D := D els.1 els.2 (if k < 4 then b else 0) (0, L0, (if k < 4 then b else 0), 0) _ (frG.rf _ _ _) ⟨by rw [mset_j (by decide), mset_at]; rfl, by show 0 ≤ 64; omega, fun i hi => absurd hi (Nat.not_lt_zero _), mset_at _ _ _ _ _⟩ rfl (by unfold gIs; rw [if_neg (fun z => Nat.lt_irrefl _ z.1)]; exact mset_at _ _ _ _ _) (fun μ2 v2 _ s2 a2 => by
      rw [← eq] at s2 a2 ⊢
      have w2 := (hfr.w.tr fr0.w).tr v2.w
      split
      · exact fin μ2 1 w2 s2 a2
      · exact fin μ2 0 w2 s2 a2)
    refine xj_aload_n E d_X10_invoke_16 rfl ?_
    refine xj_iconst (v := 0) E d_X10_invoke_17 (by decide) ?_
    refine xj_put E fp_X10_112 (by decide) rfl (by decide) rfl (narrow_i _) d_X10_invoke_18 ?_
    refine xj_aload_n E d_X10_invoke_21 rfl ?_
    refine xj_iload_n E d_X10_invoke_22 rfl ?_
    refine xj_iconst (v := 4) E d_X10_invoke_23 (by decide) ?_
    refine xj_icmp_ge (tgt := 31) E d_X10_invoke_24 (by decide) (fun h24 => ?_) (fun h24 => ?_)
    · have hk4 : ¬ k < 4 := fun z => nI_ge (b := 4) z (by omega) h24
      refine xj_iconst (v := 0) E d_X10_invoke_31 (by decide) ?_
      refine xj_put E fp_X10_181 (by decide) rfl (by decide) rfl (narrow_i _) d_X10_invoke_32 ?_
      refine xj_iconst (v := 0) E d_X10_invoke_35 (by decide) ?_
      refine xj_istore E d_X10_invoke_36 (by decide) rfl ?_
      refine xj_iconst (v := 1) E d_X10_invoke_38 (by decide) ?_
      refine xj_istore E d_X10_invoke_39 (by decide) rfl ?_
      refine xj_mem (μ' := mset (mset μ1 24 0 35 0) 24 0 39 (if k < 4 then b else 0)) (by first | rw [if_pos hk4] | rw [if_neg hk4]) ?_
      exact D
    have hk4 : k < 4 := ng_nI (a := 4) h24 (by omega) (by omega)
    refine xj_iload_n E d_X10_invoke_27 rfl ?_
    refine xj_goto (tgt := 32) E d_X10_invoke_28 (by decide) ?_
    refine xj_put E fp_X10_181 (by decide) rfl (by decide) rfl (narrow_i _) d_X10_invoke_32 ?_
    refine xj_iconst (v := 0) E d_X10_invoke_35 (by decide) ?_
    refine xj_istore E d_X10_invoke_36 (by decide) rfl ?_
    refine xj_iconst (v := 1) E d_X10_invoke_38 (by decide) ?_
    refine xj_istore E d_X10_invoke_39 (by decide) rfl ?_
    refine xj_mem (μ' := mset (mset μ1 24 0 35 0) 24 0 39 (if k < 4 then b else 0)) (by first | rw [if_pos hk4] | rw [if_neg hk4]) ?_
    exact D
  refine xj_aload_n E d_X10_invoke_0 rfl ?_
  refine xj_iload_n E d_X10_invoke_1 rfl ?_
  refine xj_iload_n E d_X10_invoke_2 rfl ?_
  refine xj_callV E (k_X10_check l G hI a y _ hw) cw_X10_172 cv_X10_check (by decide) rfl rfl rfl ⟨by decide, by decide⟩ (Nat.le_of_ble_eq_true rfl) d_X10_invoke_3 ⟨Nat.zero_le _, Nat.zero_le _⟩ (fun r3 μ3 ho3 hp3 => ?_)
  obtain ⟨x, rfl⟩ : ∃ x, r3 = some (.inl x) := by
    rcases hp3 with h | h | ⟨-, j, k, -, -, -, -, h, -⟩
    · exact ⟨_, h.2.1⟩
    · exact ⟨_, h.2.2.1⟩
    · exact ⟨_, h⟩
  refine xj_st (st' := [.inl x]) rfl ?_
  refine xj_istore E d_X10_invoke_6 (by decide) rfl ?_
  refine xj_iload E d_X10_invoke_8 rfl ?_
  refine xj_if_ge (tgt := 16) E d_X10_invoke_10 (by decide) (fun h10 => ?_) (fun h10 => ?_)
  · have hge : 0 ≤ x := h10
    obtain ⟨hd, j, k, hj, hk, ea, ey, hc, hfr⟩ : ¬ μ 24 0 0 = 0 ∧ ∃ j k, j < mnp μ ∧ k < 7 ∧ a = nI j ∧ y = nI k ∧ nIs μ3 (mChn μ j k) ∧ frL μ μ3 := by
      rcases hp3 with ⟨h1, h2, h3⟩ | ⟨h1, h2, h3, h5⟩ | ⟨h1, j, k, a1, a2, a3, a4, -, a5, a6⟩
      · rw [Sum.inl.inj (Option.some.inj h2)] at hge; exact absurd hge (by decide)
      · rw [Sum.inl.inj (Option.some.inj h3)] at hge; exact absurd hge (by decide)
      · exact ⟨h1, j, k, a1, a2, a3, a4, a5, a6⟩
    refine xj_less (L' := [some (.inr (24, 0)), some (.inl a), some (.inl y), some (.inl b), none, none, none]) rfl (fun kk v hv => by
        rcases kk with _ | _ | _ | _ | _ | _ | _ | kk
        all_goals first | exact hv | (simp at hv)) ?_
    refine xj_loc (L' := [some (.inr (24, 0)), some (.inl (nI j)), some (.inl (nI k)), some (.inl b), none, none, none]) (by rw [ea, ey]) ?_
    exact main j k μ3 hj hk ea ey hd hc hfr
  have hlt : ¬ 0 ≤ x := h10
  have hp3 : (μ 24 0 0 = 0 ∧ x = -6 ∧ μ3 = μ) ∨ (¬ μ 24 0 0 = 0 ∧ ¬ (inR a (mnp μ) ∧ inR y 7) ∧ x = -3 ∧ μ3 = μ) := by
    rcases hp3 with ⟨h1, h2, h3⟩ | ⟨h1, h2, h3, h5⟩ | ⟨-, j, k, -, -, -, -, h, -⟩
    · exact Or.inl ⟨h1, Sum.inl.inj (Option.some.inj h2), h3⟩
    · exact Or.inr ⟨h1, h2, Sum.inl.inj (Option.some.inj h3), h5⟩
    · exact absurd (show (0 : Int32) ≤ x by rw [Sum.inl.inj (Option.some.inj h)]; decide) hlt
  refine xj_iload E d_X10_invoke_13 rfl ?_
  exact xj_iret E hr hlk d_X10_invoke_15 (by rcases hp3 with ⟨h1, h2, h3⟩ | ⟨h1, h2, h3, h5⟩; exact Or.inl ⟨h1, by rw [h2], h3⟩; exact Or.inr (Or.inl ⟨h1, h2, by rw [h3], h5⟩))
