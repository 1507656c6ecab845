/-! The reference's way through a chain, told as rn -/
abbrev frV : Mem → Mem → Prop := frG [62, 63, 64, 66] [35, 39, 40, 41]
def sIs (μ : Mem) (S : RS) : Prop := μ 24 0 35 = nI S.1 ∧ S.1 ≤ 64 ∧ (∀ i, i < S.1 → μ 66 0 i = S.2.1 i) ∧ μ 24 0 39 = S.2.2.1
def aIs (μ : Mem) (v : Int32) (S : RS) : Prop := if S.2.2.2 = 0 then μ 24 0 40 = 0 ∧ μ 24 0 41 = v else μ 24 0 40 = 1 ∧ μ 24 0 41 = S.2.2.2
def lowEq (k : Nat) (μ μ' : Mem) : Prop := ∀ f i, i < k → f = 62 ∨ f = 63 ∨ f = 64 → μ' f 0 i = μ f 0 i
theorem lowEq.tr {k : Nat} {μ μ1 μ2 : Mem} (h1 : lowEq k μ μ1) (h2 : lowEq k μ1 μ2) : lowEq k μ μ2 := fun f i hi hf => (h2 f i hi hf).trans (h1 f i hi hf)
theorem lowEq.le {k k' : Nat} {μ μ1 : Mem} (h1 : lowEq k μ μ1) (hk : k' ≤ k) : lowEq k' μ μ1 := fun f i hi hf => h1 f i (by omega) hf
theorem lowEq_o {k : Nat} {μ : Mem} {f j : Nat} {x : Int32} (h : f = 24 ∨ f = 66) : lowEq k μ (mset μ f 0 j x) := fun g i _ hf => by rw [mset_f (by omega)]
theorem lowEq_a {k : Nat} {μ : Mem} {f j : Nat} {x : Int32} (h : k ≤ j) : lowEq k μ (mset μ f 0 j x) := fun g i hi hf => by
  by_cases e : g = f
  · subst e
    exact mset_j (by omega)
  · rw [mset_f e]
def gIs (μ : Mem) (k : Nat) (g : Int32) : Prop := (if 0 < k ∧ 16 ≤ μ 61 0 (k - 1) then μ 62 0 (k - 1) else μ 24 0 39) = g
def PE (j q k : Nat) (g : Int32) (μ : Mem) (r : Option XV) (μ' : Mem) : Prop :=
  ((μ 61 0 k) = 32 ∧ r = some (.inl 0) ∧ μ' = mAns (mset μ 62 0 k g) (mFz μ j q) (if mFz μ j q = 0 then (if nI q < 4 then 3 * g + nI q else 7) else 33 + nI q)) ∨ (¬ (μ 61 0 k) = 32 ∧ (mBh μ (μ 61 0 k)) = 2 ∧ r = some (.inl 0) ∧ μ' = mAns (mset μ 62 0 k g) 0 (if (μ 61 0 k) < 16 then μ 24 0 39 else g)) ∨ (¬ (μ 61 0 k) = 32 ∧ (mBh μ (μ 61 0 k)) = 4 ∧ r = some (.inl 0) ∧ μ' = mAns (mset μ 62 0 k g) 1 (1 + (μ 61 0 k))) ∨ (¬ (μ 61 0 k) = 32 ∧ (mBh μ (μ 61 0 k)) = 3 ∧ ¬ nI q < 4 ∧ r = some (.inl 0) ∧ μ' = mAns (mset μ 62 0 k g) 1 50) ∨ (¬ (μ 61 0 k) = 32 ∧ ¬ (mBh μ (μ 61 0 k)) = 2 ∧ ¬ (mBh μ (μ 61 0 k)) = 4 ∧ ¬ ((mBh μ (μ 61 0 k)) = 3 ∧ ¬ nI q < 4) ∧ r = some (.inl 1) ∧ μ' = mset (mset (mset (mset μ 62 0 k g) 63 0 k 1) 24 0 39 (if (mBh μ (μ 61 0 k)) = 3 ∧ (μ 61 0 k) < 16 then μ 24 0 39 + 1 else μ 24 0 39)) 62 0 k (if (mBh μ (μ 61 0 k)) = 3 then g + 1 else g))
def PR (k : Nat) (μ : Mem) (r : Option XV) (μ' : Mem) : Prop :=
  (¬ μ 24 0 40 = 0 ∧ (mBh μ (μ 61 0 k)) = 5 ∧ r = some (.inl 0) ∧ μ' = mAns μ 0 (-(μ 24 0 41))) ∨ (¬ μ 24 0 40 = 0 ∧ ¬ (mBh μ (μ 61 0 k)) = 5 ∧ r = some (.inl 0) ∧ μ' = μ) ∨ (μ 24 0 40 = 0 ∧ (mBh μ (μ 61 0 k)) = 1 ∧ μ 63 0 k = 1 ∧ r = some (.inl 1) ∧ μ' = mset (mset μ 63 0 k 2) 64 0 k (μ 24 0 41)) ∨ (μ 24 0 40 = 0 ∧ ¬ ((mBh μ (μ 61 0 k)) = 1 ∧ μ 63 0 k = 1) ∧ r = some (.inl 0) ∧ μ' = mset μ 24 0 41 (if (mBh μ (μ 61 0 k)) = 1 then μ 64 0 k + μ 24 0 41 else if (mBh μ (μ 61 0 k)) = 3 then 2 * μ 24 0 41 else μ 24 0 41))
def TF (T : Nat → Int32 → Mem → Prop) : Prop := ∀ k μ, k < 24 → μ 24 0 35 = nI 64 → T 0 1 (mAns μ 1 99) → T (k + 1) 1 μ
def TE (j q : Nat) (T : Nat → Int32 → Mem → Prop) : Prop := ∀ k n g μ, k < 24 → n < 64 → μ 24 0 35 = nI n → (¬ μ 61 0 k = 32 → okE (μ 61 0 k)) → gIs μ k g → (∀ r μ', PE j q k g (mset (mset μ 66 0 n (μ 61 0 k)) 24 0 35 (nI (n + 1))) r μ' → (r = some (.inl 1) → T (k + 2) 1 μ') ∧ (r = some (.inl 0) → T k 0 μ')) → T (k + 1) 1 μ
def TR (T : Nat → Int32 → Mem → Prop) : Prop := ∀ k μ, k < 24 → okE (μ 61 0 k) → (∀ r μ', PR k μ r μ' → (r = some (.inl 1) → T (k + 2) 1 μ') ∧ (r = some (.inl 0) → T k 0 μ')) → T (k + 1) 0 μ
def Down (T : Nat → Int32 → Mem → Prop) (f : Int32 → RS → Int32 × RS) (μ0 : Mem) (k : Nat) : Prop := ∀ g S μ, frV μ0 μ → sIs μ S → S.2.2.2 = 0 → gIs μ k g → (∀ μ', frV μ0 μ' → lowEq k μ μ' → sIs μ' (f g S).2 → aIs μ' (f g S).1 (f g S).2 → if (f g S).2.2.2.2 = 99 then T 0 1 μ' else T k 0 μ') → T (k + 1) 1 μ
theorem frV.bh {μ μ' : Mem} (h : frV μ μ') (x : Int32) : mBh μ' x = mBh μ x := by unfold mBh; rw [h.1 45 (by decide) (by decide), h.1 40 (by decide) (by decide)]
theorem frV.ch {μ μ' : Mem} (h : frV μ μ') : μ' 61 = μ 61 := h.1 61 (by decide) (by decide)
theorem frV.fz {μ μ' : Mem} (h : frV μ μ') (j q : Nat) : mFz μ' j q = mFz μ j q := by unfold mFz; rw [h.1 48 (by decide) (by decide)]
theorem frV_ans {μ μ' : Mem} {z v : Int32} (h : frV μ μ') : frV μ (mAns μ' z v) := (h.tr (frG_o (by decide))).tr (frG_o (by decide))
theorem lowEq_ans {k : Nat} {μ : Mem} {z v : Int32} : lowEq k μ (mAns μ z v) := (lowEq_o (Or.inl rfl)).tr (lowEq_o (Or.inl rfl))
theorem sIs.ans {μ : Mem} {S : RS} {z v : Int32} (h : sIs μ S) : sIs (mAns μ z v) S := by
  refine ⟨?_, h.2.1, fun i hi => ?_, ?_⟩
  · rw [← h.1]; simp [mAns, mset, upd]
  · rw [← h.2.2.1 i hi]; simp [mAns, mset]
  · rw [← h.2.2.2]; simp [mAns, mset, upd]
theorem sIs.arr {μ : Mem} {S : RS} {f j : Nat} {v : Int32} (h : sIs μ S) (hf : f = 62 ∨ f = 63 ∨ f = 64) : sIs (mset μ f 0 j v) S := by
  refine ⟨?_, h.2.1, fun i hi => ?_, ?_⟩
  · rw [mset_f (by omega)]; exact h.1
  · rw [mset_f (by omega)]; exact h.2.2.1 i hi
  · rw [mset_f (by omega)]; exact h.2.2.2
theorem sIs.sh {μ : Mem} {S : RS} {v : Int32} (h : sIs μ S) : sIs (mset μ 24 0 39 v) (rSh S v) := by
  refine ⟨?_, h.2.1, fun i hi => ?_, ?_⟩
  · rw [mset_j (by decide)]; exact h.1
  · rw [mset_f (by decide)]; exact h.2.2.1 i hi
  · exact mset_at _ _ _ _ _
theorem sIs.val {μ : Mem} {S : RS} {v : Int32} (h : sIs μ S) : sIs (mset μ 24 0 41 v) S := by
  refine ⟨?_, h.2.1, fun i hi => ?_, ?_⟩
  · rw [mset_j (by decide)]; exact h.1
  · rw [mset_f (by decide)]; exact h.2.2.1 i hi
  · rw [mset_j (by decide)]; exact h.2.2.2
theorem sIs.th {μ : Mem} {S : RS} (x : Int32) (h : sIs μ S) : sIs μ (rTh S x) := h
theorem sIs.log {μ : Mem} {S : RS} {x : Int32} (h : sIs μ S) (hS : S.1 < 64) : sIs (mset (mset μ 66 0 S.1 x) 24 0 35 (nI (S.1 + 1))) (rLog S x) := by
  refine ⟨mset_at _ _ _ _ _, hS, fun i hi => ?_, ?_⟩
  · rw [mset_f (by decide), mset_same]
    show upd (μ 66 0) S.1 x i = upd S.2.1 S.1 x i
    have hi : i < S.1 + 1 := hi
    by_cases e : i = S.1
    · simp [upd, e]
    · simp only [upd, if_neg e]
      exact h.2.2.1 i (by omega)
  · rw [mset_j (by decide), mset_f (by decide)]; exact h.2.2.2
theorem aIs_0 {μ : Mem} {S : RS} {v : Int32} (h : S.2.2.2 = 0) : aIs (mAns μ 0 v) v S := by unfold aIs; rw [if_pos h]; exact ⟨by simp [mAns, mset, upd], by simp [mAns, mset, upd]⟩
theorem aIs_1 {μ : Mem} {S : RS} {v : Int32} {x : Int32} (h : ¬ x = 0) : aIs (mAns μ 1 x) v (rTh S x) := by unfold aIs; rw [if_neg (show ¬ (rTh S x).2.2.2 = 0 from h)]; exact ⟨by simp [mAns, mset, upd], by simp [mAns, mset, upd]; rfl⟩
theorem vin_ex {x : Int32} {n : Nat} (h : vp_in x n) : ∃ t, t < n ∧ x = nI t := by
  obtain ⟨t, ht, rfl⟩ := nI_of (x := x) (fun z => h (Or.inl z))
  refine ⟨t, Nat.not_le.mp fun z => h (Or.inr ?_), rfl⟩
  rw [nI_clamp (by omega)]
  exact z
theorem ifp {P : Prop} [Decidable P] {a b : Prop} (h : if P then a else b) (hp : P) : a := by rw [if_pos hp] at h; exact h
theorem ifn {P : Prop} [Decidable P] {a b : Prop} (h : if P then a else b) (hp : ¬ P) : b := by rw [if_neg hp] at h; exact h
theorem aIs.v {μ : Mem} {S : RS} {v v' : Int32} (h : aIs μ v S) (hn : ¬ S.2.2.2 = 0) : aIs μ v' S := by
  unfold aIs at h ⊢
  rw [if_neg hn] at h ⊢
  exact h
def rGo (h : Int32 × RS → Int32 × RS) (b : Int32) (x : Int32 × RS) : Int32 × RS :=
  if b = 1 then (if x.2.2.2.2 = 0 then (x.1 + (h x).1, (h x).2) else (0, x.2)) else if b = 3 then (2 * x.1, x.2) else if b = 5 then (if x.2.2.2.2 = 0 then x else if x.2.2.2.2 = 99 then x else (-x.2.2.2.2, rTh x.2 0)) else x
theorem rBv_go {f : Int32 → RS → Int32 × RS} {c b m g : Int32} {S : RS} (n2 : ¬ b = 2) (n4 : ¬ b = 4) (n3 : ¬ (b = 3 ∧ ¬ m < 4)) : rBv f c b m g S = rGo (fun x => rPr f c (if b = 3 then g + 1 else g) x.2) b (rPr f c (if b = 3 then g + 1 else g) (if b = 3 ∧ c < 16 then rSh S (S.2.2.1 + 1) else S)) := by
  unfold rBv rGo
  by_cases h1 : b = 1
  · subst h1
    rw [if_pos rfl, if_pos rfl, if_neg (show ¬ (1 : Int32) = 3 by decide), if_neg (show ¬ ((1 : Int32) = 3 ∧ c < 16) from fun z => absurd z.1 (by decide))]
    rfl
  · rw [if_neg h1, if_neg h1, if_neg n2]
    by_cases h3 : b = 3
    · subst h3
      rw [if_pos rfl, if_pos rfl, if_pos rfl]
      have m4 : m < 4 := Classical.byContradiction fun z => n3 ⟨rfl, z⟩
      by_cases hc : c < 16
      · rw [if_pos hc, if_pos ⟨rfl, hc⟩]
        unfold rGs rPr
        rw [if_pos m4, if_pos hc, if_pos hc]
      · rw [if_neg hc, if_neg (fun z => hc z.2)]
    · rw [if_neg h3, if_neg h3, if_neg h3, if_neg n4, if_neg (show ¬ (b = 3 ∧ c < 16) from fun z => h3 z.1)]
      by_cases h5 : b = 5
      · subst h5
        rfl
      · rw [if_neg h5, if_neg h5]
theorem rGo_99 {h : Int32 × RS → Int32 × RS} {b : Int32} {x : Int32 × RS} (e : x.2.2.2.2 = 99) : (rGo h b x).2 = x.2 := by
  unfold rGo
  rw [e, if_neg (show ¬ (99 : Int32) = 0 by decide), if_neg (show ¬ (99 : Int32) = 0 by decide), if_pos rfl]
  split
  · rfl
  · split
    · rfl
    · split <;> rfl
theorem one_c {c : Int32} (h : okE c) : ¬ 1 + c = 0 ∧ ¬ 1 + c = 99 := by
  by_cases h16 : 16 ≤ c
  · obtain ⟨t, ht, he⟩ : ∃ t, t < 4 ∧ c - 16 = nI t := by
      have := h.1 h16
      exact vin_ex this
    have hc : c = nI t + 16 := by rw [← he]; exact (Int32.sub_add_cancel c 16).symm
    subst hc
    have : t = 0 ∨ t = 1 ∨ t = 2 ∨ t = 3 := by omega
    rcases this with rfl | rfl | rfl | rfl <;> decide
  · obtain ⟨t, ht, he⟩ : ∃ t, t < 8 ∧ c = nI t := by
      have := h.2 h16
      exact vin_ex this
    subst he
    have : t = 0 ∨ t = 1 ∨ t = 2 ∨ t = 3 ∨ t = 4 ∨ t = 5 ∨ t = 6 ∨ t = 7 := by omega
    rcases this with rfl | rfl | rfl | rfl | rfl | rfl | rfl | rfl <;> decide
theorem th_q {q : Nat} (h : nI q < 4) (hq : q < 7) : ¬ 33 + nI q = 0 ∧ ¬ 33 + nI q = 99 := by
  have : q = 0 ∨ q = 1 ∨ q = 2 ∨ q = 3 ∨ q = 4 ∨ q = 5 ∨ q = 6 := by omega
  rcases this with rfl | rfl | rfl | rfl | rfl | rfl | rfl <;> revert h <;> decide
set_option maxHeartbeats 4000000 in
theorem down (T : Nat → Int32 → Mem → Prop) (μ0 : Mem) (n j q : Nat) (hn : n ≤ 21) (hq : q < 7) (hF : TF T) (hE : TE j q T) (hR : TR T) (hend : μ0 61 0 (n - 1) = 32) (hok : ∀ k, k + 1 < n → okE (μ0 61 0 k) ∧ ¬ μ0 61 0 k = 32 ∧ (¬ nI q < 4 → μ0 61 0 k < 16)) : ∀ r k, k + r = n → 0 < r → Down T (rn (μ0 61 0) (fun i => mBh μ0 (μ0 61 0 i)) (nI q) (mFz μ0 j q) r k) μ0 k
  | 0, _ => fun _ h => absurd h (by omega)
  | r + 1, k => fun hkr _ => by
    intro g S μ hV hS hth hg hK
    by_cases h64 : S.1 < 64
    case neg =>
      have e64 : S.1 = 64 := by have := hS.2.1; omega
      have er : rn (μ0 61 0) (fun i => mBh μ0 (μ0 61 0 i)) (nI q) (mFz μ0 j q) (r + 1) k g S = (0, rTh S 99) := by
        show (if S.1 < 64 then _ else _) = _
        rw [if_neg h64]
      rw [er] at hK
      refine hF k μ (by omega) (by rw [hS.1, e64]) ?_
      exact ifp (hK (mAns μ 1 99) (frV_ans hV) lowEq_ans hS.ans (aIs_1 (by decide))) rfl
    case pos =>
    have ech : μ 61 0 k = μ0 61 0 k := by rw [hV.ch]
    refine hE k S.1 g μ (by omega) h64 hS.1 (fun h => ?_) hg (fun rr μ1 hp => ?_)
    · rw [ech]
      refine (hok k ?_).1
      apply Classical.byContradiction
      intro h2
      have : k = n - 1 := by omega
      subst this
      exact h (by rw [ech]; exact hend)
    have hSl := hS.log (x := μ 61 0 k) h64
    have hVl : frV μ0 (mset (mset μ 66 0 S.1 (μ 61 0 k)) 24 0 35 (nI (S.1 + 1))) := (hV.tr (frG_f (by decide) (by decide))).tr (frG_o (by decide))
    have hLl : lowEq k μ (mset (mset μ 66 0 S.1 (μ 61 0 k)) 24 0 35 (nI (S.1 + 1))) := (lowEq_o (Or.inr rfl)).tr (lowEq_o (Or.inl rfl))
    generalize mset (mset μ 66 0 S.1 (μ 61 0 k)) 24 0 35 (nI (S.1 + 1)) = μl at hSl hVl hLl hp
    have el : μl 61 0 k = μ0 61 0 k := by rw [hVl.ch]
    unfold PE at hp
    rw [el, hVl.bh, hVl.fz] at hp
    rw [ech] at hSl
    by_cases h32 : μ0 61 0 k = 32
    · -- the target
      have hp := hp.resolve_right (fun z => by rcases z with z | z | z | z <;> exact z.1 h32)
      obtain ⟨-, rfl, rfl⟩ := hp
      refine ⟨fun z => (by cases z), fun _ => ?_⟩
      have er : rn (μ0 61 0) (fun i => mBh μ0 (μ0 61 0 i)) (nI q) (mFz μ0 j q) (r + 1) k g S = rTg (nI q) (mFz μ0 j q) g (rLog S (μ0 61 0 k)) := by
        show (if S.1 < 64 then _ else _) = _
        rw [if_pos h64, if_pos h32]
      rw [er] at hK
      have hVo : frV μ0 (mset μl 62 0 k g) := hVl.tr (frG_f (by decide) (by decide))
      have hLo : lowEq k μ (mset μl 62 0 k g) := hLl.tr (lowEq_a (Nat.le_refl _))
      have hSo := hSl.arr (f := 62) (j := k) (v := g) (Or.inl rfl)
      unfold rTg at hK
      by_cases h4 : nI q < 4
      · rw [if_pos h4] at hK ⊢
        by_cases hz : mFz μ0 j q = 0
        · rw [if_pos hz] at hK ⊢
          rw [hz]
          exact ifn (hK _ (frV_ans hVo) (hLo.tr lowEq_ans) hSo.ans (aIs_0 hth)) (show ¬ (rLog S (μ0 61 0 k)).2.2.2 = 99 by rw [show (rLog S (μ0 61 0 k)).2.2.2 = 0 from hth]; decide)
        · rw [if_neg hz] at hK ⊢
          have hz1 : mFz μ0 j q = 1 := (mFz_01 μ0 j q).resolve_left hz
          rw [hz1]
          exact ifn (hK _ (frV_ans hVo) (hLo.tr lowEq_ans) (hSo.ans.th _) (aIs_1 (th_q h4 hq).1)) (show ¬ (rTh (rLog S (μ0 61 0 k)) (33 + nI q)).2.2.2 = 99 from (th_q h4 hq).2)
      · rw [if_neg h4] at hK ⊢
        have hz : mFz μ0 j q = 0 := by
          unfold mFz
          rw [if_neg (fun z => h4 (lt4 z.1))]
        rw [hz, if_pos rfl]
        exact ifn (hK _ (frV_ans hVo) (hLo.tr lowEq_ans) hSo.ans (aIs_0 hth)) (show ¬ (rLog S (μ0 61 0 k)).2.2.2 = 99 by rw [show (rLog S (μ0 61 0 k)).2.2.2 = 0 from hth]; decide)
    · have hkn : k + 1 < n := by
        apply Classical.byContradiction
        intro h2
        have : k = n - 1 := by omega
        subst this
        exact h32 hend
      obtain ⟨hoc, -, hdec⟩ := hok k hkn
      have IH := down T μ0 n j q hn hq hF hE hR hend hok r (k + 1) (by omega) (by omega)
      have er : rn (μ0 61 0) (fun i => mBh μ0 (μ0 61 0 i)) (nI q) (mFz μ0 j q) (r + 1) k g S = rBv (rn (μ0 61 0) (fun i => mBh μ0 (μ0 61 0 i)) (nI q) (mFz μ0 j q) r (k + 1)) (μ0 61 0 k) (mBh μ0 (μ0 61 0 k)) (nI q) g (rLog S (μ0 61 0 k)) := by
        show (if S.1 < 64 then _ else _) = _
        rw [if_pos h64, if_neg h32]
      rw [er] at hK
      generalize rn (μ0 61 0) (fun i => mBh μ0 (μ0 61 0 i)) (nI q) (mFz μ0 j q) r (k + 1) = f at hK IH
      have hl0 : (rLog S (μ0 61 0 k)).2.2.2 = 0 := hth
      generalize rLog S (μ0 61 0 k) = Sl at hK hSl hl0
      generalize hb : mBh μ0 (μ0 61 0 k) = b at hp hK
      have hbx : ∀ μx, frV μ0 μx → mBh μx (μx 61 0 k) = b := fun μx h => by rw [h.ch, h.bh]; exact hb
      have hVo : frV μ0 (mset μl 62 0 k g) := hVl.tr (frG_f (by decide) (by decide))
      have hLo : lowEq k μ (mset μl 62 0 k g) := hLl.tr (lowEq_a (Nat.le_refl _))
      have hSo := hSl.arr (f := 62) (j := k) (v := g) (Or.inl rfl)
      have h39 : μl 24 0 39 = Sl.2.2.1 := hSl.2.2.2
      rw [h39] at hp
      generalize hc : μ0 61 0 k = c at *
      rcases hp with z | ⟨-, h2, rfl, rfl⟩ | ⟨-, h4, rfl, rfl⟩ | ⟨-, h3, h4, rfl, rfl⟩ | ⟨-, n2, n4, n3, rfl, rfl⟩
      · exact absurd z.1 h32
      · refine ⟨fun z => (by cases z), fun _ => ?_⟩
        subst h2
        unfold rBv at hK
        rw [if_neg (by decide), if_pos rfl] at hK
        exact ifn (hK _ (frV_ans hVo) (hLo.tr lowEq_ans) hSo.ans (aIs_0 hl0)) (show ¬ Sl.2.2.2 = 99 by rw [hl0]; decide)
      · refine ⟨fun z => (by cases z), fun _ => ?_⟩
        subst h4
        unfold rBv at hK
        rw [if_neg (by decide), if_neg (by decide), if_neg (by decide), if_pos rfl] at hK
        exact ifn (hK _ (frV_ans hVo) (hLo.tr lowEq_ans) (hSo.ans.th _) (aIs_1 (one_c hoc).1)) (show ¬ (rTh Sl (1 + c)).2.2.2 = 99 from (one_c hoc).2)
      · refine ⟨fun z => (by cases z), fun _ => ?_⟩
        subst h3
        unfold rBv at hK
        rw [if_neg (by decide), if_neg (by decide), if_pos rfl, if_pos (hdec h4)] at hK
        unfold rGs at hK
        rw [if_neg h4] at hK
        exact ifn (hK _ (frV_ans hVo) (hLo.tr lowEq_ans) (hSo.ans.th _) (aIs_1 (by decide))) (show ¬ (rTh Sl 50).2.2.2 = 99 by show ¬ (50 : Int32) = 99; decide)
      · refine ⟨fun _ => ?_, fun z => by cases z⟩
        -- one goes on
        have hS1 : ∃ S1 : RS, S1 = (if b = 3 ∧ c < 16 then rSh Sl (Sl.2.2.1 + 1) else Sl) := ⟨_, rfl⟩
        obtain ⟨S1, eS1⟩ := hS1
        obtain ⟨o, eo⟩ : ∃ o : Int32, o = if b = 3 then g + 1 else g := ⟨_, rfl⟩
        have s1th : S1.2.2.2 = 0 := by rw [eS1]; split <;> exact hl0
        have h1 : sIs (mset (mset (mset (mset μl 62 0 k g) 63 0 k 1) 24 0 39 (if b = 3 ∧ c < 16 then Sl.2.2.1 + 1 else Sl.2.2.1)) 62 0 k (if b = 3 then g + 1 else g)) S1 := by
          refine sIs.arr ?_ (Or.inl rfl)
          have h0 := hSo.arr (f := 63) (j := k) (v := 1) (Or.inr (Or.inl rfl))
          rw [eS1]
          split
          · exact h0.sh
          · exact h0.sh
        have v1 : frV μ0 (mset (mset (mset (mset μl 62 0 k g) 63 0 k 1) 24 0 39 (if b = 3 ∧ c < 16 then Sl.2.2.1 + 1 else Sl.2.2.1)) 62 0 k (if b = 3 then g + 1 else g)) := ((hVo.tr (frG_f (by decide) (by decide))).tr (frG_o (by decide))).tr (frG_f (by decide) (by decide))
        have l1 : lowEq k μ (mset (mset (mset (mset μl 62 0 k g) 63 0 k 1) 24 0 39 (if b = 3 ∧ c < 16 then Sl.2.2.1 + 1 else Sl.2.2.1)) 62 0 k (if b = 3 then g + 1 else g)) := ((hLo.tr (lowEq_a (Nat.le_refl _))).tr (lowEq_o (Or.inl rfl))).tr (lowEq_a (Nat.le_refl _))
        have o1 : (mset (mset (mset (mset μl 62 0 k g) 63 0 k 1) 24 0 39 (if b = 3 ∧ c < 16 then Sl.2.2.1 + 1 else Sl.2.2.1)) 62 0 k (if b = 3 then g + 1 else g)) 62 0 k = o := by rw [mset_at, eo]
        have w1 : (mset (mset (mset (mset μl 62 0 k g) 63 0 k 1) 24 0 39 (if b = 3 ∧ c < 16 then Sl.2.2.1 + 1 else Sl.2.2.1)) 62 0 k (if b = 3 then g + 1 else g)) 63 0 k = 1 := by rw [mset_f (by decide), mset_f (by decide), mset_at]
        generalize (mset (mset (mset (mset μl 62 0 k g) 63 0 k 1) 24 0 39 (if b = 3 ∧ c < 16 then Sl.2.2.1 + 1 else Sl.2.2.1)) 62 0 k (if b = 3 then g + 1 else g)) = μ1 at h1 v1 l1 o1 w1
        rw [rBv_go n2 n4 n3, ← eS1, ← eo] at hK
        have gN : ∀ μx (Sx : RS), frV μ0 μx → sIs μx Sx → μx 62 0 k = o → gIs μx (k + 1) (if c < 16 then Sx.2.2.1 else o) := by
          intro μx Sx hv hs ho
          unfold gIs
          rw [show k + 1 - 1 = k from rfl, hv.ch, hc]
          by_cases h16 : c < 16
          · rw [if_pos h16, if_neg (fun z => Int32.not_le.mpr h16 z.2)]
            exact hs.2.2.2
          · rw [if_neg h16, if_pos ⟨by omega, Int32.not_lt.mp h16⟩]
            exact ho
        have okx : ∀ μx, frV μ0 μx → okE (μx 61 0 k) := fun μx hv => by rw [hv.ch, hc]; exact hoc
        refine IH (if c < 16 then S1.2.2.1 else o) S1 μ1 v1 h1 s1th (gN μ1 S1 v1 h1 o1) (fun μ2 v2 l2 s2 a2 => ?_)
        change sIs μ2 (rPr f c o S1).2 at s2
        change aIs μ2 (rPr f c o S1).1 (rPr f c o S1).2 at a2
        change if (rPr f c o S1).2.2.2.2 = 99 then _ else _
        generalize rPr f c o S1 = x at hK s2 a2 ⊢
        have o2 : μ2 62 0 k = o := (l2 62 k (by omega) (Or.inl rfl)).trans o1
        have w2 : μ2 63 0 k = 1 := (l2 63 k (by omega) (Or.inr (Or.inl rfl))).trans w1
        have lk : lowEq k μ μ2 := l1.tr (l2.le (by omega))
        by_cases h99 : x.2.2.2.2 = 99
        · rw [if_pos h99]
          refine ifp (hK μ2 v2 lk (by rw [rGo_99 h99]; exact s2) (by rw [rGo_99 h99]; exact a2.v (by rw [h99]; decide))) (by rw [rGo_99 h99]; exact h99)
        · rw [if_neg h99]
          refine hR k μ2 (by omega) (okx μ2 v2) (fun r3 μ3 hp => ?_)
          unfold PR at hp
          rw [hbx μ2 v2, w2] at hp
          by_cases h0 : x.2.2.2.2 = 0
          · have a0 := a2
            unfold aIs at a0
            rw [if_pos h0] at a0
            rw [a0.2] at hp
            rcases hp with z | z | ⟨-, b1, -, rfl, rfl⟩ | ⟨-, nb, rfl, rfl⟩
            · exact absurd a0.1 z.1
            · exact absurd a0.1 z.1
            · refine ⟨fun _ => ?_, fun z => (by cases z)⟩
              subst b1
              have eG : rGo (fun x => rPr f c o x.2) 1 x = (x.1 + (rPr f c o x.2).1, (rPr f c o x.2).2) := by
                unfold rGo
                rw [if_pos rfl, if_pos h0]
              rw [eG] at hK
              have v3 : frV μ0 (mset (mset μ2 63 0 k 2) 64 0 k x.1) := (v2.tr (frG_f (by decide) (by decide))).tr (frG_f (by decide) (by decide))
              have s3 : sIs (mset (mset μ2 63 0 k 2) 64 0 k x.1) x.2 := (s2.arr (Or.inr (Or.inl rfl))).arr (Or.inr (Or.inr rfl))
              have l3 : lowEq k μ (mset (mset μ2 63 0 k 2) 64 0 k x.1) := (lk.tr (lowEq_a (Nat.le_refl _))).tr (lowEq_a (Nat.le_refl _))
              have o3 : mset (mset μ2 63 0 k 2) 64 0 k x.1 62 0 k = o := by rw [mset_f (by decide), mset_f (by decide)]; exact o2
              have w3 : mset (mset μ2 63 0 k 2) 64 0 k x.1 63 0 k = 2 := by rw [mset_f (by decide), mset_at]
              have f3 : mset (mset μ2 63 0 k 2) 64 0 k x.1 64 0 k = x.1 := mset_at _ _ _ _ _
              generalize mset (mset μ2 63 0 k 2) 64 0 k x.1 = μ3 at v3 s3 l3 o3 w3 f3
              refine IH (if c < 16 then x.2.2.2.1 else o) x.2 μ3 v3 s3 h0 (gN μ3 x.2 v3 s3 o3) (fun μ4 v4 l4 s4 a4 => ?_)
              change sIs μ4 (rPr f c o x.2).2 at s4
              change aIs μ4 (rPr f c o x.2).1 (rPr f c o x.2).2 at a4
              change if (rPr f c o x.2).2.2.2.2 = 99 then _ else _
              generalize rPr f c o x.2 = y at hK s4 a4 ⊢
              have w4 : μ4 63 0 k = 2 := (l4 63 k (by omega) (Or.inr (Or.inl rfl))).trans w3
              have f4 : μ4 64 0 k = x.1 := (l4 64 k (by omega) (Or.inr (Or.inr rfl))).trans f3
              have lk4 : lowEq k μ μ4 := l3.tr (l4.le (by omega))
              by_cases y99 : y.2.2.2.2 = 99
              · rw [if_pos y99]
                exact ifp (hK μ4 v4 lk4 s4 (a4.v (by rw [y99]; decide))) y99
              · rw [if_neg y99]
                refine hR k μ4 (by omega) (okx μ4 v4) (fun r5 μ5 hp => ?_)
                unfold PR at hp
                rw [hbx μ4 v4, w4, f4] at hp
                by_cases y0 : y.2.2.2.2 = 0
                · have b0 := a4
                  unfold aIs at b0
                  rw [if_pos y0] at b0
                  rw [b0.2] at hp
                  rcases hp with z | z | z | ⟨-, nb, rfl, rfl⟩
                  · exact absurd b0.1 z.1
                  · exact absurd b0.1 z.1
                  · exact absurd z.2.2.1 (by decide)
                  · refine ⟨fun z => (by cases z), fun _ => ?_⟩
                    refine ifn (hK _ (v4.tr (frG_o (by decide))) (lk4.tr (lowEq_o (Or.inl rfl))) s4.val ?_) y99
                    unfold aIs
                    rw [if_pos y0]
                    exact ⟨by rw [mset_j (by decide)]; exact b0.1, by rw [mset_at, if_pos rfl]⟩
                · have b0 := a4
                  unfold aIs at b0
                  rw [if_neg y0] at b0
                  rw [b0.1] at hp
                  rcases hp with z | ⟨-, -, rfl, rfl⟩ | z | z
                  · exact absurd z.2.1 (by decide)
                  · refine ⟨fun z => (by cases z), fun _ => ?_⟩
                    exact ifn (hK _ v4 lk4 s4 (a4.v y0)) y99
                  · exact absurd z.1 (by decide)
                  · exact absurd z.1 (by decide)
            · refine ⟨fun z => (by cases z), fun _ => ?_⟩
              have nb1 : ¬ b = 1 := fun z => nb ⟨z, rfl⟩
              have eG : rGo (fun x => rPr f c o x.2) b x = ((if b = 1 then μ2 64 0 k + x.1 else if b = 3 then 2 * x.1 else x.1), x.2) := by
                unfold rGo
                rw [if_neg nb1, if_neg nb1]
                split
                · rfl
                · split
                  · first | rfl | (rw [if_pos h0])
                  · rfl
              rw [eG] at hK
              refine ifn (hK _ (v2.tr (frG_o (by decide))) (lk.tr (lowEq_o (Or.inl rfl))) s2.val ?_) h99
              unfold aIs
              rw [if_pos h0]
              exact ⟨by rw [mset_j (by decide)]; exact a0.1, mset_at _ _ _ _ _⟩
          · have a0 := a2
            unfold aIs at a0
            rw [if_neg h0] at a0
            rw [a0.1, a0.2] at hp
            rcases hp with ⟨-, b5, rfl, rfl⟩ | ⟨-, nb5, rfl, rfl⟩ | z | z
            · refine ⟨fun z => (by cases z), fun _ => ?_⟩
              subst b5
              have eG : rGo (fun x => rPr f c o x.2) 5 x = (-x.2.2.2.2, rTh x.2 0) := by
                unfold rGo
                rw [if_neg (by decide), if_neg (by decide), if_pos rfl, if_neg h0, if_neg h99]
              rw [eG] at hK
              exact ifn (hK _ (frV_ans v2) (lk.tr lowEq_ans) (s2.ans.th 0) (aIs_0 rfl)) (show ¬ (0 : Int32) = 99 by decide)
            · refine ⟨fun z => (by cases z), fun _ => ?_⟩
              have eG : (rGo (fun x => rPr f c o x.2) b x).2 = x.2 := by
                unfold rGo
                rw [if_neg nb5, if_neg h0]
                split
                · rfl
                · split <;> rfl
              refine ifn (hK _ v2 lk (by rw [eG]; exact s2) (by rw [eG]; exact a2.v h0)) (by rw [eG]; exact h99)
            · exact absurd z.1 (by decide)
            · exact absurd z.1 (by decide)
