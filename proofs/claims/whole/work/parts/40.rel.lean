/-! The class and the reference, side by side in memory -/
theorem clR_congr {nb nb' : Nat} {bt bt' : Nat → Nat} {nc nc' : Nat} {ca ca' ct ct' : Nat → Nat} (h1 : nb = nb') (h2 : nc = nc') (h3 : ∀ k, k < nb → bt k = bt' k) (h4 : ∀ k, k < nc → ca k = ca' k ∧ ct k = ct' k) : ∀ n t, clR nb bt nc ca ct n t ↔ clR nb' bt' nc' ca' ct' n t
  | 0, t => by
    subst h1
    constructor
    · rintro ⟨k, hk, e⟩; exact ⟨k, hk, (h3 k hk).symm.trans e⟩
    · rintro ⟨k, hk, e⟩; exact ⟨k, hk, (h3 k hk).trans e⟩
  | n + 1, t => by
    have ih := clR_congr h1 h2 h3 h4 n
    subst h2
    constructor
    · rintro (h | ⟨k, hk, h, e⟩)
      · exact Or.inl ((ih t).mp h)
      · exact Or.inr ⟨k, hk, by rw [← (h4 k hk).1]; exact (ih _).mp h, by rw [← (h4 k hk).2]; exact e⟩
    · rintro (h | ⟨k, hk, h, e⟩)
      · exact Or.inl ((ih t).mpr h)
      · exact Or.inr ⟨k, hk, by rw [(h4 k hk).1]; exact (ih _).mpr h, by rw [(h4 k hk).2]; exact e⟩
theorem clPair_congr {nb nb' : Nat} {bt bt' : Nat → Nat} {bv bv' : Nat → Int32} {nc nc' : Nat} {ca ca' ct ct' : Nat → Nat} {cw cw' : Nat → Int32} (h1 : nb = nb') (h2 : nc = nc') (h3 : ∀ k, k < nb → bt k = bt' k ∧ bv k = bv' k) (h4 : ∀ k, k < nc → ca k = ca' k ∧ ct k = ct' k ∧ cw k = cw' k) : clPair nb bt bv nc ca ct cw = clPair nb' bt' bv' nc' ca' ct' cw' := by
  have hr : ∀ t, clReach nb bt nc ca ct t ↔ clReach nb' bt' nc' ca' ct' t := fun t => by
    have := clR_congr h1 h2 (fun k hk => (h3 k hk).1) (fun k hk => ⟨(h4 k hk).1, (h4 k hk).2.1⟩)
    constructor
    · rintro ⟨n, h⟩; exact ⟨n, (this n t).mp h⟩
    · rintro ⟨n, h⟩; exact ⟨n, (this n t).mpr h⟩
  funext t v
  apply propext
  subst h1
  subst h2
  unfold clPair
  constructor
  · rintro (⟨k, hk, e1, e2⟩ | ⟨k, hk, h, e1, e2⟩)
    · exact Or.inl ⟨k, hk, by rw [← (h3 k hk).1]; exact e1, by rw [← (h3 k hk).2]; exact e2⟩
    · exact Or.inr ⟨k, hk, by rw [← (h4 k hk).1]; exact (hr _).mp h, by rw [← (h4 k hk).2.1]; exact e1, by rw [← (h4 k hk).2.2]; exact e2⟩
  · rintro (⟨k, hk, e1, e2⟩ | ⟨k, hk, h, e1, e2⟩)
    · exact Or.inl ⟨k, hk, by rw [(h3 k hk).1]; exact e1, by rw [(h3 k hk).2]; exact e2⟩
    · exact Or.inr ⟨k, hk, by rw [(h4 k hk).1]; exact (hr _).mpr h, by rw [(h4 k hk).2.1]; exact e1, by rw [(h4 k hk).2.2]; exact e2⟩
theorem and1 (x : Int32) : x &&& 1 = 0 ∨ x &&& 1 = 1 := by
  have h : (x &&& 1).toBitVec = 0#32 ∨ (x &&& 1).toBitVec = 1#32 := by
    rw [Int32.toBitVec_and]
    show x.toBitVec &&& 1#32 = 0#32 ∨ x.toBitVec &&& 1#32 = 1#32
    rw [BitVec.and_one_eq_setWidth_ofBool_getLsbD]
    cases x.toBitVec.getLsbD 0
    · left; decide
    · right; decide
  rcases h with h | h
  · left; exact Int32.toBitVec_inj.mp h
  · right; exact Int32.toBitVec_inj.mp h
theorem and1_i (x : Int32) : x &&& 1 = 1 ↔ ¬ x &&& 1 = 0 := by
  constructor
  · intro h; rw [h]; decide
  · exact (and1 x).resolve_left
def rowOK (μ : Mem) (nt r b : Nat) : Prop := ∃ n, n ≤ 4 ∧ μ 4 b 0 = nI n ∧ μ 49 0 r = nI n ∧ ∀ k, k < n → inR (μ 5 b k) nt ∧ μ 50 0 (4 * r + k) = μ 5 b k ∧ μ 51 0 (4 * r + k) = μ 6 b k
def lstOK (μ : Mem) (ni r q : Nat) : Prop := ∃ n, n ≤ 4 ∧ μ 13 q 2 = nI n ∧ μ 52 0 r = nI n ∧ ∀ k, k < n → inR (μ 14 q k) ni ∧ μ 53 0 (4 * r + k) = μ 14 q k
def relT (μ : Mem) (nt : Nat) : Prop := nt ≤ 8 ∧ μ 1 0 0 = nI nt ∧ μ 24 0 1 = nI nt ∧ ∀ t, t < nt → μ 32 0 t = μ 2 0 t
def relC (μ : Mem) (nt nc : Nat) : Prop := nc ≤ 16 ∧ μ 4 0 0 = nI nc ∧ μ 24 0 3 = nI nc ∧ ∀ k, k < nc → inR (μ 3 0 k) nt ∧ inR (μ 5 0 k) nt ∧ μ 34 0 k = μ 3 0 k ∧ μ 35 0 k = μ 5 0 k ∧ μ 36 0 k = μ 6 0 k
def relI (μ : Mem) (ni : Nat) : Prop := ni ≤ 8 ∧ μ 0 0 2 = nI ni ∧ μ 24 0 7 = nI ni ∧ ∀ i, i < ni → μ 38 0 i = μ 8 i 0 ∧ μ 39 0 i = μ 8 i 1 ∧ μ 40 0 i = μ 8 i 2
def relD (μ : Mem) (nd : Nat) : Prop := nd ≤ 4 ∧ μ 0 0 4 = nI nd ∧ μ 24 0 11 = nI nd ∧ ∀ d, d < nd → μ 42 0 d = μ 10 d 0 ∧ μ 43 0 d = μ 10 d 1 ∧ μ 44 0 d = μ 10 d 2 ∧ μ 45 0 d = μ 10 d 3
def relP (μ : Mem) (np : Nat) : Prop := np ≤ 4 ∧ μ 0 0 6 = nI np ∧ μ 24 0 16 = nI np ∧ ∀ c, c < np → μ 47 0 c = μ 12 c 0 ∧ ∀ m, m < 4 → μ 48 0 (4 * c + m) = μ 13 (5 * c + 1 + m) 3
def relR (μ : Mem) (nt ni np : Nat) : Prop := (∀ i, i < ni → rowOK μ nt i (i + 1)) ∧ ∀ q, q < 5 * np → rowOK μ nt (rq q) (q + 9) ∧ lstOK μ ni (rq q) q
def relZ (μ : Mem) (ni np : Nat) : Prop := (∀ i, ni ≤ i → i < 8 → μ 49 0 i = 0) ∧ (∀ q, 5 * np ≤ q → q < 20 → μ 49 0 (rq q) = 0 ∧ μ 52 0 (rq q) = 0) ∧ ∀ k, 4 * np ≤ k → k < 16 → μ 48 0 k = 0
def relL (μ : Mem) : Prop := (∃ n, n ≤ 64 ∧ μ 22 0 1 = nI n ∧ μ 24 0 35 = nI n ∧ ∀ i, i < n → μ 66 0 i = μ 23 0 i) ∧ μ 24 0 37 = μ 22 0 2 ∧ μ 24 0 38 = μ 22 0 3
def RELd (μ : Mem) (nt nc ni nd np : Nat) : Prop := relT μ nt ∧ relC μ nt nc ∧ relI μ ni ∧ relD μ nd ∧ relP μ np ∧ relR μ nt ni np ∧ relZ μ ni np
def REL (μ : Mem) : Prop := (∃ nt nc ni nd np, RELd μ nt nc ni nd np) ∧ relL μ ∧ μ 24 0 0 = μ 0 0 7 ∧ (¬ μ 0 0 7 = 0 → xNC μ)
section RELS
variable {μ : Mem} {nt nc ni nd np : Nat}
theorem RELd.T (h : RELd μ nt nc ni nd np) : relT μ nt := h.1
theorem RELd.C (h : RELd μ nt nc ni nd np) : relC μ nt nc := h.2.1
theorem RELd.I (h : RELd μ nt nc ni nd np) : relI μ ni := h.2.2.1
theorem RELd.D (h : RELd μ nt nc ni nd np) : relD μ nd := h.2.2.2.1
theorem RELd.P (h : RELd μ nt nc ni nd np) : relP μ np := h.2.2.2.2.1
theorem RELd.R (h : RELd μ nt nc ni nd np) : relR μ nt ni np := h.2.2.2.2.2.1
theorem RELd.Z (h : RELd μ nt nc ni nd np) : relZ μ ni np := h.2.2.2.2.2.2
theorem RELd.vT (h : RELd μ nt nc ni nd np) : xnt μ = nt := by unfold xnt; rw [h.T.2.1]; exact cl_nI (by have := h.T.1; omega)
theorem RELd.vI (h : RELd μ nt nc ni nd np) : xni μ = ni := by unfold xni; rw [h.I.2.1]; exact cl_nI (by have := h.I.1; omega)
theorem RELd.vD (h : RELd μ nt nc ni nd np) : xnd μ = nd := by unfold xnd; rw [h.D.2.1]; exact cl_nI (by have := h.D.1; omega)
theorem RELd.vP (h : RELd μ nt nc ni nd np) : xnp μ = np := by unfold xnp; rw [h.P.2.1]; exact cl_nI (by have := h.P.1; omega)
theorem RELd.vC (h : RELd μ nt nc ni nd np) : xnb μ 0 = nc := by unfold xnb; rw [h.C.2.1]; exact cl_nI (by have := h.C.1; omega)
theorem RELd.wT (h : RELd μ nt nc ni nd np) : mnt μ = nt := by unfold mnt; rw [h.T.2.2.1]; exact cl_nI (by have := h.T.1; omega)
theorem RELd.wI (h : RELd μ nt nc ni nd np) : mni μ = ni := by unfold mni; rw [h.I.2.2.1]; exact cl_nI (by have := h.I.1; omega)
theorem RELd.wD (h : RELd μ nt nc ni nd np) : mnd μ = nd := by unfold mnd; rw [h.D.2.2.1]; exact cl_nI (by have := h.D.1; omega)
theorem RELd.wP (h : RELd μ nt nc ni nd np) : mnp μ = np := by unfold mnp; rw [h.P.2.2.1]; exact cl_nI (by have := h.P.1; omega)
theorem RELd.wC (h : RELd μ nt nc ni nd np) : mnc μ = nc := by unfold mnc; rw [h.C.2.2.1]; exact cl_nI (by have := h.C.1; omega)
theorem rowOK.x {r b : Nat} (h : rowOK μ nt r b) (hb : 0 < b) : xRow μ b nt := by
  obtain ⟨n, hn, h1, h2, h3⟩ := h
  refine ⟨⟨n, by show n ≤ if b = 0 then 16 else 4; rw [if_neg (by omega)]; exact hn, h1⟩, fun k hk => ?_⟩
  have : xnb μ b = n := by unfold xnb; rw [h1]; exact cl_nI (by omega)
  exact (h3 k (by omega)).1
theorem inR.cl {x : Int32} {n : Nat} (h : inR x n) (hn : n ≤ 1000) : x = nI x.toNatClampNeg ∧ x.toNatClampNeg < n := by
  obtain ⟨t, ht, rfl⟩ := h
  rw [cl_nI (by omega)]
  exact ⟨rfl, ht⟩
theorem rowOK.m {r b : Nat} (h : rowOK μ nt r b) (ht : nt ≤ 8) : mRow μ r nt := by
  obtain ⟨n, hn, h1, h2, h3⟩ := h
  have e : mnb μ r = n := by unfold mnb; rw [h2]; exact cl_nI (by omega)
  refine ⟨⟨by rw [e]; exact h2, by omega⟩, fun k hk => ?_⟩
  have := h3 k (by omega)
  unfold mbt
  rw [this.2.1]
  exact this.1.cl (by omega)
theorem RELd.xwf (h : RELd μ nt nc ni nd np) : xWF μ := by
  have a := h.T.1
  unfold xWF
  rw [h.vT, h.vI, h.vD, h.vP]
  refine ⟨⟨h.T.1, h.T.2.1, ⟨⟨nc, h.C.1, h.C.2.1⟩, fun k hk => ?_⟩, fun k hk => ?_⟩, ⟨h.I.2.1, h.I.1⟩, ⟨h.D.2.1, h.D.1⟩, ⟨h.P.2.1, h.P.1⟩, fun i hi => (h.R.1 i hi).x (by omega), fun q hq => ⟨(h.R.2 q hq).1.x (by omega), ?_⟩⟩
  · rw [h.vC] at hk; exact (h.C.2.2.2 k hk).2.1
  · rw [h.vC] at hk; exact (h.C.2.2.2 k hk).1
  · obtain ⟨n, hn, h1, h2, h3⟩ := (h.R.2 q hq).2
    have e : xnl μ q = n := by unfold xnl; rw [h1]; exact cl_nI (by omega)
    rw [e]
    exact ⟨⟨h1, hn⟩, fun k hk => (h3 k hk).1⟩
theorem RELd.mwf (h : RELd μ nt nc ni nd np) : mWF μ := by
  have a := h.T.1
  have a2 := h.I.1
  unfold mWF
  rw [h.wT, h.wI, h.wD, h.wP]
  refine ⟨⟨h.T.1, ⟨by rw [h.wC]; exact h.C.2.2.1, by rw [h.wC]; exact h.C.1⟩, fun k hk => ?_⟩, ⟨h.I.2.2.1, h.I.1⟩, ⟨h.D.2.2.1, h.D.1⟩, ⟨h.P.2.2.1, h.P.1⟩, fun i hi => (h.R.1 i hi).m a, fun q hq => ⟨(h.R.2 q hq).1.m a, ?_⟩⟩
  · rw [h.wC] at hk
    have := h.C.2.2.2 k hk
    unfold mca mct
    rw [this.2.2.1, this.2.2.2.1]
    exact ⟨this.1.cl (by omega), this.2.1.cl (by omega)⟩
  · obtain ⟨n, hn, h1, h2, h3⟩ := (h.R.2 q hq).2
    have e : mnl μ (rq q) = n := by unfold mnl; rw [h2]; exact cl_nI (by omega)
    rw [e]
    exact ⟨⟨h2, hn⟩, fun k hk => by rw [(h3 k hk).2]; exact (h3 k hk).1⟩
theorem rowOK.nb {r b : Nat} (h : rowOK μ nt r b) : xnb μ b = mnb μ r := by
  obtain ⟨n, hn, h1, h2, h3⟩ := h
  unfold xnb mnb
  rw [h1, h2]
theorem RELd.pair (h : RELd μ nt nc ni nd np) {r b : Nat} (hr : rowOK μ nt r b) : xPair μ b = mPair μ r := by
  have hnb := hr.nb
  obtain ⟨n, hn, h1, h2, h3⟩ := hr
  have e : xnb μ b = n := by unfold xnb; rw [h1]; exact cl_nI (by omega)
  unfold xPair mPair
  refine clPair_congr hnb (by rw [h.vC, h.wC]) (fun k hk => ?_) (fun k hk => ?_)
  · have := h3 k (by omega)
    unfold xbt mbt xbv mbv
    rw [this.2.1, this.2.2]
    exact ⟨rfl, rfl⟩
  · rw [h.vC] at hk
    have := h.C.2.2.2 k hk
    unfold xca mca xbt mct xbv mcw
    rw [this.2.2.1, this.2.2.2.1, this.2.2.2.2]
    exact ⟨rfl, rfl, rfl⟩
theorem RELd.conf (h : RELd μ nt nc ni nd np) {r b : Nat} (hr : rowOK μ nt r b) : xConf μ b ↔ mConf μ r := by
  have e := h.pair hr
  unfold xConf mConf clConf
  unfold xPair mPair at e
  rw [e]
theorem RELd.fp (h : RELd μ nt nc ni nd np) {j k : Nat} (hj : j < np) : xFP μ j k = mFP μ j k := by
  have e0 := h.pair (h.R.2 (5 * j) (by omega)).1
  rw [rq_own] at e0
  funext t v
  unfold xFP mFP
  by_cases h4 : k < 4
  · have e1 := h.pair (h.R.2 (5 * j + 1 + k) (by omega)).1
    rw [rq_m h4] at e1
    rw [if_pos h4, if_pos h4, e0, e1]
  · rw [if_neg h4, if_neg h4, e0]
theorem RELd.ls (h : RELd μ nt nc ni nd np) {q : Nat} (hq : q < 5 * np) (kind : Int32) : ∀ n, n ≤ xnl μ q → xLs μ q kind n = mLs μ (rq q) kind n ∧ ∀ x, x ∈ xLs μ q kind n → x < ni
  | 0 => fun _ => ⟨rfl, fun x hx => by cases hx⟩
  | n + 1 => fun hn => by
    have ih := h.ls hq kind n (by omega)
    obtain ⟨N, hN, h1, h2, h3⟩ := (h.R.2 q hq).2
    have e : xnl μ q = N := by unfold xnl; rw [h1]; exact cl_nI (by omega)
    have := h3 n (by omega)
    have a2 := h.I.1
    have hlt := (this.1.cl (by omega)).2
    have e1 := (h.I.2.2.2 _ hlt).2.1
    unfold xLs mLs
    rw [this.2, e1, ← ih.1]
    refine ⟨rfl, fun x hx => ?_⟩
    split at hx
    · exact ih.2 x hx
    · rcases List.mem_append.mp hx with h4 | h4
      · exact ih.2 x h4
      · rw [List.mem_singleton.mp h4]; exact hlt
theorem sel_congr {bd bd' : Nat → Nat → Bool} {n : Nat} (h : ∀ p i, i < n → bd p i = bd' p i) (p : Nat) : sel bd n p 0 = sel bd' n p 0 := by
  unfold sel
  have : (fun p' => (List.range n).filter (bd p')) = fun p' => (List.range n).filter (bd' p') := by
    funext p'
    exact List.filter_congr (fun x hx => h p' x (List.mem_range.mp hx))
  rw [this]
  rfl
theorem kdM_e {k : Nat} (h : ¬ k < 4) : kdM k = (2 : Int32) <<< ((nI k - 4) &&& 31) ∨ 7 ≤ k := by
  by_cases h7 : 7 ≤ k
  · exact Or.inr h7
  · left
    have : k = 4 ∨ k = 5 ∨ k = 6 := by omega
    rcases this with rfl | rfl | rfl <;> decide
theorem RELd.chn (h : RELd μ nt nc ni nd np) {j k : Nat} (hj : j < np) (hk : k < 7) : mChn μ j k = (xChn μ j k).map Prod.fst ∧ ∀ q, q ∈ xChn μ j k → q.1 = 32 ∨ q.2 = mBh μ q.1 := by
  have a2 := h.I.1
  have a3 := h.D.1
  have bI : ∀ l : List Nat, (∀ x, x ∈ l → x < ni) → (l.map (eI μ)).map Prod.fst = l.map nI ∧ ∀ q, q ∈ l.map (eI μ) → q.1 = 32 ∨ q.2 = mBh μ q.1 := by
    intro l hl
    refine ⟨by rw [List.map_map]; rfl, fun q hq => Or.inr ?_⟩
    obtain ⟨x, hx, rfl⟩ := List.mem_map.mp hq
    have hx := hl x hx
    show μ 8 x 2 = mBh μ (nI x)
    unfold mBh
    rw [if_neg (Int32.not_le.mpr (okE_i (by omega)).2.2), cl_nI (by omega), (h.I.2.2.2 x hx).2.2]
  have bD : ∀ l : List Nat, (∀ x, x ∈ l → x < nd) → (l.map (eD μ)).map Prod.fst = l.map (fun d => nI (16 + d)) ∧ ∀ q, q ∈ l.map (eD μ) → q.1 = 32 ∨ q.2 = mBh μ q.1 := by
    intro l hl
    refine ⟨by rw [List.map_map]; rfl, fun q hq => Or.inr ?_⟩
    obtain ⟨x, hx, rfl⟩ := List.mem_map.mp hq
    have hx := hl x hx
    show μ 10 x 3 = mBh μ (nI (16 + x))
    have e : x = 0 ∨ x = 1 ∨ x = 2 ∨ x = 3 := by omega
    unfold mBh
    rcases e with rfl | rfl | rfl | rfl
    · rw [if_pos (by decide), show (nI (16 + 0) - 16).toNatClampNeg = 0 by decide, (h.D.2.2.2 _ hx).2.2.2]
    · rw [if_pos (by decide), show (nI (16 + 1) - 16).toNatClampNeg = 1 by decide, (h.D.2.2.2 _ hx).2.2.2]
    · rw [if_pos (by decide), show (nI (16 + 2) - 16).toNatClampNeg = 2 by decide, (h.D.2.2.2 _ hx).2.2.2]
    · rw [if_pos (by decide), show (nI (16 + 3) - 16).toNatClampNeg = 3 by decide, (h.D.2.2.2 _ hx).2.2.2]
  have selI : ∀ kind, sel (bdX μ (xFP μ j k) kind) (xni μ) 9 0 = sel (bdM μ (mFP μ j k) kind) (mni μ) 9 0 := by
    intro kind
    rw [h.vI, h.wI, h.fp hj]
    refine sel_congr (fun p i hi => ?_) 9
    have h1 := h.I.2.2.2 i hi
    have h2 := h.R.1 i hi
    unfold bdX bdM
    rw [h1.1, h1.2.1, h2.nb, h.pair h2]
  have selD : sel (bdD μ (μ 12 j 0) (nI k)) (xnd μ) 9 0 = sel (bdN μ (μ 47 0 j) (nI k)) (mnd μ) 9 0 := by
    rw [h.vD, h.wD, (h.P.2.2.2 j hj).1]
    refine sel_congr (fun p d hd => ?_) 9
    have h1 := h.D.2.2.2 d hd
    unfold bdD bdN
    rw [h1.1, h1.2.1, h1.2.2.1]
    congr 1
    apply decide_eq_decide.mpr
    rw [and1_i, and1_i]
    exact And.comm
  have lsI : ∀ bd : Nat → Nat → Bool, ∀ x, x ∈ sel bd (xni μ) 9 0 → x < ni := by
    intro bd x hx
    rcases sel_mem.mp hx with ⟨p', -, h1, -⟩ | ⟨h1, -⟩
    · rw [← h.vI]; exact h1
    · omega
  have lsD : ∀ bd : Nat → Nat → Bool, ∀ x, x ∈ sel bd (xnd μ) 9 0 → x < nd := by
    intro bd x hx
    rcases sel_mem.mp hx with ⟨p', -, h1, -⟩ | ⟨h1, -⟩
    · rw [← h.vD]; exact h1
    · omega
  have nl : ∀ q, q < 5 * np → xnl μ q = mnl μ (rq q) := by
    intro q hq
    obtain ⟨N, hN, h1, h2, h3⟩ := (h.R.2 q hq).2
    unfold xnl mnl
    rw [h1, h2]
  have l0 := fun kind => h.ls (q := 5 * j) (by omega) kind (xnl μ (5 * j)) (Nat.le_refl _)
  rw [rq_own, nl (5 * j) (by omega), rq_own] at l0
  unfold mChn xChn mA1 mA2 mBs mDs
  by_cases h4 : k < 4
  · have l1 := fun kind => h.ls (q := 5 * j + 1 + k) (by omega) kind (xnl μ (5 * j + 1 + k)) (Nat.le_refl _)
    rw [nl (5 * j + 1 + k) (by omega), rq_m h4] at l1
    have hk1 : kdM k = 1 := by unfold kdM; rw [if_pos h4]
    rw [if_pos h4, if_pos h4, if_pos h4, hk1, nl (5 * j) (by omega), nl (5 * j + 1 + k) (by omega), rq_own, rq_m h4, (h.P.2.2.2 j hj).2 k h4]
    have c1 := bI _ (l0 1).2
    have c2 := bI _ (l1 1).2
    have c3 := bI _ (lsI (bdX μ (xFP μ j k) 1))
    have c4 := bD _ (lsD (bdD μ (μ 12 j 0) (nI k)))
    rw [(l0 1).1] at c1
    rw [(l1 1).1] at c2
    rw [selI] at c3
    rw [selD] at c4
    rw [(l0 1).1, (l1 1).1, selI, selD]
    by_cases hf : μ 13 (5 * j + 1 + k) 3 &&& 2 = 0
    · rw [if_pos hf, if_neg (fun z => z.2 hf)]
      refine ⟨by rw [List.map_append, List.map_append, List.map_append, List.map_append, c1.1, c2.1, c3.1, c4.1]; rfl, fun q hq => ?_⟩
      rcases List.mem_append.mp hq with hq | hq
      · rcases List.mem_append.mp hq with hq | hq
        · rcases List.mem_append.mp hq with hq | hq
          · rcases List.mem_append.mp hq with hq | hq
            · exact c1.2 q hq
            · exact c2.2 q hq
          · exact c3.2 q hq
        · exact c4.2 q hq
      · left; rw [List.mem_singleton.mp hq]
    · rw [if_neg hf, if_pos ⟨h4, hf⟩]
      refine ⟨by rw [List.map_append, List.map_append, List.map_append, List.map_append, c2.1, c3.1, c4.1]; rfl, fun q hq => ?_⟩
      rcases List.mem_append.mp hq with hq | hq
      · rcases List.mem_append.mp hq with hq | hq
        · rcases List.mem_append.mp hq with hq | hq
          · rcases List.mem_append.mp hq with hq | hq
            · cases hq
            · exact c2.2 q hq
          · exact c3.2 q hq
        · exact c4.2 q hq
      · left; rw [List.mem_singleton.mp hq]
  · have hk1 := (kdM_e h4).resolve_right (by omega)
    rw [if_neg h4, if_neg h4, if_neg h4, if_neg (fun z => h4 z.1), ← hk1, nl (5 * j) (by omega), rq_own]
    have c1 := bI _ (l0 (kdM k)).2
    have c3 := bI _ (lsI (bdX μ (xFP μ j k) (kdM k)))
    rw [(l0 _).1] at c1
    rw [selI] at c3
    rw [(l0 _).1, selI]
    refine ⟨by rw [List.map_append, List.map_append, c1.1, c3.1, List.append_nil, List.append_nil]; rfl, fun q hq => ?_⟩
    rcases List.mem_append.mp hq with hq | hq
    · rcases List.mem_append.mp hq with hq | hq
      · exact c1.2 q hq
      · exact c3.2 q hq
    · left; rw [List.mem_singleton.mp hq]
end RELS
