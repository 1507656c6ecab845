/-! PURE: what the bindings of a row reach, and which pairs of a type and a value lie in the closure -/
section CLO
variable (nb : Nat) (bt : Nat → Nat) (bv : Nat → Int32) (nc : Nat) (ca ct : Nat → Nat) (cw : Nat → Int32)
def clR : Nat → Nat → Prop
  | 0, t => ∃ k, k < nb ∧ bt k = t
  | n + 1, t => clR n t ∨ ∃ k, k < nc ∧ clR n (ca k) ∧ ct k = t
def clReach (t : Nat) : Prop := ∃ n, clR nb bt nc ca ct n t
def clPair (t : Nat) (v : Int32) : Prop := (∃ k, k < nb ∧ bt k = t ∧ bv k = v) ∨ ∃ k, k < nc ∧ clReach nb bt nc ca ct (ca k) ∧ ct k = t ∧ cw k = v
def clConf : Prop := ∃ t v v', clPair nb bt bv nc ca ct cw t v ∧ clPair nb bt bv nc ca ct cw t v' ∧ v ≠ v'
theorem clReach.base {k : Nat} (h : k < nb) : clReach nb bt nc ca ct (bt k) := ⟨0, k, h, rfl⟩
theorem clReach.step {k : Nat} (h : k < nc) (hr : clReach nb bt nc ca ct (ca k)) : clReach nb bt nc ca ct (ct k) := by
  obtain ⟨n, hn⟩ := hr
  exact ⟨n + 1, Or.inr ⟨k, h, hn, rfl⟩⟩
theorem clReach.ind {P : Nat → Prop} (h0 : ∀ k, k < nb → P (bt k)) (h1 : ∀ k, k < nc → P (ca k) → P (ct k)) {t : Nat} (h : clReach nb bt nc ca ct t) : P t := by
  obtain ⟨n, hn⟩ := h
  induction n generalizing t with
  | zero =>
    obtain ⟨k, hk, rfl⟩ := hn
    exact h0 k hk
  | succ n ih =>
    rcases hn with hn | ⟨k, hk, hn, rfl⟩
    · exact ih hn
    · exact h1 k hk (ih hn)
theorem clPair.reach {t : Nat} {v : Int32} (h : clPair nb bt bv nc ca ct cw t v) : clReach nb bt nc ca ct t := by
  rcases h with ⟨k, hk, rfl, -⟩ | ⟨k, hk, hr, rfl, -⟩
  · exact clReach.base nb bt nc ca ct hk
  · exact clReach.step nb bt nc ca ct hk hr
theorem clReach.pair {t : Nat} (h : clReach nb bt nc ca ct t) : ∃ v, clPair nb bt bv nc ca ct cw t v := by
  obtain ⟨n, hn⟩ := h
  induction n generalizing t with
  | zero =>
    obtain ⟨k, hk, rfl⟩ := hn
    exact ⟨bv k, Or.inl ⟨k, hk, rfl, rfl⟩⟩
  | succ n ih =>
    rcases hn with hn | ⟨k, hk, hn, rfl⟩
    · exact ih hn
    · exact ⟨cw k, Or.inr ⟨k, hk, ⟨n, hn⟩, rfl, rfl⟩⟩
end CLO
/-- how many of the first n are 1 -/
def cdn (f : Nat → Int32) : Nat → Nat
  | 0 => 0
  | n + 1 => cdn f n + (if f n = 1 then 1 else 0)
theorem cdn_mono {f g : Nat → Int32} : ∀ {n : Nat}, (∀ t, t < n → f t = 1 → g t = 1) → cdn f n ≤ cdn g n
  | 0, _ => Nat.le_refl _
  | n + 1, h => by
    have ih := cdn_mono (f := f) (g := g) (n := n) (fun t ht => h t (by omega))
    have h1 := h n (by omega)
    unfold cdn
    by_cases e : f n = 1
    · rw [if_pos e, if_pos (h1 e)]; omega
    · rw [if_neg e]; omega
theorem cdn_lt {f g : Nat → Int32} : ∀ {n : Nat}, (∀ t, t < n → f t = 1 → g t = 1) → ∀ {t : Nat}, t < n → g t = 1 → ¬ f t = 1 → cdn f n + 1 ≤ cdn g n
  | 0, _, t, ht, _, _ => by omega
  | n + 1, h, t, ht, hg, hf => by
    unfold cdn
    by_cases e : t = n
    · subst e
      have ih := cdn_mono (f := f) (g := g) (n := t) (fun u hu => h u (by omega))
      rw [if_neg hf, if_pos hg]; omega
    · have ih := cdn_lt (f := f) (g := g) (n := n) (fun u hu => h u (by omega)) (t := t) (by omega) hg hf
      have h1 := h n (by omega)
      by_cases e1 : f n = 1
      · rw [if_pos e1, if_pos (h1 e1)]; omega
      · rw [if_neg e1]; omega
theorem cdn_le {f : Nat → Int32} {m : Nat} : ∀ {n : Nat}, (∀ t, t < n → f t = 1 → t < m) → cdn f n ≤ m ∧ cdn f n ≤ n
  | 0, _ => ⟨Nat.zero_le _, Nat.le_refl _⟩
  | n + 1, h => by
    have ih := cdn_le (f := f) (m := m) (n := n) (fun t ht => h t (by omega))
    have h1 := h n (by omega)
    unfold cdn
    by_cases e : f n = 1
    · rw [if_pos e]
      have := h1 e
      omega
    · rw [if_neg e]; omega
theorem cdn_pos {f : Nat → Int32} : ∀ {n t : Nat}, t < n → f t = 1 → 1 ≤ cdn f n
  | 0, t, ht, _ => by omega
  | n + 1, t, ht, h => by
    unfold cdn
    by_cases e : t = n
    · subst e; rw [if_pos h]; omega
    · have := cdn_pos (f := f) (n := n) (t := t) (by omega) h
      omega
/-- a closure in the making: which types are reached, their values, whether two values met -/
abbrev CS : Type := (Nat → Int32) × (Nat → Int32) × Int32
def pput (t : Nat) (v : Int32) (S : CS) : CS := if S.1 t = 0 then (upd S.1 t 1, upd S.2.1 t v, S.2.2) else if S.2.1 t = v then S else (S.1, S.2.1, 1)
def cCov (S : CS) (t : Nat) (v : Int32) : Prop := S.1 t = 1 ∧ (S.2.1 t = v ∨ S.2.2 = 1)
/-- every flag is 0 or 1 -/
def cBit (S : CS) : Prop := (∀ t, t < 8 → S.1 t = 0 ∨ S.1 t = 1) ∧ (S.2.2 = 0 ∨ S.2.2 = 1)
theorem i1_0 : ¬ (1 : Int32) = 0 := by decide
theorem i0_1 : ¬ (0 : Int32) = 1 := by decide
theorem pput_bit {S : CS} {t : Nat} {v : Int32} (h : cBit S) : cBit (pput t v S) := by
  unfold pput
  split
  · refine ⟨fun u hu => ?_, h.2⟩
    by_cases e : u = t
    · subst e; right; simp [upd]
    · simp only [upd, e, if_false]; exact h.1 u hu
  · split
    · exact h
    · exact ⟨h.1, Or.inr rfl⟩
theorem pput_cov {S : CS} {t : Nat} {v : Int32} (hb : cBit S) (ht : t < 8) : cCov (pput t v S) t v := by
  unfold pput cCov
  split
  · simp [upd]
  · rename_i h
    have h1 : S.1 t = 1 := (hb.1 t ht).resolve_left h
    split
    · rename_i h2; exact ⟨h1, Or.inl h2⟩
    · exact ⟨h1, Or.inr rfl⟩
theorem pput_keep {S : CS} {t u : Nat} {v w : Int32} (h : cCov S u w) : cCov (pput t v S) u w := by
  unfold pput
  split
  · rename_i h0
    have e : u ≠ t := fun q => by subst q; rw [h.1] at h0; exact i1_0 h0
    exact ⟨by simp only [upd, e, if_false]; exact h.1, by simp only [upd, e, if_false]; exact h.2⟩
  · split
    · exact h
    · exact ⟨h.1, Or.inr rfl⟩
theorem pput_grow {S : CS} {t u : Nat} {v : Int32} (h : S.1 u = 1) : (pput t v S).1 u = 1 := by
  unfold pput
  split
  · by_cases e : u = t
    · simp [upd, e]
    · simp only [upd, e, if_false]; exact h
  · split <;> exact h
theorem pput_same {S : CS} {t : Nat} {v : Int32} (h : cCov S t v) : pput t v S = S := by
  unfold pput
  rw [if_neg (by rw [h.1]; exact i1_0)]
  split
  · rfl
  · rename_i h2
    have h3 := h.2.resolve_left h2
    obtain ⟨a, b, d⟩ := S
    simp only at h3
    rw [h3]
section CLO2
variable (nb : Nat) (bt : Nat → Nat) (bv : Nat → Int32) (nc : Nat) (ca ct : Nat → Nat) (cw : Nat → Int32)
/-- nothing is in it that isn't in the closure -/
def cSnd (S : CS) : Prop := cBit S ∧ (∀ t, t < 8 → S.1 t = 1 → clPair nb bt bv nc ca ct cw t (S.2.1 t)) ∧ (S.2.2 = 1 → clConf nb bt bv nc ca ct cw)
theorem cSnd.put {S : CS} {t : Nat} {v : Int32} (h : cSnd nb bt bv nc ca ct cw S) (ht : t < 8) (hp : clPair nb bt bv nc ca ct cw t v) : cSnd nb bt bv nc ca ct cw (pput t v S) := by
  refine ⟨pput_bit h.1, fun u hu h1 => ?_, fun h1 => ?_⟩
  · unfold pput at h1 ⊢
    split at h1
    · rename_i h0
      rw [if_pos h0]
      by_cases e : u = t
      · subst e; simp only [upd, if_true]; exact hp
      · simp only [upd, e, if_false] at h1 ⊢; exact h.2.1 u hu h1
    · rename_i h0
      rw [if_neg h0]
      split at h1
      · rename_i h2; rw [if_pos h2]; exact h.2.1 u hu h1
      · rename_i h2; rw [if_neg h2]; exact h.2.1 u hu h1
  · unfold pput at h1
    split at h1
    · exact h.2.2 h1
    · rename_i h0
      have h2 := (h.1.1 t ht).resolve_left h0
      split at h1
      · exact h.2.2 h1
      · rename_i h3
        exact ⟨t, _, _, h.2.1 t ht h2, hp, h3⟩
/-- the closure, done -/
def clOK (S : CS) : Prop := cBit S ∧ (∀ t, t < 8 → (S.1 t = 1 ↔ clReach nb bt nc ca ct t)) ∧ (∀ t, t < 8 → S.1 t = 1 → clPair nb bt bv nc ca ct cw t (S.2.1 t)) ∧ (S.2.2 = 1 ↔ clConf nb bt bv nc ca ct cw)
def cClosed (S : CS) : Prop := ∀ k, k < nc → S.1 (ca k) = 1 → cCov S (ct k) (cw k)
theorem clOK.of {S : CS} (hs : cSnd nb bt bv nc ca ct cw S) (hb : ∀ k, k < nb → cCov S (bt k) (bv k)) (hc : cClosed nc ca ct cw S) : clOK nb bt bv nc ca ct cw S := by
  have hr : ∀ t, clReach nb bt nc ca ct t → S.1 t = 1 := fun t h => h.ind (P := fun t => S.1 t = 1) nb bt nc ca ct (fun k hk => (hb k hk).1) (fun k hk h => (hc k hk h).1)
  have hp : ∀ t v, clPair nb bt bv nc ca ct cw t v → cCov S t v := by
    intro t v h
    rcases h with ⟨k, hk, rfl, rfl⟩ | ⟨k, hk, h, rfl, rfl⟩
    · exact hb k hk
    · exact hc k hk (hr _ h)
  refine ⟨hs.1, fun t ht => ⟨fun h => (hs.2.1 t ht h).reach, hr t⟩, hs.2.1, hs.2.2, fun ⟨t, v, v', h1, h2, h3⟩ => ?_⟩
  rcases (hp t v h1).2 with h4 | h4
  · rcases (hp t v' h2).2 with h5 | h5
    · exact absurd (h4.symm.trans h5) h3
    · exact h5
  · exact h4
/-- a round's end -/
theorem cRound {S0 S : CS} {r nt : Nat} (hct : ∀ k, k < nc → ca k < 8) (h0 : ∀ t, t < 8 → S0.1 t = 1 → S.1 t = 1) (hk : ∀ k, k < nc → S0.1 (ca k) = 1 → cCov S (ct k) (cw k)) (hs : cClosed nc ca ct cw S0 → S = S0) (hr : cClosed nc ca ct cw S0 ∨ r + 1 ≤ cdn S0.1 8) : cClosed nc ca ct cw S ∨ r + 2 ≤ cdn S.1 8 := by
  rcases hr with hr | hr
  · left; rw [hs hr]; exact hr
  · by_cases e : ∀ t, t < 8 → S.1 t = 1 → S0.1 t = 1
    · left
      exact fun k hk1 h1 => hk k hk1 (e _ (hct k hk1) h1)
    · right
      obtain ⟨t, ht, h1, h2⟩ : ∃ t, t < 8 ∧ S.1 t = 1 ∧ ¬ S0.1 t = 1 := by
        apply Classical.byContradiction
        intro q
        apply e
        intro t ht h1
        apply Classical.byContradiction
        intro h2
        exact q ⟨t, ht, h1, h2⟩
      have := cdn_lt h0 ht h1 h2
      omega
theorem cFirst {S : CS} (hct : ∀ k, k < nc → ca k < 8) : cClosed nc ca ct cw S ∨ 0 + 1 ≤ cdn S.1 8 := by
  by_cases e : ∃ t, t < 8 ∧ S.1 t = 1
  · obtain ⟨t, ht, h⟩ := e
    right; exact cdn_pos ht h
  · left
    exact fun k hk h => absurd ⟨ca k, hct k hk, h⟩ e
theorem cLast {S : CS} {nt : Nat} (hs : cSnd nb bt bv nc ca ct cw S) (hb : ∀ k, k < nb → bt k < nt) (hc : ∀ k, k < nc → ct k < nt) (hr : cClosed nc ca ct cw S ∨ nt + 1 ≤ cdn S.1 8) : cClosed nc ca ct cw S := by
  rcases hr with hr | hr
  · exact hr
  · exfalso
    have := (cdn_le (f := S.1) (m := nt) (n := 8) (fun t ht h => by
      rcases hs.2.1 t ht h with ⟨k, hk, rfl, -⟩ | ⟨k, hk, -, rfl, -⟩
      · exact hb k hk
      · exact hc k hk)).1
    omega
end CLO2
