/-! THE STATE: families of places. 0 to 23 the class, 24 and on the reference; 99 the script -/
def xkd : Nat → Nat
  | 0 => 0
  | 1 => 0
  | 2 => 2
  | 3 => 1
  | 4 => 0
  | 5 => 1
  | 6 => 1
  | 7 => 3
  | 8 => 0
  | 9 => 4
  | 10 => 0
  | 11 => 5
  | 12 => 0
  | 13 => 0
  | 14 => 1
  | 15 => 6
  | 16 => 0
  | 17 => 2
  | 18 => 1
  | 19 => 0
  | 20 => 1
  | 21 => 1
  | 22 => 0
  | 23 => 1
  | 24 => 0
  | 32 => 2
  | 34 => 1
  | 35 => 1
  | 36 => 1
  | 38 => 1
  | 39 => 1
  | 40 => 1
  | 42 => 1
  | 43 => 1
  | 44 => 1
  | 45 => 1
  | 47 => 1
  | 48 => 1
  | 49 => 1
  | 50 => 1
  | 51 => 1
  | 52 => 1
  | 53 => 1
  | 55 => 1
  | 56 => 1
  | 58 => 1
  | 59 => 1
  | 61 => 1
  | 62 => 1
  | 63 => 1
  | 64 => 1
  | 66 => 1
  | _ => 9
def xci : Nat → Nat
  | 0 => 9
  | 1 => 0
  | 4 => 1
  | 8 => 6
  | 10 => 5
  | 12 => 4
  | 13 => 8
  | 16 => 3
  | 19 => 2
  | 22 => 7
  | 24 => 10
  | _ => 99
def xns : Nat → Nat
  | 0 => 12
  | 1 => 4
  | 4 => 3
  | 8 => 4
  | 10 => 4
  | 12 => 3
  | 13 => 4
  | 16 => 3
  | 19 => 3
  | 22 => 7
  | 24 => 42
  | _ => 0
def xcn : Nat → Nat
  | 0 => 1
  | 1 => 1
  | 2 => 1
  | 3 => 1
  | 4 => 29
  | 5 => 29
  | 6 => 29
  | 7 => 1
  | 8 => 8
  | 9 => 1
  | 10 => 4
  | 11 => 1
  | 12 => 4
  | 13 => 20
  | 14 => 20
  | 15 => 4
  | 16 => 2
  | 17 => 2
  | 18 => 2
  | 19 => 1
  | 20 => 1
  | 21 => 1
  | 22 => 1
  | 23 => 1
  | 24 => 1
  | 32 => 1
  | 34 => 1
  | 35 => 1
  | 36 => 1
  | 38 => 1
  | 39 => 1
  | 40 => 1
  | 42 => 1
  | 43 => 1
  | 44 => 1
  | 45 => 1
  | 47 => 1
  | 48 => 1
  | 49 => 1
  | 50 => 1
  | 51 => 1
  | 52 => 1
  | 53 => 1
  | 55 => 1
  | 56 => 1
  | 58 => 1
  | 59 => 1
  | 61 => 1
  | 62 => 1
  | 63 => 1
  | 64 => 1
  | 66 => 1
  | _ => 0
def xln : Nat → Nat → Nat
  | 2, _ => 8
  | 3, _ => 16
  | 5, i => (if i = 0 then 16 else 4)
  | 6, i => (if i = 0 then 16 else 4)
  | 7, _ => 8
  | 9, _ => 4
  | 11, _ => 4
  | 14, _ => 4
  | 15, _ => 4
  | 17, _ => 8
  | 18, _ => 8
  | 20, _ => 21
  | 21, _ => 21
  | 23, _ => 64
  | 32, _ => 8
  | 34, _ => 16
  | 35, _ => 16
  | 36, _ => 16
  | 38, _ => 8
  | 39, _ => 8
  | 40, _ => 8
  | 42, _ => 4
  | 43, _ => 4
  | 44, _ => 4
  | 45, _ => 4
  | 47, _ => 4
  | 48, _ => 16
  | 49, _ => 28
  | 50, _ => 112
  | 51, _ => 112
  | 52, _ => 28
  | 53, _ => 112
  | 55, _ => 24
  | 56, _ => 24
  | 58, _ => 48
  | 59, _ => 48
  | 61, _ => 24
  | 62, _ => 24
  | 63, _ => 24
  | 64, _ => 24
  | 66, _ => 64
  | _, _ => 0
def xsl : Nat → Nat → Option (Nat × (Nat → Nat))
  | 0, 0 => some (1, fun _ => 0)
  | 0, 1 => some (7, fun _ => 0)
  | 0, 3 => some (9, fun _ => 0)
  | 0, 5 => some (11, fun _ => 0)
  | 0, 8 => some (16, fun _ => 0)
  | 0, 9 => some (16, fun _ => 1)
  | 0, 10 => some (19, fun _ => 0)
  | 0, 11 => some (22, fun _ => 0)
  | 1, 1 => some (2, fun _ => 0)
  | 1, 2 => some (3, fun _ => 0)
  | 1, 3 => some (4, fun _ => 0)
  | 4, 1 => some (5, fun i => i)
  | 4, 2 => some (6, fun i => i)
  | 8, 3 => some (4, fun i => i + 1)
  | 12, 1 => some (13, fun i => 5 * i)
  | 12, 2 => some (15, fun i => i)
  | 13, 0 => some (4, fun i => i + 9)
  | 13, 1 => some (14, fun i => i)
  | 16, 0 => some (17, fun i => i)
  | 16, 1 => some (18, fun i => i)
  | 19, 1 => some (20, fun _ => 0)
  | 19, 2 => some (21, fun _ => 0)
  | 22, 0 => some (23, fun _ => 0)
  | 24, 2 => some (32, fun _ => 0)
  | 24, 4 => some (34, fun _ => 0)
  | 24, 5 => some (35, fun _ => 0)
  | 24, 6 => some (36, fun _ => 0)
  | 24, 8 => some (38, fun _ => 0)
  | 24, 9 => some (39, fun _ => 0)
  | 24, 10 => some (40, fun _ => 0)
  | 24, 12 => some (42, fun _ => 0)
  | 24, 13 => some (43, fun _ => 0)
  | 24, 14 => some (44, fun _ => 0)
  | 24, 15 => some (45, fun _ => 0)
  | 24, 17 => some (47, fun _ => 0)
  | 24, 18 => some (48, fun _ => 0)
  | 24, 19 => some (49, fun _ => 0)
  | 24, 20 => some (50, fun _ => 0)
  | 24, 21 => some (51, fun _ => 0)
  | 24, 22 => some (52, fun _ => 0)
  | 24, 23 => some (53, fun _ => 0)
  | 24, 25 => some (55, fun _ => 0)
  | 24, 26 => some (56, fun _ => 0)
  | 24, 28 => some (58, fun _ => 0)
  | 24, 29 => some (59, fun _ => 0)
  | 24, 31 => some (61, fun _ => 0)
  | 24, 32 => some (62, fun _ => 0)
  | 24, 33 => some (63, fun _ => 0)
  | 24, 34 => some (64, fun _ => 0)
  | 24, 36 => some (66, fun _ => 0)
  | _, _ => none
def xel : Nat → Nat × (Nat → Nat → Nat)
  | 7 => (8, fun _ k => k)
  | 9 => (10, fun _ k => k)
  | 11 => (12, fun _ k => k)
  | 15 => (13, fun i k => 5 * i + 1 + k)
  | _ => (0, fun _ _ => 0)
theorem xsl_ok {f j f' i : Nat} {g : Nat → Nat} (h : xsl f j = some (f', g)) (hi : i < xcn f) : g i < xcn f' := by
  unfold xsl at h
  split at h <;> first | (cases h; simp only [xcn] at hi ⊢; omega) | cases h
theorem xel_kd {f : Nat} (h : 3 ≤ xkd f ∧ xkd f ≤ 6) : f = 7 ∨ f = 9 ∨ f = 11 ∨ f = 15 := by
  unfold xkd at h
  split at h <;> omega
theorem xel_ok {f f' i k : Nat} {g : Nat → Nat → Nat} (hg : xel f = (f', g)) (h : 3 ≤ xkd f ∧ xkd f ≤ 6) (hi : i < xcn f) (hk : k < xln f i) : g i k < xcn f' := by
  rcases xel_kd h with rfl | rfl | rfl | rfl <;> (cases hg; simp only [xcn, xln] at hi hk ⊢; omega)
def xty (G : (Nat → ClassId) × (Nat → Nat → Nat) × (Nat → Nat → Nat) × (Nat → ClassId)) : List (ClassId × FieldType) := [(G.2.2.2 0, .int), (G.2.2.2 1, .boolean), (G.2.2.2 2, .object "BoundChains$Interceptor"), (G.2.2.2 3, .object "BoundChains$Decorator"), (G.2.2.2 4, .object "BoundChains$Component"), (G.2.2.2 5, .object "BoundChains$Place")]
theorem xty_at (G : (Nat → ClassId) × (Nat → Nat → Nat) × (Nat → Nat → Nat) × (Nat → ClassId)) {u : Nat} (h : u < 4) : ∃ ty, (xty G)[u + 2]? = some (G.2.2.2 (u + 2), ty) := by
  rcases (show u = 0 ∨ u = 1 ∨ u = 2 ∨ u = 3 by omega) with rfl | rfl | rfl | rfl <;> exact ⟨_, rfl⟩
theorem xty_at' (G : (Nat → ClassId) × (Nat → Nat → Nat) × (Nat → Nat → Nat) × (Nat → ClassId)) {u : Nat} (h : u < 4) : ∃ C, (xty G)[u + 2]? = some (G.2.2.2 (u + 2), .object C) := by
  rcases (show u = 0 ∨ u = 1 ∨ u = 2 ∨ u = 3 by omega) with rfl | rfl | rfl | rfl <;> exact ⟨_, rfl⟩
