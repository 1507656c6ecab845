/-! PURE: what a chain does. ch: its elements, bh: their behaviours; a state: how many entries the log has, the log, the shared argument, the error on its way -/
abbrev RS : Type := Nat × (Nat → Int32) × Int32 × Int32
def rTh (S : RS) (x : Int32) : RS := (S.1, S.2.1, S.2.2.1, x)
def rSh (S : RS) (x : Int32) : RS := (S.1, S.2.1, x, S.2.2.2)
def rLog (S : RS) (x : Int32) : RS := (S.1 + 1, upd S.2.1 S.1 x, S.2.2.1, S.2.2.2)
/-- one goes on: f is what stands behind it, c its number, o its own argument -/
def rPr (f : Int32 → RS → Int32 × RS) (c o : Int32) (S : RS) : Int32 × RS := f (if c < 16 then S.2.2.1 else o) S
def rP2 (f : Int32 → RS → Int32 × RS) (c o : Int32) (S : RS) : Int32 × RS :=
  if (rPr f c o S).2.2.2.2 = 0 then ((rPr f c o S).1 + (rPr f c o (rPr f c o S).2).1, (rPr f c o (rPr f c o S).2).2) else (0, (rPr f c o S).2)
def rGs (f : Int32 → RS → Int32 × RS) (c m : Int32) (S : RS) : Int32 × RS :=
  if m < 4 then (2 * (rPr f c (S.2.2.1 + 1) (rSh S (S.2.2.1 + 1))).1, (rPr f c (S.2.2.1 + 1) (rSh S (S.2.2.1 + 1))).2) else (0, rTh S 50)
def rPc (f : Int32 → RS → Int32 × RS) (c o : Int32) (S : RS) : Int32 × RS :=
  if (rPr f c o S).2.2.2.2 = 0 then rPr f c o S else if (rPr f c o S).2.2.2.2 = 99 then rPr f c o S else (-(rPr f c o S).2.2.2.2, rTh (rPr f c o S).2 0)
def rBv (f : Int32 → RS → Int32 × RS) (c b m g : Int32) (S : RS) : Int32 × RS :=
  if b = 1 then rP2 f c g S
  else if b = 2 then ((if c < 16 then S.2.2.1 else g), S)
  else if b = 3 then (if c < 16 then rGs f c m S else (2 * (rPr f c (g + 1) S).1, (rPr f c (g + 1) S).2))
  else if b = 4 then (0, rTh S (1 + c))
  else if b = 5 then rPc f c g S
  else rPr f c g S
def rTg (m fl g : Int32) (S : RS) : Int32 × RS := if m < 4 then (if fl = 0 then (3 * g + m, S) else (0, rTh S (33 + m))) else (7, S)
def rn (ch bh : Nat → Int32) (m fl : Int32) : Nat → Nat → Int32 → RS → Int32 × RS
  | 0, _, _, S => (0, S)
  | r + 1, k, g, S =>
    if S.1 < 64 then (if ch k = 32 then rTg m fl g (rLog S (ch k)) else rBv (rn ch bh m fl r (k + 1)) (ch k) (bh k) m g (rLog S (ch k))) else (0, rTh S 99)
/-- the log never grows beyond 64 -/
def rOK (f : Int32 → RS → Int32 × RS) : Prop := ∀ g S, S.1 ≤ 64 → (f g S).2.1 ≤ 64
theorem rPr_le {f : Int32 → RS → Int32 × RS} (hf : rOK f) {c o : Int32} {S : RS} (h : S.1 ≤ 64) : (rPr f c o S).2.1 ≤ 64 := hf _ _ h
theorem rBv_le {f : Int32 → RS → Int32 × RS} (hf : rOK f) {c b m g : Int32} {S : RS} (h : S.1 ≤ 64) : (rBv f c b m g S).2.1 ≤ 64 := by
  unfold rBv
  split
  · unfold rP2
    split
    · exact rPr_le hf (rPr_le hf h)
    · exact rPr_le hf h
  · split
    · exact h
    · split
      · split
        · unfold rGs
          split
          · exact rPr_le hf (S := rSh S (S.2.2.1 + 1)) h
          · exact h
        · exact rPr_le hf h
      · split
        · exact h
        · split
          · unfold rPc
            split
            · exact rPr_le hf h
            · split
              · exact rPr_le hf h
              · exact rPr_le hf h
          · exact rPr_le hf h
theorem rn_le (ch bh : Nat → Int32) (m fl : Int32) : ∀ r k, rOK (rn ch bh m fl r k)
  | 0, _ => fun _ _ h => h
  | r + 1, k => fun g S h => by
    unfold rn
    split
    · rename_i h1
      split
      · unfold rTg
        split
        · split <;> exact h1
        · exact h1
      · exact rBv_le (rn_le ch bh m fl r (k + 1)) (S := rLog S (ch k)) h1
    · exact h
