/-! PURE: what a chain does. ch: its elements, bh: their behaviours; a state: how many entries the log has, the log, the shared argument, the error on its way -/
abbrev RS : Type := Nat × (Nat → Int32) × Int32 × Int32
def rTh (S : RS) (x : Int32) : RS := (S.1, S.2.1, S.2.2.1, x)
def rSh (S : RS) (x : Int32) : RS := (S.1, S.2.1, x, S.2.2.2)
def rLog (S : RS) (x : Int32) : RS := (S.1 + 1, upd S.2.1 S.1 x, S.2.2.1, S.2.2.2)
def rn (ch bh : Nat → Int32) (m fl : Int32) : Nat → Nat → Int32 → RS → Int32 × RS
  | 0, _, _, S => (0, S)
  | r + 1, k, g, S =>
    if 64 ≤ S.1 then (0, rTh S 99)
    else if ch k = 32 then (if 4 ≤ m then (7, rLog S (ch k)) else if fl = 0 then (3 * g + m, rLog S (ch k)) else (0, rTh (rLog S (ch k)) (33 + m)))
    else if bh k = 1 then
      (let a := rn ch bh m fl r (k + 1) (if ch k < 16 then (rLog S (ch k)).2.2.1 else g) (rLog S (ch k))
       if a.2.2.2.2 = 0 then
        (let b := rn ch bh m fl r (k + 1) (if ch k < 16 then a.2.2.2.1 else g) a.2
         (a.1 + b.1, b.2))
       else (0, a.2))
    else if bh k = 2 then ((if ch k < 16 then S.2.2.1 else g), rLog S (ch k))
    else if bh k = 3 then
      (if ch k < 16 then
        (if 4 ≤ m then (0, rTh (rLog S (ch k)) 50)
         else
          (let a := rn ch bh m fl r (k + 1) (S.2.2.1 + 1) (rSh (rLog S (ch k)) (S.2.2.1 + 1))
           (2 * a.1, a.2)))
       else
        (let a := rn ch bh m fl r (k + 1) (g + 1) (rLog S (ch k))
         (2 * a.1, a.2)))
    else if bh k = 4 then (0, rTh (rLog S (ch k)) (1 + ch k))
    else if bh k = 5 then
      (let a := rn ch bh m fl r (k + 1) (if ch k < 16 then S.2.2.1 else g) (rLog S (ch k))
       if a.2.2.2.2 = 0 ∨ a.2.2.2.2 = 99 then a else (-a.2.2.2.2, rTh a.2 0))
    else rn ch bh m fl r (k + 1) (if ch k < 16 then S.2.2.1 else g) (rLog S (ch k))
