theorem up_if (F : Nat → Option Nat) (i : Nat) : va_up (fun k => if k < i then F k else none) i (F i) = fun k => if k < i + 1 then F k else none := by
  funext k
  unfold va_up
  by_cases e : k = i
  · subst e
    rw [if_pos rfl, if_pos (by omega)]
  · rw [if_neg e]
    show (if k < i then F k else none) = _
    by_cases h : k < i
    · rw [if_pos h, if_pos (by omega)]
    · rw [if_neg h, if_neg (by omega)]
theorem up_0 (F : Nat → Option Nat) : (fun _ => none : Nat → Option Nat) = fun k => if k < 0 then F k else none := by
  funext k
  rw [if_neg (by omega)]

set_option maxRecDepth 100000 in
set_option maxHeartbeats 4000000 in
theorem n_X4 (l : Launch) (G : XG) (B : Nat) (hG : GA G B) (c : Nat) (hc : c < 4) : NMet l G B y_X4_init c_X4_init 2 3 (26) (99) 12 (c) 27 [] := by
  refine nj_met (by decide) rfl hG (Nat.le_of_ble_eq_true rfl) ?_
  intro p e s m args below meth cC E hr hlk hin
  have E : NE G B (ord 12 (c)) (fun z => B + ord 12 (c) ≤ z) RX4 c_X4_init 2 p s m args cC := E
  refine nj_loc (L' := [some (.inr (12, c)), none]) rfl ?_
  have ho0 := op_0 c
  have lp25 : ∀ (r i : Nat), i + r = 4 → NJ G B (ord 12 c) (fun z => B + ord 12 c ≤ z) 2 p l e (nRm 3 26 99) s m args below meth cC (6 + 5 * i) (23 + 19 * i) (MQ below (va_Qv (fun _ : Unit => True) (fun _ t => NH G B (ord 12 c) (ord 12 c + 27) [] t.heap) (fun z => B + ord 12 c ≤ z)) args s 26 99 (fun z => B + ord 12 c ≤ z)) 25 [some (.inr (12, c)), some (.inl (nI i))] [] (ord 15 c + 1 + 5 * i) [(ord 15 c, .inl (G.2.2.2 (3 + 2), 4, .inr (.inr (.inr (.inr (fun k => if k < i then (fun k => some (G.2.2.1 13 (5 * c + 1 + k))) k else none)))))), (ord 12 c, .inr (4, [.int 0, .ref (G.2.2.1 13 (5 * c)), .ref (G.2.2.1 15 (c))]))] := by
    intro r
    induction r with
    | zero =>
      intro i hi0
      have hi0 : i = 4 := by omega
      subst hi0
      refine nj_iload_n E d_X4_init_25 rfl ?_
      refine nj_iconst (v := 4) E d_X4_init_26 (by decide) ?_
      refine nj_icmp_ge (tgt := 49) E d_X4_init_27 (by decide) (fun _ => ?_) (fun h => absurd (by decide) h)
      refine nj_dropA (g' := (fun k => some (G.2.2.1 13 (5 * c + 1 + k)))) (by rw [FC_at hc]; rfl) (fun j hj => if_pos hj) (by simp only [ord] <;> omega) ?_
      refine nj_done (by rw [FC_at hc]; rfl) ?_
      refine nj_widen (k1 := 26) (k2 := 99) (by omega) (by omega) ?_
      exact nj_vret E hr hlk (by simp only [ord] <;> omega) d_X4_init_49
    | succ r ih =>
      intro i hi0
      have hom := op_m (c := c) (show i < 4 by omega)
      refine nj_iload_n E d_X4_init_25 rfl ?_
      refine nj_iconst (v := 4) E d_X4_init_26 (by decide) ?_
      refine nj_icmp_ge (tgt := 49) E d_X4_init_27 (by decide) (fun h => absurd h (fun h => nI_ge (b := 4) (show i < 4 by omega) (by omega) h)) (fun _ => ?_)
      refine nj_aload_n E d_X4_init_30 rfl ?_
      refine nj_getF (ci := 4) (j := 2) (f' := 15) (i' := c) (o0 := ord 12 c) (fs := [.int 0, .ref (G.2.2.1 13 (5 * c)), .ref (G.2.2.1 15 (c))]) E rfl inX4 (by decide) (wa_t 149 (by decide +kernel) rfl) hc rfl (Nat.le_refl _) (by simp only [ord] <;> omega) ((nov_n (by simp only [ord] <;> omega)).trans (nov_p rfl)) rfl d_X4_init_31 ?_
      refine nj_iload_n E d_X4_init_34 rfl ?_
      refine nj_new (f := 13) (i := 5 * c + 1 + i) (ci := 8) (fs := [.null, .null, .int 0, .int 0]) E (wa_t 119 (by decide +kernel) rfl) (wa_t 120 (by decide +kernel) rfl) (wa_t 7 (by decide +kernel) rfl) rfl inX8 okX8 rfl (fun j hj => by rcases (show j = 0 ∨ j = 1 ∨ j = 2 ∨ j = 3 by omega) with rfl | rfl | rfl | rfl <;> rfl) (show 5 * c + 1 + i < 20 by omega) (by simp only [ord]; omega) (by show _ ≤ 26; omega) (by show _ ≤ 99; omega) d_X4_init_35 ?_
      refine nj_dup E d_X4_init_38 ?_
      refine nj_callN (host := "BoundChains") (k := 0) (extra := []) E (n_X8 l G B hG (5 * c + 1 + i) (by omega)) (by decide) kc_X8_init (wa_t 7 (by decide +kernel) rfl) (wa_t 122 (by decide +kernel) rfl) rfl (by decide +kernel) rfl (by decide) ⟨Nat.le_of_ble_eq_true rfl, Nat.le_of_ble_eq_true rfl⟩ rfl (by simp) rfl (by simp only [ord] <;> omega) (fun o h1 h2 => nov2 (by simp only [ord] at h1 ⊢; omega) (by simp only [ord] at h1 ⊢; omega)) ⟨by show _ ≤ 26; omega, by show _ ≤ 99; omega⟩ d_X4_init_39 ?_
      refine nj_aast (fa := 15) (ia := c) (oa := ord 15 c) (f' := 13) (i' := 5 * c + 1 + i) (o' := ord 13 (5 * c + 1 + i)) (u := 3) (N := 4) (ci := 8) (vs := xf G mu0 13 (5 * c + 1 + i)) (g := fun k => if k < i then (fun k => some (G.2.2.1 13 (5 * c + 1 + k))) k else none) (ov' := [(ord 15 c, .inl (G.2.2.2 (3 + 2), 4, .inr (.inr (.inr (.inr (fun k => if k < (i + 1) then (fun k => some (G.2.2.1 13 (5 * c + 1 + k))) k else none)))))), (ord 12 c, .inr (4, [.int 0, .ref (G.2.2.1 13 (5 * c)), .ref (G.2.2.1 15 (c))]))]) E hc rfl (by simp only [ord] <;> omega) (by simp only [ord] <;> omega) (nov_p rfl) (show 5 * c + 1 + i < 20 by omega) rfl (by simp only [ord] <;> omega) (by simp only [ord] <;> omega) ((nov2 (by simp only [ord] <;> omega) (by simp only [ord] <;> omega)).trans (by rw [FC_at (show 5 * c + 1 + i < 20 by omega)]; rfl)) rfl rfl (in_nI (by omega) (by omega)) ((nov_p rfl).trans (by rw [cl_nI (by omega)]; exact congrArg (fun g => (.inl (G.2.2.2 (3 + 2), 4, .inr (.inr (.inr (.inr g)))) : va_E)) (up_if (fun k => some (G.2.2.1 13 (5 * c + 1 + k))) i).symm)) (fun o h => (nov_n h).trans (nov_n h).symm) d_X4_init_42 ?_
      refine nj_iinc (v := nI (i + 1)) E d_X4_init_43 rfl (nI_inc i) rfl ?_
      refine nj_goto (tgt := 25) E d_X4_init_46 (by decide) ?_
      refine nj_n (n' := ord 15 c + 1 + 5 * (i + 1)) (by simp only [ord] <;> omega) ?_
      refine nj_widen (k1 := 6 + 5 * (i + 1)) (k2 := 23 + 19 * (i + 1)) (by omega) (by omega) ?_
      exact ih (i + 1) (by omega)
  refine nj_aload_n E d_X4_init_0 rfl ?_
  refine nj_objInit E (wa_t 118 (by decide +kernel) rfl) (by decide) ⟨Nat.le_of_ble_eq_true rfl, Nat.le_of_ble_eq_true rfl⟩ d_X4_init_1 ?_
  refine nj_aload_n E d_X4_init_4 rfl ?_
  refine nj_new (f := 13) (i := 5 * c) (ci := 8) (fs := [.null, .null, .int 0, .int 0]) E (wa_t 119 (by decide +kernel) rfl) (wa_t 120 (by decide +kernel) rfl) (wa_t 7 (by decide +kernel) rfl) rfl inX8 okX8 rfl (fun j hj => by rcases (show j = 0 ∨ j = 1 ∨ j = 2 ∨ j = 3 by omega) with rfl | rfl | rfl | rfl <;> rfl) (show 5 * c < 20 by omega) (op_0 c) (by show _ ≤ 26; omega) (by show _ ≤ 99; omega) d_X4_init_5 ?_
  refine nj_dup E d_X4_init_8 ?_
  refine nj_callN (host := "BoundChains") (k := 0) (extra := []) E (n_X8 l G B hG (5 * c) (by omega)) (by decide) kc_X8_init (wa_t 7 (by decide +kernel) rfl) (wa_t 122 (by decide +kernel) rfl) rfl (by decide +kernel) rfl (by decide) ⟨Nat.le_of_ble_eq_true rfl, Nat.le_of_ble_eq_true rfl⟩ rfl (by simp) rfl (by simp only [ord] <;> omega) (fun o h1 h2 => nov1 (by simp only [ord] at h1 ⊢; omega)) ⟨by show _ ≤ 26; omega, by show _ ≤ 99; omega⟩ d_X4_init_9 ?_
  refine nj_putF (ci := 4) (j := 1) (o0 := ord 12 c) (fs := [.int 0, .null, .null]) (ov' := [(ord 12 c, .inr (4, [.int 0, .ref (G.2.2.1 13 (5 * c)), .null]))]) (tj := .object "BoundChains$Place") E hin rfl inX4 okX4 nmX4 (by decide) (wa_t 147 (by decide +kernel) rfl) rfl rfl (by decide +kernel) (fun a => ⟨rfl, rfl⟩) (Nat.le_of_ble_eq_true rfl) hc rfl (Nat.le_refl _) (by simp only [ord] <;> omega) (nov_p rfl) (nov_p rfl) (fun o h => (nov_n h).trans (nov_n h).symm) d_X4_init_12 ?_
  refine nj_aload_n E d_X4_init_15 rfl ?_
  refine nj_iconst (v := 4) E d_X4_init_16 (by decide) ?_
  refine nj_anew (f := 15) (i := c) (N := 4) (u := 3) (C := "BoundChains$Place") E rfl (by decide) rfl (wa_t 119 (by decide +kernel) rfl) hc (by simp only [ord]; omega) (by decide) rfl (by decide) (by show _ ≤ 26; omega) (by show _ ≤ 99; omega) d_X4_init_17 ?_
  refine nj_putF (ci := 4) (j := 2) (o0 := ord 12 c) (fs := [.int 0, .ref (G.2.2.1 13 (5 * c)), .null]) (ov' := [(ord 15 c, .inl (G.2.2.2 (3 + 2), 4, .inr (.inr (.inr (.inr (fun _ => none)))))), (ord 12 c, .inr (4, [.int 0, .ref (G.2.2.1 13 (5 * c)), .ref (G.2.2.1 15 (c))]))]) (tj := .array (.object "BoundChains$Place")) E hin rfl inX4 okX4 nmX4 (by decide) (wa_t 149 (by decide +kernel) rfl) rfl rfl (by decide +kernel) (fun a => ⟨rfl, rfl⟩) (Nat.le_of_ble_eq_true rfl) hc rfl (Nat.le_refl _) (by simp only [ord] <;> omega) ((nov_n (by simp only [ord] <;> omega)).trans (nov_p rfl)) ((nov_n (by simp only [ord] <;> omega)).trans (nov_p rfl)) (fun o h => nov_a2 h) d_X4_init_20 ?_
  refine nj_iconst (v := 0) E d_X4_init_23 (by decide) ?_
  refine nj_istore_n E d_X4_init_24 (by decide) rfl ?_
  refine nj_ove (ov' := [(ord 15 c, .inl (G.2.2.2 (3 + 2), 4, .inr (.inr (.inr (.inr (fun k => if k < 0 then (fun k => some (G.2.2.1 13 (5 * c + 1 + k))) k else none)))))), (ord 12 c, .inr (4, [.int 0, .ref (G.2.2.1 13 (5 * c)), .ref (G.2.2.1 15 (c))]))]) (by rw [← up_0]) ?_
  exact lp25 4 0 rfl

set_option maxRecDepth 100000 in
set_option maxHeartbeats 4000000 in
theorem n_X9 (l : Launch) (G : XG) (B : Nat) (hG : GA G B)   : NMet l G B y_X9_init c_X9_init 2 4 (164) (777) 0 (0) 165 [] := by
  refine nj_met (by decide) rfl hG (Nat.le_of_ble_eq_true rfl) ?_
  intro p e s m args below meth c E hr hlk hin
  have E : NE G B (ord 0 (0)) (fun z => B + ord 0 (0) ≤ z) RX9 c_X9_init 2 p s m args c := E
  refine nj_loc (L' := [some (.inr (0, 0)), none]) rfl ?_
  have lp95 : ∀ (r i : Nat), i + r = 4 → NJ G B (ord 0 0) (fun z => B + ord 0 0 ≤ z) 2 p l e (nRm 4 164 777) s m args below meth c (45 + 27 * i) (215 + 102 * i) (MQ below (va_Qv (fun _ : Unit => True) (fun _ t => NH G B (ord 0 0) (ord 0 0 + 165) [] t.heap) (fun z => B + ord 0 0 ≤ z)) args s 164 777 (fun z => B + ord 0 0 ≤ z)) 95 [some (.inr (0, 0)), some (.inl (nI i))] [] (ord 11 0 + 1 + 27 * i) [(ord 11 0, .inl (G.2.2.2 (2 + 2), 4, .inr (.inr (.inr (.inr (fun k => if k < i then (fun k => some (G.2.2.1 12 (k))) k else none)))))), (ord 0 0, .inr (9, [.ref (G.2.2.1 1 (0)), .ref (G.2.2.1 7 (0)), .int 0, .ref (G.2.2.1 9 (0)), .int 0, .ref (G.2.2.1 11 (0)), .int 0, .int 0, .null, .null, .null, .null]))] := by
    intro r
    induction r with
    | zero =>
      intro i hi0
      have hi0 : i = 4 := by omega
      subst hi0
      refine nj_iload_n E d_X9_init_95 rfl ?_
      refine nj_iconst (v := 4) E d_X9_init_96 (by decide) ?_
      refine nj_icmp_ge (tgt := 119) E d_X9_init_97 (by decide) (fun _ => ?_) (fun h => absurd (by decide) h)
      refine nj_dropA (g' := (fun k => some (G.2.2.1 12 (k)))) (by rw [FC_at (show (0 : Nat) < 1 by decide)]; rfl) (fun j hj => if_pos hj) (by simp only [ord] <;> omega) ?_
      refine nj_aload_n E d_X9_init_119 rfl ?_
      refine nj_new (f := 16) (i := 0) (ci := 3) (fs := [.null, .null, .int 0]) E (wa_t 157 (by decide +kernel) rfl) (wa_t 158 (by decide +kernel) rfl) (wa_t 8 (by decide +kernel) rfl) rfl inX3 okX3 rfl (fun j hj => by rcases (show j = 0 ∨ j = 1 ∨ j = 2 by omega) with rfl | rfl | rfl <;> rfl) (by decide) rfl (by show _ ≤ 164; omega) (by show _ ≤ 777; omega) d_X9_init_120 ?_
      refine nj_dup E d_X9_init_123 ?_
      refine nj_callN (host := "BoundChains") (k := 0) (extra := []) E (n_X3 l G B hG 0 (by omega)) (by decide) kc_X3_init (wa_t 8 (by decide +kernel) rfl) (wa_t 160 (by decide +kernel) rfl) rfl (by decide +kernel) rfl (by decide) ⟨Nat.le_of_ble_eq_true rfl, Nat.le_of_ble_eq_true rfl⟩ rfl (by simp) rfl (by simp only [ord] <;> omega) (fun o h1 h2 => nov1 (by simp only [ord] at h1 ⊢; omega)) ⟨by show _ ≤ 164; omega, by show _ ≤ 777; omega⟩ d_X9_init_124 ?_
      refine nj_putF (ci := 9) (j := 8) (o0 := ord 0 0) (fs := [.ref (G.2.2.1 1 (0)), .ref (G.2.2.1 7 (0)), .int 0, .ref (G.2.2.1 9 (0)), .int 0, .ref (G.2.2.1 11 (0)), .int 0, .int 0, .null, .null, .null, .null]) (ov' := [(ord 0 0, .inr (9, [.ref (G.2.2.1 1 (0)), .ref (G.2.2.1 7 (0)), .int 0, .ref (G.2.2.1 9 (0)), .int 0, .ref (G.2.2.1 11 (0)), .int 0, .int 0, .ref (G.2.2.1 16 (0)), .null, .null, .null]))]) (tj := .object "BoundChains$Closure") E hin rfl inX9 okX9 nmX9 (by decide) (wa_t 236 (by decide +kernel) rfl) rfl rfl (by decide +kernel) (fun a => ⟨rfl, rfl⟩) (Nat.le_of_ble_eq_true rfl) (show (0 : Nat) < 1 by decide) rfl (Nat.le_refl _) (by simp only [ord] <;> omega) (nov_p rfl) (nov_p rfl) (fun o h => (nov_n h).trans (nov_n h).symm) d_X9_init_127 ?_
      refine nj_aload_n E d_X9_init_130 rfl ?_
      refine nj_new (f := 16) (i := 1) (ci := 3) (fs := [.null, .null, .int 0]) E (wa_t 157 (by decide +kernel) rfl) (wa_t 158 (by decide +kernel) rfl) (wa_t 8 (by decide +kernel) rfl) rfl inX3 okX3 rfl (fun j hj => by rcases (show j = 0 ∨ j = 1 ∨ j = 2 by omega) with rfl | rfl | rfl <;> rfl) (by decide) rfl (by show _ ≤ 164; omega) (by show _ ≤ 777; omega) d_X9_init_131 ?_
      refine nj_dup E d_X9_init_134 ?_
      refine nj_callN (host := "BoundChains") (k := 0) (extra := []) E (n_X3 l G B hG 1 (by omega)) (by decide) kc_X3_init (wa_t 8 (by decide +kernel) rfl) (wa_t 160 (by decide +kernel) rfl) rfl (by decide +kernel) rfl (by decide) ⟨Nat.le_of_ble_eq_true rfl, Nat.le_of_ble_eq_true rfl⟩ rfl (by simp) rfl (by simp only [ord] <;> omega) (fun o h1 h2 => nov1 (by simp only [ord] at h1 ⊢; omega)) ⟨by show _ ≤ 164; omega, by show _ ≤ 777; omega⟩ d_X9_init_135 ?_
      refine nj_putF (ci := 9) (j := 9) (o0 := ord 0 0) (fs := [.ref (G.2.2.1 1 (0)), .ref (G.2.2.1 7 (0)), .int 0, .ref (G.2.2.1 9 (0)), .int 0, .ref (G.2.2.1 11 (0)), .int 0, .int 0, .ref (G.2.2.1 16 (0)), .null, .null, .null]) (ov' := [(ord 0 0, .inr (9, [.ref (G.2.2.1 1 (0)), .ref (G.2.2.1 7 (0)), .int 0, .ref (G.2.2.1 9 (0)), .int 0, .ref (G.2.2.1 11 (0)), .int 0, .int 0, .ref (G.2.2.1 16 (0)), .ref (G.2.2.1 16 (1)), .null, .null]))]) (tj := .object "BoundChains$Closure") E hin rfl inX9 okX9 nmX9 (by decide) (wa_t 237 (by decide +kernel) rfl) rfl rfl (by decide +kernel) (fun a => ⟨rfl, rfl⟩) (Nat.le_of_ble_eq_true rfl) (show (0 : Nat) < 1 by decide) rfl (Nat.le_refl _) (by simp only [ord] <;> omega) (nov_p rfl) (nov_p rfl) (fun o h => (nov_n h).trans (nov_n h).symm) d_X9_init_138 ?_
      refine nj_aload_n E d_X9_init_141 rfl ?_
      refine nj_new (f := 19) (i := 0) (ci := 2) (fs := [.int 0, .null, .null]) E (wa_t 175 (by decide +kernel) rfl) (wa_t 176 (by decide +kernel) rfl) (wa_t 9 (by decide +kernel) rfl) rfl inX2 okX2 rfl (fun j hj => by rcases (show j = 0 ∨ j = 1 ∨ j = 2 by omega) with rfl | rfl | rfl <;> rfl) (by decide) rfl (by show _ ≤ 164; omega) (by show _ ≤ 777; omega) d_X9_init_142 ?_
      refine nj_dup E d_X9_init_145 ?_
      refine nj_callN (host := "BoundChains") (k := 0) (extra := []) E (n_X2 l G B hG) (by decide) kc_X2_init (wa_t 9 (by decide +kernel) rfl) (wa_t 178 (by decide +kernel) rfl) rfl (by decide +kernel) rfl (by decide) ⟨Nat.le_of_ble_eq_true rfl, Nat.le_of_ble_eq_true rfl⟩ rfl (by simp) rfl (by simp only [ord] <;> omega) (fun o h1 h2 => nov1 (by simp only [ord] at h1 ⊢; omega)) ⟨by show _ ≤ 164; omega, by show _ ≤ 777; omega⟩ d_X9_init_146 ?_
      refine nj_putF (ci := 9) (j := 10) (o0 := ord 0 0) (fs := [.ref (G.2.2.1 1 (0)), .ref (G.2.2.1 7 (0)), .int 0, .ref (G.2.2.1 9 (0)), .int 0, .ref (G.2.2.1 11 (0)), .int 0, .int 0, .ref (G.2.2.1 16 (0)), .ref (G.2.2.1 16 (1)), .null, .null]) (ov' := [(ord 0 0, .inr (9, [.ref (G.2.2.1 1 (0)), .ref (G.2.2.1 7 (0)), .int 0, .ref (G.2.2.1 9 (0)), .int 0, .ref (G.2.2.1 11 (0)), .int 0, .int 0, .ref (G.2.2.1 16 (0)), .ref (G.2.2.1 16 (1)), .ref (G.2.2.1 19 (0)), .null]))]) (tj := .object "BoundChains$Chain") E hin rfl inX9 okX9 nmX9 (by decide) (wa_t 238 (by decide +kernel) rfl) rfl rfl (by decide +kernel) (fun a => ⟨rfl, rfl⟩) (Nat.le_of_ble_eq_true rfl) (show (0 : Nat) < 1 by decide) rfl (Nat.le_refl _) (by simp only [ord] <;> omega) (nov_p rfl) (nov_p rfl) (fun o h => (nov_n h).trans (nov_n h).symm) d_X9_init_149 ?_
      refine nj_aload_n E d_X9_init_152 rfl ?_
      refine nj_new (f := 22) (i := 0) (ci := 7) (fs := [.null, .int 0, .int 0, .int 0, .int 0, .int 0, .int 0]) E (wa_t 196 (by decide +kernel) rfl) (wa_t 197 (by decide +kernel) rfl) (wa_t 10 (by decide +kernel) rfl) rfl inX7 okX7 rfl (fun j hj => by rcases (show j = 0 ∨ j = 1 ∨ j = 2 ∨ j = 3 ∨ j = 4 ∨ j = 5 ∨ j = 6 by omega) with rfl | rfl | rfl | rfl | rfl | rfl | rfl <;> rfl) (by decide) rfl (by show _ ≤ 164; omega) (by show _ ≤ 777; omega) d_X9_init_153 ?_
      refine nj_dup E d_X9_init_156 ?_
      refine nj_callN (host := "BoundChains") (k := 0) (extra := []) E (n_X7 l G B hG) (by decide) kc_X7_init (wa_t 10 (by decide +kernel) rfl) (wa_t 199 (by decide +kernel) rfl) rfl (by decide +kernel) rfl (by decide) ⟨Nat.le_of_ble_eq_true rfl, Nat.le_of_ble_eq_true rfl⟩ rfl (by simp) rfl (by simp only [ord] <;> omega) (fun o h1 h2 => nov1 (by simp only [ord] at h1 ⊢; omega)) ⟨by show _ ≤ 164; omega, by show _ ≤ 777; omega⟩ d_X9_init_157 ?_
      refine nj_putF (ci := 9) (j := 11) (o0 := ord 0 0) (fs := [.ref (G.2.2.1 1 (0)), .ref (G.2.2.1 7 (0)), .int 0, .ref (G.2.2.1 9 (0)), .int 0, .ref (G.2.2.1 11 (0)), .int 0, .int 0, .ref (G.2.2.1 16 (0)), .ref (G.2.2.1 16 (1)), .ref (G.2.2.1 19 (0)), .null]) (ov' := [(ord 0 0, .inr (9, [.ref (G.2.2.1 1 (0)), .ref (G.2.2.1 7 (0)), .int 0, .ref (G.2.2.1 9 (0)), .int 0, .ref (G.2.2.1 11 (0)), .int 0, .int 0, .ref (G.2.2.1 16 (0)), .ref (G.2.2.1 16 (1)), .ref (G.2.2.1 19 (0)), .ref (G.2.2.1 22 (0))]))]) (tj := .object "BoundChains$Invocation") E hin rfl inX9 okX9 nmX9 (by decide) (wa_t 239 (by decide +kernel) rfl) rfl rfl (by decide +kernel) (fun a => ⟨rfl, rfl⟩) (Nat.le_of_ble_eq_true rfl) (show (0 : Nat) < 1 by decide) rfl (Nat.le_refl _) (by simp only [ord] <;> omega) (nov_p rfl) (nov_p rfl) (fun o h => (nov_n h).trans (nov_n h).symm) d_X9_init_160 ?_
      refine nj_done (by rw [FC_at (show (0 : Nat) < 1 by decide)]; rfl) ?_
      refine nj_widen (k1 := 164) (k2 := 777) (by omega) (by omega) ?_
      exact nj_vret E hr hlk (by simp only [ord] <;> omega) d_X9_init_163
    | succ r ih =>
      intro i hi0
      refine nj_iload_n E d_X9_init_95 rfl ?_
      refine nj_iconst (v := 4) E d_X9_init_96 (by decide) ?_
      refine nj_icmp_ge (tgt := 119) E d_X9_init_97 (by decide) (fun h => absurd h (fun h => nI_ge (b := 4) (show i < 4 by omega) (by omega) h)) (fun _ => ?_)
      refine nj_aload_n E d_X9_init_100 rfl ?_
      refine nj_getF (ci := 9) (j := 5) (f' := 11) (i' := 0) (o0 := ord 0 0) (fs := [.ref (G.2.2.1 1 (0)), .ref (G.2.2.1 7 (0)), .int 0, .ref (G.2.2.1 9 (0)), .int 0, .ref (G.2.2.1 11 (0)), .int 0, .int 0, .null, .null, .null, .null]) E rfl inX9 (by decide) (wa_t 233 (by decide +kernel) rfl) (show (0 : Nat) < 1 by decide) rfl (Nat.le_refl _) (by simp only [ord] <;> omega) ((nov_n (by simp only [ord] <;> omega)).trans (nov_p rfl)) rfl d_X9_init_101 ?_
      refine nj_iload_n E d_X9_init_104 rfl ?_
      refine nj_new (f := 12) (i := i) (ci := 4) (fs := [.int 0, .null, .null]) E (wa_t 112 (by decide +kernel) rfl) (wa_t 114 (by decide +kernel) rfl) (wa_t 6 (by decide +kernel) rfl) rfl inX4 okX4 rfl (fun j hj => by rcases (show j = 0 ∨ j = 1 ∨ j = 2 by omega) with rfl | rfl | rfl <;> rfl) (show i < 4 by omega) (by simp only [ord] <;> omega) (by show _ ≤ 164; omega) (by show _ ≤ 777; omega) d_X9_init_105 ?_
      refine nj_dup E d_X9_init_108 ?_
      refine nj_call (k := 0) (extra := []) E (n_X4 l G B hG i (by omega)) (wa_t 115 (by decide +kernel) rfl) kc_X4_init (wa_t 6 (by decide +kernel) rfl) (wa_t 116 (by decide +kernel) rfl) rfl (by decide +kernel) rfl (by decide) ⟨Nat.le_of_ble_eq_true rfl, Nat.le_of_ble_eq_true rfl⟩ rfl (by simp) rfl (by simp only [ord] <;> omega) (fun o h1 h2 => nov2 (by simp only [ord] at h1 ⊢; omega) (by simp only [ord] at h1 ⊢; omega)) ⟨by show _ ≤ 164; omega, by show _ ≤ 777; omega⟩ d_X9_init_109 ?_
      refine nj_aast (fa := 11) (ia := 0) (oa := ord 11 0) (f' := 12) (i' := i) (o' := ord 12 (i)) (u := 2) (N := 4) (ci := 4) (vs := xf G mu0 12 (i)) (g := fun k => if k < i then (fun k => some (G.2.2.1 12 (k))) k else none) (ov' := [(ord 11 0, .inl (G.2.2.2 (2 + 2), 4, .inr (.inr (.inr (.inr (fun k => if k < (i + 1) then (fun k => some (G.2.2.1 12 (k))) k else none)))))), (ord 0 0, .inr (9, [.ref (G.2.2.1 1 (0)), .ref (G.2.2.1 7 (0)), .int 0, .ref (G.2.2.1 9 (0)), .int 0, .ref (G.2.2.1 11 (0)), .int 0, .int 0, .null, .null, .null, .null]))]) E (show (0 : Nat) < 1 by decide) rfl (by simp only [ord] <;> omega) (by simp only [ord] <;> omega) (nov_p rfl) (show i < 4 by omega) rfl (by simp only [ord] <;> omega) (by simp only [ord] <;> omega) ((nov2 (by simp only [ord] <;> omega) (by simp only [ord] <;> omega)).trans (by rw [FC_at (show i < 4 by omega)]; rfl)) rfl rfl (in_nI (by omega) (by omega)) ((nov_p rfl).trans (by rw [cl_nI (by omega)]; exact congrArg (fun g => (.inl (G.2.2.2 (2 + 2), 4, .inr (.inr (.inr (.inr g)))) : va_E)) (up_if (fun k => some (G.2.2.1 12 (k))) i).symm)) (fun o h => (nov_n h).trans (nov_n h).symm) d_X9_init_112 ?_
      refine nj_iinc (v := nI (i + 1)) E d_X9_init_113 rfl (nI_inc i) rfl ?_
      refine nj_goto (tgt := 95) E d_X9_init_116 (by decide) ?_
      refine nj_n (n' := ord 11 0 + 1 + 27 * (i + 1)) (by simp only [ord] <;> omega) ?_
      refine nj_widen (k1 := 45 + 27 * (i + 1)) (k2 := 215 + 102 * (i + 1)) (by omega) (by omega) ?_
      exact ih (i + 1) (by omega)
  have lp61 : ∀ (r i : Nat), i + r = 4 → NJ G B (ord 0 0) (fun z => B + ord 0 0 ≤ z) 2 p l e (nRm 4 164 777) s m args below meth c (40 + 1 * i) (195 + 4 * i) (MQ below (va_Qv (fun _ : Unit => True) (fun _ t => NH G B (ord 0 0) (ord 0 0 + 165) [] t.heap) (fun z => B + ord 0 0 ≤ z)) args s 164 777 (fun z => B + ord 0 0 ≤ z)) 61 [some (.inr (0, 0)), some (.inl (nI i))] [] (ord 9 0 + 1 + 1 * i) [(ord 9 0, .inl (G.2.2.2 (1 + 2), 4, .inr (.inr (.inr (.inr (fun k => if k < i then (fun k => some (G.2.2.1 10 (k))) k else none)))))), (ord 0 0, .inr (9, [.ref (G.2.2.1 1 (0)), .ref (G.2.2.1 7 (0)), .int 0, .ref (G.2.2.1 9 (0)), .int 0, .null, .int 0, .int 0, .null, .null, .null, .null]))] := by
    intro r
    induction r with
    | zero =>
      intro i hi0
      have hi0 : i = 4 := by omega
      subst hi0
      refine nj_iload_n E d_X9_init_61 rfl ?_
      refine nj_iconst (v := 4) E d_X9_init_62 (by decide) ?_
      refine nj_icmp_ge (tgt := 85) E d_X9_init_63 (by decide) (fun _ => ?_) (fun h => absurd (by decide) h)
      refine nj_dropA (g' := (fun k => some (G.2.2.1 10 (k)))) (by rw [FC_at (show (0 : Nat) < 1 by decide)]; rfl) (fun j hj => if_pos hj) (by simp only [ord] <;> omega) ?_
      refine nj_aload_n E d_X9_init_85 rfl ?_
      refine nj_iconst (v := 4) E d_X9_init_86 (by decide) ?_
      refine nj_anew (f := 11) (i := 0) (N := 4) (u := 2) (C := "BoundChains$Component") E rfl (by decide) rfl (wa_t 112 (by decide +kernel) rfl) (by decide) rfl (by decide) rfl (by decide) (by show _ ≤ 164; omega) (by show _ ≤ 777; omega) d_X9_init_87 ?_
      refine nj_putF (ci := 9) (j := 5) (o0 := ord 0 0) (fs := [.ref (G.2.2.1 1 (0)), .ref (G.2.2.1 7 (0)), .int 0, .ref (G.2.2.1 9 (0)), .int 0, .null, .int 0, .int 0, .null, .null, .null, .null]) (ov' := [(ord 11 0, .inl (G.2.2.2 (2 + 2), 4, .inr (.inr (.inr (.inr (fun _ => none)))))), (ord 0 0, .inr (9, [.ref (G.2.2.1 1 (0)), .ref (G.2.2.1 7 (0)), .int 0, .ref (G.2.2.1 9 (0)), .int 0, .ref (G.2.2.1 11 (0)), .int 0, .int 0, .null, .null, .null, .null]))]) (tj := .array (.object "BoundChains$Component")) E hin rfl inX9 okX9 nmX9 (by decide) (wa_t 233 (by decide +kernel) rfl) rfl rfl (by decide +kernel) (fun a => ⟨rfl, rfl⟩) (Nat.le_of_ble_eq_true rfl) (show (0 : Nat) < 1 by decide) rfl (Nat.le_refl _) (by simp only [ord] <;> omega) ((nov_n (by simp only [ord] <;> omega)).trans (nov_p rfl)) ((nov_n (by simp only [ord] <;> omega)).trans (nov_p rfl)) (fun o h => nov_a2 h) d_X9_init_90 ?_
      refine nj_iconst (v := 0) E d_X9_init_93 (by decide) ?_
      refine nj_istore_n E d_X9_init_94 (by decide) rfl ?_
      refine nj_ove (ov' := [(ord 11 0, .inl (G.2.2.2 (2 + 2), 4, .inr (.inr (.inr (.inr (fun k => if k < 0 then (fun k => some (G.2.2.1 12 (k))) k else none)))))), (ord 0 0, .inr (9, [.ref (G.2.2.1 1 (0)), .ref (G.2.2.1 7 (0)), .int 0, .ref (G.2.2.1 9 (0)), .int 0, .ref (G.2.2.1 11 (0)), .int 0, .int 0, .null, .null, .null, .null]))]) (by rw [← up_0]) ?_
      exact lp95 4 0 rfl
    | succ r ih =>
      intro i hi0
      refine nj_iload_n E d_X9_init_61 rfl ?_
      refine nj_iconst (v := 4) E d_X9_init_62 (by decide) ?_
      refine nj_icmp_ge (tgt := 85) E d_X9_init_63 (by decide) (fun h => absurd h (fun h => nI_ge (b := 4) (show i < 4 by omega) (by omega) h)) (fun _ => ?_)
      refine nj_aload_n E d_X9_init_66 rfl ?_
      refine nj_getF (ci := 9) (j := 3) (f' := 9) (i' := 0) (o0 := ord 0 0) (fs := [.ref (G.2.2.1 1 (0)), .ref (G.2.2.1 7 (0)), .int 0, .ref (G.2.2.1 9 (0)), .int 0, .null, .int 0, .int 0, .null, .null, .null, .null]) E rfl inX9 (by decide) (wa_t 231 (by decide +kernel) rfl) (show (0 : Nat) < 1 by decide) rfl (Nat.le_refl _) (by simp only [ord] <;> omega) ((nov_n (by simp only [ord] <;> omega)).trans (nov_p rfl)) rfl d_X9_init_67 ?_
      refine nj_iload_n E d_X9_init_70 rfl ?_
      refine nj_new (f := 10) (i := i) (ci := 5) (fs := [.int 0, .int 0, .int 0, .int 0]) E (wa_t 90 (by decide +kernel) rfl) (wa_t 92 (by decide +kernel) rfl) (wa_t 5 (by decide +kernel) rfl) rfl inX5 okX5 rfl (fun j hj => by rcases (show j = 0 ∨ j = 1 ∨ j = 2 ∨ j = 3 by omega) with rfl | rfl | rfl | rfl <;> rfl) (show i < 4 by omega) (by simp only [ord] <;> omega) (by show _ ≤ 164; omega) (by show _ ≤ 777; omega) d_X9_init_71 ?_
      refine nj_dup E d_X9_init_74 ?_
      refine nj_callN (host := "BoundChains") (k := 0) (extra := []) E (n_X5 l G B hG i (by omega)) (by decide) kc_X5_init (wa_t 5 (by decide +kernel) rfl) (wa_t 94 (by decide +kernel) rfl) rfl (by decide +kernel) rfl (by decide) ⟨Nat.le_of_ble_eq_true rfl, Nat.le_of_ble_eq_true rfl⟩ rfl (by simp) rfl (by simp only [ord] <;> omega) (fun o h1 h2 => nov2 (by simp only [ord] at h1 ⊢; omega) (by simp only [ord] at h1 ⊢; omega)) ⟨by show _ ≤ 164; omega, by show _ ≤ 777; omega⟩ d_X9_init_75 ?_
      refine nj_aast (fa := 9) (ia := 0) (oa := ord 9 0) (f' := 10) (i' := i) (o' := ord 10 (i)) (u := 1) (N := 4) (ci := 5) (vs := xf G mu0 10 (i)) (g := fun k => if k < i then (fun k => some (G.2.2.1 10 (k))) k else none) (ov' := [(ord 9 0, .inl (G.2.2.2 (1 + 2), 4, .inr (.inr (.inr (.inr (fun k => if k < (i + 1) then (fun k => some (G.2.2.1 10 (k))) k else none)))))), (ord 0 0, .inr (9, [.ref (G.2.2.1 1 (0)), .ref (G.2.2.1 7 (0)), .int 0, .ref (G.2.2.1 9 (0)), .int 0, .null, .int 0, .int 0, .null, .null, .null, .null]))]) E (show (0 : Nat) < 1 by decide) rfl (by simp only [ord] <;> omega) (by simp only [ord] <;> omega) (nov_p rfl) (show i < 4 by omega) rfl (by simp only [ord] <;> omega) (by simp only [ord] <;> omega) ((nov2 (by simp only [ord] <;> omega) (by simp only [ord] <;> omega)).trans (by rw [FC_at (show i < 4 by omega)]; rfl)) rfl rfl (in_nI (by omega) (by omega)) ((nov_p rfl).trans (by rw [cl_nI (by omega)]; exact congrArg (fun g => (.inl (G.2.2.2 (1 + 2), 4, .inr (.inr (.inr (.inr g)))) : va_E)) (up_if (fun k => some (G.2.2.1 10 (k))) i).symm)) (fun o h => (nov_n h).trans (nov_n h).symm) d_X9_init_78 ?_
      refine nj_iinc (v := nI (i + 1)) E d_X9_init_79 rfl (nI_inc i) rfl ?_
      refine nj_goto (tgt := 61) E d_X9_init_82 (by decide) ?_
      refine nj_n (n' := ord 9 0 + 1 + 1 * (i + 1)) (by simp only [ord] <;> omega) ?_
      refine nj_widen (k1 := 40 + 1 * (i + 1)) (k2 := 195 + 4 * (i + 1)) (by omega) (by omega) ?_
      exact ih (i + 1) (by omega)
  have lp26 : ∀ (r i : Nat), i + r = 8 → NJ G B (ord 0 0) (fun z => B + ord 0 0 ≤ z) 2 p l e (nRm 4 164 777) s m args below meth c (7 + 4 * i) (71 + 15 * i) (MQ below (va_Qv (fun _ : Unit => True) (fun _ t => NH G B (ord 0 0) (ord 0 0 + 165) [] t.heap) (fun z => B + ord 0 0 ≤ z)) args s 164 777 (fun z => B + ord 0 0 ≤ z)) 26 [some (.inr (0, 0)), some (.inl (nI i))] [] (ord 7 0 + 1 + 4 * i) [(ord 7 0, .inl (G.2.2.2 (0 + 2), 8, .inr (.inr (.inr (.inr (fun k => if k < i then (fun k => some (G.2.2.1 8 (k))) k else none)))))), (ord 0 0, .inr (9, [.ref (G.2.2.1 1 (0)), .ref (G.2.2.1 7 (0)), .int 0, .null, .int 0, .null, .int 0, .int 0, .null, .null, .null, .null]))] := by
    intro r
    induction r with
    | zero =>
      intro i hi0
      have hi0 : i = 8 := by omega
      subst hi0
      refine nj_iload_n E d_X9_init_26 rfl ?_
      refine nj_bipush (v := 8) E d_X9_init_27 (by decide) ?_
      refine nj_icmp_ge (tgt := 51) E d_X9_init_29 (by decide) (fun _ => ?_) (fun h => absurd (by decide) h)
      refine nj_dropA (g' := (fun k => some (G.2.2.1 8 (k)))) (by rw [FC_at (show (0 : Nat) < 1 by decide)]; rfl) (fun j hj => if_pos hj) (by simp only [ord] <;> omega) ?_
      refine nj_aload_n E d_X9_init_51 rfl ?_
      refine nj_iconst (v := 4) E d_X9_init_52 (by decide) ?_
      refine nj_anew (f := 9) (i := 0) (N := 4) (u := 1) (C := "BoundChains$Decorator") E rfl (by decide) rfl (wa_t 90 (by decide +kernel) rfl) (by decide) rfl (by decide) rfl (by decide) (by show _ ≤ 164; omega) (by show _ ≤ 777; omega) d_X9_init_53 ?_
      refine nj_putF (ci := 9) (j := 3) (o0 := ord 0 0) (fs := [.ref (G.2.2.1 1 (0)), .ref (G.2.2.1 7 (0)), .int 0, .null, .int 0, .null, .int 0, .int 0, .null, .null, .null, .null]) (ov' := [(ord 9 0, .inl (G.2.2.2 (1 + 2), 4, .inr (.inr (.inr (.inr (fun _ => none)))))), (ord 0 0, .inr (9, [.ref (G.2.2.1 1 (0)), .ref (G.2.2.1 7 (0)), .int 0, .ref (G.2.2.1 9 (0)), .int 0, .null, .int 0, .int 0, .null, .null, .null, .null]))]) (tj := .array (.object "BoundChains$Decorator")) E hin rfl inX9 okX9 nmX9 (by decide) (wa_t 231 (by decide +kernel) rfl) rfl rfl (by decide +kernel) (fun a => ⟨rfl, rfl⟩) (Nat.le_of_ble_eq_true rfl) (show (0 : Nat) < 1 by decide) rfl (Nat.le_refl _) (by simp only [ord] <;> omega) ((nov_n (by simp only [ord] <;> omega)).trans (nov_p rfl)) ((nov_n (by simp only [ord] <;> omega)).trans (nov_p rfl)) (fun o h => nov_a2 h) d_X9_init_56 ?_
      refine nj_iconst (v := 0) E d_X9_init_59 (by decide) ?_
      refine nj_istore_n E d_X9_init_60 (by decide) rfl ?_
      refine nj_ove (ov' := [(ord 9 0, .inl (G.2.2.2 (1 + 2), 4, .inr (.inr (.inr (.inr (fun k => if k < 0 then (fun k => some (G.2.2.1 10 (k))) k else none)))))), (ord 0 0, .inr (9, [.ref (G.2.2.1 1 (0)), .ref (G.2.2.1 7 (0)), .int 0, .ref (G.2.2.1 9 (0)), .int 0, .null, .int 0, .int 0, .null, .null, .null, .null]))]) (by rw [← up_0]) ?_
      exact lp61 4 0 rfl
    | succ r ih =>
      intro i hi0
      refine nj_iload_n E d_X9_init_26 rfl ?_
      refine nj_bipush (v := 8) E d_X9_init_27 (by decide) ?_
      refine nj_icmp_ge (tgt := 51) E d_X9_init_29 (by decide) (fun h => absurd h (fun h => nI_ge (b := 8) (show i < 8 by omega) (by omega) h)) (fun _ => ?_)
      refine nj_aload_n E d_X9_init_32 rfl ?_
      refine nj_getF (ci := 9) (j := 1) (f' := 7) (i' := 0) (o0 := ord 0 0) (fs := [.ref (G.2.2.1 1 (0)), .ref (G.2.2.1 7 (0)), .int 0, .null, .int 0, .null, .int 0, .int 0, .null, .null, .null, .null]) E rfl inX9 (by decide) (wa_t 229 (by decide +kernel) rfl) (show (0 : Nat) < 1 by decide) rfl (Nat.le_refl _) (by simp only [ord] <;> omega) ((nov_n (by simp only [ord] <;> omega)).trans (nov_p rfl)) rfl d_X9_init_33 ?_
      refine nj_iload_n E d_X9_init_36 rfl ?_
      refine nj_new (f := 8) (i := i) (ci := 6) (fs := [.int 0, .int 0, .int 0, .null]) E (wa_t 65 (by decide +kernel) rfl) (wa_t 67 (by decide +kernel) rfl) (wa_t 4 (by decide +kernel) rfl) rfl inX6 okX6 rfl (fun j hj => by rcases (show j = 0 ∨ j = 1 ∨ j = 2 ∨ j = 3 by omega) with rfl | rfl | rfl | rfl <;> rfl) (show i < 8 by omega) (by simp only [ord] <;> omega) (by show _ ≤ 164; omega) (by show _ ≤ 777; omega) d_X9_init_37 ?_
      refine nj_dup E d_X9_init_40 ?_
      refine nj_callN (host := "BoundChains") (k := 0) (extra := []) E (n_X6 l G B hG i (by omega)) (by decide) kc_X6_init (wa_t 4 (by decide +kernel) rfl) (wa_t 69 (by decide +kernel) rfl) rfl (by decide +kernel) rfl (by decide) ⟨Nat.le_of_ble_eq_true rfl, Nat.le_of_ble_eq_true rfl⟩ rfl (by simp) rfl (by simp only [ord] <;> omega) (fun o h1 h2 => nov2 (by simp only [ord] at h1 ⊢; omega) (by simp only [ord] at h1 ⊢; omega)) ⟨by show _ ≤ 164; omega, by show _ ≤ 777; omega⟩ d_X9_init_41 ?_
      refine nj_aast (fa := 7) (ia := 0) (oa := ord 7 0) (f' := 8) (i' := i) (o' := ord 8 (i)) (u := 0) (N := 8) (ci := 6) (vs := xf G mu0 8 (i)) (g := fun k => if k < i then (fun k => some (G.2.2.1 8 (k))) k else none) (ov' := [(ord 7 0, .inl (G.2.2.2 (0 + 2), 8, .inr (.inr (.inr (.inr (fun k => if k < (i + 1) then (fun k => some (G.2.2.1 8 (k))) k else none)))))), (ord 0 0, .inr (9, [.ref (G.2.2.1 1 (0)), .ref (G.2.2.1 7 (0)), .int 0, .null, .int 0, .null, .int 0, .int 0, .null, .null, .null, .null]))]) E (show (0 : Nat) < 1 by decide) rfl (by simp only [ord] <;> omega) (by simp only [ord] <;> omega) (nov_p rfl) (show i < 8 by omega) rfl (by simp only [ord] <;> omega) (by simp only [ord] <;> omega) ((nov2 (by simp only [ord] <;> omega) (by simp only [ord] <;> omega)).trans (by rw [FC_at (show i < 8 by omega)]; rfl)) rfl rfl (in_nI (by omega) (by omega)) ((nov_p rfl).trans (by rw [cl_nI (by omega)]; exact congrArg (fun g => (.inl (G.2.2.2 (0 + 2), 8, .inr (.inr (.inr (.inr g)))) : va_E)) (up_if (fun k => some (G.2.2.1 8 (k))) i).symm)) (fun o h => (nov_n h).trans (nov_n h).symm) d_X9_init_44 ?_
      refine nj_iinc (v := nI (i + 1)) E d_X9_init_45 rfl (nI_inc i) rfl ?_
      refine nj_goto (tgt := 26) E d_X9_init_48 (by decide) ?_
      refine nj_n (n' := ord 7 0 + 1 + 4 * (i + 1)) (by simp only [ord] <;> omega) ?_
      refine nj_widen (k1 := 7 + 4 * (i + 1)) (k2 := 71 + 15 * (i + 1)) (by omega) (by omega) ?_
      exact ih (i + 1) (by omega)
  refine nj_aload_n E d_X9_init_0 rfl ?_
  refine nj_objInit E (wa_t 17 (by decide +kernel) rfl) (by decide) ⟨Nat.le_of_ble_eq_true rfl, Nat.le_of_ble_eq_true rfl⟩ d_X9_init_1 ?_
  refine nj_aload_n E d_X9_init_4 rfl ?_
  refine nj_new (f := 1) (i := 0) (ci := 0) (fs := [.int 0, .null, .null, .null]) E (wa_t 20 (by decide +kernel) rfl) (wa_t 21 (by decide +kernel) rfl) (wa_t 2 (by decide +kernel) rfl) rfl inX0 okX0 rfl (fun j hj => by rcases (show j = 0 ∨ j = 1 ∨ j = 2 ∨ j = 3 by omega) with rfl | rfl | rfl | rfl <;> rfl) (by decide) rfl (by show _ ≤ 164; omega) (by show _ ≤ 777; omega) d_X9_init_5 ?_
  refine nj_dup E d_X9_init_8 ?_
  refine nj_callN (host := "BoundChains") (k := 0) (extra := []) E (n_X0 l G B hG) (by decide) kc_X0_init (wa_t 2 (by decide +kernel) rfl) (wa_t 23 (by decide +kernel) rfl) rfl (by decide +kernel) rfl (by decide) ⟨Nat.le_of_ble_eq_true rfl, Nat.le_of_ble_eq_true rfl⟩ rfl (by simp) rfl (by simp only [ord] <;> omega) (fun o h1 h2 => nov1 (by simp only [ord] at h1 ⊢; omega)) ⟨by show _ ≤ 164; omega, by show _ ≤ 777; omega⟩ d_X9_init_9 ?_
  refine nj_putF (ci := 9) (j := 0) (o0 := ord 0 0) (fs := [.null, .null, .int 0, .null, .int 0, .null, .int 0, .int 0, .null, .null, .null, .null]) (ov' := [(ord 0 0, .inr (9, [.ref (G.2.2.1 1 (0)), .null, .int 0, .null, .int 0, .null, .int 0, .int 0, .null, .null, .null, .null]))]) (tj := .object "BoundChains$BindingTypes") E hin rfl inX9 okX9 nmX9 (by decide) (wa_t 228 (by decide +kernel) rfl) rfl rfl (by decide +kernel) (fun a => ⟨rfl, rfl⟩) (Nat.le_of_ble_eq_true rfl) (show (0 : Nat) < 1 by decide) rfl (Nat.le_refl _) (by simp only [ord] <;> omega) (nov_p rfl) (nov_p rfl) (fun o h => (nov_n h).trans (nov_n h).symm) d_X9_init_12 ?_
  refine nj_aload_n E d_X9_init_15 rfl ?_
  refine nj_bipush (v := 8) E d_X9_init_16 (by decide) ?_
  refine nj_anew (f := 7) (i := 0) (N := 8) (u := 0) (C := "BoundChains$Interceptor") E rfl (by decide) rfl (wa_t 65 (by decide +kernel) rfl) (by decide) rfl (by decide) rfl (by decide) (by show _ ≤ 164; omega) (by show _ ≤ 777; omega) d_X9_init_18 ?_
  refine nj_putF (ci := 9) (j := 1) (o0 := ord 0 0) (fs := [.ref (G.2.2.1 1 (0)), .null, .int 0, .null, .int 0, .null, .int 0, .int 0, .null, .null, .null, .null]) (ov' := [(ord 7 0, .inl (G.2.2.2 (0 + 2), 8, .inr (.inr (.inr (.inr (fun _ => none)))))), (ord 0 0, .inr (9, [.ref (G.2.2.1 1 (0)), .ref (G.2.2.1 7 (0)), .int 0, .null, .int 0, .null, .int 0, .int 0, .null, .null, .null, .null]))]) (tj := .array (.object "BoundChains$Interceptor")) E hin rfl inX9 okX9 nmX9 (by decide) (wa_t 229 (by decide +kernel) rfl) rfl rfl (by decide +kernel) (fun a => ⟨rfl, rfl⟩) (Nat.le_of_ble_eq_true rfl) (show (0 : Nat) < 1 by decide) rfl (Nat.le_refl _) (by simp only [ord] <;> omega) ((nov_n (by simp only [ord] <;> omega)).trans (nov_p rfl)) ((nov_n (by simp only [ord] <;> omega)).trans (nov_p rfl)) (fun o h => nov_a2 h) d_X9_init_21 ?_
  refine nj_iconst (v := 0) E d_X9_init_24 (by decide) ?_
  refine nj_istore_n E d_X9_init_25 (by decide) rfl ?_
  refine nj_ove (ov' := [(ord 7 0, .inl (G.2.2.2 (0 + 2), 8, .inr (.inr (.inr (.inr (fun k => if k < 0 then (fun k => some (G.2.2.1 8 (k))) k else none)))))), (ord 0 0, .inr (9, [.ref (G.2.2.1 1 (0)), .ref (G.2.2.1 7 (0)), .int 0, .null, .int 0, .null, .int 0, .int 0, .null, .null, .null, .null]))]) (by rw [← up_0]) ?_
  exact lp26 8 0 rfl
