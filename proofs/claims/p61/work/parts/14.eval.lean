/-! THE RUN'S OBJECTS: X 0, PAD 1, SIGNS 2, REP 3, NOW 4, HIS 13, COM 17, RPL 22, REC 23, RING 24, SNAP 61, NN 70 -/
def m1 : Int32 := -1
def SHl : List am_D := [
  (0, 6, [some (some 1), some (some 3), some (some 23), some (some 61), none]),
  (0, 2, [some (some 2), none]),
  (1, 60, []),
  (0, 4, [some (some 4), some (some 13), some (some 17), some (some 22)]),
  (0, 5, [none, some (some 5), some (some 6), some (some 7), some (some 8), none, some (some 9), some (some 10), none, none, none, some (some 11), some (some 12), none]),
  (1, 60, []),
  (1, 60, []),
  (1, 1440, []),
  (1, 6, []),
  (1, 24, []),
  (1, 24, []),
  (1, 3, []),
  (1, 72, []),
  (0, 1, [some (some 14), some (some 15), some (some 16)]),
  (1, 60, []),
  (1, 60, []),
  (1, 60, []),
  (0, 0, [some (some 18), some (some 19), some (some 20), some (some 21), none, none]),
  (1, 24, []),
  (1, 24, []),
  (1, 24, []),
  (1, 24, []),
  (1, 60, []),
  (0, 3, [some (some 24), none, none]),
  (3, 4, [some (some 25), some (some 34), some (some 43), some (some 52)]),
  (0, 5, [none, some (some 26), some (some 27), some (some 28), some (some 29), none, some (some 30), some (some 31), none, none, none, some (some 32), some (some 33), none]),
  (1, 60, []),
  (1, 60, []),
  (1, 1440, []),
  (1, 6, []),
  (1, 24, []),
  (1, 24, []),
  (1, 3, []),
  (1, 72, []),
  (0, 5, [none, some (some 35), some (some 36), some (some 37), some (some 38), none, some (some 39), some (some 40), none, none, none, some (some 41), some (some 42), none]),
  (1, 60, []),
  (1, 60, []),
  (1, 1440, []),
  (1, 6, []),
  (1, 24, []),
  (1, 24, []),
  (1, 3, []),
  (1, 72, []),
  (0, 5, [none, some (some 44), some (some 45), some (some 46), some (some 47), none, some (some 48), some (some 49), none, none, none, some (some 50), some (some 51), none]),
  (1, 60, []),
  (1, 60, []),
  (1, 1440, []),
  (1, 6, []),
  (1, 24, []),
  (1, 24, []),
  (1, 3, []),
  (1, 72, []),
  (0, 5, [none, some (some 53), some (some 54), some (some 55), some (some 56), none, some (some 57), some (some 58), none, none, none, some (some 59), some (some 60), none]),
  (1, 60, []),
  (1, 60, []),
  (1, 1440, []),
  (1, 6, []),
  (1, 24, []),
  (1, 24, []),
  (1, 3, []),
  (1, 72, []),
  (0, 5, [none, some (some 62), some (some 63), some (some 64), some (some 65), none, some (some 66), some (some 67), none, none, none, some (some 68), some (some 69), none]),
  (1, 60, []),
  (1, 60, []),
  (1, 1440, []),
  (1, 6, []),
  (1, 24, []),
  (1, 24, []),
  (1, 3, []),
  (1, 72, [])
]
def SH : Nat → am_D := fun k => SHl.getD k (9, 0, [])
/-- a state behind the making -/
abbrev am_Z (cl sl : Nat) (F A : Nat → Nat → Int32) (L : Nat → Nat → Int64) : am_S := (70, SH, cl, sl, F, A, L)
def am_g (d : Nat) (X : am_X) (e : am_M) (pc : Nat) (lc sk : List Value) (st : am_S) (Q : am_Q) : Prop := am_Go (am_Ca X d) (X.1, X.2.1, d) e pc lc sk st Q
theorem am_gu {d : Nat} {X : am_X} {e : am_M} {pc : Nat} {lc sk : List Value} {st : am_S} {Q : am_Q} : am_g d X e pc lc sk st Q = am_one (am_Ca X d) (X.1, X.2.1, d) e (fun pc lc sk st => am_g d X e pc lc sk st Q) pc lc sk st Q := propext (go_iff (mo_ca X d))
theorem am_cg {X : am_X} {d m : Nat} {a : List Value} {s : am_S} {P : am_Q} {e : am_M} (h : am_of m = some e) (hl : (am_ag a).length ≤ am_nl e) : am_Ca X (d + 1) m a s P = am_g d X e 0 (am_en e a) [] s P := by
  show (match am_of m with | some e => (am_ag a).length ≤ am_nl e ∧ am_Go (am_Ca X d) (X.1, X.2.1, d) e 0 (am_en e a) [] s P | none => False) = _
  rw [h]
  exact propext ⟨fun h => h.2, fun h => ⟨hl, h⟩⟩
def i_rem (x y : Int32) : Int32 := x - x / y * y
def am_kc (v : Value) : Value := if v.category = 2 then am_u else v
theorem kl_1 {v0 : Value} {l : List Value} : am_kl (v0 :: l) 1 = am_kc v0 :: l := by
  unfold am_kl am_kc
  simp only [List.getElem?_cons_zero, List.getElem?_cons_succ]
  split <;> simp
theorem kl_2 {v0 v1 : Value} {l : List Value} : am_kl (v0 :: v1 :: l) 2 = v0 :: am_kc v1 :: l := by
  unfold am_kl am_kc
  simp only [List.getElem?_cons_zero, List.getElem?_cons_succ]
  split <;> simp
theorem kl_3 {v0 v1 v2 : Value} {l : List Value} : am_kl (v0 :: v1 :: v2 :: l) 3 = v0 :: v1 :: am_kc v2 :: l := by
  unfold am_kl am_kc
  simp only [List.getElem?_cons_zero, List.getElem?_cons_succ]
  split <;> simp
theorem kl_4 {v0 v1 v2 v3 : Value} {l : List Value} : am_kl (v0 :: v1 :: v2 :: v3 :: l) 4 = v0 :: v1 :: v2 :: am_kc v3 :: l := by
  unfold am_kl am_kc
  simp only [List.getElem?_cons_zero, List.getElem?_cons_succ]
  split <;> simp
theorem kl_5 {v0 v1 v2 v3 v4 : Value} {l : List Value} : am_kl (v0 :: v1 :: v2 :: v3 :: v4 :: l) 5 = v0 :: v1 :: v2 :: v3 :: am_kc v4 :: l := by
  unfold am_kl am_kc
  simp only [List.getElem?_cons_zero, List.getElem?_cons_succ]
  split <;> simp
theorem kl_6 {v0 v1 v2 v3 v4 v5 : Value} {l : List Value} : am_kl (v0 :: v1 :: v2 :: v3 :: v4 :: v5 :: l) 6 = v0 :: v1 :: v2 :: v3 :: v4 :: am_kc v5 :: l := by
  unfold am_kl am_kc
  simp only [List.getElem?_cons_zero, List.getElem?_cons_succ]
  split <;> simp
theorem kl_7 {v0 v1 v2 v3 v4 v5 v6 : Value} {l : List Value} : am_kl (v0 :: v1 :: v2 :: v3 :: v4 :: v5 :: v6 :: l) 7 = v0 :: v1 :: v2 :: v3 :: v4 :: v5 :: am_kc v6 :: l := by
  unfold am_kl am_kc
  simp only [List.getElem?_cons_zero, List.getElem?_cons_succ]
  split <;> simp
theorem kl_8 {v0 v1 v2 v3 v4 v5 v6 v7 : Value} {l : List Value} : am_kl (v0 :: v1 :: v2 :: v3 :: v4 :: v5 :: v6 :: v7 :: l) 8 = v0 :: v1 :: v2 :: v3 :: v4 :: v5 :: v6 :: am_kc v7 :: l := by
  unfold am_kl am_kc
  simp only [List.getElem?_cons_zero, List.getElem?_cons_succ]
  split <;> simp
theorem kl_9 {v0 v1 v2 v3 v4 v5 v6 v7 v8 : Value} {l : List Value} : am_kl (v0 :: v1 :: v2 :: v3 :: v4 :: v5 :: v6 :: v7 :: v8 :: l) 9 = v0 :: v1 :: v2 :: v3 :: v4 :: v5 :: v6 :: v7 :: am_kc v8 :: l := by
  unfold am_kl am_kc
  simp only [List.getElem?_cons_zero, List.getElem?_cons_succ]
  split <;> simp
theorem kl_10 {v0 v1 v2 v3 v4 v5 v6 v7 v8 v9 : Value} {l : List Value} : am_kl (v0 :: v1 :: v2 :: v3 :: v4 :: v5 :: v6 :: v7 :: v8 :: v9 :: l) 10 = v0 :: v1 :: v2 :: v3 :: v4 :: v5 :: v6 :: v7 :: v8 :: am_kc v9 :: l := by
  unfold am_kl am_kc
  simp only [List.getElem?_cons_zero, List.getElem?_cons_succ]
  split <;> simp
theorem kl_11 {v0 v1 v2 v3 v4 v5 v6 v7 v8 v9 v10 : Value} {l : List Value} : am_kl (v0 :: v1 :: v2 :: v3 :: v4 :: v5 :: v6 :: v7 :: v8 :: v9 :: v10 :: l) 11 = v0 :: v1 :: v2 :: v3 :: v4 :: v5 :: v6 :: v7 :: v8 :: v9 :: am_kc v10 :: l := by
  unfold am_kl am_kc
  simp only [List.getElem?_cons_zero, List.getElem?_cons_succ]
  split <;> simp
theorem kl_12 {v0 v1 v2 v3 v4 v5 v6 v7 v8 v9 v10 v11 : Value} {l : List Value} : am_kl (v0 :: v1 :: v2 :: v3 :: v4 :: v5 :: v6 :: v7 :: v8 :: v9 :: v10 :: v11 :: l) 12 = v0 :: v1 :: v2 :: v3 :: v4 :: v5 :: v6 :: v7 :: v8 :: v9 :: v10 :: am_kc v11 :: l := by
  unfold am_kl am_kc
  simp only [List.getElem?_cons_zero, List.getElem?_cons_succ]
  split <;> simp
theorem kl_13 {v0 v1 v2 v3 v4 v5 v6 v7 v8 v9 v10 v11 v12 : Value} {l : List Value} : am_kl (v0 :: v1 :: v2 :: v3 :: v4 :: v5 :: v6 :: v7 :: v8 :: v9 :: v10 :: v11 :: v12 :: l) 13 = v0 :: v1 :: v2 :: v3 :: v4 :: v5 :: v6 :: v7 :: v8 :: v9 :: v10 :: v11 :: am_kc v12 :: l := by
  unfold am_kl am_kc
  simp only [List.getElem?_cons_zero, List.getElem?_cons_succ]
  split <;> simp
theorem kl_14 {v0 v1 v2 v3 v4 v5 v6 v7 v8 v9 v10 v11 v12 v13 : Value} {l : List Value} : am_kl (v0 :: v1 :: v2 :: v3 :: v4 :: v5 :: v6 :: v7 :: v8 :: v9 :: v10 :: v11 :: v12 :: v13 :: l) 14 = v0 :: v1 :: v2 :: v3 :: v4 :: v5 :: v6 :: v7 :: v8 :: v9 :: v10 :: v11 :: v12 :: am_kc v13 :: l := by
  unfold am_kl am_kc
  simp only [List.getElem?_cons_zero, List.getElem?_cons_succ]
  split <;> simp
theorem kl_15 {v0 v1 v2 v3 v4 v5 v6 v7 v8 v9 v10 v11 v12 v13 v14 : Value} {l : List Value} : am_kl (v0 :: v1 :: v2 :: v3 :: v4 :: v5 :: v6 :: v7 :: v8 :: v9 :: v10 :: v11 :: v12 :: v13 :: v14 :: l) 15 = v0 :: v1 :: v2 :: v3 :: v4 :: v5 :: v6 :: v7 :: v8 :: v9 :: v10 :: v11 :: v12 :: v13 :: am_kc v14 :: l := by
  unfold am_kl am_kc
  simp only [List.getElem?_cons_zero, List.getElem?_cons_succ]
  split <;> simp
theorem kl_16 {v0 v1 v2 v3 v4 v5 v6 v7 v8 v9 v10 v11 v12 v13 v14 v15 : Value} {l : List Value} : am_kl (v0 :: v1 :: v2 :: v3 :: v4 :: v5 :: v6 :: v7 :: v8 :: v9 :: v10 :: v11 :: v12 :: v13 :: v14 :: v15 :: l) 16 = v0 :: v1 :: v2 :: v3 :: v4 :: v5 :: v6 :: v7 :: v8 :: v9 :: v10 :: v11 :: v12 :: v13 :: v14 :: am_kc v15 :: l := by
  unfold am_kl am_kc
  simp only [List.getElem?_cons_zero, List.getElem?_cons_succ]
  split <;> simp
theorem kl_17 {v0 v1 v2 v3 v4 v5 v6 v7 v8 v9 v10 v11 v12 v13 v14 v15 v16 : Value} {l : List Value} : am_kl (v0 :: v1 :: v2 :: v3 :: v4 :: v5 :: v6 :: v7 :: v8 :: v9 :: v10 :: v11 :: v12 :: v13 :: v14 :: v15 :: v16 :: l) 17 = v0 :: v1 :: v2 :: v3 :: v4 :: v5 :: v6 :: v7 :: v8 :: v9 :: v10 :: v11 :: v12 :: v13 :: v14 :: v15 :: am_kc v16 :: l := by
  unfold am_kl am_kc
  simp only [List.getElem?_cons_zero, List.getElem?_cons_succ]
  split <;> simp
theorem kl_18 {v0 v1 v2 v3 v4 v5 v6 v7 v8 v9 v10 v11 v12 v13 v14 v15 v16 v17 : Value} {l : List Value} : am_kl (v0 :: v1 :: v2 :: v3 :: v4 :: v5 :: v6 :: v7 :: v8 :: v9 :: v10 :: v11 :: v12 :: v13 :: v14 :: v15 :: v16 :: v17 :: l) 18 = v0 :: v1 :: v2 :: v3 :: v4 :: v5 :: v6 :: v7 :: v8 :: v9 :: v10 :: v11 :: v12 :: v13 :: v14 :: v15 :: v16 :: am_kc v17 :: l := by
  unfold am_kl am_kc
  simp only [List.getElem?_cons_zero, List.getElem?_cons_succ]
  split <;> simp
theorem kl_19 {v0 v1 v2 v3 v4 v5 v6 v7 v8 v9 v10 v11 v12 v13 v14 v15 v16 v17 v18 : Value} {l : List Value} : am_kl (v0 :: v1 :: v2 :: v3 :: v4 :: v5 :: v6 :: v7 :: v8 :: v9 :: v10 :: v11 :: v12 :: v13 :: v14 :: v15 :: v16 :: v17 :: v18 :: l) 19 = v0 :: v1 :: v2 :: v3 :: v4 :: v5 :: v6 :: v7 :: v8 :: v9 :: v10 :: v11 :: v12 :: v13 :: v14 :: v15 :: v16 :: v17 :: am_kc v18 :: l := by
  unfold am_kl am_kc
  simp only [List.getElem?_cons_zero, List.getElem?_cons_succ]
  split <;> simp
theorem kl_20 {v0 v1 v2 v3 v4 v5 v6 v7 v8 v9 v10 v11 v12 v13 v14 v15 v16 v17 v18 v19 : Value} {l : List Value} : am_kl (v0 :: v1 :: v2 :: v3 :: v4 :: v5 :: v6 :: v7 :: v8 :: v9 :: v10 :: v11 :: v12 :: v13 :: v14 :: v15 :: v16 :: v17 :: v18 :: v19 :: l) 20 = v0 :: v1 :: v2 :: v3 :: v4 :: v5 :: v6 :: v7 :: v8 :: v9 :: v10 :: v11 :: v12 :: v13 :: v14 :: v15 :: v16 :: v17 :: v18 :: am_kc v19 :: l := by
  unfold am_kl am_kc
  simp only [List.getElem?_cons_zero, List.getElem?_cons_succ]
  split <;> simp
theorem kc_int {x} : am_kc (.int x) = .int x := rfl
theorem kc_ref {x} : am_kc (.ref x) = .ref x := rfl
theorem kc_retAddr {x} : am_kc (.retAddr x) = .retAddr x := rfl
theorem kc_long {x} : am_kc (.long x) = am_u := rfl
theorem kc_double {x} : am_kc (.double x) = am_u := rfl
theorem af_n {e : am_M} {pc : Nat} {lc r : List Value} {K : am_K} {Q : am_Q} {st : am_S} : am_af e pc lc r K Q (.inl none) st = K (pc + 3) lc r st := rfl
theorem af_v {e : am_M} {pc : Nat} {lc r : List Value} {K : am_K} {Q : am_Q} {st : am_S} {v : Value} : am_af e pc lc r K Q (.inl (some v)) st = K (pc + 3) lc (v :: r) st := rfl
theorem af_x {e : am_M} {pc : Nat} {lc r : List Value} {K : am_K} {Q : am_Q} {st : am_S} {x : Nat} (h : am_hd e = []) : am_af e pc lc r K Q (.inr x) st = Q (.inr x) st := by
  show am_ht e pc x lc st K Q = _
  unfold am_ht
  rw [h]
  rfl
section EV
variable {cl sl pc o a n ci ck : Nat} {F A : Nat → Nat → Int32} {L : Nat → Nat → Int64} {lc r : List Value} {K : am_K} {X : am_X} {e : am_M} {i v x : Int32} {y : Int64} {fs : List (Option (Option Nat))}
theorem ob_g (h1 : o < 70) (h2 : SH o = (0, ci, fs)) : am_ob (am_Z cl sl F A L) o ci = True := eq_true ⟨h1, by rw [show (am_Z cl sl F A L).2.1 o = SH o from rfl, h2], by rw [show (am_Z cl sl F A L).2.1 o = SH o from rfl, h2]⟩
theorem gt_i (h1 : o < 70) (h2 : SH o = (0, ck / 32, fs)) (h3 : fs[ck % 32]? = some none) : am_gt ck pc lc (.ref o :: r) (am_Z cl sl F A L) K = K pc lc (.int (F o (ck % 32)) :: r) (am_Z cl sl F A L) := by
  unfold am_gt
  dsimp only
  rw [ob_g h1 h2, h2, h3]
  simp
theorem gt_r {b : Nat} (h1 : o < 70) (h2 : SH o = (0, ck / 32, fs)) (h3 : fs[ck % 32]? = some (some (some b))) : am_gt ck pc lc (.ref o :: r) (am_Z cl sl F A L) K = K pc lc (.ref b :: r) (am_Z cl sl F A L) := by
  unfold am_gt
  dsimp only
  rw [ob_g h1 h2, h2, h3]
  simp
theorem pt_g (h1 : o < 70) (h2 : SH o = (0, ck / 32, fs)) (h3 : fs[ck % 32]? = some none) : am_pt ck pc lc (.int x :: .ref o :: r) (am_Z cl sl F A L) K = (am_zo ck x ∧ K pc lc r (am_Z cl sl (am_f2 F o (ck % 32) x) A L)) := by
  unfold am_pt
  dsimp only
  rw [ob_g h1 h2, h2, h3]
  simp
theorem pt_i (h1 : o < 70) (h2 : SH o = (0, ck / 32, fs)) (h3 : fs[ck % 32]? = some none) (h4 : am_ty (ck / 32) (ck % 32) = .int) : am_pt ck pc lc (.int x :: .ref o :: r) (am_Z cl sl F A L) K = K pc lc r (am_Z cl sl (am_f2 F o (ck % 32) x) A L) := by
  rw [pt_g h1 h2 h3]
  unfold am_zo
  rw [h4]
  simp
theorem pt_z (h1 : o < 70) (h2 : SH o = (0, ck / 32, fs)) (h3 : fs[ck % 32]? = some none) (h4 : am_ty (ck / 32) (ck % 32) = .boolean) : am_pt ck pc lc (.int x :: .ref o :: r) (am_Z cl sl F A L) K = ((x = 0 ∨ x = 1) ∧ K pc lc r (am_Z cl sl (am_f2 F o (ck % 32) x) A L)) := by
  rw [pt_g h1 h2 h3]
  unfold am_zo
  rw [h4]
theorem xl_g (h1 : a < 70) (h2 : SH a = (1, n, [])) : am_xl X e pc lc (.int i :: .ref a :: r) (am_Z cl sl F A L) K = (vp_in i n ∧ K pc lc (.int (A a i.toNatClampNeg) :: r) (am_Z cl sl F A L)) := by
  unfold am_xl am_ar
  dsimp only
  rw [h2]
  simp [h1]
theorem xs_g (h1 : a < 70) (h2 : SH a = (1, n, [])) : am_xs pc lc (.int v :: .int i :: .ref a :: r) (am_Z cl sl F A L) K = (vp_in i n ∧ K pc lc r (am_Z cl sl F (am_f2 A a i.toNatClampNeg v) L)) := by
  unfold am_xs am_ar
  dsimp only
  rw [h2]
  simp [h1]
theorem jl_g (h1 : a < 70) (h2 : SH a = (2, n, [])) : am_jl pc lc (.int i :: .ref a :: r) (am_Z cl sl F A L) K = (vp_in i n ∧ K pc lc (.long (L a i.toNatClampNeg) :: r) (am_Z cl sl F A L)) := by
  unfold am_jl am_ar
  dsimp only
  rw [h2]
  simp [h1]
theorem js_g (h1 : a < 70) (h2 : SH a = (2, n, [])) : am_js pc lc (.long y :: .int i :: .ref a :: r) (am_Z cl sl F A L) K = (vp_in i n ∧ K pc lc r (am_Z cl sl F A (am_f2 L a i.toNatClampNeg y))) := by
  unfold am_js am_ar
  dsimp only
  rw [h2]
  simp [h1]
theorem al_g (h1 : a < 70) (h2 : SH a = (1, n, [])) : am_al X e pc lc (.ref a :: r) (am_Z cl sl F A L) K = K pc lc (.int (Int32.ofNat n) :: r) (am_Z cl sl F A L) := by
  unfold am_al
  dsimp only
  rw [h2]
  simp [h1]
theorem ob_0 : am_ob (am_Z cl sl F A L) 0 6 = True := ob_g (by decide) rfl
theorem gt_0_0 : am_gt 192 pc lc (.ref 0 :: r) (am_Z cl sl F A L) K = K pc lc (.ref 1 :: r) (am_Z cl sl F A L) := gt_r (by decide) rfl rfl
theorem gt_0_1 : am_gt 193 pc lc (.ref 0 :: r) (am_Z cl sl F A L) K = K pc lc (.ref 3 :: r) (am_Z cl sl F A L) := gt_r (by decide) rfl rfl
theorem gt_0_2 : am_gt 194 pc lc (.ref 0 :: r) (am_Z cl sl F A L) K = K pc lc (.ref 23 :: r) (am_Z cl sl F A L) := gt_r (by decide) rfl rfl
theorem gt_0_3 : am_gt 195 pc lc (.ref 0 :: r) (am_Z cl sl F A L) K = K pc lc (.ref 61 :: r) (am_Z cl sl F A L) := gt_r (by decide) rfl rfl
theorem gt_0_4 : am_gt 196 pc lc (.ref 0 :: r) (am_Z cl sl F A L) K = K pc lc (.int (F 0 4) :: r) (am_Z cl sl F A L) := gt_i (by decide) rfl rfl
theorem pt_0_4 : am_pt 196 pc lc (.int x :: .ref 0 :: r) (am_Z cl sl F A L) K = ((x = 0 ∨ x = 1) ∧ K pc lc r (am_Z cl sl (am_f2 F 0 4 x) A L)) := pt_z (by decide) rfl rfl rfl
theorem ob_1 : am_ob (am_Z cl sl F A L) 1 2 = True := ob_g (by decide) rfl
theorem gt_1_0 : am_gt 64 pc lc (.ref 1 :: r) (am_Z cl sl F A L) K = K pc lc (.ref 2 :: r) (am_Z cl sl F A L) := gt_r (by decide) rfl rfl
theorem gt_1_1 : am_gt 65 pc lc (.ref 1 :: r) (am_Z cl sl F A L) K = K pc lc (.int (F 1 1) :: r) (am_Z cl sl F A L) := gt_i (by decide) rfl rfl
theorem pt_1_1 : am_pt 65 pc lc (.int x :: .ref 1 :: r) (am_Z cl sl F A L) K = K pc lc r (am_Z cl sl (am_f2 F 1 1 x) A L) := pt_i (by decide) rfl rfl rfl
theorem xl_2 : am_xl X e pc lc (.int i :: .ref 2 :: r) (am_Z cl sl F A L) K = (vp_in i 60 ∧ K pc lc (.int (A 2 i.toNatClampNeg) :: r) (am_Z cl sl F A L)) := xl_g (by decide) rfl
theorem xs_2 : am_xs pc lc (.int v :: .int i :: .ref 2 :: r) (am_Z cl sl F A L) K = (vp_in i 60 ∧ K pc lc r (am_Z cl sl F (am_f2 A 2 i.toNatClampNeg v) L)) := xs_g (by decide) rfl
theorem al_2 : am_al X e pc lc (.ref 2 :: r) (am_Z cl sl F A L) K = K pc lc (.int 60 :: r) (am_Z cl sl F A L) := al_g (by decide) rfl
theorem ob_3 : am_ob (am_Z cl sl F A L) 3 4 = True := ob_g (by decide) rfl
theorem gt_3_0 : am_gt 128 pc lc (.ref 3 :: r) (am_Z cl sl F A L) K = K pc lc (.ref 4 :: r) (am_Z cl sl F A L) := gt_r (by decide) rfl rfl
theorem gt_3_1 : am_gt 129 pc lc (.ref 3 :: r) (am_Z cl sl F A L) K = K pc lc (.ref 13 :: r) (am_Z cl sl F A L) := gt_r (by decide) rfl rfl
theorem gt_3_2 : am_gt 130 pc lc (.ref 3 :: r) (am_Z cl sl F A L) K = K pc lc (.ref 17 :: r) (am_Z cl sl F A L) := gt_r (by decide) rfl rfl
theorem gt_3_3 : am_gt 131 pc lc (.ref 3 :: r) (am_Z cl sl F A L) K = K pc lc (.ref 22 :: r) (am_Z cl sl F A L) := gt_r (by decide) rfl rfl
theorem ob_4 : am_ob (am_Z cl sl F A L) 4 5 = True := ob_g (by decide) rfl
theorem gt_4_0 : am_gt 160 pc lc (.ref 4 :: r) (am_Z cl sl F A L) K = K pc lc (.int (F 4 0) :: r) (am_Z cl sl F A L) := gt_i (by decide) rfl rfl
theorem pt_4_0 : am_pt 160 pc lc (.int x :: .ref 4 :: r) (am_Z cl sl F A L) K = K pc lc r (am_Z cl sl (am_f2 F 4 0 x) A L) := pt_i (by decide) rfl rfl rfl
theorem gt_4_1 : am_gt 161 pc lc (.ref 4 :: r) (am_Z cl sl F A L) K = K pc lc (.ref 5 :: r) (am_Z cl sl F A L) := gt_r (by decide) rfl rfl
theorem gt_4_2 : am_gt 162 pc lc (.ref 4 :: r) (am_Z cl sl F A L) K = K pc lc (.ref 6 :: r) (am_Z cl sl F A L) := gt_r (by decide) rfl rfl
theorem gt_4_3 : am_gt 163 pc lc (.ref 4 :: r) (am_Z cl sl F A L) K = K pc lc (.ref 7 :: r) (am_Z cl sl F A L) := gt_r (by decide) rfl rfl
theorem gt_4_4 : am_gt 164 pc lc (.ref 4 :: r) (am_Z cl sl F A L) K = K pc lc (.ref 8 :: r) (am_Z cl sl F A L) := gt_r (by decide) rfl rfl
theorem gt_4_5 : am_gt 165 pc lc (.ref 4 :: r) (am_Z cl sl F A L) K = K pc lc (.int (F 4 5) :: r) (am_Z cl sl F A L) := gt_i (by decide) rfl rfl
theorem pt_4_5 : am_pt 165 pc lc (.int x :: .ref 4 :: r) (am_Z cl sl F A L) K = K pc lc r (am_Z cl sl (am_f2 F 4 5 x) A L) := pt_i (by decide) rfl rfl rfl
theorem gt_4_6 : am_gt 166 pc lc (.ref 4 :: r) (am_Z cl sl F A L) K = K pc lc (.ref 9 :: r) (am_Z cl sl F A L) := gt_r (by decide) rfl rfl
theorem gt_4_7 : am_gt 167 pc lc (.ref 4 :: r) (am_Z cl sl F A L) K = K pc lc (.ref 10 :: r) (am_Z cl sl F A L) := gt_r (by decide) rfl rfl
theorem gt_4_8 : am_gt 168 pc lc (.ref 4 :: r) (am_Z cl sl F A L) K = K pc lc (.int (F 4 8) :: r) (am_Z cl sl F A L) := gt_i (by decide) rfl rfl
theorem pt_4_8 : am_pt 168 pc lc (.int x :: .ref 4 :: r) (am_Z cl sl F A L) K = K pc lc r (am_Z cl sl (am_f2 F 4 8 x) A L) := pt_i (by decide) rfl rfl rfl
theorem gt_4_9 : am_gt 169 pc lc (.ref 4 :: r) (am_Z cl sl F A L) K = K pc lc (.int (F 4 9) :: r) (am_Z cl sl F A L) := gt_i (by decide) rfl rfl
theorem pt_4_9 : am_pt 169 pc lc (.int x :: .ref 4 :: r) (am_Z cl sl F A L) K = K pc lc r (am_Z cl sl (am_f2 F 4 9 x) A L) := pt_i (by decide) rfl rfl rfl
theorem gt_4_10 : am_gt 170 pc lc (.ref 4 :: r) (am_Z cl sl F A L) K = K pc lc (.int (F 4 10) :: r) (am_Z cl sl F A L) := gt_i (by decide) rfl rfl
theorem pt_4_10 : am_pt 170 pc lc (.int x :: .ref 4 :: r) (am_Z cl sl F A L) K = K pc lc r (am_Z cl sl (am_f2 F 4 10 x) A L) := pt_i (by decide) rfl rfl rfl
theorem gt_4_11 : am_gt 171 pc lc (.ref 4 :: r) (am_Z cl sl F A L) K = K pc lc (.ref 11 :: r) (am_Z cl sl F A L) := gt_r (by decide) rfl rfl
theorem gt_4_12 : am_gt 172 pc lc (.ref 4 :: r) (am_Z cl sl F A L) K = K pc lc (.ref 12 :: r) (am_Z cl sl F A L) := gt_r (by decide) rfl rfl
theorem gt_4_13 : am_gt 173 pc lc (.ref 4 :: r) (am_Z cl sl F A L) K = K pc lc (.int (F 4 13) :: r) (am_Z cl sl F A L) := gt_i (by decide) rfl rfl
theorem pt_4_13 : am_pt 173 pc lc (.int x :: .ref 4 :: r) (am_Z cl sl F A L) K = K pc lc r (am_Z cl sl (am_f2 F 4 13 x) A L) := pt_i (by decide) rfl rfl rfl
theorem xl_5 : am_xl X e pc lc (.int i :: .ref 5 :: r) (am_Z cl sl F A L) K = (vp_in i 60 ∧ K pc lc (.int (A 5 i.toNatClampNeg) :: r) (am_Z cl sl F A L)) := xl_g (by decide) rfl
theorem xs_5 : am_xs pc lc (.int v :: .int i :: .ref 5 :: r) (am_Z cl sl F A L) K = (vp_in i 60 ∧ K pc lc r (am_Z cl sl F (am_f2 A 5 i.toNatClampNeg v) L)) := xs_g (by decide) rfl
theorem al_5 : am_al X e pc lc (.ref 5 :: r) (am_Z cl sl F A L) K = K pc lc (.int 60 :: r) (am_Z cl sl F A L) := al_g (by decide) rfl
theorem xl_6 : am_xl X e pc lc (.int i :: .ref 6 :: r) (am_Z cl sl F A L) K = (vp_in i 60 ∧ K pc lc (.int (A 6 i.toNatClampNeg) :: r) (am_Z cl sl F A L)) := xl_g (by decide) rfl
theorem xs_6 : am_xs pc lc (.int v :: .int i :: .ref 6 :: r) (am_Z cl sl F A L) K = (vp_in i 60 ∧ K pc lc r (am_Z cl sl F (am_f2 A 6 i.toNatClampNeg v) L)) := xs_g (by decide) rfl
theorem al_6 : am_al X e pc lc (.ref 6 :: r) (am_Z cl sl F A L) K = K pc lc (.int 60 :: r) (am_Z cl sl F A L) := al_g (by decide) rfl
theorem xl_7 : am_xl X e pc lc (.int i :: .ref 7 :: r) (am_Z cl sl F A L) K = (vp_in i 1440 ∧ K pc lc (.int (A 7 i.toNatClampNeg) :: r) (am_Z cl sl F A L)) := xl_g (by decide) rfl
theorem xs_7 : am_xs pc lc (.int v :: .int i :: .ref 7 :: r) (am_Z cl sl F A L) K = (vp_in i 1440 ∧ K pc lc r (am_Z cl sl F (am_f2 A 7 i.toNatClampNeg v) L)) := xs_g (by decide) rfl
theorem al_7 : am_al X e pc lc (.ref 7 :: r) (am_Z cl sl F A L) K = K pc lc (.int 1440 :: r) (am_Z cl sl F A L) := al_g (by decide) rfl
theorem xl_8 : am_xl X e pc lc (.int i :: .ref 8 :: r) (am_Z cl sl F A L) K = (vp_in i 6 ∧ K pc lc (.int (A 8 i.toNatClampNeg) :: r) (am_Z cl sl F A L)) := xl_g (by decide) rfl
theorem xs_8 : am_xs pc lc (.int v :: .int i :: .ref 8 :: r) (am_Z cl sl F A L) K = (vp_in i 6 ∧ K pc lc r (am_Z cl sl F (am_f2 A 8 i.toNatClampNeg v) L)) := xs_g (by decide) rfl
theorem al_8 : am_al X e pc lc (.ref 8 :: r) (am_Z cl sl F A L) K = K pc lc (.int 6 :: r) (am_Z cl sl F A L) := al_g (by decide) rfl
theorem xl_9 : am_xl X e pc lc (.int i :: .ref 9 :: r) (am_Z cl sl F A L) K = (vp_in i 24 ∧ K pc lc (.int (A 9 i.toNatClampNeg) :: r) (am_Z cl sl F A L)) := xl_g (by decide) rfl
theorem xs_9 : am_xs pc lc (.int v :: .int i :: .ref 9 :: r) (am_Z cl sl F A L) K = (vp_in i 24 ∧ K pc lc r (am_Z cl sl F (am_f2 A 9 i.toNatClampNeg v) L)) := xs_g (by decide) rfl
theorem al_9 : am_al X e pc lc (.ref 9 :: r) (am_Z cl sl F A L) K = K pc lc (.int 24 :: r) (am_Z cl sl F A L) := al_g (by decide) rfl
theorem xl_10 : am_xl X e pc lc (.int i :: .ref 10 :: r) (am_Z cl sl F A L) K = (vp_in i 24 ∧ K pc lc (.int (A 10 i.toNatClampNeg) :: r) (am_Z cl sl F A L)) := xl_g (by decide) rfl
theorem xs_10 : am_xs pc lc (.int v :: .int i :: .ref 10 :: r) (am_Z cl sl F A L) K = (vp_in i 24 ∧ K pc lc r (am_Z cl sl F (am_f2 A 10 i.toNatClampNeg v) L)) := xs_g (by decide) rfl
theorem al_10 : am_al X e pc lc (.ref 10 :: r) (am_Z cl sl F A L) K = K pc lc (.int 24 :: r) (am_Z cl sl F A L) := al_g (by decide) rfl
theorem xl_11 : am_xl X e pc lc (.int i :: .ref 11 :: r) (am_Z cl sl F A L) K = (vp_in i 3 ∧ K pc lc (.int (A 11 i.toNatClampNeg) :: r) (am_Z cl sl F A L)) := xl_g (by decide) rfl
theorem xs_11 : am_xs pc lc (.int v :: .int i :: .ref 11 :: r) (am_Z cl sl F A L) K = (vp_in i 3 ∧ K pc lc r (am_Z cl sl F (am_f2 A 11 i.toNatClampNeg v) L)) := xs_g (by decide) rfl
theorem al_11 : am_al X e pc lc (.ref 11 :: r) (am_Z cl sl F A L) K = K pc lc (.int 3 :: r) (am_Z cl sl F A L) := al_g (by decide) rfl
theorem xl_12 : am_xl X e pc lc (.int i :: .ref 12 :: r) (am_Z cl sl F A L) K = (vp_in i 72 ∧ K pc lc (.int (A 12 i.toNatClampNeg) :: r) (am_Z cl sl F A L)) := xl_g (by decide) rfl
theorem xs_12 : am_xs pc lc (.int v :: .int i :: .ref 12 :: r) (am_Z cl sl F A L) K = (vp_in i 72 ∧ K pc lc r (am_Z cl sl F (am_f2 A 12 i.toNatClampNeg v) L)) := xs_g (by decide) rfl
theorem al_12 : am_al X e pc lc (.ref 12 :: r) (am_Z cl sl F A L) K = K pc lc (.int 72 :: r) (am_Z cl sl F A L) := al_g (by decide) rfl
theorem ob_13 : am_ob (am_Z cl sl F A L) 13 1 = True := ob_g (by decide) rfl
theorem gt_13_0 : am_gt 32 pc lc (.ref 13 :: r) (am_Z cl sl F A L) K = K pc lc (.ref 14 :: r) (am_Z cl sl F A L) := gt_r (by decide) rfl rfl
theorem gt_13_1 : am_gt 33 pc lc (.ref 13 :: r) (am_Z cl sl F A L) K = K pc lc (.ref 15 :: r) (am_Z cl sl F A L) := gt_r (by decide) rfl rfl
theorem gt_13_2 : am_gt 34 pc lc (.ref 13 :: r) (am_Z cl sl F A L) K = K pc lc (.ref 16 :: r) (am_Z cl sl F A L) := gt_r (by decide) rfl rfl
theorem xl_14 : am_xl X e pc lc (.int i :: .ref 14 :: r) (am_Z cl sl F A L) K = (vp_in i 60 ∧ K pc lc (.int (A 14 i.toNatClampNeg) :: r) (am_Z cl sl F A L)) := xl_g (by decide) rfl
theorem xs_14 : am_xs pc lc (.int v :: .int i :: .ref 14 :: r) (am_Z cl sl F A L) K = (vp_in i 60 ∧ K pc lc r (am_Z cl sl F (am_f2 A 14 i.toNatClampNeg v) L)) := xs_g (by decide) rfl
theorem al_14 : am_al X e pc lc (.ref 14 :: r) (am_Z cl sl F A L) K = K pc lc (.int 60 :: r) (am_Z cl sl F A L) := al_g (by decide) rfl
theorem xl_15 : am_xl X e pc lc (.int i :: .ref 15 :: r) (am_Z cl sl F A L) K = (vp_in i 60 ∧ K pc lc (.int (A 15 i.toNatClampNeg) :: r) (am_Z cl sl F A L)) := xl_g (by decide) rfl
theorem xs_15 : am_xs pc lc (.int v :: .int i :: .ref 15 :: r) (am_Z cl sl F A L) K = (vp_in i 60 ∧ K pc lc r (am_Z cl sl F (am_f2 A 15 i.toNatClampNeg v) L)) := xs_g (by decide) rfl
theorem al_15 : am_al X e pc lc (.ref 15 :: r) (am_Z cl sl F A L) K = K pc lc (.int 60 :: r) (am_Z cl sl F A L) := al_g (by decide) rfl
theorem xl_16 : am_xl X e pc lc (.int i :: .ref 16 :: r) (am_Z cl sl F A L) K = (vp_in i 60 ∧ K pc lc (.int (A 16 i.toNatClampNeg) :: r) (am_Z cl sl F A L)) := xl_g (by decide) rfl
theorem xs_16 : am_xs pc lc (.int v :: .int i :: .ref 16 :: r) (am_Z cl sl F A L) K = (vp_in i 60 ∧ K pc lc r (am_Z cl sl F (am_f2 A 16 i.toNatClampNeg v) L)) := xs_g (by decide) rfl
theorem al_16 : am_al X e pc lc (.ref 16 :: r) (am_Z cl sl F A L) K = K pc lc (.int 60 :: r) (am_Z cl sl F A L) := al_g (by decide) rfl
theorem ob_17 : am_ob (am_Z cl sl F A L) 17 0 = True := ob_g (by decide) rfl
theorem gt_17_0 : am_gt 0 pc lc (.ref 17 :: r) (am_Z cl sl F A L) K = K pc lc (.ref 18 :: r) (am_Z cl sl F A L) := gt_r (by decide) rfl rfl
theorem gt_17_1 : am_gt 1 pc lc (.ref 17 :: r) (am_Z cl sl F A L) K = K pc lc (.ref 19 :: r) (am_Z cl sl F A L) := gt_r (by decide) rfl rfl
theorem gt_17_2 : am_gt 2 pc lc (.ref 17 :: r) (am_Z cl sl F A L) K = K pc lc (.ref 20 :: r) (am_Z cl sl F A L) := gt_r (by decide) rfl rfl
theorem gt_17_3 : am_gt 3 pc lc (.ref 17 :: r) (am_Z cl sl F A L) K = K pc lc (.ref 21 :: r) (am_Z cl sl F A L) := gt_r (by decide) rfl rfl
theorem gt_17_4 : am_gt 4 pc lc (.ref 17 :: r) (am_Z cl sl F A L) K = K pc lc (.int (F 17 4) :: r) (am_Z cl sl F A L) := gt_i (by decide) rfl rfl
theorem pt_17_4 : am_pt 4 pc lc (.int x :: .ref 17 :: r) (am_Z cl sl F A L) K = K pc lc r (am_Z cl sl (am_f2 F 17 4 x) A L) := pt_i (by decide) rfl rfl rfl
theorem gt_17_5 : am_gt 5 pc lc (.ref 17 :: r) (am_Z cl sl F A L) K = K pc lc (.int (F 17 5) :: r) (am_Z cl sl F A L) := gt_i (by decide) rfl rfl
theorem pt_17_5 : am_pt 5 pc lc (.int x :: .ref 17 :: r) (am_Z cl sl F A L) K = K pc lc r (am_Z cl sl (am_f2 F 17 5 x) A L) := pt_i (by decide) rfl rfl rfl
theorem xl_18 : am_xl X e pc lc (.int i :: .ref 18 :: r) (am_Z cl sl F A L) K = (vp_in i 24 ∧ K pc lc (.int (A 18 i.toNatClampNeg) :: r) (am_Z cl sl F A L)) := xl_g (by decide) rfl
theorem xs_18 : am_xs pc lc (.int v :: .int i :: .ref 18 :: r) (am_Z cl sl F A L) K = (vp_in i 24 ∧ K pc lc r (am_Z cl sl F (am_f2 A 18 i.toNatClampNeg v) L)) := xs_g (by decide) rfl
theorem al_18 : am_al X e pc lc (.ref 18 :: r) (am_Z cl sl F A L) K = K pc lc (.int 24 :: r) (am_Z cl sl F A L) := al_g (by decide) rfl
theorem xl_19 : am_xl X e pc lc (.int i :: .ref 19 :: r) (am_Z cl sl F A L) K = (vp_in i 24 ∧ K pc lc (.int (A 19 i.toNatClampNeg) :: r) (am_Z cl sl F A L)) := xl_g (by decide) rfl
theorem xs_19 : am_xs pc lc (.int v :: .int i :: .ref 19 :: r) (am_Z cl sl F A L) K = (vp_in i 24 ∧ K pc lc r (am_Z cl sl F (am_f2 A 19 i.toNatClampNeg v) L)) := xs_g (by decide) rfl
theorem al_19 : am_al X e pc lc (.ref 19 :: r) (am_Z cl sl F A L) K = K pc lc (.int 24 :: r) (am_Z cl sl F A L) := al_g (by decide) rfl
theorem xl_20 : am_xl X e pc lc (.int i :: .ref 20 :: r) (am_Z cl sl F A L) K = (vp_in i 24 ∧ K pc lc (.int (A 20 i.toNatClampNeg) :: r) (am_Z cl sl F A L)) := xl_g (by decide) rfl
theorem xs_20 : am_xs pc lc (.int v :: .int i :: .ref 20 :: r) (am_Z cl sl F A L) K = (vp_in i 24 ∧ K pc lc r (am_Z cl sl F (am_f2 A 20 i.toNatClampNeg v) L)) := xs_g (by decide) rfl
theorem al_20 : am_al X e pc lc (.ref 20 :: r) (am_Z cl sl F A L) K = K pc lc (.int 24 :: r) (am_Z cl sl F A L) := al_g (by decide) rfl
theorem xl_21 : am_xl X e pc lc (.int i :: .ref 21 :: r) (am_Z cl sl F A L) K = (vp_in i 24 ∧ K pc lc (.int (A 21 i.toNatClampNeg) :: r) (am_Z cl sl F A L)) := xl_g (by decide) rfl
theorem xs_21 : am_xs pc lc (.int v :: .int i :: .ref 21 :: r) (am_Z cl sl F A L) K = (vp_in i 24 ∧ K pc lc r (am_Z cl sl F (am_f2 A 21 i.toNatClampNeg v) L)) := xs_g (by decide) rfl
theorem al_21 : am_al X e pc lc (.ref 21 :: r) (am_Z cl sl F A L) K = K pc lc (.int 24 :: r) (am_Z cl sl F A L) := al_g (by decide) rfl
theorem xl_22 : am_xl X e pc lc (.int i :: .ref 22 :: r) (am_Z cl sl F A L) K = (vp_in i 60 ∧ K pc lc (.int (A 22 i.toNatClampNeg) :: r) (am_Z cl sl F A L)) := xl_g (by decide) rfl
theorem xs_22 : am_xs pc lc (.int v :: .int i :: .ref 22 :: r) (am_Z cl sl F A L) K = (vp_in i 60 ∧ K pc lc r (am_Z cl sl F (am_f2 A 22 i.toNatClampNeg v) L)) := xs_g (by decide) rfl
theorem al_22 : am_al X e pc lc (.ref 22 :: r) (am_Z cl sl F A L) K = K pc lc (.int 60 :: r) (am_Z cl sl F A L) := al_g (by decide) rfl
theorem ob_23 : am_ob (am_Z cl sl F A L) 23 3 = True := ob_g (by decide) rfl
theorem gt_23_0 : am_gt 96 pc lc (.ref 23 :: r) (am_Z cl sl F A L) K = K pc lc (.ref 24 :: r) (am_Z cl sl F A L) := gt_r (by decide) rfl rfl
theorem gt_23_1 : am_gt 97 pc lc (.ref 23 :: r) (am_Z cl sl F A L) K = K pc lc (.int (F 23 1) :: r) (am_Z cl sl F A L) := gt_i (by decide) rfl rfl
theorem pt_23_1 : am_pt 97 pc lc (.int x :: .ref 23 :: r) (am_Z cl sl F A L) K = K pc lc r (am_Z cl sl (am_f2 F 23 1 x) A L) := pt_i (by decide) rfl rfl rfl
theorem gt_23_2 : am_gt 98 pc lc (.ref 23 :: r) (am_Z cl sl F A L) K = K pc lc (.int (F 23 2) :: r) (am_Z cl sl F A L) := gt_i (by decide) rfl rfl
theorem pt_23_2 : am_pt 98 pc lc (.int x :: .ref 23 :: r) (am_Z cl sl F A L) K = K pc lc r (am_Z cl sl (am_f2 F 23 2 x) A L) := pt_i (by decide) rfl rfl rfl
theorem ob_25 : am_ob (am_Z cl sl F A L) 25 5 = True := ob_g (by decide) rfl
theorem gt_25_0 : am_gt 160 pc lc (.ref 25 :: r) (am_Z cl sl F A L) K = K pc lc (.int (F 25 0) :: r) (am_Z cl sl F A L) := gt_i (by decide) rfl rfl
theorem pt_25_0 : am_pt 160 pc lc (.int x :: .ref 25 :: r) (am_Z cl sl F A L) K = K pc lc r (am_Z cl sl (am_f2 F 25 0 x) A L) := pt_i (by decide) rfl rfl rfl
theorem gt_25_1 : am_gt 161 pc lc (.ref 25 :: r) (am_Z cl sl F A L) K = K pc lc (.ref 26 :: r) (am_Z cl sl F A L) := gt_r (by decide) rfl rfl
theorem gt_25_2 : am_gt 162 pc lc (.ref 25 :: r) (am_Z cl sl F A L) K = K pc lc (.ref 27 :: r) (am_Z cl sl F A L) := gt_r (by decide) rfl rfl
theorem gt_25_3 : am_gt 163 pc lc (.ref 25 :: r) (am_Z cl sl F A L) K = K pc lc (.ref 28 :: r) (am_Z cl sl F A L) := gt_r (by decide) rfl rfl
theorem gt_25_4 : am_gt 164 pc lc (.ref 25 :: r) (am_Z cl sl F A L) K = K pc lc (.ref 29 :: r) (am_Z cl sl F A L) := gt_r (by decide) rfl rfl
theorem gt_25_5 : am_gt 165 pc lc (.ref 25 :: r) (am_Z cl sl F A L) K = K pc lc (.int (F 25 5) :: r) (am_Z cl sl F A L) := gt_i (by decide) rfl rfl
theorem pt_25_5 : am_pt 165 pc lc (.int x :: .ref 25 :: r) (am_Z cl sl F A L) K = K pc lc r (am_Z cl sl (am_f2 F 25 5 x) A L) := pt_i (by decide) rfl rfl rfl
theorem gt_25_6 : am_gt 166 pc lc (.ref 25 :: r) (am_Z cl sl F A L) K = K pc lc (.ref 30 :: r) (am_Z cl sl F A L) := gt_r (by decide) rfl rfl
theorem gt_25_7 : am_gt 167 pc lc (.ref 25 :: r) (am_Z cl sl F A L) K = K pc lc (.ref 31 :: r) (am_Z cl sl F A L) := gt_r (by decide) rfl rfl
theorem gt_25_8 : am_gt 168 pc lc (.ref 25 :: r) (am_Z cl sl F A L) K = K pc lc (.int (F 25 8) :: r) (am_Z cl sl F A L) := gt_i (by decide) rfl rfl
theorem pt_25_8 : am_pt 168 pc lc (.int x :: .ref 25 :: r) (am_Z cl sl F A L) K = K pc lc r (am_Z cl sl (am_f2 F 25 8 x) A L) := pt_i (by decide) rfl rfl rfl
theorem gt_25_9 : am_gt 169 pc lc (.ref 25 :: r) (am_Z cl sl F A L) K = K pc lc (.int (F 25 9) :: r) (am_Z cl sl F A L) := gt_i (by decide) rfl rfl
theorem pt_25_9 : am_pt 169 pc lc (.int x :: .ref 25 :: r) (am_Z cl sl F A L) K = K pc lc r (am_Z cl sl (am_f2 F 25 9 x) A L) := pt_i (by decide) rfl rfl rfl
theorem gt_25_10 : am_gt 170 pc lc (.ref 25 :: r) (am_Z cl sl F A L) K = K pc lc (.int (F 25 10) :: r) (am_Z cl sl F A L) := gt_i (by decide) rfl rfl
theorem pt_25_10 : am_pt 170 pc lc (.int x :: .ref 25 :: r) (am_Z cl sl F A L) K = K pc lc r (am_Z cl sl (am_f2 F 25 10 x) A L) := pt_i (by decide) rfl rfl rfl
theorem gt_25_11 : am_gt 171 pc lc (.ref 25 :: r) (am_Z cl sl F A L) K = K pc lc (.ref 32 :: r) (am_Z cl sl F A L) := gt_r (by decide) rfl rfl
theorem gt_25_12 : am_gt 172 pc lc (.ref 25 :: r) (am_Z cl sl F A L) K = K pc lc (.ref 33 :: r) (am_Z cl sl F A L) := gt_r (by decide) rfl rfl
theorem gt_25_13 : am_gt 173 pc lc (.ref 25 :: r) (am_Z cl sl F A L) K = K pc lc (.int (F 25 13) :: r) (am_Z cl sl F A L) := gt_i (by decide) rfl rfl
theorem pt_25_13 : am_pt 173 pc lc (.int x :: .ref 25 :: r) (am_Z cl sl F A L) K = K pc lc r (am_Z cl sl (am_f2 F 25 13 x) A L) := pt_i (by decide) rfl rfl rfl
theorem xl_26 : am_xl X e pc lc (.int i :: .ref 26 :: r) (am_Z cl sl F A L) K = (vp_in i 60 ∧ K pc lc (.int (A 26 i.toNatClampNeg) :: r) (am_Z cl sl F A L)) := xl_g (by decide) rfl
theorem xs_26 : am_xs pc lc (.int v :: .int i :: .ref 26 :: r) (am_Z cl sl F A L) K = (vp_in i 60 ∧ K pc lc r (am_Z cl sl F (am_f2 A 26 i.toNatClampNeg v) L)) := xs_g (by decide) rfl
theorem al_26 : am_al X e pc lc (.ref 26 :: r) (am_Z cl sl F A L) K = K pc lc (.int 60 :: r) (am_Z cl sl F A L) := al_g (by decide) rfl
theorem xl_27 : am_xl X e pc lc (.int i :: .ref 27 :: r) (am_Z cl sl F A L) K = (vp_in i 60 ∧ K pc lc (.int (A 27 i.toNatClampNeg) :: r) (am_Z cl sl F A L)) := xl_g (by decide) rfl
theorem xs_27 : am_xs pc lc (.int v :: .int i :: .ref 27 :: r) (am_Z cl sl F A L) K = (vp_in i 60 ∧ K pc lc r (am_Z cl sl F (am_f2 A 27 i.toNatClampNeg v) L)) := xs_g (by decide) rfl
theorem al_27 : am_al X e pc lc (.ref 27 :: r) (am_Z cl sl F A L) K = K pc lc (.int 60 :: r) (am_Z cl sl F A L) := al_g (by decide) rfl
theorem xl_28 : am_xl X e pc lc (.int i :: .ref 28 :: r) (am_Z cl sl F A L) K = (vp_in i 1440 ∧ K pc lc (.int (A 28 i.toNatClampNeg) :: r) (am_Z cl sl F A L)) := xl_g (by decide) rfl
theorem xs_28 : am_xs pc lc (.int v :: .int i :: .ref 28 :: r) (am_Z cl sl F A L) K = (vp_in i 1440 ∧ K pc lc r (am_Z cl sl F (am_f2 A 28 i.toNatClampNeg v) L)) := xs_g (by decide) rfl
theorem al_28 : am_al X e pc lc (.ref 28 :: r) (am_Z cl sl F A L) K = K pc lc (.int 1440 :: r) (am_Z cl sl F A L) := al_g (by decide) rfl
theorem xl_29 : am_xl X e pc lc (.int i :: .ref 29 :: r) (am_Z cl sl F A L) K = (vp_in i 6 ∧ K pc lc (.int (A 29 i.toNatClampNeg) :: r) (am_Z cl sl F A L)) := xl_g (by decide) rfl
theorem xs_29 : am_xs pc lc (.int v :: .int i :: .ref 29 :: r) (am_Z cl sl F A L) K = (vp_in i 6 ∧ K pc lc r (am_Z cl sl F (am_f2 A 29 i.toNatClampNeg v) L)) := xs_g (by decide) rfl
theorem al_29 : am_al X e pc lc (.ref 29 :: r) (am_Z cl sl F A L) K = K pc lc (.int 6 :: r) (am_Z cl sl F A L) := al_g (by decide) rfl
theorem xl_30 : am_xl X e pc lc (.int i :: .ref 30 :: r) (am_Z cl sl F A L) K = (vp_in i 24 ∧ K pc lc (.int (A 30 i.toNatClampNeg) :: r) (am_Z cl sl F A L)) := xl_g (by decide) rfl
theorem xs_30 : am_xs pc lc (.int v :: .int i :: .ref 30 :: r) (am_Z cl sl F A L) K = (vp_in i 24 ∧ K pc lc r (am_Z cl sl F (am_f2 A 30 i.toNatClampNeg v) L)) := xs_g (by decide) rfl
theorem al_30 : am_al X e pc lc (.ref 30 :: r) (am_Z cl sl F A L) K = K pc lc (.int 24 :: r) (am_Z cl sl F A L) := al_g (by decide) rfl
theorem xl_31 : am_xl X e pc lc (.int i :: .ref 31 :: r) (am_Z cl sl F A L) K = (vp_in i 24 ∧ K pc lc (.int (A 31 i.toNatClampNeg) :: r) (am_Z cl sl F A L)) := xl_g (by decide) rfl
theorem xs_31 : am_xs pc lc (.int v :: .int i :: .ref 31 :: r) (am_Z cl sl F A L) K = (vp_in i 24 ∧ K pc lc r (am_Z cl sl F (am_f2 A 31 i.toNatClampNeg v) L)) := xs_g (by decide) rfl
theorem al_31 : am_al X e pc lc (.ref 31 :: r) (am_Z cl sl F A L) K = K pc lc (.int 24 :: r) (am_Z cl sl F A L) := al_g (by decide) rfl
theorem xl_32 : am_xl X e pc lc (.int i :: .ref 32 :: r) (am_Z cl sl F A L) K = (vp_in i 3 ∧ K pc lc (.int (A 32 i.toNatClampNeg) :: r) (am_Z cl sl F A L)) := xl_g (by decide) rfl
theorem xs_32 : am_xs pc lc (.int v :: .int i :: .ref 32 :: r) (am_Z cl sl F A L) K = (vp_in i 3 ∧ K pc lc r (am_Z cl sl F (am_f2 A 32 i.toNatClampNeg v) L)) := xs_g (by decide) rfl
theorem al_32 : am_al X e pc lc (.ref 32 :: r) (am_Z cl sl F A L) K = K pc lc (.int 3 :: r) (am_Z cl sl F A L) := al_g (by decide) rfl
theorem xl_33 : am_xl X e pc lc (.int i :: .ref 33 :: r) (am_Z cl sl F A L) K = (vp_in i 72 ∧ K pc lc (.int (A 33 i.toNatClampNeg) :: r) (am_Z cl sl F A L)) := xl_g (by decide) rfl
theorem xs_33 : am_xs pc lc (.int v :: .int i :: .ref 33 :: r) (am_Z cl sl F A L) K = (vp_in i 72 ∧ K pc lc r (am_Z cl sl F (am_f2 A 33 i.toNatClampNeg v) L)) := xs_g (by decide) rfl
theorem al_33 : am_al X e pc lc (.ref 33 :: r) (am_Z cl sl F A L) K = K pc lc (.int 72 :: r) (am_Z cl sl F A L) := al_g (by decide) rfl
theorem ob_34 : am_ob (am_Z cl sl F A L) 34 5 = True := ob_g (by decide) rfl
theorem gt_34_0 : am_gt 160 pc lc (.ref 34 :: r) (am_Z cl sl F A L) K = K pc lc (.int (F 34 0) :: r) (am_Z cl sl F A L) := gt_i (by decide) rfl rfl
theorem pt_34_0 : am_pt 160 pc lc (.int x :: .ref 34 :: r) (am_Z cl sl F A L) K = K pc lc r (am_Z cl sl (am_f2 F 34 0 x) A L) := pt_i (by decide) rfl rfl rfl
theorem gt_34_1 : am_gt 161 pc lc (.ref 34 :: r) (am_Z cl sl F A L) K = K pc lc (.ref 35 :: r) (am_Z cl sl F A L) := gt_r (by decide) rfl rfl
theorem gt_34_2 : am_gt 162 pc lc (.ref 34 :: r) (am_Z cl sl F A L) K = K pc lc (.ref 36 :: r) (am_Z cl sl F A L) := gt_r (by decide) rfl rfl
theorem gt_34_3 : am_gt 163 pc lc (.ref 34 :: r) (am_Z cl sl F A L) K = K pc lc (.ref 37 :: r) (am_Z cl sl F A L) := gt_r (by decide) rfl rfl
theorem gt_34_4 : am_gt 164 pc lc (.ref 34 :: r) (am_Z cl sl F A L) K = K pc lc (.ref 38 :: r) (am_Z cl sl F A L) := gt_r (by decide) rfl rfl
theorem gt_34_5 : am_gt 165 pc lc (.ref 34 :: r) (am_Z cl sl F A L) K = K pc lc (.int (F 34 5) :: r) (am_Z cl sl F A L) := gt_i (by decide) rfl rfl
theorem pt_34_5 : am_pt 165 pc lc (.int x :: .ref 34 :: r) (am_Z cl sl F A L) K = K pc lc r (am_Z cl sl (am_f2 F 34 5 x) A L) := pt_i (by decide) rfl rfl rfl
theorem gt_34_6 : am_gt 166 pc lc (.ref 34 :: r) (am_Z cl sl F A L) K = K pc lc (.ref 39 :: r) (am_Z cl sl F A L) := gt_r (by decide) rfl rfl
theorem gt_34_7 : am_gt 167 pc lc (.ref 34 :: r) (am_Z cl sl F A L) K = K pc lc (.ref 40 :: r) (am_Z cl sl F A L) := gt_r (by decide) rfl rfl
theorem gt_34_8 : am_gt 168 pc lc (.ref 34 :: r) (am_Z cl sl F A L) K = K pc lc (.int (F 34 8) :: r) (am_Z cl sl F A L) := gt_i (by decide) rfl rfl
theorem pt_34_8 : am_pt 168 pc lc (.int x :: .ref 34 :: r) (am_Z cl sl F A L) K = K pc lc r (am_Z cl sl (am_f2 F 34 8 x) A L) := pt_i (by decide) rfl rfl rfl
theorem gt_34_9 : am_gt 169 pc lc (.ref 34 :: r) (am_Z cl sl F A L) K = K pc lc (.int (F 34 9) :: r) (am_Z cl sl F A L) := gt_i (by decide) rfl rfl
theorem pt_34_9 : am_pt 169 pc lc (.int x :: .ref 34 :: r) (am_Z cl sl F A L) K = K pc lc r (am_Z cl sl (am_f2 F 34 9 x) A L) := pt_i (by decide) rfl rfl rfl
theorem gt_34_10 : am_gt 170 pc lc (.ref 34 :: r) (am_Z cl sl F A L) K = K pc lc (.int (F 34 10) :: r) (am_Z cl sl F A L) := gt_i (by decide) rfl rfl
theorem pt_34_10 : am_pt 170 pc lc (.int x :: .ref 34 :: r) (am_Z cl sl F A L) K = K pc lc r (am_Z cl sl (am_f2 F 34 10 x) A L) := pt_i (by decide) rfl rfl rfl
theorem gt_34_11 : am_gt 171 pc lc (.ref 34 :: r) (am_Z cl sl F A L) K = K pc lc (.ref 41 :: r) (am_Z cl sl F A L) := gt_r (by decide) rfl rfl
theorem gt_34_12 : am_gt 172 pc lc (.ref 34 :: r) (am_Z cl sl F A L) K = K pc lc (.ref 42 :: r) (am_Z cl sl F A L) := gt_r (by decide) rfl rfl
theorem gt_34_13 : am_gt 173 pc lc (.ref 34 :: r) (am_Z cl sl F A L) K = K pc lc (.int (F 34 13) :: r) (am_Z cl sl F A L) := gt_i (by decide) rfl rfl
theorem pt_34_13 : am_pt 173 pc lc (.int x :: .ref 34 :: r) (am_Z cl sl F A L) K = K pc lc r (am_Z cl sl (am_f2 F 34 13 x) A L) := pt_i (by decide) rfl rfl rfl
theorem xl_35 : am_xl X e pc lc (.int i :: .ref 35 :: r) (am_Z cl sl F A L) K = (vp_in i 60 ∧ K pc lc (.int (A 35 i.toNatClampNeg) :: r) (am_Z cl sl F A L)) := xl_g (by decide) rfl
theorem xs_35 : am_xs pc lc (.int v :: .int i :: .ref 35 :: r) (am_Z cl sl F A L) K = (vp_in i 60 ∧ K pc lc r (am_Z cl sl F (am_f2 A 35 i.toNatClampNeg v) L)) := xs_g (by decide) rfl
theorem al_35 : am_al X e pc lc (.ref 35 :: r) (am_Z cl sl F A L) K = K pc lc (.int 60 :: r) (am_Z cl sl F A L) := al_g (by decide) rfl
theorem xl_36 : am_xl X e pc lc (.int i :: .ref 36 :: r) (am_Z cl sl F A L) K = (vp_in i 60 ∧ K pc lc (.int (A 36 i.toNatClampNeg) :: r) (am_Z cl sl F A L)) := xl_g (by decide) rfl
theorem xs_36 : am_xs pc lc (.int v :: .int i :: .ref 36 :: r) (am_Z cl sl F A L) K = (vp_in i 60 ∧ K pc lc r (am_Z cl sl F (am_f2 A 36 i.toNatClampNeg v) L)) := xs_g (by decide) rfl
theorem al_36 : am_al X e pc lc (.ref 36 :: r) (am_Z cl sl F A L) K = K pc lc (.int 60 :: r) (am_Z cl sl F A L) := al_g (by decide) rfl
theorem xl_37 : am_xl X e pc lc (.int i :: .ref 37 :: r) (am_Z cl sl F A L) K = (vp_in i 1440 ∧ K pc lc (.int (A 37 i.toNatClampNeg) :: r) (am_Z cl sl F A L)) := xl_g (by decide) rfl
theorem xs_37 : am_xs pc lc (.int v :: .int i :: .ref 37 :: r) (am_Z cl sl F A L) K = (vp_in i 1440 ∧ K pc lc r (am_Z cl sl F (am_f2 A 37 i.toNatClampNeg v) L)) := xs_g (by decide) rfl
theorem al_37 : am_al X e pc lc (.ref 37 :: r) (am_Z cl sl F A L) K = K pc lc (.int 1440 :: r) (am_Z cl sl F A L) := al_g (by decide) rfl
theorem xl_38 : am_xl X e pc lc (.int i :: .ref 38 :: r) (am_Z cl sl F A L) K = (vp_in i 6 ∧ K pc lc (.int (A 38 i.toNatClampNeg) :: r) (am_Z cl sl F A L)) := xl_g (by decide) rfl
theorem xs_38 : am_xs pc lc (.int v :: .int i :: .ref 38 :: r) (am_Z cl sl F A L) K = (vp_in i 6 ∧ K pc lc r (am_Z cl sl F (am_f2 A 38 i.toNatClampNeg v) L)) := xs_g (by decide) rfl
theorem al_38 : am_al X e pc lc (.ref 38 :: r) (am_Z cl sl F A L) K = K pc lc (.int 6 :: r) (am_Z cl sl F A L) := al_g (by decide) rfl
theorem xl_39 : am_xl X e pc lc (.int i :: .ref 39 :: r) (am_Z cl sl F A L) K = (vp_in i 24 ∧ K pc lc (.int (A 39 i.toNatClampNeg) :: r) (am_Z cl sl F A L)) := xl_g (by decide) rfl
theorem xs_39 : am_xs pc lc (.int v :: .int i :: .ref 39 :: r) (am_Z cl sl F A L) K = (vp_in i 24 ∧ K pc lc r (am_Z cl sl F (am_f2 A 39 i.toNatClampNeg v) L)) := xs_g (by decide) rfl
theorem al_39 : am_al X e pc lc (.ref 39 :: r) (am_Z cl sl F A L) K = K pc lc (.int 24 :: r) (am_Z cl sl F A L) := al_g (by decide) rfl
theorem xl_40 : am_xl X e pc lc (.int i :: .ref 40 :: r) (am_Z cl sl F A L) K = (vp_in i 24 ∧ K pc lc (.int (A 40 i.toNatClampNeg) :: r) (am_Z cl sl F A L)) := xl_g (by decide) rfl
theorem xs_40 : am_xs pc lc (.int v :: .int i :: .ref 40 :: r) (am_Z cl sl F A L) K = (vp_in i 24 ∧ K pc lc r (am_Z cl sl F (am_f2 A 40 i.toNatClampNeg v) L)) := xs_g (by decide) rfl
theorem al_40 : am_al X e pc lc (.ref 40 :: r) (am_Z cl sl F A L) K = K pc lc (.int 24 :: r) (am_Z cl sl F A L) := al_g (by decide) rfl
theorem xl_41 : am_xl X e pc lc (.int i :: .ref 41 :: r) (am_Z cl sl F A L) K = (vp_in i 3 ∧ K pc lc (.int (A 41 i.toNatClampNeg) :: r) (am_Z cl sl F A L)) := xl_g (by decide) rfl
theorem xs_41 : am_xs pc lc (.int v :: .int i :: .ref 41 :: r) (am_Z cl sl F A L) K = (vp_in i 3 ∧ K pc lc r (am_Z cl sl F (am_f2 A 41 i.toNatClampNeg v) L)) := xs_g (by decide) rfl
theorem al_41 : am_al X e pc lc (.ref 41 :: r) (am_Z cl sl F A L) K = K pc lc (.int 3 :: r) (am_Z cl sl F A L) := al_g (by decide) rfl
theorem xl_42 : am_xl X e pc lc (.int i :: .ref 42 :: r) (am_Z cl sl F A L) K = (vp_in i 72 ∧ K pc lc (.int (A 42 i.toNatClampNeg) :: r) (am_Z cl sl F A L)) := xl_g (by decide) rfl
theorem xs_42 : am_xs pc lc (.int v :: .int i :: .ref 42 :: r) (am_Z cl sl F A L) K = (vp_in i 72 ∧ K pc lc r (am_Z cl sl F (am_f2 A 42 i.toNatClampNeg v) L)) := xs_g (by decide) rfl
theorem al_42 : am_al X e pc lc (.ref 42 :: r) (am_Z cl sl F A L) K = K pc lc (.int 72 :: r) (am_Z cl sl F A L) := al_g (by decide) rfl
theorem ob_43 : am_ob (am_Z cl sl F A L) 43 5 = True := ob_g (by decide) rfl
theorem gt_43_0 : am_gt 160 pc lc (.ref 43 :: r) (am_Z cl sl F A L) K = K pc lc (.int (F 43 0) :: r) (am_Z cl sl F A L) := gt_i (by decide) rfl rfl
theorem pt_43_0 : am_pt 160 pc lc (.int x :: .ref 43 :: r) (am_Z cl sl F A L) K = K pc lc r (am_Z cl sl (am_f2 F 43 0 x) A L) := pt_i (by decide) rfl rfl rfl
theorem gt_43_1 : am_gt 161 pc lc (.ref 43 :: r) (am_Z cl sl F A L) K = K pc lc (.ref 44 :: r) (am_Z cl sl F A L) := gt_r (by decide) rfl rfl
theorem gt_43_2 : am_gt 162 pc lc (.ref 43 :: r) (am_Z cl sl F A L) K = K pc lc (.ref 45 :: r) (am_Z cl sl F A L) := gt_r (by decide) rfl rfl
theorem gt_43_3 : am_gt 163 pc lc (.ref 43 :: r) (am_Z cl sl F A L) K = K pc lc (.ref 46 :: r) (am_Z cl sl F A L) := gt_r (by decide) rfl rfl
theorem gt_43_4 : am_gt 164 pc lc (.ref 43 :: r) (am_Z cl sl F A L) K = K pc lc (.ref 47 :: r) (am_Z cl sl F A L) := gt_r (by decide) rfl rfl
theorem gt_43_5 : am_gt 165 pc lc (.ref 43 :: r) (am_Z cl sl F A L) K = K pc lc (.int (F 43 5) :: r) (am_Z cl sl F A L) := gt_i (by decide) rfl rfl
theorem pt_43_5 : am_pt 165 pc lc (.int x :: .ref 43 :: r) (am_Z cl sl F A L) K = K pc lc r (am_Z cl sl (am_f2 F 43 5 x) A L) := pt_i (by decide) rfl rfl rfl
theorem gt_43_6 : am_gt 166 pc lc (.ref 43 :: r) (am_Z cl sl F A L) K = K pc lc (.ref 48 :: r) (am_Z cl sl F A L) := gt_r (by decide) rfl rfl
theorem gt_43_7 : am_gt 167 pc lc (.ref 43 :: r) (am_Z cl sl F A L) K = K pc lc (.ref 49 :: r) (am_Z cl sl F A L) := gt_r (by decide) rfl rfl
theorem gt_43_8 : am_gt 168 pc lc (.ref 43 :: r) (am_Z cl sl F A L) K = K pc lc (.int (F 43 8) :: r) (am_Z cl sl F A L) := gt_i (by decide) rfl rfl
theorem pt_43_8 : am_pt 168 pc lc (.int x :: .ref 43 :: r) (am_Z cl sl F A L) K = K pc lc r (am_Z cl sl (am_f2 F 43 8 x) A L) := pt_i (by decide) rfl rfl rfl
theorem gt_43_9 : am_gt 169 pc lc (.ref 43 :: r) (am_Z cl sl F A L) K = K pc lc (.int (F 43 9) :: r) (am_Z cl sl F A L) := gt_i (by decide) rfl rfl
theorem pt_43_9 : am_pt 169 pc lc (.int x :: .ref 43 :: r) (am_Z cl sl F A L) K = K pc lc r (am_Z cl sl (am_f2 F 43 9 x) A L) := pt_i (by decide) rfl rfl rfl
theorem gt_43_10 : am_gt 170 pc lc (.ref 43 :: r) (am_Z cl sl F A L) K = K pc lc (.int (F 43 10) :: r) (am_Z cl sl F A L) := gt_i (by decide) rfl rfl
theorem pt_43_10 : am_pt 170 pc lc (.int x :: .ref 43 :: r) (am_Z cl sl F A L) K = K pc lc r (am_Z cl sl (am_f2 F 43 10 x) A L) := pt_i (by decide) rfl rfl rfl
theorem gt_43_11 : am_gt 171 pc lc (.ref 43 :: r) (am_Z cl sl F A L) K = K pc lc (.ref 50 :: r) (am_Z cl sl F A L) := gt_r (by decide) rfl rfl
theorem gt_43_12 : am_gt 172 pc lc (.ref 43 :: r) (am_Z cl sl F A L) K = K pc lc (.ref 51 :: r) (am_Z cl sl F A L) := gt_r (by decide) rfl rfl
theorem gt_43_13 : am_gt 173 pc lc (.ref 43 :: r) (am_Z cl sl F A L) K = K pc lc (.int (F 43 13) :: r) (am_Z cl sl F A L) := gt_i (by decide) rfl rfl
theorem pt_43_13 : am_pt 173 pc lc (.int x :: .ref 43 :: r) (am_Z cl sl F A L) K = K pc lc r (am_Z cl sl (am_f2 F 43 13 x) A L) := pt_i (by decide) rfl rfl rfl
theorem xl_44 : am_xl X e pc lc (.int i :: .ref 44 :: r) (am_Z cl sl F A L) K = (vp_in i 60 ∧ K pc lc (.int (A 44 i.toNatClampNeg) :: r) (am_Z cl sl F A L)) := xl_g (by decide) rfl
theorem xs_44 : am_xs pc lc (.int v :: .int i :: .ref 44 :: r) (am_Z cl sl F A L) K = (vp_in i 60 ∧ K pc lc r (am_Z cl sl F (am_f2 A 44 i.toNatClampNeg v) L)) := xs_g (by decide) rfl
theorem al_44 : am_al X e pc lc (.ref 44 :: r) (am_Z cl sl F A L) K = K pc lc (.int 60 :: r) (am_Z cl sl F A L) := al_g (by decide) rfl
theorem xl_45 : am_xl X e pc lc (.int i :: .ref 45 :: r) (am_Z cl sl F A L) K = (vp_in i 60 ∧ K pc lc (.int (A 45 i.toNatClampNeg) :: r) (am_Z cl sl F A L)) := xl_g (by decide) rfl
theorem xs_45 : am_xs pc lc (.int v :: .int i :: .ref 45 :: r) (am_Z cl sl F A L) K = (vp_in i 60 ∧ K pc lc r (am_Z cl sl F (am_f2 A 45 i.toNatClampNeg v) L)) := xs_g (by decide) rfl
theorem al_45 : am_al X e pc lc (.ref 45 :: r) (am_Z cl sl F A L) K = K pc lc (.int 60 :: r) (am_Z cl sl F A L) := al_g (by decide) rfl
theorem xl_46 : am_xl X e pc lc (.int i :: .ref 46 :: r) (am_Z cl sl F A L) K = (vp_in i 1440 ∧ K pc lc (.int (A 46 i.toNatClampNeg) :: r) (am_Z cl sl F A L)) := xl_g (by decide) rfl
theorem xs_46 : am_xs pc lc (.int v :: .int i :: .ref 46 :: r) (am_Z cl sl F A L) K = (vp_in i 1440 ∧ K pc lc r (am_Z cl sl F (am_f2 A 46 i.toNatClampNeg v) L)) := xs_g (by decide) rfl
theorem al_46 : am_al X e pc lc (.ref 46 :: r) (am_Z cl sl F A L) K = K pc lc (.int 1440 :: r) (am_Z cl sl F A L) := al_g (by decide) rfl
theorem xl_47 : am_xl X e pc lc (.int i :: .ref 47 :: r) (am_Z cl sl F A L) K = (vp_in i 6 ∧ K pc lc (.int (A 47 i.toNatClampNeg) :: r) (am_Z cl sl F A L)) := xl_g (by decide) rfl
theorem xs_47 : am_xs pc lc (.int v :: .int i :: .ref 47 :: r) (am_Z cl sl F A L) K = (vp_in i 6 ∧ K pc lc r (am_Z cl sl F (am_f2 A 47 i.toNatClampNeg v) L)) := xs_g (by decide) rfl
theorem al_47 : am_al X e pc lc (.ref 47 :: r) (am_Z cl sl F A L) K = K pc lc (.int 6 :: r) (am_Z cl sl F A L) := al_g (by decide) rfl
theorem xl_48 : am_xl X e pc lc (.int i :: .ref 48 :: r) (am_Z cl sl F A L) K = (vp_in i 24 ∧ K pc lc (.int (A 48 i.toNatClampNeg) :: r) (am_Z cl sl F A L)) := xl_g (by decide) rfl
theorem xs_48 : am_xs pc lc (.int v :: .int i :: .ref 48 :: r) (am_Z cl sl F A L) K = (vp_in i 24 ∧ K pc lc r (am_Z cl sl F (am_f2 A 48 i.toNatClampNeg v) L)) := xs_g (by decide) rfl
theorem al_48 : am_al X e pc lc (.ref 48 :: r) (am_Z cl sl F A L) K = K pc lc (.int 24 :: r) (am_Z cl sl F A L) := al_g (by decide) rfl
theorem xl_49 : am_xl X e pc lc (.int i :: .ref 49 :: r) (am_Z cl sl F A L) K = (vp_in i 24 ∧ K pc lc (.int (A 49 i.toNatClampNeg) :: r) (am_Z cl sl F A L)) := xl_g (by decide) rfl
theorem xs_49 : am_xs pc lc (.int v :: .int i :: .ref 49 :: r) (am_Z cl sl F A L) K = (vp_in i 24 ∧ K pc lc r (am_Z cl sl F (am_f2 A 49 i.toNatClampNeg v) L)) := xs_g (by decide) rfl
theorem al_49 : am_al X e pc lc (.ref 49 :: r) (am_Z cl sl F A L) K = K pc lc (.int 24 :: r) (am_Z cl sl F A L) := al_g (by decide) rfl
theorem xl_50 : am_xl X e pc lc (.int i :: .ref 50 :: r) (am_Z cl sl F A L) K = (vp_in i 3 ∧ K pc lc (.int (A 50 i.toNatClampNeg) :: r) (am_Z cl sl F A L)) := xl_g (by decide) rfl
theorem xs_50 : am_xs pc lc (.int v :: .int i :: .ref 50 :: r) (am_Z cl sl F A L) K = (vp_in i 3 ∧ K pc lc r (am_Z cl sl F (am_f2 A 50 i.toNatClampNeg v) L)) := xs_g (by decide) rfl
theorem al_50 : am_al X e pc lc (.ref 50 :: r) (am_Z cl sl F A L) K = K pc lc (.int 3 :: r) (am_Z cl sl F A L) := al_g (by decide) rfl
theorem xl_51 : am_xl X e pc lc (.int i :: .ref 51 :: r) (am_Z cl sl F A L) K = (vp_in i 72 ∧ K pc lc (.int (A 51 i.toNatClampNeg) :: r) (am_Z cl sl F A L)) := xl_g (by decide) rfl
theorem xs_51 : am_xs pc lc (.int v :: .int i :: .ref 51 :: r) (am_Z cl sl F A L) K = (vp_in i 72 ∧ K pc lc r (am_Z cl sl F (am_f2 A 51 i.toNatClampNeg v) L)) := xs_g (by decide) rfl
theorem al_51 : am_al X e pc lc (.ref 51 :: r) (am_Z cl sl F A L) K = K pc lc (.int 72 :: r) (am_Z cl sl F A L) := al_g (by decide) rfl
theorem ob_52 : am_ob (am_Z cl sl F A L) 52 5 = True := ob_g (by decide) rfl
theorem gt_52_0 : am_gt 160 pc lc (.ref 52 :: r) (am_Z cl sl F A L) K = K pc lc (.int (F 52 0) :: r) (am_Z cl sl F A L) := gt_i (by decide) rfl rfl
theorem pt_52_0 : am_pt 160 pc lc (.int x :: .ref 52 :: r) (am_Z cl sl F A L) K = K pc lc r (am_Z cl sl (am_f2 F 52 0 x) A L) := pt_i (by decide) rfl rfl rfl
theorem gt_52_1 : am_gt 161 pc lc (.ref 52 :: r) (am_Z cl sl F A L) K = K pc lc (.ref 53 :: r) (am_Z cl sl F A L) := gt_r (by decide) rfl rfl
theorem gt_52_2 : am_gt 162 pc lc (.ref 52 :: r) (am_Z cl sl F A L) K = K pc lc (.ref 54 :: r) (am_Z cl sl F A L) := gt_r (by decide) rfl rfl
theorem gt_52_3 : am_gt 163 pc lc (.ref 52 :: r) (am_Z cl sl F A L) K = K pc lc (.ref 55 :: r) (am_Z cl sl F A L) := gt_r (by decide) rfl rfl
theorem gt_52_4 : am_gt 164 pc lc (.ref 52 :: r) (am_Z cl sl F A L) K = K pc lc (.ref 56 :: r) (am_Z cl sl F A L) := gt_r (by decide) rfl rfl
theorem gt_52_5 : am_gt 165 pc lc (.ref 52 :: r) (am_Z cl sl F A L) K = K pc lc (.int (F 52 5) :: r) (am_Z cl sl F A L) := gt_i (by decide) rfl rfl
theorem pt_52_5 : am_pt 165 pc lc (.int x :: .ref 52 :: r) (am_Z cl sl F A L) K = K pc lc r (am_Z cl sl (am_f2 F 52 5 x) A L) := pt_i (by decide) rfl rfl rfl
theorem gt_52_6 : am_gt 166 pc lc (.ref 52 :: r) (am_Z cl sl F A L) K = K pc lc (.ref 57 :: r) (am_Z cl sl F A L) := gt_r (by decide) rfl rfl
theorem gt_52_7 : am_gt 167 pc lc (.ref 52 :: r) (am_Z cl sl F A L) K = K pc lc (.ref 58 :: r) (am_Z cl sl F A L) := gt_r (by decide) rfl rfl
theorem gt_52_8 : am_gt 168 pc lc (.ref 52 :: r) (am_Z cl sl F A L) K = K pc lc (.int (F 52 8) :: r) (am_Z cl sl F A L) := gt_i (by decide) rfl rfl
theorem pt_52_8 : am_pt 168 pc lc (.int x :: .ref 52 :: r) (am_Z cl sl F A L) K = K pc lc r (am_Z cl sl (am_f2 F 52 8 x) A L) := pt_i (by decide) rfl rfl rfl
theorem gt_52_9 : am_gt 169 pc lc (.ref 52 :: r) (am_Z cl sl F A L) K = K pc lc (.int (F 52 9) :: r) (am_Z cl sl F A L) := gt_i (by decide) rfl rfl
theorem pt_52_9 : am_pt 169 pc lc (.int x :: .ref 52 :: r) (am_Z cl sl F A L) K = K pc lc r (am_Z cl sl (am_f2 F 52 9 x) A L) := pt_i (by decide) rfl rfl rfl
theorem gt_52_10 : am_gt 170 pc lc (.ref 52 :: r) (am_Z cl sl F A L) K = K pc lc (.int (F 52 10) :: r) (am_Z cl sl F A L) := gt_i (by decide) rfl rfl
theorem pt_52_10 : am_pt 170 pc lc (.int x :: .ref 52 :: r) (am_Z cl sl F A L) K = K pc lc r (am_Z cl sl (am_f2 F 52 10 x) A L) := pt_i (by decide) rfl rfl rfl
theorem gt_52_11 : am_gt 171 pc lc (.ref 52 :: r) (am_Z cl sl F A L) K = K pc lc (.ref 59 :: r) (am_Z cl sl F A L) := gt_r (by decide) rfl rfl
theorem gt_52_12 : am_gt 172 pc lc (.ref 52 :: r) (am_Z cl sl F A L) K = K pc lc (.ref 60 :: r) (am_Z cl sl F A L) := gt_r (by decide) rfl rfl
theorem gt_52_13 : am_gt 173 pc lc (.ref 52 :: r) (am_Z cl sl F A L) K = K pc lc (.int (F 52 13) :: r) (am_Z cl sl F A L) := gt_i (by decide) rfl rfl
theorem pt_52_13 : am_pt 173 pc lc (.int x :: .ref 52 :: r) (am_Z cl sl F A L) K = K pc lc r (am_Z cl sl (am_f2 F 52 13 x) A L) := pt_i (by decide) rfl rfl rfl
theorem xl_53 : am_xl X e pc lc (.int i :: .ref 53 :: r) (am_Z cl sl F A L) K = (vp_in i 60 ∧ K pc lc (.int (A 53 i.toNatClampNeg) :: r) (am_Z cl sl F A L)) := xl_g (by decide) rfl
theorem xs_53 : am_xs pc lc (.int v :: .int i :: .ref 53 :: r) (am_Z cl sl F A L) K = (vp_in i 60 ∧ K pc lc r (am_Z cl sl F (am_f2 A 53 i.toNatClampNeg v) L)) := xs_g (by decide) rfl
theorem al_53 : am_al X e pc lc (.ref 53 :: r) (am_Z cl sl F A L) K = K pc lc (.int 60 :: r) (am_Z cl sl F A L) := al_g (by decide) rfl
theorem xl_54 : am_xl X e pc lc (.int i :: .ref 54 :: r) (am_Z cl sl F A L) K = (vp_in i 60 ∧ K pc lc (.int (A 54 i.toNatClampNeg) :: r) (am_Z cl sl F A L)) := xl_g (by decide) rfl
theorem xs_54 : am_xs pc lc (.int v :: .int i :: .ref 54 :: r) (am_Z cl sl F A L) K = (vp_in i 60 ∧ K pc lc r (am_Z cl sl F (am_f2 A 54 i.toNatClampNeg v) L)) := xs_g (by decide) rfl
theorem al_54 : am_al X e pc lc (.ref 54 :: r) (am_Z cl sl F A L) K = K pc lc (.int 60 :: r) (am_Z cl sl F A L) := al_g (by decide) rfl
theorem xl_55 : am_xl X e pc lc (.int i :: .ref 55 :: r) (am_Z cl sl F A L) K = (vp_in i 1440 ∧ K pc lc (.int (A 55 i.toNatClampNeg) :: r) (am_Z cl sl F A L)) := xl_g (by decide) rfl
theorem xs_55 : am_xs pc lc (.int v :: .int i :: .ref 55 :: r) (am_Z cl sl F A L) K = (vp_in i 1440 ∧ K pc lc r (am_Z cl sl F (am_f2 A 55 i.toNatClampNeg v) L)) := xs_g (by decide) rfl
theorem al_55 : am_al X e pc lc (.ref 55 :: r) (am_Z cl sl F A L) K = K pc lc (.int 1440 :: r) (am_Z cl sl F A L) := al_g (by decide) rfl
theorem xl_56 : am_xl X e pc lc (.int i :: .ref 56 :: r) (am_Z cl sl F A L) K = (vp_in i 6 ∧ K pc lc (.int (A 56 i.toNatClampNeg) :: r) (am_Z cl sl F A L)) := xl_g (by decide) rfl
theorem xs_56 : am_xs pc lc (.int v :: .int i :: .ref 56 :: r) (am_Z cl sl F A L) K = (vp_in i 6 ∧ K pc lc r (am_Z cl sl F (am_f2 A 56 i.toNatClampNeg v) L)) := xs_g (by decide) rfl
theorem al_56 : am_al X e pc lc (.ref 56 :: r) (am_Z cl sl F A L) K = K pc lc (.int 6 :: r) (am_Z cl sl F A L) := al_g (by decide) rfl
theorem xl_57 : am_xl X e pc lc (.int i :: .ref 57 :: r) (am_Z cl sl F A L) K = (vp_in i 24 ∧ K pc lc (.int (A 57 i.toNatClampNeg) :: r) (am_Z cl sl F A L)) := xl_g (by decide) rfl
theorem xs_57 : am_xs pc lc (.int v :: .int i :: .ref 57 :: r) (am_Z cl sl F A L) K = (vp_in i 24 ∧ K pc lc r (am_Z cl sl F (am_f2 A 57 i.toNatClampNeg v) L)) := xs_g (by decide) rfl
theorem al_57 : am_al X e pc lc (.ref 57 :: r) (am_Z cl sl F A L) K = K pc lc (.int 24 :: r) (am_Z cl sl F A L) := al_g (by decide) rfl
theorem xl_58 : am_xl X e pc lc (.int i :: .ref 58 :: r) (am_Z cl sl F A L) K = (vp_in i 24 ∧ K pc lc (.int (A 58 i.toNatClampNeg) :: r) (am_Z cl sl F A L)) := xl_g (by decide) rfl
theorem xs_58 : am_xs pc lc (.int v :: .int i :: .ref 58 :: r) (am_Z cl sl F A L) K = (vp_in i 24 ∧ K pc lc r (am_Z cl sl F (am_f2 A 58 i.toNatClampNeg v) L)) := xs_g (by decide) rfl
theorem al_58 : am_al X e pc lc (.ref 58 :: r) (am_Z cl sl F A L) K = K pc lc (.int 24 :: r) (am_Z cl sl F A L) := al_g (by decide) rfl
theorem xl_59 : am_xl X e pc lc (.int i :: .ref 59 :: r) (am_Z cl sl F A L) K = (vp_in i 3 ∧ K pc lc (.int (A 59 i.toNatClampNeg) :: r) (am_Z cl sl F A L)) := xl_g (by decide) rfl
theorem xs_59 : am_xs pc lc (.int v :: .int i :: .ref 59 :: r) (am_Z cl sl F A L) K = (vp_in i 3 ∧ K pc lc r (am_Z cl sl F (am_f2 A 59 i.toNatClampNeg v) L)) := xs_g (by decide) rfl
theorem al_59 : am_al X e pc lc (.ref 59 :: r) (am_Z cl sl F A L) K = K pc lc (.int 3 :: r) (am_Z cl sl F A L) := al_g (by decide) rfl
theorem xl_60 : am_xl X e pc lc (.int i :: .ref 60 :: r) (am_Z cl sl F A L) K = (vp_in i 72 ∧ K pc lc (.int (A 60 i.toNatClampNeg) :: r) (am_Z cl sl F A L)) := xl_g (by decide) rfl
theorem xs_60 : am_xs pc lc (.int v :: .int i :: .ref 60 :: r) (am_Z cl sl F A L) K = (vp_in i 72 ∧ K pc lc r (am_Z cl sl F (am_f2 A 60 i.toNatClampNeg v) L)) := xs_g (by decide) rfl
theorem al_60 : am_al X e pc lc (.ref 60 :: r) (am_Z cl sl F A L) K = K pc lc (.int 72 :: r) (am_Z cl sl F A L) := al_g (by decide) rfl
theorem ob_61 : am_ob (am_Z cl sl F A L) 61 5 = True := ob_g (by decide) rfl
theorem gt_61_0 : am_gt 160 pc lc (.ref 61 :: r) (am_Z cl sl F A L) K = K pc lc (.int (F 61 0) :: r) (am_Z cl sl F A L) := gt_i (by decide) rfl rfl
theorem pt_61_0 : am_pt 160 pc lc (.int x :: .ref 61 :: r) (am_Z cl sl F A L) K = K pc lc r (am_Z cl sl (am_f2 F 61 0 x) A L) := pt_i (by decide) rfl rfl rfl
theorem gt_61_1 : am_gt 161 pc lc (.ref 61 :: r) (am_Z cl sl F A L) K = K pc lc (.ref 62 :: r) (am_Z cl sl F A L) := gt_r (by decide) rfl rfl
theorem gt_61_2 : am_gt 162 pc lc (.ref 61 :: r) (am_Z cl sl F A L) K = K pc lc (.ref 63 :: r) (am_Z cl sl F A L) := gt_r (by decide) rfl rfl
theorem gt_61_3 : am_gt 163 pc lc (.ref 61 :: r) (am_Z cl sl F A L) K = K pc lc (.ref 64 :: r) (am_Z cl sl F A L) := gt_r (by decide) rfl rfl
theorem gt_61_4 : am_gt 164 pc lc (.ref 61 :: r) (am_Z cl sl F A L) K = K pc lc (.ref 65 :: r) (am_Z cl sl F A L) := gt_r (by decide) rfl rfl
theorem gt_61_5 : am_gt 165 pc lc (.ref 61 :: r) (am_Z cl sl F A L) K = K pc lc (.int (F 61 5) :: r) (am_Z cl sl F A L) := gt_i (by decide) rfl rfl
theorem pt_61_5 : am_pt 165 pc lc (.int x :: .ref 61 :: r) (am_Z cl sl F A L) K = K pc lc r (am_Z cl sl (am_f2 F 61 5 x) A L) := pt_i (by decide) rfl rfl rfl
theorem gt_61_6 : am_gt 166 pc lc (.ref 61 :: r) (am_Z cl sl F A L) K = K pc lc (.ref 66 :: r) (am_Z cl sl F A L) := gt_r (by decide) rfl rfl
theorem gt_61_7 : am_gt 167 pc lc (.ref 61 :: r) (am_Z cl sl F A L) K = K pc lc (.ref 67 :: r) (am_Z cl sl F A L) := gt_r (by decide) rfl rfl
theorem gt_61_8 : am_gt 168 pc lc (.ref 61 :: r) (am_Z cl sl F A L) K = K pc lc (.int (F 61 8) :: r) (am_Z cl sl F A L) := gt_i (by decide) rfl rfl
theorem pt_61_8 : am_pt 168 pc lc (.int x :: .ref 61 :: r) (am_Z cl sl F A L) K = K pc lc r (am_Z cl sl (am_f2 F 61 8 x) A L) := pt_i (by decide) rfl rfl rfl
theorem gt_61_9 : am_gt 169 pc lc (.ref 61 :: r) (am_Z cl sl F A L) K = K pc lc (.int (F 61 9) :: r) (am_Z cl sl F A L) := gt_i (by decide) rfl rfl
theorem pt_61_9 : am_pt 169 pc lc (.int x :: .ref 61 :: r) (am_Z cl sl F A L) K = K pc lc r (am_Z cl sl (am_f2 F 61 9 x) A L) := pt_i (by decide) rfl rfl rfl
theorem gt_61_10 : am_gt 170 pc lc (.ref 61 :: r) (am_Z cl sl F A L) K = K pc lc (.int (F 61 10) :: r) (am_Z cl sl F A L) := gt_i (by decide) rfl rfl
theorem pt_61_10 : am_pt 170 pc lc (.int x :: .ref 61 :: r) (am_Z cl sl F A L) K = K pc lc r (am_Z cl sl (am_f2 F 61 10 x) A L) := pt_i (by decide) rfl rfl rfl
theorem gt_61_11 : am_gt 171 pc lc (.ref 61 :: r) (am_Z cl sl F A L) K = K pc lc (.ref 68 :: r) (am_Z cl sl F A L) := gt_r (by decide) rfl rfl
theorem gt_61_12 : am_gt 172 pc lc (.ref 61 :: r) (am_Z cl sl F A L) K = K pc lc (.ref 69 :: r) (am_Z cl sl F A L) := gt_r (by decide) rfl rfl
theorem gt_61_13 : am_gt 173 pc lc (.ref 61 :: r) (am_Z cl sl F A L) K = K pc lc (.int (F 61 13) :: r) (am_Z cl sl F A L) := gt_i (by decide) rfl rfl
theorem pt_61_13 : am_pt 173 pc lc (.int x :: .ref 61 :: r) (am_Z cl sl F A L) K = K pc lc r (am_Z cl sl (am_f2 F 61 13 x) A L) := pt_i (by decide) rfl rfl rfl
theorem xl_62 : am_xl X e pc lc (.int i :: .ref 62 :: r) (am_Z cl sl F A L) K = (vp_in i 60 ∧ K pc lc (.int (A 62 i.toNatClampNeg) :: r) (am_Z cl sl F A L)) := xl_g (by decide) rfl
theorem xs_62 : am_xs pc lc (.int v :: .int i :: .ref 62 :: r) (am_Z cl sl F A L) K = (vp_in i 60 ∧ K pc lc r (am_Z cl sl F (am_f2 A 62 i.toNatClampNeg v) L)) := xs_g (by decide) rfl
theorem al_62 : am_al X e pc lc (.ref 62 :: r) (am_Z cl sl F A L) K = K pc lc (.int 60 :: r) (am_Z cl sl F A L) := al_g (by decide) rfl
theorem xl_63 : am_xl X e pc lc (.int i :: .ref 63 :: r) (am_Z cl sl F A L) K = (vp_in i 60 ∧ K pc lc (.int (A 63 i.toNatClampNeg) :: r) (am_Z cl sl F A L)) := xl_g (by decide) rfl
theorem xs_63 : am_xs pc lc (.int v :: .int i :: .ref 63 :: r) (am_Z cl sl F A L) K = (vp_in i 60 ∧ K pc lc r (am_Z cl sl F (am_f2 A 63 i.toNatClampNeg v) L)) := xs_g (by decide) rfl
theorem al_63 : am_al X e pc lc (.ref 63 :: r) (am_Z cl sl F A L) K = K pc lc (.int 60 :: r) (am_Z cl sl F A L) := al_g (by decide) rfl
theorem xl_64 : am_xl X e pc lc (.int i :: .ref 64 :: r) (am_Z cl sl F A L) K = (vp_in i 1440 ∧ K pc lc (.int (A 64 i.toNatClampNeg) :: r) (am_Z cl sl F A L)) := xl_g (by decide) rfl
theorem xs_64 : am_xs pc lc (.int v :: .int i :: .ref 64 :: r) (am_Z cl sl F A L) K = (vp_in i 1440 ∧ K pc lc r (am_Z cl sl F (am_f2 A 64 i.toNatClampNeg v) L)) := xs_g (by decide) rfl
theorem al_64 : am_al X e pc lc (.ref 64 :: r) (am_Z cl sl F A L) K = K pc lc (.int 1440 :: r) (am_Z cl sl F A L) := al_g (by decide) rfl
theorem xl_65 : am_xl X e pc lc (.int i :: .ref 65 :: r) (am_Z cl sl F A L) K = (vp_in i 6 ∧ K pc lc (.int (A 65 i.toNatClampNeg) :: r) (am_Z cl sl F A L)) := xl_g (by decide) rfl
theorem xs_65 : am_xs pc lc (.int v :: .int i :: .ref 65 :: r) (am_Z cl sl F A L) K = (vp_in i 6 ∧ K pc lc r (am_Z cl sl F (am_f2 A 65 i.toNatClampNeg v) L)) := xs_g (by decide) rfl
theorem al_65 : am_al X e pc lc (.ref 65 :: r) (am_Z cl sl F A L) K = K pc lc (.int 6 :: r) (am_Z cl sl F A L) := al_g (by decide) rfl
theorem xl_66 : am_xl X e pc lc (.int i :: .ref 66 :: r) (am_Z cl sl F A L) K = (vp_in i 24 ∧ K pc lc (.int (A 66 i.toNatClampNeg) :: r) (am_Z cl sl F A L)) := xl_g (by decide) rfl
theorem xs_66 : am_xs pc lc (.int v :: .int i :: .ref 66 :: r) (am_Z cl sl F A L) K = (vp_in i 24 ∧ K pc lc r (am_Z cl sl F (am_f2 A 66 i.toNatClampNeg v) L)) := xs_g (by decide) rfl
theorem al_66 : am_al X e pc lc (.ref 66 :: r) (am_Z cl sl F A L) K = K pc lc (.int 24 :: r) (am_Z cl sl F A L) := al_g (by decide) rfl
theorem xl_67 : am_xl X e pc lc (.int i :: .ref 67 :: r) (am_Z cl sl F A L) K = (vp_in i 24 ∧ K pc lc (.int (A 67 i.toNatClampNeg) :: r) (am_Z cl sl F A L)) := xl_g (by decide) rfl
theorem xs_67 : am_xs pc lc (.int v :: .int i :: .ref 67 :: r) (am_Z cl sl F A L) K = (vp_in i 24 ∧ K pc lc r (am_Z cl sl F (am_f2 A 67 i.toNatClampNeg v) L)) := xs_g (by decide) rfl
theorem al_67 : am_al X e pc lc (.ref 67 :: r) (am_Z cl sl F A L) K = K pc lc (.int 24 :: r) (am_Z cl sl F A L) := al_g (by decide) rfl
theorem xl_68 : am_xl X e pc lc (.int i :: .ref 68 :: r) (am_Z cl sl F A L) K = (vp_in i 3 ∧ K pc lc (.int (A 68 i.toNatClampNeg) :: r) (am_Z cl sl F A L)) := xl_g (by decide) rfl
theorem xs_68 : am_xs pc lc (.int v :: .int i :: .ref 68 :: r) (am_Z cl sl F A L) K = (vp_in i 3 ∧ K pc lc r (am_Z cl sl F (am_f2 A 68 i.toNatClampNeg v) L)) := xs_g (by decide) rfl
theorem al_68 : am_al X e pc lc (.ref 68 :: r) (am_Z cl sl F A L) K = K pc lc (.int 3 :: r) (am_Z cl sl F A L) := al_g (by decide) rfl
theorem xl_69 : am_xl X e pc lc (.int i :: .ref 69 :: r) (am_Z cl sl F A L) K = (vp_in i 72 ∧ K pc lc (.int (A 69 i.toNatClampNeg) :: r) (am_Z cl sl F A L)) := xl_g (by decide) rfl
theorem xs_69 : am_xs pc lc (.int v :: .int i :: .ref 69 :: r) (am_Z cl sl F A L) K = (vp_in i 72 ∧ K pc lc r (am_Z cl sl F (am_f2 A 69 i.toNatClampNeg v) L)) := xs_g (by decide) rfl
theorem al_69 : am_al X e pc lc (.ref 69 :: r) (am_Z cl sl F A L) K = K pc lc (.int 72 :: r) (am_Z cl sl F A L) := al_g (by decide) rfl
end EV
theorem ki_m103 : am_i (-103) = -nI 103 := by decide
theorem ki_m102 : am_i (-102) = -nI 102 := by decide
theorem ki_m1 : am_i (-1) = m1 := by decide
theorem ki_0 : am_i 0 = nI 0 := by decide
theorem ki_1 : am_i 1 = nI 1 := by decide
theorem ki_2 : am_i 2 = nI 2 := by decide
theorem ki_3 : am_i 3 = nI 3 := by decide
theorem ki_4 : am_i 4 = nI 4 := by decide
theorem ki_5 : am_i 5 = nI 5 := by decide
theorem ki_6 : am_i 6 = nI 6 := by decide
theorem ki_7 : am_i 7 = nI 7 := by decide
theorem ki_8 : am_i 8 = nI 8 := by decide
theorem ki_9 : am_i 9 = nI 9 := by decide
theorem ki_10 : am_i 10 = nI 10 := by decide
theorem ki_11 : am_i 11 = nI 11 := by decide
theorem ki_12 : am_i 12 = nI 12 := by decide
theorem ki_13 : am_i 13 = nI 13 := by decide
theorem ki_14 : am_i 14 = nI 14 := by decide
theorem ki_16 : am_i 16 = nI 16 := by decide
theorem ki_17 : am_i 17 = nI 17 := by decide
theorem ki_18 : am_i 18 = nI 18 := by decide
theorem ki_19 : am_i 19 = nI 19 := by decide
theorem ki_20 : am_i 20 = nI 20 := by decide
theorem ki_21 : am_i 21 = nI 21 := by decide
theorem ki_22 : am_i 22 = nI 22 := by decide
theorem ki_24 : am_i 24 = nI 24 := by decide
theorem ki_26 : am_i 26 = nI 26 := by decide
theorem ki_30 : am_i 30 = nI 30 := by decide
theorem ki_31 : am_i 31 = nI 31 := by decide
theorem ki_32 : am_i 32 = nI 32 := by decide
theorem ki_33 : am_i 33 = nI 33 := by decide
theorem ki_34 : am_i 34 = nI 34 := by decide
theorem ki_35 : am_i 35 = nI 35 := by decide
theorem ki_36 : am_i 36 = nI 36 := by decide
theorem ki_37 : am_i 37 = nI 37 := by decide
theorem ki_40 : am_i 40 = nI 40 := by decide
theorem ki_44 : am_i 44 = nI 44 := by decide
theorem ki_46 : am_i 46 = nI 46 := by decide
theorem ki_48 : am_i 48 = nI 48 := by decide
theorem ki_49 : am_i 49 = nI 49 := by decide
theorem ki_51 : am_i 51 = nI 51 := by decide
theorem ki_53 : am_i 53 = nI 53 := by decide
theorem ki_57 : am_i 57 = nI 57 := by decide
theorem ki_58 : am_i 58 = nI 58 := by decide
theorem ki_59 : am_i 59 = nI 59 := by decide
theorem ki_60 : am_i 60 = nI 60 := by decide
theorem ki_61 : am_i 61 = nI 61 := by decide
theorem ki_62 : am_i 62 = nI 62 := by decide
theorem ki_72 : am_i 72 = nI 72 := by decide
theorem ki_97 : am_i 97 = nI 97 := by decide
theorem ki_98 : am_i 98 = nI 98 := by decide
theorem ki_99 : am_i 99 = nI 99 := by decide
theorem ki_100 : am_i 100 = nI 100 := by decide
theorem ki_101 : am_i 101 = nI 101 := by decide
theorem ki_109 : am_i 109 = nI 109 := by decide
theorem ki_112 : am_i 112 = nI 112 := by decide
theorem ki_114 : am_i 114 = nI 114 := by decide
theorem ki_115 : am_i 115 = nI 115 := by decide
theorem ki_126 : am_i 126 = nI 126 := by decide
theorem ki_1440 : am_i 1440 = nI 1440 := by decide
theorem ki_5507 : am_i 5507 = nI 5507 := by decide
theorem ki_5717 : am_i 5717 = nI 5717 := by decide
