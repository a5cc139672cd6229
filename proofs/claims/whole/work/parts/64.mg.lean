/-! THE MODEL'S WHOLE STATE; what a changing call of it begins and ends with -/
def mG (F A : Nat → Nat → Int32) (G : Fu) : Prop := (mR (A 71) G.S) ∧ (zO G.S) ∧ (F 70 5 = nI G.m) ∧ (∀ a, a < G.m → mR (fun k => A 74 (1764 * a + k)) (G.rs a) ∧ zO (G.rs a)) ∧ (F 70 3 = nI G.hs) ∧ (G.hs = 1 → mR (A 73) G.sn ∧ zO G.sn) ∧ (F 70 7 = nI G.len) ∧ (∀ i, i < G.len → A 75 i = nI (G.pd i))
theorem mG.R {F A : Nat → Nat → Int32} {G : Fu} (h : mG F A G) : mR (A 71) G.S := h.1
theorem mG.z {F A : Nat → Nat → Int32} {G : Fu} (h : mG F A G) : zO G.S := h.2.1
theorem mG.m {F A : Nat → Nat → Int32} {G : Fu} (h : mG F A G) : F 70 5 = nI G.m := h.2.2.1
theorem mG.rs {F A : Nat → Nat → Int32} {G : Fu} (h : mG F A G) : ∀ a, a < G.m → mR (fun k => A 74 (1764 * a + k)) (G.rs a) ∧ zO (G.rs a) := h.2.2.2.1
theorem mG.hs {F A : Nat → Nat → Int32} {G : Fu} (h : mG F A G) : F 70 3 = nI G.hs := h.2.2.2.2.1
theorem mG.sn {F A : Nat → Nat → Int32} {G : Fu} (h : mG F A G) : G.hs = 1 → mR (A 73) G.sn ∧ zO G.sn := h.2.2.2.2.2.1
theorem mG.ln {F A : Nat → Nat → Int32} {G : Fu} (h : mG F A G) : F 70 7 = nI G.len := h.2.2.2.2.2.2.1
theorem mG.pd {F A : Nat → Nat → Int32} {G : Fu} (h : mG F A G) : ∀ i, i < G.len → A 75 i = nI (G.pd i) := h.2.2.2.2.2.2.2
theorem mG.mk {F A : Nat → Nat → Int32} {G : Fu} (R : mR (A 71) G.S) (z : zO G.S) (m : F 70 5 = nI G.m) (rs : ∀ a, a < G.m → mR (fun k => A 74 (1764 * a + k)) (G.rs a) ∧ zO (G.rs a)) (hs : F 70 3 = nI G.hs) (sn : G.hs = 1 → mR (A 73) G.sn ∧ zO G.sn) (ln : F 70 7 = nI G.len) (pd : ∀ i, i < G.len → A 75 i = nI (G.pd i)) : mG F A G := ⟨R, z, m, rs, hs, sn, ln, pd⟩
def wG (G : Fu) : Prop := (wS G.S) ∧ (G.m ≤ 4) ∧ (∀ a, a < G.m → wS (G.rs a)) ∧ (G.hs = 1 → wS G.sn) ∧ (G.hs < 2) ∧ (G.len ≤ 60) ∧ (∀ i, i < G.len → 32 ≤ G.pd i ∧ G.pd i ≤ 126)
theorem wG.w {G : Fu} (h : wG G) : wS G.S := h.1
theorem wG.m4 {G : Fu} (h : wG G) : G.m ≤ 4 := h.2.1
theorem wG.rs {G : Fu} (h : wG G) : ∀ a, a < G.m → wS (G.rs a) := h.2.2.1
theorem wG.sn {G : Fu} (h : wG G) : G.hs = 1 → wS G.sn := h.2.2.2.1
theorem wG.h1 {G : Fu} (h : wG G) : G.hs < 2 := h.2.2.2.2.1
theorem wG.l60 {G : Fu} (h : wG G) : G.len ≤ 60 := h.2.2.2.2.2.1
theorem wG.pd {G : Fu} (h : wG G) : ∀ i, i < G.len → 32 ≤ G.pd i ∧ G.pd i ≤ 126 := h.2.2.2.2.2.2
theorem wG.mk {G : Fu} (w : wS G.S) (m4 : G.m ≤ 4) (rs : ∀ a, a < G.m → wS (G.rs a)) (sn : G.hs = 1 → wS G.sn) (h1 : G.hs < 2) (l60 : G.len ≤ 60) (pd : ∀ i, i < G.len → 32 ≤ G.pd i ∧ G.pd i ≤ 126) : wG G := ⟨w, m4, rs, sn, h1, l60, pd⟩
/-- what lies below the model is left alone -/
def Fl (F A F2 A2 : Nat → Nat → Int32) : Prop := (∀ o, o < 70 → F2 o = F o) ∧ ∀ o, o < 70 → A2 o = A o
theorem Fl_id {F A : Nat → Nat → Int32} : Fl F A F A := ⟨fun _ _ => rfl, fun _ _ => rfl⟩
theorem Fl_tr {F A F2 A2 F3 A3 : Nat → Nat → Int32} (h : Fl F A F2 A2) (g : Fl F2 A2 F3 A3) : Fl F A F3 A3 := ⟨fun o h1 => (g.1 o h1).trans (h.1 o h1), fun o h1 => (g.2 o h1).trans (h.2 o h1)⟩
theorem Fl_f {F A F2 A2 : Nat → Nat → Int32} {o k : Nat} {v : Int32} (h : Fl F A F2 A2) (ho : 70 ≤ o) : Fl F A (am_f2 F2 o k v) A2 := ⟨fun x hx => by rw [f2_ne (by omega)]; exact h.1 x hx, h.2⟩
theorem Fl_a {F A F2 A2 : Nat → Nat → Int32} {o : Nat} {g : Nat → Int32} (h : Fl F A F2 A2) (ho : 70 ≤ o) : Fl F A F2 (va_up A2 o g) := ⟨h.1, fun x hx => by rw [up_ne (by omega)]; exact h.2 x hx⟩
theorem mG_fm {F A F2 A2 : Nat → Nat → Int32} {G : Fu} (c : mG F A G) (h : Fm F A F2 A2) : mG F2 A2 G := by
  have e := h.1 70 (by omega)
  have e1 := h.2 71 (by omega)
  have e3 := h.2 73 (by omega)
  have e4 := h.2 74 (by omega)
  have e5 := h.2 75 (by omega)
  refine mG.mk ?_ c.z ?_ ?_ ?_ ?_ ?_ ?_
  · rw [e1]; exact c.R
  · rw [e]; exact c.m
  · rw [e4]; exact c.rs
  · rw [e]; exact c.hs
  · rw [e3]; exact c.sn
  · rw [e]; exact c.ln
  · rw [e5]; exact c.pd
theorem f2_f2 {F : Nat → Nat → Int32} {o k : Nat} {v w : Int32} : am_f2 (am_f2 F o k v) o k w = am_f2 F o k w := by
  funext x j
  by_cases h : x = o
  · subst h
    rw [f2_eq, f2_eq, f2_eq]
    by_cases hj : j = k
    · subst hj; rw [up_eq, up_eq]
    · rw [up_ne hj, up_ne hj, up_ne hj]
  · rw [f2_ne h, f2_ne h, f2_ne h]
def shf (f : Nat → Int32) (i : Nat) : Nat → Int32 := fun k => if k < i then f (k + 1764) else f k
theorem shf_0 {f : Nat → Int32} : shf f 0 = f := by
  funext k
  unfold shf
  rw [if_neg (by omega)]
theorem shf_s {f : Nat → Int32} {i : Nat} : va_up (shf f i) i (shf f i (i + 1764)) = shf f (i + 1) := by
  funext k
  by_cases h : k = i
  · subst h
    rw [up_eq]
    unfold shf
    rw [if_neg (by omega), if_pos (by omega)]
  · rw [up_ne h]
    unfold shf
    by_cases h2 : k < i
    · rw [if_pos h2, if_pos (by omega)]
    · rw [if_neg h2, if_neg (by omega)]
def rcR (f b : Nat → Int32) (m : Nat) : Nat → Int32 := if m = 4 then va_cpy b (shf f 5292) 0 5292 1764 else va_cpy b f 0 (1764 * m) 1764
section MF
variable {d cl sl : Nat} {X : am_X} {F A : Nat → Nat → Int32} {L : Nat → Nat → Int64} {P : am_Q} {S : Ab} {f : Nat → Int32} {G : Fu}
theorem m_begins : am_Ca X (d + 2) 7008 [.ref 70] (am_Z cl sl F A L) P = P (.inl none) (am_Z cl sl (am_f2 F 70 8 (nI 0)) (va_up A 72 (va_cpy (A 71) (A 72) 0 0 1764)) L) := by
  have ec := fun {F : Nat → Nat → Int32} {Q : am_Q} => m_copies (d := d) (X := X) (cl := cl) (sl := sl) (F := F) (A := A) (L := L) (P := Q) (a := 71) (b := 72) (na := 1764) (nb := 1764) (sa := 0) (sb := 0) (by decide) (by decide) rfl rfl (by decide) (by decide) (by decide) (by decide) (by decide)
  rw [c7008]
  simp (disch := omega) only [ec, u7008_0, u7008_1, u7008_2, u7008_5, u7008_6, u7008_9, u7008_10, u7008_11, u7008_14, u7008_15, u7008_18, pt_70_8, gt_70_0, gt_70_1, ki_0, af_x hd_7008, decide_eq_true_eq, if_true, if_false, f2_ne, f2_eq, up_ne, up_eq, kc_int, kc_ref, kc_retAddr, kc_long, kc_double, af_n, af_v, z0, z1, n_of, nz6, nz4, bI_T, bI_F, bI_01, n_lt, n_le, n_eq, n_add, n_mul, n_sub, n_clamp, n_vp, m_lt, m_le, m_eq, m_eq2, m_ltm, m_add, true_and, and_true, eq_self, if_pos, if_neg, List.length_nil, List.length_cons, Nat.reduceAdd, Nat.reduceLeDiff, Nat.zero_le, not_true_eq_false, not_false_eq_true, true_or, or_true]
theorem l_records {F2 A2 : Nat → Nat → Int32} : ∀ (k i : Nat), i + k = 5292 → am_g (d + 1) X am_m7009 10 [.ref 70, .int (nI i)] [] (am_Z cl sl F (va_up A 74 (shf f i)) L) P = am_g (d + 1) X am_m7009 39 [.ref 70, .int (nI 5292)] [] (am_Z cl sl F (va_up A 74 (shf f 5292)) L) P := by
  intro k
  induction k with
  | zero =>
    intro i hi
    obtain rfl : i = 5292 := by omega
    rw [u7009_10]
    simp (disch := omega) only [u7009_0, u7009_1, u7009_4, u7009_5, u7009_8, u7009_9, u7009_11, u7009_14, u7009_17, u7009_18, u7009_21, u7009_22, u7009_23, u7009_26, u7009_27, u7009_30, u7009_31, u7009_32, u7009_33, u7009_36, u7009_40i, u7009_40r, u7009_41, u7009_44, u7009_45, u7009_46, u7009_49, u7009_50, u7009_53, u7009_54, u7009_55, u7009_58, u7009_61, u7009_62, u7009_65, u7009_66, u7009_69, u7009_70i, u7009_70r, u7009_71, u7009_74, u7009_75, u7009_76, u7009_79, gt_70_5, gt_70_4, pt_70_5, gt_70_1, xl_72, xs_72, xl_74, xs_74, ki_0, ki_1, ki_1764, ki_4, ki_5292, af_x hd_7009, decide_eq_true_eq, if_true, if_false, f2_ne, f2_eq, up_ne, up_eq, kc_int, kc_ref, kc_retAddr, kc_long, kc_double, af_n, af_v, z0, z1, n_of, nz6, nz4, bI_T, bI_F, bI_01, n_lt, n_le, n_eq, n_add, n_mul, n_sub, n_clamp, n_vp, m_lt, m_le, m_eq, m_eq2, m_ltm, m_add, true_and, and_true, eq_self, if_pos, if_neg, List.length_nil, List.length_cons, Nat.reduceAdd, Nat.reduceLeDiff, Nat.zero_le, not_true_eq_false, not_false_eq_true, true_or, or_true]
  | succ k ih =>
    intro i hi
    rw [u7009_10]
    simp (disch := omega) only [f2_up, shf_s, u7009_0, u7009_1, u7009_4, u7009_5, u7009_8, u7009_9, u7009_11, u7009_14, u7009_17, u7009_18, u7009_21, u7009_22, u7009_23, u7009_26, u7009_27, u7009_30, u7009_31, u7009_32, u7009_33, u7009_36, u7009_40i, u7009_40r, u7009_41, u7009_44, u7009_45, u7009_46, u7009_49, u7009_50, u7009_53, u7009_54, u7009_55, u7009_58, u7009_61, u7009_62, u7009_65, u7009_66, u7009_69, u7009_70i, u7009_70r, u7009_71, u7009_74, u7009_75, u7009_76, u7009_79, gt_70_5, gt_70_4, pt_70_5, gt_70_1, xl_72, xs_72, xl_74, xs_74, ki_0, ki_1, ki_1764, ki_4, ki_5292, af_x hd_7009, decide_eq_true_eq, if_true, if_false, f2_ne, f2_eq, up_ne, up_eq, kc_int, kc_ref, kc_retAddr, kc_long, kc_double, af_n, af_v, z0, z1, n_of, nz6, nz4, bI_T, bI_F, bI_01, n_lt, n_le, n_eq, n_add, n_mul, n_sub, n_clamp, n_vp, m_lt, m_le, m_eq, m_eq2, m_ltm, m_add, true_and, and_true, eq_self, if_pos, if_neg, List.length_nil, List.length_cons, Nat.reduceAdd, Nat.reduceLeDiff, Nat.zero_le, not_true_eq_false, not_false_eq_true, true_or, or_true]
    exact ih (i + 1) (by omega)
theorem m_records {m : Nat} (hm : F 70 5 = nI m) (h4 : m ≤ 4) : am_Ca X (d + 2) 7009 [.ref 70] (am_Z cl sl F A L) P = P (.inl none) (am_Z cl sl (am_f2 F 70 5 (nI (recM m))) (va_up A 74 (rcR (A 74) (A 72) m)) L) := by
  have ec := fun {F A : Nat → Nat → Int32} {b : Nat} (hb : b ≤ 5292) {Q : am_Q} => m_copies (d := d) (X := X) (cl := cl) (sl := sl) (F := F) (A := A) (L := L) (P := Q) (a := 72) (b := 74) (na := 1764) (nb := 7056) (sa := 0) (sb := b) (by decide) (by decide) rfl rfl (by decide) (by decide) (by decide) (by omega) (by decide)
  rw [c7009]
  unfold recM rcR
  by_cases e : m = 4
  · subst e
    rw [if_pos rfl, if_pos rfl]
    have hl := l_records (d := d) (X := X) (cl := cl) (sl := sl) (F := F) (A := A) (L := L) (P := P) (f := A 74) (F2 := F) (A2 := A) 5292 0 rfl
    rw [shf_0, up_same] at hl
    simp (disch := omega) only [hm, u7009_0, u7009_1, u7009_4, u7009_5, u7009_8, u7009_9, u7009_11, u7009_14, u7009_17, u7009_18, u7009_21, u7009_22, u7009_23, u7009_26, u7009_27, u7009_30, u7009_31, u7009_32, u7009_33, u7009_36, u7009_39, u7009_40i, u7009_40r, u7009_41, u7009_44, u7009_45, u7009_46, u7009_49, u7009_50, u7009_53, u7009_54, u7009_55, u7009_58, u7009_61, u7009_62, u7009_65, u7009_66, u7009_69, u7009_70i, u7009_70r, u7009_71, u7009_74, u7009_75, u7009_76, u7009_79, gt_70_5, gt_70_4, pt_70_5, gt_70_1, xl_72, xs_72, xl_74, xs_74, ki_0, ki_1, ki_1764, ki_4, ki_5292, af_x hd_7009, decide_eq_true_eq, if_true, if_false, f2_ne, f2_eq, up_ne, up_eq, kc_int, kc_ref, kc_retAddr, kc_long, kc_double, af_n, af_v, z0, z1, n_of, nz6, nz4, bI_T, bI_F, bI_01, n_lt, n_le, n_eq, n_add, n_mul, n_sub, n_clamp, n_vp, m_lt, m_le, m_eq, m_eq2, m_ltm, m_add, true_and, and_true, eq_self, if_pos, if_neg, List.length_nil, List.length_cons, Nat.reduceAdd, Nat.reduceLeDiff, Nat.zero_le, not_true_eq_false, not_false_eq_true, true_or, or_true]
    rw [hl]
    simp (disch := omega) only [hm, ec, f2_f2, up_up, u7009_0, u7009_1, u7009_4, u7009_5, u7009_8, u7009_9, u7009_11, u7009_14, u7009_17, u7009_18, u7009_21, u7009_22, u7009_23, u7009_26, u7009_27, u7009_30, u7009_31, u7009_32, u7009_33, u7009_36, u7009_39, u7009_40i, u7009_40r, u7009_41, u7009_44, u7009_45, u7009_46, u7009_49, u7009_50, u7009_53, u7009_54, u7009_55, u7009_58, u7009_61, u7009_62, u7009_65, u7009_66, u7009_69, u7009_70i, u7009_70r, u7009_71, u7009_74, u7009_75, u7009_76, u7009_79, gt_70_5, gt_70_4, pt_70_5, gt_70_1, xl_72, xs_72, xl_74, xs_74, ki_0, ki_1, ki_1764, ki_4, ki_5292, af_x hd_7009, decide_eq_true_eq, if_true, if_false, f2_ne, f2_eq, up_ne, up_eq, kc_int, kc_ref, kc_retAddr, kc_long, kc_double, af_n, af_v, z0, z1, n_of, nz6, nz4, bI_T, bI_F, bI_01, n_lt, n_le, n_eq, n_add, n_mul, n_sub, n_clamp, n_vp, m_lt, m_le, m_eq, m_eq2, m_ltm, m_add, true_and, and_true, eq_self, if_pos, if_neg, List.length_nil, List.length_cons, Nat.reduceAdd, Nat.reduceLeDiff, Nat.zero_le, not_true_eq_false, not_false_eq_true, true_or, or_true]
  · rw [if_neg e, if_neg e]
    simp (disch := omega) only [hm, ec, u7009_0, u7009_1, u7009_4, u7009_5, u7009_8, u7009_9, u7009_11, u7009_14, u7009_17, u7009_18, u7009_21, u7009_22, u7009_23, u7009_26, u7009_27, u7009_30, u7009_31, u7009_32, u7009_33, u7009_36, u7009_39, u7009_40i, u7009_40r, u7009_41, u7009_44, u7009_45, u7009_46, u7009_49, u7009_50, u7009_53, u7009_54, u7009_55, u7009_58, u7009_61, u7009_62, u7009_65, u7009_66, u7009_69, u7009_70i, u7009_70r, u7009_71, u7009_74, u7009_75, u7009_76, u7009_79, gt_70_5, gt_70_4, pt_70_5, gt_70_1, xl_72, xs_72, xl_74, xs_74, ki_0, ki_1, ki_1764, ki_4, ki_5292, af_x hd_7009, decide_eq_true_eq, if_true, if_false, f2_ne, f2_eq, up_ne, up_eq, kc_int, kc_ref, kc_retAddr, kc_long, kc_double, af_n, af_v, z0, z1, n_of, nz6, nz4, bI_T, bI_F, bI_01, n_lt, n_le, n_eq, n_add, n_mul, n_sub, n_clamp, n_vp, m_lt, m_le, m_eq, m_eq2, m_ltm, m_add, true_and, and_true, eq_self, if_pos, if_neg, List.length_nil, List.length_cons, Nat.reduceAdd, Nat.reduceLeDiff, Nat.zero_le, not_true_eq_false, not_false_eq_true, true_or, or_true]
theorem rcR_at {rs : Nat → Ab} {m : Nat} {b : Nat → Int32} (h4 : m ≤ 4) (hr : ∀ a, a < m → mR (fun k => f (1764 * a + k)) (rs a)) (wr : ∀ a, a < m → wS (rs a)) (hB : mR b S) (w : wS S) : ∀ a, a < recM m → mR (fun k => rcR f b m (1764 * a + k)) (recR m rs S a) := by
  intro a ha
  unfold recM at ha
  unfold rcR recR
  by_cases e : m = 4
  · rw [if_pos e] at ha
    rw [if_pos e, if_pos e]
    by_cases e2 : a = 3
    · rw [if_pos e2]
      refine mR_eq hB w fun k hk => ?_
      show va_cpy b (shf f 5292) 0 5292 1764 (1764 * a + k) = b k
      rw [cpy_in (by omega) (by omega), show 0 + (1764 * a + k - 5292) = k by omega]
    · rw [if_neg e2]
      refine mR_eq (hr (a + 1) (by omega)) (wr (a + 1) (by omega)) fun k hk => ?_
      show va_cpy b (shf f 5292) 0 5292 1764 (1764 * a + k) = f (1764 * (a + 1) + k)
      rw [cpy_out (by omega)]
      unfold shf
      rw [if_pos (by omega), show 1764 * a + k + 1764 = 1764 * (a + 1) + k by omega]
  · rw [if_neg e] at ha
    rw [if_neg e, if_neg e]
    by_cases e2 : a = m
    · rw [if_pos e2]
      refine mR_eq hB w fun k hk => ?_
      show va_cpy b f 0 (1764 * m) 1764 (1764 * a + k) = b k
      rw [cpy_in (by omega) (by omega), show 0 + (1764 * a + k - 1764 * m) = k by omega]
    · rw [if_neg e2]
      refine mR_eq (hr a (by omega)) (wr a (by omega)) fun k hk => ?_
      show va_cpy b f 0 (1764 * m) 1764 (1764 * a + k) = f (1764 * a + k)
      rw [cpy_out (by omega)]
theorem m_ends_ok {m k : Nat} {v : Int32} (hm : F 70 5 = nI m) (h4 : m ≤ 4) (h1 : ¬ v = -nI 11) (h2 : ¬ v = -nI 12) : am_Ca X (d + 3) 7010 [.ref 70, .int v, .int (nI k)] (am_Z cl sl F A L) P = P (.inl (some (.int v))) (am_Z cl sl (am_f2 F 70 5 (nI (recM m))) (va_up A 74 (rcR (A 74) (A 72) m)) L) := by
  rw [c7010]
  simp (disch := omega) only [h1, h2, m_records hm h4, u7010_0, u7010_1, u7010_3, u7010_6, u7010_7, u7010_9, u7010_12, u7010_13, u7010_14, u7010_16, u7010_19, u7010_20, u7010_23, u7010_24, u7010_27, u7010_28, u7010_29, u7010_32, u7010_33, ob_70, ki_m11, ki_m12, ki_1, af_x hd_7010, decide_eq_true_eq, if_true, if_false, f2_ne, f2_eq, up_ne, up_eq, kc_int, kc_ref, kc_retAddr, kc_long, kc_double, af_n, af_v, z0, z1, n_of, nz6, nz4, bI_T, bI_F, bI_01, n_lt, n_le, n_eq, n_add, n_mul, n_sub, n_clamp, n_vp, m_lt, m_le, m_eq, m_eq2, m_ltm, m_add, true_and, and_true, eq_self, if_pos, if_neg, List.length_nil, List.length_cons, Nat.reduceAdd, Nat.reduceLeDiff, Nat.zero_le, not_true_eq_false, not_false_eq_true, true_or, or_true]
theorem m_ends_arg {k : Nat} : am_Ca X (d + 3) 7010 [.ref 70, .int (-nI 11), .int (nI k)] (am_Z cl sl F A L) P = P (.inl (some (.int (nI 0)))) (am_Z cl sl (am_f2 F 70 8 (nI 1)) A L) := by
  rw [c7010]
  simp (disch := omega) only [m_fails, u7010_0, u7010_1, u7010_3, u7010_6, u7010_7, u7010_9, u7010_12, u7010_13, u7010_14, u7010_16, u7010_19, u7010_20, u7010_23, u7010_24, u7010_27, u7010_28, u7010_29, u7010_32, u7010_33, ob_70, ki_m11, ki_m12, ki_1, af_x hd_7010, decide_eq_true_eq, if_true, if_false, f2_ne, f2_eq, up_ne, up_eq, kc_int, kc_ref, kc_retAddr, kc_long, kc_double, af_n, af_v, z0, z1, n_of, nz6, nz4, bI_T, bI_F, bI_01, n_lt, n_le, n_eq, n_add, n_mul, n_sub, n_clamp, n_vp, m_lt, m_le, m_eq, m_eq2, m_ltm, m_add, true_and, and_true, eq_self, if_pos, if_neg, List.length_nil, List.length_cons, Nat.reduceAdd, Nat.reduceLeDiff, Nat.zero_le, not_true_eq_false, not_false_eq_true, true_or, or_true]
theorem m_ends_st {k : Nat} : am_Ca X (d + 3) 7010 [.ref 70, .int (-nI 12), .int (nI k)] (am_Z cl sl F A L) P = P (.inl (some (.int (nI 0)))) (am_Z cl sl (am_f2 F 70 8 (nI k)) A L) := by
  have e : (-nI 12 = -nI 11) = False := eq_false (by decide)
  rw [c7010]
  simp (disch := omega) only [e, m_fails, u7010_0, u7010_1, u7010_3, u7010_6, u7010_7, u7010_9, u7010_12, u7010_13, u7010_14, u7010_16, u7010_19, u7010_20, u7010_23, u7010_24, u7010_27, u7010_28, u7010_29, u7010_32, u7010_33, ob_70, ki_m11, ki_m12, ki_1, af_x hd_7010, decide_eq_true_eq, if_true, if_false, f2_ne, f2_eq, up_ne, up_eq, kc_int, kc_ref, kc_retAddr, kc_long, kc_double, af_n, af_v, z0, z1, n_of, nz6, nz4, bI_T, bI_F, bI_01, n_lt, n_le, n_eq, n_add, n_mul, n_sub, n_clamp, n_vp, m_lt, m_le, m_eq, m_eq2, m_ltm, m_add, true_and, and_true, eq_self, if_pos, if_neg, List.length_nil, List.length_cons, Nat.reduceAdd, Nat.reduceLeDiff, Nat.zero_le, not_true_eq_false, not_false_eq_true, true_or, or_true]
def bgF (F : Nat → Nat → Int32) : Nat → Nat → Int32 := am_f2 F 70 8 (nI 0)
def bgA (A : Nat → Nat → Int32) : Nat → Nat → Int32 := va_up A 72 (va_cpy (A 71) (A 72) 0 0 1764)
theorem bg_71 : bgA A 71 = A 71 := up_ne (by decide)
theorem bg_72 (R : mR (A 71) S) (w : wS S) : mR (bgA A 72) S := mR_eq R w fun k hk => by
  unfold bgA
  rw [up_eq, cpy_lo hk]
/-- how a call of the model comes out -/
def wO (X : am_X) (d m : Nat) (args : List Value) (cl sl : Nat) (F A : Nat → Nat → Int32) (L : Nat → Nat → Int64) (t : Nat) (v : Int32) (U : Fu) : Prop := ∃ F2 A2 L2, (∀ P, am_Ca X d m args (am_Z cl sl F A L) P = P (.inl (some (.int v))) (am_Z cl sl F2 A2 L2)) ∧ F2 70 8 = nI t ∧ mG F2 A2 U ∧ Fl F A F2 A2 ∧ Lf L L2
/-- a call that begins, goes and ends -/
def WH (X : am_X) (d M : Nat) (args : List Value) (gm : Nat) (ga : List Value) (k : Nat) (cl sl : Nat) (F A : Nat → Nat → Int32) (L : Nat → Nat → Int64) : Prop := ∀ (v v2 : Int32) (A2 F3 A3 : Nat → Nat → Int32) (L2 : Nat → Nat → Int64), (∀ Q, am_Ca X (d + 5) gm ga (am_Z cl sl (bgF F) (bgA A) L) Q = Q (.inl (some (.int v))) (am_Z cl sl (bgF F) A2 L2)) → (∀ Q, am_Ca X (d + 5) 7010 [.ref 70, .int v, .int (nI k)] (am_Z cl sl (bgF F) A2 L2) Q = Q (.inl (some (.int v2))) (am_Z cl sl F3 A3 L2)) → ∀ P, am_Ca X (d + 6) M args (am_Z cl sl F A L) P = P (.inl (some (.int v2))) (am_Z cl sl F3 A3 L2)
theorem w_ok {M gm k : Nat} {args ga : List Value} {v : Int32} {U : Ab} (hM : WH X d M args gm ga k cl sl F A L) (c : mG F A G) (w : wG G) (go : gO X (d + 5) gm ga cl sl (bgF F) (bgA A) L v U) (h1 : ¬ v = -nI 11) (h2 : ¬ v = -nI 12) : wO X (d + 6) M args cl sl F A L 0 v (setG (recG G) U) := by
  obtain ⟨g, L2, e, r, zz, f⟩ := go
  have hm : bgF F 70 5 = nI G.m := by
    unfold bgF
    rw [f2_eq, up_ne (by decide)]; exact c.m
  refine ⟨_, _, L2, hM v v _ _ _ L2 e (fun Q => m_ends_ok (d := d + 2) hm w.m4 h1 h2), ?_, ?_, ?_, f⟩
  · unfold bgF
    rw [f2_eq, up_ne (by decide), f2_eq, up_eq]
  · have hB : mR (va_up (bgA A) 71 g 72) G.S := by rw [up_ne (by decide)]; exact bg_72 c.R w.w
    have h74 : va_up (bgA A) 71 g 74 = A 74 := by unfold bgA; rw [up_ne (by decide), up_ne (by decide)]
    have hr := rcR_at (f := va_up (bgA A) 71 g 74) (S := G.S) w.m4 (fun a ha => by rw [h74]; exact (c.rs a ha).1) w.rs hB w.w
    refine mG.mk ?_ zz ?_ (fun a ha => ⟨?_, ?_⟩) ?_ ?_ ?_ ?_
    · rw [up_ne (by decide), up_eq]; exact r
    · rw [f2_eq, up_eq]; rfl
    · rw [up_eq]; exact hr a ha
    · show zO (recR G.m G.rs G.S a)
      have ha' : a < recM G.m := ha
      unfold recM at ha'
      have h4 := w.m4
      unfold recR
      by_cases e1 : G.m = 4
      · rw [if_pos e1] at ha'
        rw [if_pos e1]
        by_cases e2 : a = 3
        · rw [if_pos e2]; exact c.z
        · rw [if_neg e2]; exact (c.rs (a + 1) (by omega)).2
      · rw [if_neg e1] at ha'
        rw [if_neg e1]
        by_cases e2 : a = G.m
        · rw [if_pos e2]; exact c.z
        · rw [if_neg e2]; exact (c.rs a (by omega)).2
    · unfold bgF
      rw [f2_eq, up_ne (by decide), f2_eq, up_ne (by decide)]; exact c.hs
    · unfold bgA
      rw [up_ne (by decide), up_ne (by decide), up_ne (by decide)]; exact c.sn
    · unfold bgF
      rw [f2_eq, up_ne (by decide), f2_eq, up_ne (by decide)]; exact c.ln
    · unfold bgA
      rw [up_ne (by decide), up_ne (by decide), up_ne (by decide)]; exact c.pd
  · exact Fl_a (Fl_f (Fl_a (Fl_a (Fl_f Fl_id (by decide)) (by decide)) (by decide)) (by decide)) (by decide)
theorem mG_no {g : Nat → Int32} {t : Int32} (c : mG F A G) (r : mR g G.S) : mG (am_f2 (bgF F) 70 8 t) (va_up (bgA A) 71 g) G := by
  unfold bgF bgA
  refine mG.mk ?_ c.z ?_ ?_ ?_ ?_ ?_ ?_
  · rw [up_eq]; exact r
  · rw [f2_f2, f2_eq, up_ne (by decide)]; exact c.m
  · rw [up_ne (by decide), up_ne (by decide)]; exact c.rs
  · rw [f2_f2, f2_eq, up_ne (by decide)]; exact c.hs
  · rw [up_ne (by decide), up_ne (by decide)]; exact c.sn
  · rw [f2_f2, f2_eq, up_ne (by decide)]; exact c.ln
  · rw [up_ne (by decide), up_ne (by decide)]; exact c.pd
theorem w_arg {M gm k : Nat} {args ga : List Value} (hM : WH X d M args gm ga k cl sl F A L) (c : mG F A G) (go : gO X (d + 5) gm ga cl sl (bgF F) (bgA A) L (-nI 11) G.S) : wO X (d + 6) M args cl sl F A L 1 (nI 0) G := by
  obtain ⟨g, L2, e, r, zz, f⟩ := go
  refine ⟨_, _, L2, hM _ _ _ _ _ L2 e (fun Q => m_ends_arg (d := d + 2)), ?_, mG_no c r, ?_, f⟩
  · rw [f2_eq, up_eq]
  · exact Fl_f (Fl_a (Fl_a (Fl_f Fl_id (by decide)) (by decide)) (by decide)) (by decide)
theorem w_st {M gm k : Nat} {args ga : List Value} (hM : WH X d M args gm ga k cl sl F A L) (c : mG F A G) (go : gO X (d + 5) gm ga cl sl (bgF F) (bgA A) L (-nI 12) G.S) : wO X (d + 6) M args cl sl F A L k (nI 0) G := by
  obtain ⟨g, L2, e, r, zz, f⟩ := go
  refine ⟨_, _, L2, hM _ _ _ _ _ L2 e (fun Q => m_ends_st (d := d + 2)), ?_, mG_no c r, ?_, f⟩
  · rw [f2_eq, up_eq]
  · exact Fl_f (Fl_a (Fl_a (Fl_f Fl_id (by decide)) (by decide)) (by decide)) (by decide)
theorem wh_edit {x y w : Int32} : WH X d 7053 [.ref 70, .int x, .int y, .int w] 7034 [.ref 70, .int x, .int y, .int w] 2 cl sl F A L := by
  intro v v2 A2 F3 A3 L2 h1 h2 P
  unfold bgF bgA at h1
  unfold bgF at h2
  rw [c7053]
  simp (disch := omega) only [m_begins, h1, h2, u7053_0, u7053_1, u7053_4, u7053_5, u7053_6, u7053_7, u7053_8, u7053_9, u7053_12, u7053_13, u7053_16, ob_70, ki_2, af_x hd_7053, decide_eq_true_eq, if_true, if_false, f2_ne, f2_eq, up_ne, up_eq, kc_int, kc_ref, kc_retAddr, kc_long, kc_double, af_n, af_v, z0, z1, n_of, nz6, nz4, bI_T, bI_F, bI_01, n_lt, n_le, n_eq, n_add, n_mul, n_sub, n_clamp, n_vp, m_lt, m_le, m_eq, m_eq2, m_ltm, m_add, true_and, and_true, eq_self, if_pos, if_neg, List.length_nil, List.length_cons, Nat.reduceAdd, Nat.reduceLeDiff, Nat.zero_le, not_true_eq_false, not_false_eq_true, true_or, or_true]
theorem wh_commit : WH X d 7054 [.ref 70] 7037 [.ref 70] 1 cl sl F A L := by
  intro v v2 A2 F3 A3 L2 h1 h2 P
  unfold bgF bgA at h1
  unfold bgF at h2
  rw [c7054]
  simp (disch := omega) only [m_begins, h1, h2, u7054_0, u7054_1, u7054_4, u7054_5, u7054_6, u7054_9, u7054_10, u7054_13, ob_70, ki_1, af_x hd_7054, decide_eq_true_eq, if_true, if_false, f2_ne, f2_eq, up_ne, up_eq, kc_int, kc_ref, kc_retAddr, kc_long, kc_double, af_n, af_v, z0, z1, n_of, nz6, nz4, bI_T, bI_F, bI_01, n_lt, n_le, n_eq, n_add, n_mul, n_sub, n_clamp, n_vp, m_lt, m_le, m_eq, m_eq2, m_ltm, m_add, true_and, and_true, eq_self, if_pos, if_neg, List.length_nil, List.length_cons, Nat.reduceAdd, Nat.reduceLeDiff, Nat.zero_le, not_true_eq_false, not_false_eq_true, true_or, or_true]
theorem wh_reset {x : Int32} : WH X d 7055 [.ref 70, .int x] 7039 [.ref 70, .int x] 2 cl sl F A L := by
  intro v v2 A2 F3 A3 L2 h1 h2 P
  unfold bgF bgA at h1
  unfold bgF at h2
  rw [c7055]
  simp (disch := omega) only [m_begins, h1, h2, u7055_0, u7055_1, u7055_4, u7055_5, u7055_6, u7055_7, u7055_10, u7055_11, u7055_14, ob_70, ki_2, af_x hd_7055, decide_eq_true_eq, if_true, if_false, f2_ne, f2_eq, up_ne, up_eq, kc_int, kc_ref, kc_retAddr, kc_long, kc_double, af_n, af_v, z0, z1, n_of, nz6, nz4, bI_T, bI_F, bI_01, n_lt, n_le, n_eq, n_add, n_mul, n_sub, n_clamp, n_vp, m_lt, m_le, m_eq, m_eq2, m_ltm, m_add, true_and, and_true, eq_self, if_pos, if_neg, List.length_nil, List.length_cons, Nat.reduceAdd, Nat.reduceLeDiff, Nat.zero_le, not_true_eq_false, not_false_eq_true, true_or, or_true]
theorem wh_putAside : WH X d 7056 [.ref 70] 7040 [.ref 70] 1 cl sl F A L := by
  intro v v2 A2 F3 A3 L2 h1 h2 P
  unfold bgF bgA at h1
  unfold bgF at h2
  rw [c7056]
  simp (disch := omega) only [m_begins, h1, h2, u7056_0, u7056_1, u7056_4, u7056_5, u7056_6, u7056_9, u7056_10, u7056_13, ob_70, ki_1, af_x hd_7056, decide_eq_true_eq, if_true, if_false, f2_ne, f2_eq, up_ne, up_eq, kc_int, kc_ref, kc_retAddr, kc_long, kc_double, af_n, af_v, z0, z1, n_of, nz6, nz4, bI_T, bI_F, bI_01, n_lt, n_le, n_eq, n_add, n_mul, n_sub, n_clamp, n_vp, m_lt, m_le, m_eq, m_eq2, m_ltm, m_add, true_and, and_true, eq_self, if_pos, if_neg, List.length_nil, List.length_cons, Nat.reduceAdd, Nat.reduceLeDiff, Nat.zero_le, not_true_eq_false, not_false_eq_true, true_or, or_true]
theorem wh_takeBack : WH X d 7057 [.ref 70] 7041 [.ref 70] 1 cl sl F A L := by
  intro v v2 A2 F3 A3 L2 h1 h2 P
  unfold bgF bgA at h1
  unfold bgF at h2
  rw [c7057]
  simp (disch := omega) only [m_begins, h1, h2, u7057_0, u7057_1, u7057_4, u7057_5, u7057_6, u7057_9, u7057_10, u7057_13, ob_70, ki_1, af_x hd_7057, decide_eq_true_eq, if_true, if_false, f2_ne, f2_eq, up_ne, up_eq, kc_int, kc_ref, kc_retAddr, kc_long, kc_double, af_n, af_v, z0, z1, n_of, nz6, nz4, bI_T, bI_F, bI_01, n_lt, n_le, n_eq, n_add, n_mul, n_sub, n_clamp, n_vp, m_lt, m_le, m_eq, m_eq2, m_ltm, m_add, true_and, and_true, eq_self, if_pos, if_neg, List.length_nil, List.length_cons, Nat.reduceAdd, Nat.reduceLeDiff, Nat.zero_le, not_true_eq_false, not_false_eq_true, true_or, or_true]
theorem wh_newBranch : WH X d 7058 [.ref 70] 7043 [.ref 70] 1 cl sl F A L := by
  intro v v2 A2 F3 A3 L2 h1 h2 P
  unfold bgF bgA at h1
  unfold bgF at h2
  rw [c7058]
  simp (disch := omega) only [m_begins, h1, h2, u7058_0, u7058_1, u7058_4, u7058_5, u7058_6, u7058_9, u7058_10, u7058_13, ob_70, ki_1, af_x hd_7058, decide_eq_true_eq, if_true, if_false, f2_ne, f2_eq, up_ne, up_eq, kc_int, kc_ref, kc_retAddr, kc_long, kc_double, af_n, af_v, z0, z1, n_of, nz6, nz4, bI_T, bI_F, bI_01, n_lt, n_le, n_eq, n_add, n_mul, n_sub, n_clamp, n_vp, m_lt, m_le, m_eq, m_eq2, m_ltm, m_add, true_and, and_true, eq_self, if_pos, if_neg, List.length_nil, List.length_cons, Nat.reduceAdd, Nat.reduceLeDiff, Nat.zero_le, not_true_eq_false, not_false_eq_true, true_or, or_true]
theorem wh_dropBranch {x : Int32} : WH X d 7059 [.ref 70, .int x] 7044 [.ref 70, .int x] 2 cl sl F A L := by
  intro v v2 A2 F3 A3 L2 h1 h2 P
  unfold bgF bgA at h1
  unfold bgF at h2
  rw [c7059]
  simp (disch := omega) only [m_begins, h1, h2, u7059_0, u7059_1, u7059_4, u7059_5, u7059_6, u7059_7, u7059_10, u7059_11, u7059_14, ob_70, ki_2, af_x hd_7059, decide_eq_true_eq, if_true, if_false, f2_ne, f2_eq, up_ne, up_eq, kc_int, kc_ref, kc_retAddr, kc_long, kc_double, af_n, af_v, z0, z1, n_of, nz6, nz4, bI_T, bI_F, bI_01, n_lt, n_le, n_eq, n_add, n_mul, n_sub, n_clamp, n_vp, m_lt, m_le, m_eq, m_eq2, m_ltm, m_add, true_and, and_true, eq_self, if_pos, if_neg, List.length_nil, List.length_cons, Nat.reduceAdd, Nat.reduceLeDiff, Nat.zero_le, not_true_eq_false, not_false_eq_true, true_or, or_true]
theorem wh_switchTo {x : Int32} : WH X d 7060 [.ref 70, .int x] 7045 [.ref 70, .int x] 2 cl sl F A L := by
  intro v v2 A2 F3 A3 L2 h1 h2 P
  unfold bgF bgA at h1
  unfold bgF at h2
  rw [c7060]
  simp (disch := omega) only [m_begins, h1, h2, u7060_0, u7060_1, u7060_4, u7060_5, u7060_6, u7060_7, u7060_10, u7060_11, u7060_14, ob_70, ki_2, af_x hd_7060, decide_eq_true_eq, if_true, if_false, f2_ne, f2_eq, up_ne, up_eq, kc_int, kc_ref, kc_retAddr, kc_long, kc_double, af_n, af_v, z0, z1, n_of, nz6, nz4, bI_T, bI_F, bI_01, n_lt, n_le, n_eq, n_add, n_mul, n_sub, n_clamp, n_vp, m_lt, m_le, m_eq, m_eq2, m_ltm, m_add, true_and, and_true, eq_self, if_pos, if_neg, List.length_nil, List.length_cons, Nat.reduceAdd, Nat.reduceLeDiff, Nat.zero_le, not_true_eq_false, not_false_eq_true, true_or, or_true]
theorem wh_merge {x : Int32} : WH X d 7061 [.ref 70, .int x] 7047 [.ref 70, .int x] 2 cl sl F A L := by
  intro v v2 A2 F3 A3 L2 h1 h2 P
  unfold bgF bgA at h1
  unfold bgF at h2
  rw [c7061]
  simp (disch := omega) only [m_begins, h1, h2, u7061_0, u7061_1, u7061_4, u7061_5, u7061_6, u7061_7, u7061_10, u7061_11, u7061_14, ob_70, ki_2, af_x hd_7061, decide_eq_true_eq, if_true, if_false, f2_ne, f2_eq, up_ne, up_eq, kc_int, kc_ref, kc_retAddr, kc_long, kc_double, af_n, af_v, z0, z1, n_of, nz6, nz4, bI_T, bI_F, bI_01, n_lt, n_le, n_eq, n_add, n_mul, n_sub, n_clamp, n_vp, m_lt, m_le, m_eq, m_eq2, m_ltm, m_add, true_and, and_true, eq_self, if_pos, if_neg, List.length_nil, List.length_cons, Nat.reduceAdd, Nat.reduceLeDiff, Nat.zero_le, not_true_eq_false, not_false_eq_true, true_or, or_true]
theorem wh_replay {x : Int32} : WH X d 7064 [.ref 70, .int x] 7050 [.ref 70, .int x] 2 cl sl F A L := by
  intro v v2 A2 F3 A3 L2 h1 h2 P
  unfold bgF bgA at h1
  unfold bgF at h2
  rw [c7064]
  simp (disch := omega) only [m_begins, h1, h2, u7064_0, u7064_1, u7064_4, u7064_5, u7064_6, u7064_7, u7064_10, u7064_11, u7064_14, ob_70, ki_2, af_x hd_7064, decide_eq_true_eq, if_true, if_false, f2_ne, f2_eq, up_ne, up_eq, kc_int, kc_ref, kc_retAddr, kc_long, kc_double, af_n, af_v, z0, z1, n_of, nz6, nz4, bI_T, bI_F, bI_01, n_lt, n_le, n_eq, n_add, n_mul, n_sub, n_clamp, n_vp, m_lt, m_le, m_eq, m_eq2, m_ltm, m_add, true_and, and_true, eq_self, if_pos, if_neg, List.length_nil, List.length_cons, Nat.reduceAdd, Nat.reduceLeDiff, Nat.zero_le, not_true_eq_false, not_false_eq_true, true_or, or_true]
theorem wh_resolve {x y w : Int32} : WH X d 7065 [.ref 70, .int x, .int y, .int w] 7051 [.ref 70, .int x, .int y, .int w] 2 cl sl F A L := by
  intro v v2 A2 F3 A3 L2 h1 h2 P
  unfold bgF bgA at h1
  unfold bgF at h2
  rw [c7065]
  simp (disch := omega) only [m_begins, h1, h2, u7065_0, u7065_1, u7065_4, u7065_5, u7065_6, u7065_7, u7065_8, u7065_9, u7065_12, u7065_13, u7065_16, ob_70, ki_2, af_x hd_7065, decide_eq_true_eq, if_true, if_false, f2_ne, f2_eq, up_ne, up_eq, kc_int, kc_ref, kc_retAddr, kc_long, kc_double, af_n, af_v, z0, z1, n_of, nz6, nz4, bI_T, bI_F, bI_01, n_lt, n_le, n_eq, n_add, n_mul, n_sub, n_clamp, n_vp, m_lt, m_le, m_eq, m_eq2, m_ltm, m_add, true_and, and_true, eq_self, if_pos, if_neg, List.length_nil, List.length_cons, Nat.reduceAdd, Nat.reduceLeDiff, Nat.zero_le, not_true_eq_false, not_false_eq_true, true_or, or_true]
theorem wh_abort : WH X d 7066 [.ref 70] 7052 [.ref 70] 1 cl sl F A L := by
  intro v v2 A2 F3 A3 L2 h1 h2 P
  unfold bgF bgA at h1
  unfold bgF at h2
  rw [c7066]
  simp (disch := omega) only [m_begins, h1, h2, u7066_0, u7066_1, u7066_4, u7066_5, u7066_6, u7066_9, u7066_10, u7066_13, ob_70, ki_1, af_x hd_7066, decide_eq_true_eq, if_true, if_false, f2_ne, f2_eq, up_ne, up_eq, kc_int, kc_ref, kc_retAddr, kc_long, kc_double, af_n, af_v, z0, z1, n_of, nz6, nz4, bI_T, bI_F, bI_01, n_lt, n_le, n_eq, n_add, n_mul, n_sub, n_clamp, n_vp, m_lt, m_le, m_eq, m_eq2, m_ltm, m_add, true_and, and_true, eq_self, if_pos, if_neg, List.length_nil, List.length_cons, Nat.reduceAdd, Nat.reduceLeDiff, Nat.zero_le, not_true_eq_false, not_false_eq_true, true_or, or_true]
theorem wh_pick {x : Int32} : WH X d 7062 [.ref 70, .int x] 7048 [.ref 70, .int x, .int (nI 0)] 2 cl sl F A L := by
  intro v v2 A2 F3 A3 L2 h1 h2 P
  unfold bgF bgA at h1
  unfold bgF at h2
  rw [c7062]
  simp (disch := omega) only [m_begins, h1, h2, u7062_0, u7062_1, u7062_4, u7062_5, u7062_6, u7062_7, u7062_8, u7062_11, u7062_12, u7062_15, ob_70, ki_0, ki_2, af_x hd_7062, decide_eq_true_eq, if_true, if_false, f2_ne, f2_eq, up_ne, up_eq, kc_int, kc_ref, kc_retAddr, kc_long, kc_double, af_n, af_v, z0, z1, n_of, nz6, nz4, bI_T, bI_F, bI_01, n_lt, n_le, n_eq, n_add, n_mul, n_sub, n_clamp, n_vp, m_lt, m_le, m_eq, m_eq2, m_ltm, m_add, true_and, and_true, eq_self, if_pos, if_neg, List.length_nil, List.length_cons, Nat.reduceAdd, Nat.reduceLeDiff, Nat.zero_le, not_true_eq_false, not_false_eq_true, true_or, or_true]
theorem wh_revert {x : Int32} : WH X d 7063 [.ref 70, .int x] 7048 [.ref 70, .int x, .int (nI 1)] 2 cl sl F A L := by
  intro v v2 A2 F3 A3 L2 h1 h2 P
  unfold bgF bgA at h1
  unfold bgF at h2
  rw [c7063]
  simp (disch := omega) only [m_begins, h1, h2, u7063_0, u7063_1, u7063_4, u7063_5, u7063_6, u7063_7, u7063_8, u7063_11, u7063_12, u7063_15, ob_70, ki_1, ki_2, af_x hd_7063, decide_eq_true_eq, if_true, if_false, f2_ne, f2_eq, up_ne, up_eq, kc_int, kc_ref, kc_retAddr, kc_long, kc_double, af_n, af_v, z0, z1, n_of, nz6, nz4, bI_T, bI_F, bI_01, n_lt, n_le, n_eq, n_add, n_mul, n_sub, n_clamp, n_vp, m_lt, m_le, m_eq, m_eq2, m_ltm, m_add, true_and, and_true, eq_self, if_pos, if_neg, List.length_nil, List.length_cons, Nat.reduceAdd, Nat.reduceLeDiff, Nat.zero_le, not_true_eq_false, not_false_eq_true, true_or, or_true]
end MF
