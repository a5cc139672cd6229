/-! EVERY STEP OF THE SMALL MACHINE IS A STEP OF THE MACHINE: what is made, copies, calls, throws, ends -/
theorem am_w_ai : (.arrayClass .int : Jvm.Cond) ∈ am_gw := am_in_mem (by decide +kernel)
theorem am_w_oi : (.instanceMethod Lib.objectInit : Jvm.Cond) ∈ am_gw := am_in_mem (by decide +kernel)
theorem am_w_oc : (.code Lib.objectInit ⟨#[0xb1]⟩ 1 none : Jvm.Cond) ∈ am_gw := am_in_mem (by decide +kernel)
theorem am_w_xs : (.static Lib.Math.max.name : Jvm.Cond) ∈ am_gw := am_in_mem (by decide +kernel)
theorem am_w_mi : (.initialized "java/lang/Math" : Jvm.Cond) ∈ am_gw := am_in_mem (by decide +kernel)
theorem am_w_xc : (.code Lib.Math.max.name Lib.Math.max.code 2 (some .int) : Jvm.Cond) ∈ am_gw := am_in_mem (by decide +kernel)
theorem am_w_ns : (.static Lib.Math.min.name : Jvm.Cond) ∈ am_gw := am_in_mem (by decide +kernel)
theorem am_w_nc : (.code Lib.Math.min.name Lib.Math.min.code 2 (some .int) : Jvm.Cond) ∈ am_gw := am_in_mem (by decide +kernel)
theorem am_w_cn : (.native arraycopyName : Jvm.Cond) ∈ am_gw := am_in_mem (by decide +kernel)
theorem am_w_cs : (.static arraycopyName : Jvm.Cond) ∈ am_gw := am_in_mem (by decide +kernel)
theorem am_w_ci : (.initialized "java/lang/System" : Jvm.Cond) ∈ am_gw := am_in_mem (by decide +kernel)
theorem am_nfw : nativeFrameWords "java/lang/System" "arraycopy" 5 ≤ 60 := by decide +kernel
section SON
variable {l : Launch} {B : Nat} {b : am_B} {D : va_G} {cA : Nat → ClassId} {X : am_X} {e : am_M} {Q : am_Q}
theorem am_grow {st : am_S} {H H1 : Heap} {d : am_D} {cl2 sl2 : Nat} {F2 A2 : Nat → Nat → Int32} {L2 : Nat → Nat → Int64} (hH : am_H B cA D st H) (hcl : st.2.2.1 = st.1) (z1 : H1.size = H.size + 1) (o1 : ∀ q, q < H.size → H1[q]? = H[q]?)
    (hF : ∀ k, k ≠ st.1 → F2 k = st.2.2.2.2.1 k ∧ A2 k = st.2.2.2.2.2.1 k ∧ L2 k = st.2.2.2.2.2.2 k) (new : va_at D am_cl (H.size, am_c B cA d (F2 st.1) (A2 st.1) (L2 st.1)) H1) : am_H B cA D (st.1 + 1, va_up st.2.1 st.1 d, cl2, sl2, F2, A2, L2) H1 := by
  have hz := hH.1 hcl
  refine ⟨fun _ => by rw [z1, hz]; rfl, fun k hk => ?_⟩
  by_cases hkn : k = st.1
  · subst hkn
    rw [hz] at new
    have hup : va_up st.2.1 st.1 d st.1 = d := by unfold va_up; rw [if_pos rfl]
    unfold am_ce
    dsimp only
    rw [hup]
    exact new
  · have hk2 : k < st.1 := by
      have : k < st.1 + 1 := hk
      omega
    unfold am_ce
    dsimp only
    rw [va_up_ne _ _ hkn, (hF k hkn).1, (hF k hkn).2.1, (hF k hkn).2.2]
    exact (hH.2 k hk2).kept (o1 _ (hH.2 k hk2).lt)
def am_tok (t : FieldType) : Bool := match t with | .int => true | .boolean => true | .object _ => true | .array _ => true | _ => false
theorem am_toks : ∀ ci, ci < 7 → ∀ k, k < am_N ci → am_tok (am_ty ci k) = true := by decide +kernel
theorem am_bk_ok {ci k : Nat} (h : ci < 7) (hk : k < am_N ci) : defaultValue (am_ty ci k) = am_fv B (fun _ => 0) (am_bk ci) k := by
  have h1 := am_toks ci h k hk
  unfold am_fv am_bk
  rw [List.getElem?_map, List.getElem?_range hk]
  simp only [Option.map_some]
  cases ht : am_ty ci k <;> rw [ht] at h1 <;> first | rfl | cases h1
theorem so_new {q : am_I} {lc sk : List Value} {st : am_S} {ci : Nat} (hk : am_q1 e q (.new q.2.2.2) 3 = true) (hci : ci < 7) (h1 : am_in (.classLink (am_nm (am_o e)) q.2.2.2 (am_nm ci)) = true) (h2 : am_in (.instantiable (am_nm ci) (am_N ci)) = true) (h3 : am_in (.initialized (am_nm ci)) = true) (h : am_nw ci (q.1 + q.2.2.1) lc sk st (am_P l B b D cA X e Q)) : am_P l B b D cA X e Q q.1 lc sk st := by
  obtain ⟨hd, hn⟩ := am_q1_s hk
  rw [hn] at h
  obtain ⟨hcl, h⟩ := h
  refine so_gen h 1 (am_N ci) rfl rfl (fun p en R s m args below meth c hF H locs ls c0 s0 Qf hc hs hH hS hL kk => ?_)
  obtain ⟨hx, hb, hml, hr, hown, hts, hlk, htab, hnm, hW, hfr, hlo, htr, hsc⟩ := hF
  have hKn := hW.1.1 ci _ (am_cl_at hci)
  refine W.newcK hx hb hown (hts _ (am_in_mem h1) _) (hts _ (am_in_mem h2) _) (hts _ (am_in_mem h3) _) rfl hd hc hs hKn.2.1 rfl fun H1 kC hkC e1 z1 o1 => ?_
  have hz := hH.1 hcl
  have hfin : am_H B cA D (st.1 + 1, va_up st.2.1 st.1 (0, ci, am_bk ci), st.2.2.1 + 1, st.2.2.2.1 + am_N ci, va_up st.2.2.2.2.1 st.1 (fun _ => 0), st.2.2.2.2.2) H1 := by
    refine am_grow hH hcl z1 o1 (fun k hk => ⟨va_up_ne _ _ hk, rfl, rfl⟩) ?_
    have hup : va_up st.2.2.2.2.1 st.1 (fun _ => 0) st.1 = (fun _ => 0) := by unfold va_up; rw [if_pos rfl]
    rw [hup]
    unfold am_c
    rw [if_pos rfl]
    refine ⟨_, am_cl_at hci, (u_born (am_ty ci) (fun w hw => hts w hw args) (am_u_in hci) hKn hkC e1 (am_ty_ok hci)).to fun j hj => ?_⟩
    dsimp only
    rw [am_fv_V]
    exact am_bk_ok hci hj
  have hSS : va_S (am_A B) s.heap H1 locs := ⟨Nat.le_trans hS.1 (by omega), fun x g1 g2 => (o1 x (Nat.lt_of_lt_of_le g1 hS.1)).trans (hS.2.1 x g1 g2), hS.2.2⟩
  have k2 := kk H1 locs ls hfin hSS hL
  have ev : am_v B b (.ref st.1) = .ref H.size := by rw [hz]; rfl
  rw [List.map_cons, ev] at k2
  exact k2
theorem so_newi {q : am_I} {lc sk : List Value} {st : am_S} (hk : am_q1 e q (.newarray .int) 2 = true) (h : am_na 1 none (q.1 + q.2.2.1) lc sk st (am_P l B b D cA X e Q)) : am_P l B b D cA X e Q q.1 lc sk st := by
  obtain ⟨hd, hn⟩ := am_q1_s hk
  rw [hn] at h
  unfold am_na at h
  split at h
  rotate_left
  · exact h.elim
  rename_i x r
  obtain ⟨⟨hneg, hcl, hbig⟩, h⟩ := h
  refine so_gen h 1 x.toNatClampNeg rfl rfl (fun p en R s m args below meth c hF H locs ls c0 s0 Qf hc hs hH hS hL kk => ?_)
  obtain ⟨hx, hb, hml, hr, hown, hts, hlk, htab, hnm, hW, hfr, hlo, htr, hsc⟩ := hF
  refine va_newaK (atype := .int) (N := x.toNatClampNeg) hx hb (hts _ am_w_ai _) rfl hd rfl hneg rfl (by show x.toNatClampNeg * 4 ≤ _; omega) hc hs rfl fun H1 cZ e1 z1 o1 hAr hNm => ?_
  have hz := hH.1 hcl
  have hcz : cZ = cA 1 := Option.some.inj (hNm.symm.trans (hW.1.2 0 _ rfl).2)
  subst hcz
  have hfin : am_H B cA D (st.1 + 1, va_up st.2.1 st.1 (1, x.toNatClampNeg, []), st.2.2.1 + 1, st.2.2.2.1 + x.toNatClampNeg, st.2.2.2.2.1, va_up st.2.2.2.2.2.1 st.1 (fun _ => 0), va_up st.2.2.2.2.2.2 st.1 (fun _ => 0)) H1 := by
    refine am_grow hH hcl z1 o1 (fun k hk => ⟨rfl, va_up_ne _ _ hk, va_up_ne _ _ hk⟩) ?_
    have hup : va_up st.2.2.2.2.2.1 st.1 (fun _ => 0) st.1 = (fun _ => 0) := by unfold va_up; rw [if_pos rfl]
    rw [hup]
    exact e1
  have hSS : va_S (am_A B) s.heap H1 locs := ⟨Nat.le_trans hS.1 (by omega), fun x g1 g2 => (o1 x (Nat.lt_of_lt_of_le g1 hS.1)).trans (hS.2.1 x g1 g2), hS.2.2⟩
  have k2 := kk H1 locs ls hfin hSS hL
  have ev : am_v B b (.ref st.1) = .ref H.size := by rw [hz]; rfl
  rw [List.map_cons, ev] at k2
  exact k2
theorem so_newq {q : am_I} {lc sk : List Value} {st : am_S} (hk : am_q1 e q (.anewarray q.2.2.2) 3 = true) (h1 : am_in (.classLink (am_nm (am_o e)) q.2.2.2 RX5) = true) (h : am_na 3 (some none) (q.1 + q.2.2.1) lc sk st (am_P l B b D cA X e Q)) : am_P l B b D cA X e Q q.1 lc sk st := by
  obtain ⟨hd, hn⟩ := am_q1_s hk
  rw [hn] at h
  unfold am_na at h
  split at h
  rotate_left
  · exact h.elim
  rename_i x r
  obtain ⟨⟨hneg, hcl, hbig⟩, h⟩ := h
  refine so_gen h 1 x.toNatClampNeg rfl rfl (fun p en R s m args below meth c hF H locs ls c0 s0 Qf hc hs hH hS hL kk => ?_)
  obtain ⟨hx, hb, hml, hr, hown, hts, hlk, htab, hnm, hW, hfr, hlo, htr, hsc⟩ := hF
  refine W.anew hx hb hown (hts _ (am_in_mem h1) _) (va_AO.use hW.2.2.2.2.2.2.1) rfl hd rfl hneg (by omega) hc hs fun cZ kA comp f1 f2 f3 f4 => ?_
  generalize hH1 : H.push ({ cls := cZ, slots := Array.replicate x.toNatClampNeg .null, vm := .none } : Cell) = H1
  have z1 : H1.size = H.size + 1 := by rw [← hH1, Array.size_push]
  have e1 : H1[H.size]? = some (arrV cZ x.toNatClampNeg (fun _ => .null)) := by rw [← hH1, Array.getElem?_push_size, ← arrV_new]
  have o1 : ∀ q : Nat, q < H.size → H1[q]? = H[q]? := fun q hq => by rw [← hH1, Array.getElem?_push, if_neg (Nat.ne_of_lt hq)]
  have hz := hH.1 hcl
  obtain ⟨kA2, comp2, g1, g2, g3, g4⟩ := (hW.1.2 2 _ rfl).2
  have hcz : cZ = cA 3 := Option.some.inj (f1.symm.trans g4)
  subst hcz
  have hfin : am_H B cA D (st.1 + 1, va_up st.2.1 st.1 (3, x.toNatClampNeg, List.replicate x.toNatClampNeg (some none)), st.2.2.1 + 1, st.2.2.2.1 + x.toNatClampNeg, st.2.2.2.2.1, va_up st.2.2.2.2.2.1 st.1 (fun _ => 0), va_up st.2.2.2.2.2.2 st.1 (fun _ => 0)) H1 := by
    refine am_grow hH hcl z1 o1 (fun k hk => ⟨rfl, va_up_ne _ _ hk, va_up_ne _ _ hk⟩) ?_
    show H1[H.size]? = some (vp_cell _ _)
    rw [vp_cell_q, e1]
    congr 2
    funext j
    unfold am_qv
    dsimp only
    by_cases hj : j < x.toNatClampNeg
    · rw [List.getElem?_replicate, if_pos hj]
      rfl
    · rw [List.getElem?_replicate, if_neg hj]
      rfl
  have hSS : va_S (am_A B) s.heap H1 locs := ⟨Nat.le_trans hS.1 (by omega), fun x g1 g2 => (o1 x (Nat.lt_of_lt_of_le g1 hS.1)).trans (hS.2.1 x g1 g2), hS.2.2⟩
  have k2 := kk H1 locs ls hfin hSS hL
  have ev : am_v B b (.ref st.1) = .ref H.size := by rw [hz]; rfl
  rw [List.map_cons, ev] at k2
  exact k2
theorem am_cats {r : List Value} (h : r.length ≤ 4) : ((r.map (am_v B b)).map fun v => v.category).sum ≤ 8 := by
  have h2 : ∀ l : List Value, (l.map fun v => v.category).sum ≤ 2 * l.length := by
    intro l
    induction l with
    | nil => exact Nat.le_refl _
    | cons a l ih =>
      have : a.category ≤ 2 := by cases a <;> simp [Value.category]
      simp only [List.map_cons, List.sum_cons, List.length_cons]
      omega
  have := h2 (r.map (am_v B b))
  rw [List.length_map] at this
  omega
theorem so_obj {q : am_I} {lc sk : List Value} {st : am_S} (hk : am_q1 e q (.invokespecial q.2.2.2) 3 = true) (h1 : am_in (.methodLink (am_nm (am_o e)) q.2.2.2 Lib.objectInit) = true) (h : am_oi (q.1 + q.2.2.1) lc sk st (am_P l B b D cA X e Q)) : am_P l B b D cA X e Q q.1 lc sk st := by
  obtain ⟨hd, hn⟩ := am_q1_s hk
  rw [hn] at h
  unfold am_oi at h
  split at h
  rotate_left
  · exact h.elim
  rename_i ob r
  obtain ⟨hlen, h⟩ := h
  refine so_gen h 0 0 rfl rfl (fun p en R s m args below meth c hF H locs ls c0 s0 Qf hc hs hH hS hL kk => ?_)
  obtain ⟨hx, hb, hml, hr, hown, hts, hlk, htab, hnm, hW, hfr, hlo, htr, hsc⟩ := hF
  have hcs := am_cats (B := B) (b := b) hlen
  refine W.objInit hx hb hown (hts _ (am_in_mem h1) _) (hts _ am_w_oi _) (hts _ am_w_oc _) (g := F0 m q.1 ls _) rfl (by rw [hml]; exact hL.1) rfl hd (by omega) (by show 2 * 0 + _ + 12 ≤ _; omega) ?_
  exact kk H locs ls hH hS hL
theorem so_max {q : am_I} {lc sk : List Value} {st : am_S} (hk : am_q1 e q (.invokestatic q.2.2.2) 3 = true) (h1 : am_in (.methodLink (am_nm (am_o e)) q.2.2.2 Lib.Math.max.name) = true) (h : am_mm (fun x y => if x < y then y else x) (q.1 + q.2.2.1) lc sk st (am_P l B b D cA X e Q)) : am_P l B b D cA X e Q q.1 lc sk st := by
  obtain ⟨hd, hn⟩ := am_q1_s hk
  rw [hn] at h
  unfold am_mm at h
  split at h
  rotate_left
  · exact h.elim
  obtain ⟨hlen, h⟩ := h
  refine so_gen h 0 0 rfl rfl (fun p en R s m args below meth c hF H locs ls c0 s0 Qf hc hs hH hS hL kk => ?_)
  obtain ⟨hx, hb, hml, hr, hown, hts, hlk, htab, hnm, hW, hfr, hlo, htr, hsc⟩ := hF
  have hcs := am_cats (B := B) (b := b) hlen
  exact va_mmax hx hb (by rw [hml, hL.1]) hown (hts _ (am_in_mem h1) _) (hts _ am_w_xs _) (hts _ am_w_mi _) (hts _ am_w_xc _) (by omega) (by omega) (by omega) (by omega) hd (kk H locs ls hH hS hL)
theorem so_min {q : am_I} {lc sk : List Value} {st : am_S} (hk : am_q1 e q (.invokestatic q.2.2.2) 3 = true) (h1 : am_in (.methodLink (am_nm (am_o e)) q.2.2.2 Lib.Math.min.name) = true) (h : am_mm (fun x y => if y < x then y else x) (q.1 + q.2.2.1) lc sk st (am_P l B b D cA X e Q)) : am_P l B b D cA X e Q q.1 lc sk st := by
  obtain ⟨hd, hn⟩ := am_q1_s hk
  rw [hn] at h
  unfold am_mm at h
  split at h
  rotate_left
  · exact h.elim
  obtain ⟨hlen, h⟩ := h
  refine so_gen h 0 0 rfl rfl (fun p en R s m args below meth c hF H locs ls c0 s0 Qf hc hs hH hS hL kk => ?_)
  obtain ⟨hx, hb, hml, hr, hown, hts, hlk, htab, hnm, hW, hfr, hlo, htr, hsc⟩ := hF
  have hcs := am_cats (B := B) (b := b) hlen
  exact va_mmin hx hb (by rw [hml, hL.1]) hown (hts _ (am_in_mem h1) _) (hts _ am_w_ns _) (hts _ am_w_mi _) (hts _ am_w_nc _) (by omega) (by omega) (by omega) (by omega) hd (kk H locs ls hH hS hL)
def am_wl (B : Nat) (cA : Nat → ClassId) (st : am_S) : va_W := (List.range st.1).map fun k => (B + k, am_ce B cA st k)
theorem am_wl_at {st : am_S} {k : Nat} (h : k < st.1) : (am_wl B cA st)[k]? = some (B + k, am_ce B cA st k) := by
  unfold am_wl
  rw [List.getElem?_map, List.getElem?_range h]
  rfl
theorem am_wl_of {st : am_S} {k : Nat} {z : Nat × va_E} (h : (am_wl B cA st)[k]? = some z) : k < st.1 ∧ z = (B + k, am_ce B cA st k) := by
  have hk : k < st.1 := by
    have := (List.getElem?_eq_some_iff.mp h).1
    simpa [am_wl] using this
  rw [am_wl_at hk] at h
  exact ⟨hk, (Option.some.inj h).symm⟩
theorem so_copy {q : am_I} {lc sk : List Value} {st : am_S} (hk : am_q1 e q (.invokestatic q.2.2.2) 3 = true) (h1 : am_in (.methodLink (am_nm (am_o e)) q.2.2.2 arraycopyName) = true) (h : am_cp (q.1 + q.2.2.1) lc sk st (am_P l B b D cA X e Q)) : am_P l B b D cA X e Q q.1 lc sk st := by
  obtain ⟨hd, hn⟩ := am_q1_s hk
  rw [hn] at h
  unfold am_cp at h
  split at h
  rotate_left
  · exact h.elim
  rename_i n dp a1 sp a0 r
  obtain ⟨⟨⟨ha0, k0⟩, ⟨ha1, k1⟩, g1, g2, g3, g4, g5, hne, hlen⟩, h⟩ := h
  refine so_gen h 0 0 rfl rfl (fun p en R s m args below meth c hF H locs ls c0 s0 Qf hc hs hH hS hL kk => ?_)
  obtain ⟨hx, hb, hml, hr, hown, hts, hlk, htab, hnm, hW, hfr, hlo, htr, hsc⟩ := hF
  have hcs := am_cats (B := B) (b := b) hlen
  have hP : va_P D am_cl (am_wl B cA st) H := fun k z hz => by
    obtain ⟨hk, rfl⟩ := am_wl_of hz
    exact hH.2 k hk
  have hDD : va_D (am_A B) (am_wl B cA st) := ⟨fun i j x y hi hj hxy => by
    obtain ⟨-, rfl⟩ := am_wl_of hi
    obtain ⟨-, rfl⟩ := am_wl_of hj
    have : B + i = B + j := hxy
    omega, fun k z hz => by
    obtain ⟨-, rfl⟩ := am_wl_of hz
    exact Nat.le_add_right B k⟩
  refine va_copyi hx hb (by rw [hml, hL.1]) hown (hts _ (am_in_mem h1) _) (hts _ am_w_cn _) (hts _ am_w_cs _) (hts _ am_w_ci _) hW.1 hP hDD hS a0 a1 0 0 (by rw [am_wl_at ha0, am_c1 k0]) (by rw [am_wl_at ha1, am_c1 k1]) rfl rfl rfl g1 g2 g3 g4 g5 (fun i hi => rfl) (by omega) (by have := am_nfw; omega) hd fun H1 locs1 hP1 _ hS1 => ?_
  refine kk H1 locs1 ls ⟨fun z => absurd z hne, fun k hk => ?_⟩ hS1 hL
  have hk : k < st.1 := hk
  by_cases hka : k = a1
  · subst hka
    have h9 := hP1 k _ (List.getElem?_set_self (by unfold am_wl; simpa using hk))
    have hup : va_up st.2.2.2.2.2.1 k (va_cpy (st.2.2.2.2.2.1 a0) (st.2.2.2.2.2.1 k) sp.toNatClampNeg dp.toNatClampNeg n.toNatClampNeg) k = va_cpy (st.2.2.2.2.2.1 a0) (st.2.2.2.2.2.1 k) sp.toNatClampNeg dp.toNatClampNeg n.toNatClampNeg := by unfold va_up; rw [if_pos rfl]
    rw [am_c1 (a := k) (by exact k1)]
    dsimp only
    rw [hup]
    exact h9
  · have h9 := hP1 k _ ((List.getElem?_set_ne (fun z => hka z.symm)).trans (am_wl_at hk))
    unfold am_ce at h9 ⊢
    dsimp only at h9 ⊢
    rw [va_up_ne _ _ hka]
    exact h9
/-! ends -/
theorem so_end {pc : Nat} {lc sk : List Value} {st : am_S} {v : Option Value} (hre : am_re e pc v) (hsk : sk.map (am_v B b) = (v.map (am_v B b)).toList) (h : Q (.inl v) st) : am_P l B b D cA X e Q pc lc sk st := by
  refine ⟨.inl v, st, h, Nat.le_refl _, Nat.le_refl _, fun p en R s m args below meth c hF H locs ls c0 s0 Qf hc hs hH hS hL hE => ?_⟩
  rw [Nat.sub_self, Nat.sub_self, Nat.add_zero, Nat.add_zero] at hE
  rw [hsk]
  exact hE H locs ls pc hre hH hS
theorem so_vret {q : am_I} {lc sk : List Value} {st : am_S} (hk : am_q1 e q .return_ 1 = true) (hr : am_rt e = none) (h : am_rv sk st Q) : am_P l B b D cA X e Q q.1 lc sk st := by
  unfold am_rv at h
  split at h
  · exact so_end (v := none) ⟨(am_q1_s hk).1, hr⟩ rfl h
  · exact h.elim
theorem so_iret {q : am_I} {lc sk : List Value} {st : am_S} (hk : am_q1 e q .ireturn 1 = true) (hr : am_rt e = some .int) (h : am_r1 am_ti sk st Q) : am_P l B b D cA X e Q q.1 lc sk st := by
  unfold am_r1 at h
  split at h
  rotate_left
  · exact h.elim
  rename_i v
  split at h
  rotate_left
  · exact h.elim
  rename_i ht
  cases v <;> first | (cases ht; done) | skip
  exact so_end (v := some (.int _)) ⟨(am_q1_s hk).1, _, hr, rfl⟩ rfl h
theorem so_zret {q : am_I} {lc sk : List Value} {st : am_S} (hk : am_q1 e q .ireturn 1 = true) (hr : am_rt e = some .boolean) (h : am_rz sk st Q) : am_P l B b D cA X e Q q.1 lc sk st := by
  unfold am_rz at h
  split at h
  rotate_left
  · exact h.elim
  obtain ⟨h0, h⟩ := h
  exact so_end (v := some (.int _)) ⟨(am_q1_s hk).1, _, hr, by rcases h0 with rfl | rfl <;> decide⟩ rfl h
theorem so_lret {q : am_I} {lc sk : List Value} {st : am_S} (hk : am_q1 e q .lreturn 1 = true) (hr : am_rt e = some .long) (h : am_r1 am_tl sk st Q) : am_P l B b D cA X e Q q.1 lc sk st := by
  unfold am_r1 at h
  split at h
  rotate_left
  · exact h.elim
  rename_i v
  split at h
  rotate_left
  · exact h.elim
  rename_i ht
  cases v <;> first | (cases ht; done) | skip
  exact so_end (v := some (.long _)) ⟨(am_q1_s hk).1, hr⟩ rfl h
theorem so_dret {q : am_I} {lc sk : List Value} {st : am_S} (hk : am_q1 e q .dreturn 1 = true) (hr : am_rt e = some .double) (h : am_r1 am_td sk st Q) : am_P l B b D cA X e Q q.1 lc sk st := by
  unfold am_r1 at h
  split at h
  rotate_left
  · exact h.elim
  rename_i v
  split at h
  rotate_left
  · exact h.elim
  rename_i ht
  cases v <;> first | (cases ht; done) | skip
  exact so_end (v := some (.double _)) ⟨(am_q1_s hk).1, hr⟩ rfl h
theorem so_aret {q : am_I} {lc sk : List Value} {st : am_S} (hk : am_q1 e q .areturn 1 = true) (hr : am_rt e = some (.object RX5)) (h : am_r1 am_tr sk st Q) : am_P l B b D cA X e Q q.1 lc sk st := by
  unfold am_r1 at h
  split at h
  rotate_left
  · exact h.elim
  rename_i v
  split at h
  rotate_left
  · exact h.elim
  rename_i ht
  cases v <;> first | (cases ht; done) | skip
  exact so_end (v := some (.ref _)) ⟨(am_q1_s hk).1, hr⟩ rfl h
/-! throws -/
theorem am_hat {t : Nat × Nat × Nat × Nat × Nat × Nat × String} (ht : t ∈ am_th) : (∀ w ∈ am_thw t, w ∈ am_gw) ∧ ∀ w ∈ am_thw t, vx_ot w = true := by
  have h := of_decide_eq_true (List.all_eq_true.mp am_th_of t ht)
  have e : am_thw t = am_thw (t.1, t.2.1, t.2.2.1, 0, t.2.2.2.2.1, 0, "") := rfl
  rcases h with ⟨h1, h2, h3, h4⟩ | ⟨h1, h2, h3, h4⟩
  · rw [e, h1, h2, h3, h4]
    have := List.all_eq_true.mp am_th0
    simp only [Bool.and_eq_true] at this
    exact ⟨fun w hw => am_in_mem (this w hw).1, fun w hw => (this w hw).2⟩
  · rw [e, h1, h2, h3, h4]
    have := List.all_eq_true.mp am_th1
    simp only [Bool.and_eq_true] at this
    exact ⟨fun w hw => am_in_mem (this w hw).1, fun w hw => (this w hw).2⟩
theorem so_throw {q : am_I} {lc sk : List Value} {st : am_S} {x : Int} (hhe : (am_hd e).isEmpty = (am_hh e).isEmpty) (hk : am_tc e q x = true) (h : am_tw X e q.1 x.toNat sk st Q) : am_P l B b D cA X e Q q.1 lc sk st := by
  obtain ⟨⟨hhd, hlen, hd5, hlt⟩, h⟩ := h
  unfold am_tc at hk
  split at hk
  rotate_left
  · cases hk
  rename_i t ht
  have htm := List.mem_of_getElem? ht
  simp only [Bool.and_eq_true, beq_iff_eq, decide_eq_true_eq, am_dq] at hk
  obtain ⟨⟨⟨⟨⟨k1, k2⟩, k3⟩, k4⟩, k5⟩, k6⟩ := hk
  have hxt : x.toNat = t.2.1 := by rw [k2]; rfl
  refine ⟨.inr x.toNat, _, h, by show _ ≤ _ + 1; omega, by show _ ≤ _ + 6; omega, fun p en R s m args below meth c hF H locs ls c0 s0 Qf hc hs hH hS hL hE => ?_⟩
  obtain ⟨hx, hb, hml, hr, hown, hts, hlk, htab, hnm, hW, hfr, hlo, htr, hsc⟩ := hF
  obtain ⟨Qc, rfl⟩ := hE
  have e1 : st.2.2.1 + 1 - st.2.2.1 = 1 := by omega
  have e2 : st.2.2.2.1 + 6 - st.2.2.2.1 = 6 := by omega
  dsimp only at hc hs ⊢
  rw [e1] at hc ⊢
  rw [e2] at hs ⊢
  have hcs := am_cats (B := B) (b := b) hlen
  obtain ⟨w1, w2⟩ := am_hat htm
  have hown' : s.vm.findClass (am_nm t.1) = some m.cls := by rw [k1]; exact hown
  obtain ⟨sa, hstr⟩ := hW.2.2.2.2.2.1 t htm
  have hfit : Bundle.fit (am_E t.2.1) = true := by
    have : t.2.1 = 0 ∨ t.2.1 = 1 := by omega
    rcases this with z | z <;> rw [z] <;> decide
  have htb : ∀ (y : ExceptionTableEntry) , y ∈ c.exceptionTable.toList → False := by
    intro y hy
    rw [htab] at hy
    rw [hhe] at hhd
    rw [List.isEmpty_iff.mp hhd] at hy
    cases hy
  have hX : ∀ t1 : State, s.vm.Alike t1.vm → H.size ≤ t1.heap.size → (∀ q : Nat, q < H.size → t1.heap[q]? = H[q]?) → am_XC B cA D x.toNat (st.1, st.2.1, st.2.2.1 + 1, st.2.2.2.1 + 6, st.2.2.2.2) (am_E t.2.1) s t1 := by
    intro t1 _ z1 z2
    refine ⟨by rw [hxt], ⟨fun z => absurd z (by show ¬ st.2.2.1 + 1 = st.1; omega), fun k hk => ?_⟩, Nat.le_trans hS.1 z1, fun y y1 y2 => (z2 y (Nat.lt_of_lt_of_le y1 hS.1)).trans (hS.2.1 y y1 y2)⟩
    exact (hH.2 k hk).kept (z2 _ (hH.2 k hk).lt)
  split at k6
  · simp only [Bool.and_eq_true, decide_eq_true_eq] at k6
    exact vx_throwSW hx hb htr hown' hfit (names := am_up) (by decide) (hts _ (w1 _ List.mem_cons_self) args) (hts _ (w1 _ (List.mem_cons_of_mem _ List.mem_cons_self)) args) hstr (fun w hw => hts _ (w1 _ (List.mem_cons_of_mem _ (List.mem_cons_of_mem _ hw))) args) w2 hW.2.1 hW.2.2.1 hS (by rw [hml, hL.1]) k4 k5 k6.1.1 k6.1.2 k6.2 (fun y hy => (htb y hy).elim) (by show 2 + 3 < _; omega) (by show _ + (13 * (2 + 1) + 43) ≤ _; omega) hc hs hlk hX hS.2.2 (Nat.le_refl _) (Nat.le_refl _)
  · simp only [Bool.and_eq_true, decide_eq_true_eq] at k6
    exact vx_throwS hx hb htr hown' hfit (names := am_up) (by decide) (hts _ (w1 _ List.mem_cons_self) args) (hts _ (w1 _ (List.mem_cons_of_mem _ List.mem_cons_self)) args) hstr (fun w hw => hts _ (w1 _ (List.mem_cons_of_mem _ (List.mem_cons_of_mem _ hw))) args) w2 hW.2.1 hW.2.2.1 hS (by rw [hml, hL.1]) k4 k5 k6.1.1 k6.1.2 k6.2 (fun y hy => (htb y hy).elim) (by show 2 + 3 < _; omega) (by show _ + (13 * (2 + 1) + 43) ≤ _; omega) hc hs hlk hX hS.2.2 (Nat.le_refl _) (Nat.le_refl _)
end SON
