/-! EVERY STEP OF THE SMALL MACHINE IS A STEP OF THE MACHINE: objects and arrays -/
section SOH
variable {l : Launch} {B : Nat} {b : am_B} {D : va_G} {cA : Nat → ClassId} {X : am_X} {e : am_M} {Q : am_Q}
theorem am_P1 {st : am_S} {H : Heap} {o : Nat} (hH : am_H B cA D st H) (ho : o < st.1) {z : va_E} (hz : am_ce B cA st o = z) : va_P D am_cl [(B + o, z)] H := fun k q hq => by
  match k, hq with
  | 0, hq => cases hq; rw [← hz]; exact hH.2 o ho
  | k + 1, hq => simp at hq
theorem am_c0 {st : am_S} {o ci : Nat} (h : am_ob st o ci) : am_ce B cA st o = .inr (ci, (List.range (st.2.1 o).2.2.length).map (am_fv B (st.2.2.2.2.1 o) (st.2.1 o).2.2)) := by
  unfold am_ce am_c
  rw [if_pos h.2.1, h.2.2]
theorem am_c1 {st : am_S} {a : Nat} (h : (st.2.1 a).1 = 1) : am_ce B cA st a = .inl (cA 1, (st.2.1 a).2.1, .inl (st.2.2.2.2.2.1 a)) := by
  unfold am_ce am_c
  rw [if_neg (by rw [h]; decide), if_pos h]
theorem am_c2 {st : am_S} {a : Nat} (h : (st.2.1 a).1 = 2) : am_ce B cA st a = .inl (cA 2, (st.2.1 a).2.1, .inr (.inl (st.2.2.2.2.2.2 a))) := by
  unfold am_ce am_c
  rw [if_neg (by rw [h]; decide), if_neg (by rw [h]; decide), if_pos h]
theorem am_c3 {st : am_S} {a : Nat} (h : (st.2.1 a).1 = 3) : am_ce B cA st a = .inl (cA 3, (st.2.1 a).2.1, .inr (.inr (.inr (.inr (am_qv B (st.2.1 a).2.2))))) := by
  unfold am_ce am_c
  rw [if_neg (by rw [h]; decide), if_neg (by rw [h]; decide), if_neg (by rw [h]; decide)]
theorem am_fs_at {F : Nat → Int32} {rs : List (Option (Option Nat))} {k : Nat} {z : Option (Option Nat)} (h : rs[k]? = some z) : ((List.range rs.length).map (am_fv B F rs))[k]? = some (am_fv B F rs k) := by
  rw [List.getElem?_map, List.getElem?_range (List.getElem?_eq_some_iff.mp h).1]
  rfl
theorem am_upd {st st2 : am_S} {H H1 : Heap} {a : Nat} (hH : am_H B cA D st H) (h1 : st2.1 = st.1) (h2 : st2.2.2.1 = st.2.2.1) (z : H1.size = H.size) (oq : ∀ q, q ≠ B + a → H1[q]? = H[q]?) (same : ∀ k, k ≠ a → am_ce B cA st2 k = am_ce B cA st k) (new : va_at D am_cl (B + a, am_ce B cA st2 a) H1) : am_H B cA D st2 H1 := by
  refine ⟨fun h => by rw [z, h1]; exact hH.1 (by rw [← h2, ← h1]; exact h), fun k hk => ?_⟩
  by_cases hka : k = a
  · subst hka
    exact new
  · rw [same k hka]
    exact (hH.2 k (by rw [← h1]; exact hk)).kept (oq _ (by omega))
theorem am_f2_ne {α : Type} {F : Nat → Nat → α} {o k x : Nat} {v : α} (h : x ≠ o) : am_f2 F o k v x = F x := by
  unfold am_f2 va_up
  rw [if_neg h]
theorem am_f2_eq {α : Type} {F : Nat → Nat → α} {o k : Nat} {v : α} : am_f2 F o k v o = va_up (F o) k v := by
  unfold am_f2
  show (if o = o then _ else _) = _
  rw [if_pos rfl]
theorem so_alen {q : am_I} {lc sk : List Value} {st : am_S} (hk : am_q1 e q .arraylength 1 = true) (h : am_al X e (q.1 + q.2.2.1) lc sk st (am_P l B b D cA X e Q)) : am_P l B b D cA X e Q q.1 lc sk st := by
  obtain ⟨hd, hn⟩ := am_q1_s hk
  rw [hn] at h
  unfold am_al at h
  split at h
  · refine so_gen h 0 0 rfl rfl (fun p en R s m args below meth c hF H locs ls c0 s0 Qf hc hs hH hS hL kk => ?_)
    obtain ⟨hx, hb, hml, hr, hown, hts, hlk, htab, hnm, hW, hfr, hlo, htr, hsc⟩ := hF
    exact va_slen (xs := b.2.2) hx hb (by rw [hsc.1]; exact hW.2.2.2.2.2.2.2.2.1) (Nat.lt_of_lt_of_le hW.2.2.2.2.2.2.2.2.2 hW.2.2.2.2.2.2.2.1) (Nat.not_le.mpr hW.2.2.2.2.2.2.2.2.2) hS hd (kk H locs ls hH hS hL)
  · rename_i a r
    obtain ⟨⟨ha, h1, h3⟩, h⟩ := h
    refine so_gen h 0 0 rfl rfl (fun p en R s m args below meth c hF H locs ls c0 s0 Qf hc hs hH hS hL kk => ?_)
    obtain ⟨hx, hb, hml, hr, hown, hts, hlk, htab, hnm, hW, hfr, hlo, htr, hsc⟩ := hF
    have hz : (st.2.1 a).1 = 1 ∨ (st.2.1 a).1 = 2 ∨ (st.2.1 a).1 = 3 := by omega
    rcases hz with hz | hz | hz
    · exact va_alen hx hb hW.1 (am_P1 hH ha (am_c1 hz)) 0 0 rfl rfl rfl hd (kk H locs ls hH hS hL)
    · exact va_alen hx hb hW.1 (am_P1 hH ha (am_c2 hz)) 0 1 rfl rfl rfl hd (kk H locs ls hH hS hL)
    · exact va_alen hx hb hW.1 (am_P1 hH ha (am_c3 hz)) 0 2 rfl rfl rfl hd (kk H locs ls hH hS hL)
  · exact h.elim
theorem so_iald {q : am_I} {lc sk : List Value} {st : am_S} (hk : am_q1 e q .iaload 1 = true) (h : am_xl X e (q.1 + q.2.2.1) lc sk st (am_P l B b D cA X e Q)) : am_P l B b D cA X e Q q.1 lc sk st := by
  obtain ⟨hd, hn⟩ := am_q1_s hk
  rw [hn] at h
  unfold am_xl at h
  split at h
  · obtain ⟨hin, h⟩ := h
    refine so_gen h 0 0 rfl rfl (fun p en R s m args below meth c hF H locs ls c0 s0 Qf hc hs hH hS hL kk => ?_)
    obtain ⟨hx, hb, hml, hr, hown, hts, hlk, htab, hnm, hW, hfr, hlo, htr, hsc⟩ := hF
    exact va_sld (L := X.1) (xs := X.2.1) hx hb (by rw [hsc.1, hsc.2]; exact hW.2.2.2.2.2.2.2.2.1) (Nat.lt_of_lt_of_le hW.2.2.2.2.2.2.2.2.2 hW.2.2.2.2.2.2.2.1) (Nat.not_le.mpr hW.2.2.2.2.2.2.2.2.2) hS hin hd (kk H locs ls hH hS hL)
  · obtain ⟨⟨ha, h1, hin⟩, h⟩ := h
    refine so_gen h 0 0 rfl rfl (fun p en R s m args below meth c hF H locs ls c0 s0 Qf hc hs hH hS hL kk => ?_)
    obtain ⟨hx, hb, hml, hr, hown, hts, hlk, htab, hnm, hW, hfr, hlo, htr, hsc⟩ := hF
    exact va_iald hx hb hW.1 (am_P1 hH ha (am_c1 h1)) 0 0 rfl rfl hin hd (kk H locs ls hH hS hL)
  · exact h.elim
theorem so_aald {q : am_I} {lc sk : List Value} {st : am_S} (hk : am_q1 e q (.aaload) 1 = true) (h : am_ql (q.1 + q.2.2.1) lc sk st (am_P l B b D cA X e Q)) : am_P l B b D cA X e Q q.1 lc sk st := by
  obtain ⟨hd, hn⟩ := am_q1_s hk
  rw [hn] at h
  unfold am_ql at h
  split at h
  rotate_left
  · exact h.elim
  rename_i i a r
  obtain ⟨⟨ha, h1, hin⟩, h⟩ := h
  split at h
  rotate_left
  · exact h.elim
  rename_i y hy
  refine so_gen h 0 0 rfl rfl (fun p en R s m args below meth c hF H locs ls c0 s0 Qf hc hs hH hS hL kk => ?_)
  obtain ⟨hx, hb, hml, hr, hown, hts, hlk, htab, hnm, hW, hfr, hlo, htr, hsc⟩ := hF
  refine va_aldq hx hb hW.1 (am_P1 hH ha (am_c3 h1)) 0 2 rfl rfl hin hd ?_
  rw [show va_rf (am_qv B (st.2.1 a).2.2 i.toNatClampNeg) = .ref (B + y) by unfold am_qv; rw [hy]; rfl]
  exact (kk H locs ls hH hS hL)
theorem so_iast {q : am_I} {lc sk : List Value} {st : am_S} (hk : am_q1 e q (.iastore) 1 = true) (h : am_xs (q.1 + q.2.2.1) lc sk st (am_P l B b D cA X e Q)) : am_P l B b D cA X e Q q.1 lc sk st := by
  obtain ⟨hd, hn⟩ := am_q1_s hk
  rw [hn] at h
  unfold am_xs at h
  split at h
  rotate_left
  · exact h.elim
  rename_i v i a r
  obtain ⟨⟨ha, h1, hin⟩, h⟩ := h
  refine so_gen h 0 0 rfl rfl (fun p en R s m args below meth c hF H locs ls c0 s0 Qf hc hs hH hS hL kk => ?_)
  obtain ⟨hx, hb, hml, hr, hown, hts, hlk, htab, hnm, hW, hfr, hlo, htr, hsc⟩ := hF
  have hcell : H[B + a]? = some (vp_cell (cA 1) ((st.2.1 a).2.1, .inl (st.2.2.2.2.2.1 a))) := by
    have := hH.2 a ha
    rw [am_c1 h1] at this
    exact this
  refine W.iast hx hb hcell ((hW.1.2 0 _ rfl).1 _ (fun j => .int (st.2.2.2.2.2.1 a j))) (fun q => by cases q) (by show ¬ (i < 0 ∨ (arrV _ _ _).slots.size ≤ _); rw [arrV_size]; exact hin) rfl rfl hd fun H1 e1 z oq => ?_
  refine kk H1 _ ls (am_upd (a := a) hH rfl rfl z oq (fun k hk => ?_) ?_) (hS.put z oq (Nat.le_add_right B a)) hL
  · unfold am_ce
    dsimp only
    rw [am_f2_ne hk]
  · rw [am_c1 (a := a) (by exact h1)]
    show H1[B + a]? = some (vp_cell _ _)
    rw [e1, vp_cell_i, vp_cell_i, arrV_store]
    congr 2
    funext j
    dsimp only
    rw [am_f2_eq]
    by_cases hj : j = i.toNatClampNeg
    · subst hj
      simp [updV, va_up]
    · simp [updV, va_up, hj]
theorem so_aast {q : am_I} {lc sk : List Value} {st : am_S} (hk : am_q1 e q (.aastore) 1 = true) (h : am_qs (q.1 + q.2.2.1) lc sk st (am_P l B b D cA X e Q)) : am_P l B b D cA X e Q q.1 lc sk st := by
  obtain ⟨hd, hn⟩ := am_q1_s hk
  rw [hn] at h
  unfold am_qs at h
  split at h
  rotate_left
  · exact h.elim
  rename_i v i a r
  obtain ⟨⟨⟨ha, h1, hin⟩, hv, hlen⟩, h⟩ := h
  refine so_gen h 0 0 rfl rfl (fun p en R s m args below meth c hF H locs ls c0 s0 Qf hc hs hH hS hL kk => ?_)
  obtain ⟨hx, hb, hml, hr, hown, hts, hlk, htab, hnm, hW, hfr, hlo, htr, hsc⟩ := hF
  have hcell : H[B + a]? = some (vp_cell (cA 3) ((st.2.1 a).2.1, .inr (.inr (.inr (.inr (am_qv B (st.2.1 a).2.2)))))) := by
    have := hH.2 a ha
    rw [am_c3 h1] at this
    exact this
  have hlt : i.toNatClampNeg < (st.2.1 a).2.1 := Nat.not_le.mp fun q => hin (Or.inr q)
  have h0 : ¬ i < 0 := fun q => hin (Or.inl q)
  have hv2 := hH.2 v hv.1
  rw [am_c0 hv] at hv2
  obtain ⟨r', hr', cellV, g1, g2, g3, -⟩ := hv2
  have hcls := (hW.1.1 5 _ (am_cl_at (by decide))).2
  obtain ⟨kA, comp, k1, k2, k3, -⟩ := (hW.1.2 2 _ rfl).2
  have hcomp : comp = D.1 5 := Option.some.inj (k3.symm.trans hcls.1)
  subst hcomp
  obtain ⟨kC, hkC, -⟩ := hcls.2
  refine W.aast hx hb hcell (fun q h => by cases h) (fun h => by cases h) k1 k2 rfl hkC ⟨h0, by show _ < (arrV _ _ _).slots.size; rw [arrV_size]; exact hlt⟩ g1 (fun q h => by rw [g3] at h; cases h) (by rw [g2]; exact hkC) (by rw [g2]; exact va_assign hcls) rfl rfl hd fun H1 e1 z oq => ?_
  refine kk H1 _ ls (am_upd (a := a) hH rfl rfl z oq (fun k hk => ?_) ?_) (hS.put z oq (Nat.le_add_right B a)) hL
  · unfold am_ce
    dsimp only
    rw [va_up_ne _ _ hk]
  · have hup : va_up st.2.1 a (3, (st.2.1 a).2.1, (st.2.1 a).2.2.set i.toNatClampNeg (some (some v))) a = (3, (st.2.1 a).2.1, (st.2.1 a).2.2.set i.toNatClampNeg (some (some v))) := by
      unfold va_up
      rw [if_pos rfl]
    rw [am_c3 (a := a) (by dsimp only; rw [hup])]
    dsimp only
    rw [hup]
    show H1[B + a]? = some (vp_cell _ _)
    rw [e1, vp_cell_q, vp_cell_q, arrV_store]
    congr 2
    funext j
    unfold am_qv updV
    by_cases hj : j = i.toNatClampNeg
    · subst hj
      rw [if_pos rfl, List.getElem?_set_self (by rw [hlen]; exact hlt)]
      rfl
    · rw [if_neg hj, List.getElem?_set_ne (fun q => hj q.symm)]
theorem so_get {q : am_I} {lc sk : List Value} {st : am_S} {ck : Nat} (hk : am_q1 e q (.getfield q.2.2.2) 3 = true) (hf : am_fk ck = true) (hl : am_flk (am_o e) q.2.2.2 ck = true) (h : am_gt ck (q.1 + q.2.2.1) lc sk st (am_P l B b D cA X e Q)) : am_P l B b D cA X e Q q.1 lc sk st := by
  obtain ⟨hd, hn⟩ := am_q1_s hk
  rw [hn] at h
  unfold am_gt at h
  split at h
  rotate_left
  · exact h.elim
  rename_i ob r
  obtain ⟨hob, h⟩ := h
  have hf := of_decide_eq_true hf
  have key : ∀ (v : Value) (z : Option (Option Nat)), (st.2.1 ob).2.2[ck % 32]? = some z → am_fv B (st.2.2.2.2.1 ob) (st.2.1 ob).2.2 (ck % 32) = am_v B b v → am_P l B b D cA X e Q (q.1 + 3) lc (v :: r) st → am_P l B b D cA X e Q q.1 lc (.ref ob :: r) st := by
    intro v z hz hv h
    refine so_gen h 0 0 rfl rfl (fun p en R s m args below meth c hF H locs ls c0 s0 Qf hc hs hH hS hL kk => ?_)
    obtain ⟨hx, hb, hml, hr, hown, hts, hlk, htab, hnm, hW, hfr, hlo, htr, hsc⟩ := hF
    have hfs := am_fs_at (B := B) (F := st.2.2.2.2.1 ob) hz
    rw [hv] at hfs
    rcases am_flk_s hl with hw | hw
    · exact va_get (ref := (am_T (ck / 32) (ck % 32)).1) hx hb (fun w hw => hts w hw args) (am_u_in hf.1) hown hW.1 (am_P1 hH hob.1 (am_c0 hob)) 0 rfl (am_cl_at hf.1) (ck % 32) hf.2 (hts _ hw args) (fun _ h9 => h9) hfs hd (kk H locs ls hH hS hL)
    · exact va_getN (ref := (am_T (ck / 32) (ck % 32)).1) hx hb (fun w hw => hts w hw args) (am_u_in hf.1) hown hW.1 (am_P1 hH hob.1 (am_c0 hob)) 0 rfl (am_cl_at hf.1) (ck % 32) hf.2 (hts _ hw args) (fun _ h9 => h9) hfs hd (kk H locs ls hH hS hL)
  split at h
  · rename_i hz
    exact key _ _ hz (by unfold am_fv; rw [hz]; rfl) h
  · rename_i y hz
    exact key _ _ hz (by unfold am_fv; rw [hz]; rfl) h
  · exact h.elim
theorem am_puts {s : State} {args : Array Value} {ck : Nat} {v : Value} (hts : ∀ w ∈ am_gw, w.before args s = true) (hW : am_W B b D cA s) (hf : ck / 32 < 7 ∧ ck % 32 < am_N (ck / 32)) (hn : narrow (am_ty (ck / 32) (ck % 32)) v = v) (hft : fits (am_ty (ck / 32) (ck % 32)) v = true) {m : MethodId} {meth : Method} (hown : s.vm.findClass (am_nm (am_o e)) = some m.cls) (hnm : meth.name = e.2.1.1)
    (hfin : (if (am_T (ck / 32) (ck % 32)).2.2.2 = true then decide (e.2.1.1 = "<init>" ∧ am_o e = ck / 32 ∧ (am_T (ck / 32) (ck % 32)).1 = am_nm (am_o e)) else true) = true) :
    ∃ (cf i : Nat) (k : Class) (f : Field), s.fieldFound? (am_T (ck / 32) (ck % 32)).1 (am_T (ck / 32) (ck % 32)).2.1 (am_T (ck / 32) (ck % 32)).2.2.1 = some (cf, k, i, f) ∧ f.isStatic = false ∧ (hasFlag f.accessFlags Acc.final = false ∨ (m.cls = cf ∧ meth.name = "<init>")) ∧ f.slot = D.2 (ck / 32) (ck % 32) ∧ narrow f.type v = v ∧ s.fitsSlot (D.1 (ck / 32)) .none f.slot v = true := by
  obtain ⟨hS, hfc, kC, hkC, hkind⟩ := hW.1.1 (ck / 32) _ (am_cl_at hf.1)
  obtain ⟨cf, kf, fi, f, hi, hsl⟩ := hS (ck % 32) hf.2
  have hst := (u_facts hfc hkC (u_lays hts (am_u_in hf.1) hf.2) hi).1
  have hlay := hts _ (am_u_in hf.1 _ (u_in_lay hf.2))
  unfold u_lay at hlay
  by_cases hb : (am_T (ck / 32) (ck % 32)).2.2.2 = true
  · rw [if_pos hb] at hlay
    rw [if_pos hb] at hfin
    obtain ⟨f1, f2, f3⟩ := of_decide_eq_true hfin
    have hcf : m.cls = cf := by
      obtain ⟨_, _, c', _, _, _, -, -, hf', -, -, -, hown2, -⟩ := Cond.laysFinal_spec hlay
      have e1 : c' = cf := by have := hi.symm.trans hf'; simp at this; exact this.1.symm
      rw [f3] at hown2
      rw [← e1]; exact Option.some.inj (hown.symm.trans hown2)
    obtain ⟨h6, h7⟩ := u_fits hfc hkC hkind (Or.inr hlay) hi (am_ty_ok hf.1 _ hf.2) hn hft
    exact ⟨cf, fi, kf, f, hi, hst, Or.inr ⟨hcf, by rw [hnm, f1]⟩, hsl, h6, h7⟩
  · rw [if_neg hb] at hlay
    obtain ⟨h5, h6, h7⟩ := u_store hfc hkC hkind hlay hi (am_ty_ok hf.1 _ hf.2) hn hft
    exact ⟨cf, fi, kf, f, hi, hst, Or.inl h5, hsl, h6, h7⟩
theorem so_put {q : am_I} {lc sk : List Value} {st : am_S} {ck : Nat} (hk : am_q1 e q (.putfield q.2.2.2) 3 = true) (hf : am_fk ck = true) (hl : am_flk (am_o e) q.2.2.2 ck = true) (hfin : (if (am_T (ck / 32) (ck % 32)).2.2.2 = true then decide (e.2.1.1 = "<init>" ∧ am_o e = ck / 32 ∧ (am_T (ck / 32) (ck % 32)).1 = am_nm (am_o e)) else true) = true) (h : am_pt ck (q.1 + q.2.2.1) lc sk st (am_P l B b D cA X e Q)) : am_P l B b D cA X e Q q.1 lc sk st := by
  obtain ⟨hd, hn⟩ := am_q1_s hk
  rw [hn] at h
  unfold am_pt at h
  have hf := of_decide_eq_true hf
  have key : ∀ (ob : Nat) (v : Value) (r : List Value) (sh2 : Nat → am_D) (F2 : Nat → Nat → Int32), am_ob st ob (ck / 32) → narrow (am_ty (ck / 32) (ck % 32)) (am_v B b v) = am_v B b v → fits (am_ty (ck / 32) (ck % 32)) (am_v B b v) = true →
      (∀ k, k ≠ ob → sh2 k = st.2.1 k ∧ F2 k = st.2.2.2.2.1 k) → (sh2 ob).1 = 0 → (sh2 ob).2.1 = ck / 32 → (∀ j, am_fv B (F2 ob) (sh2 ob).2.2 j = if j = ck % 32 then am_v B b v else am_fv B (st.2.2.2.2.1 ob) (st.2.1 ob).2.2 j) →
      am_P l B b D cA X e Q (q.1 + 3) lc r (st.1, sh2, st.2.2.1, st.2.2.2.1, F2, st.2.2.2.2.2) → am_P l B b D cA X e Q q.1 lc (v :: .ref ob :: r) st := by
    intro ob v r sh2 F2 hob hnr hft hne hs1 hs2 hfv h
    refine so_gen h 0 0 rfl rfl (fun p en R s m args below meth c hF H locs ls c0 s0 Qf hc hs hH hS hL kk => ?_)
    obtain ⟨hx, hb, hml, hr, hown, hts, hlk, htab, hnm, hW, hfr, hlo, htr, hsc⟩ := hF
    obtain ⟨cf, i, kc, f, p1, p2, p3, p4, p5, p6⟩ := am_puts (D := D) (cA := cA) (B := B) (args := args) (fun w hw => hts w hw args) hW hf hnr hft hown hnm hfin
    have hat := hH.2 ob hob.1
    rw [am_c0 hob] at hat
    obtain ⟨rr, r1, cell, q1, q2, q3, q4⟩ := hat
    have hrr : rr = (am_nm (ck / 32), am_T (ck / 32), am_N (ck / 32)) := Option.some.inj (r1.symm.trans (am_cl_at hf.1))
    subst hrr
    have hslot : f.slot < cell.slots.size := by rw [p4]; exact k2_hasslot (q4 _ hf.2)
    have hBlt : B + ob < H.size := (Array.getElem?_eq_some_iff.mp q1).1
    have fin : am_H B cA D (st.1, sh2, st.2.2.1, st.2.2.2.1, F2, st.2.2.2.2.2) (H.setIfInBounds (B + ob) (cell.setSlot f.slot (am_v B b v))) := by
      refine am_upd (a := ob) hH rfl rfl (by simp) (fun x hx => by rw [Array.getElem?_setIfInBounds_ne (fun z => hx z.symm)]) (fun k hk => ?_) ?_
      · unfold am_ce
        dsimp only
        rw [(hne k hk).1, (hne k hk).2]
      · have hob2 : am_ob (st.1, sh2, st.2.2.1, st.2.2.2.1, F2, st.2.2.2.2.2) ob (ck / 32) := ⟨hob.1, hs1, hs2⟩
        rw [am_c0 hob2]
        refine ⟨_, r1, cell.setSlot f.slot (am_v B b v), by rw [Array.getElem?_setIfInBounds_self_of_lt hBlt], q2, q3, ?_⟩
        have hap := va_apart (own := am_nm (am_o e)) (fun w hw => hts w hw args) (am_u_in hf.1) (am_ty (ck / 32)) (am_ty_ok hf.1) (am_nm_ok hf.1) hW.1 (am_cl_at hf.1)
        intro j hj
        have h9 := t_set q4 hap hf.2 (am_v B b v) j hj
        rw [← p4] at h9
        rw [h9]
        congr 1
        rw [am_fv_V]
        dsimp only
        rw [hfv j]
        unfold updV
        split
        · rfl
        · rw [am_fv_V]
    have hSS : va_S (am_A B) s.heap (H.setIfInBounds (B + ob) (cell.setSlot f.slot (am_v B b v))) (locs ++ [⟨B + ob, f.slot⟩]) := hS.put (by simp) (fun x hx => by rw [Array.getElem?_setIfInBounds_ne (fun z => hx z.symm)]) (Nat.le_add_right B ob)
    rcases am_flk_s hl with hw | hw
    · exact W.putf hx hb hown (hts _ hw args) p1 p2 p3 q1 (by rw [q3]; exact fun h => by cases h) hslot p5 (by rw [q2, q3]; exact p6) rfl rfl hd (kk _ _ ls fin hSS hL)
    · exact va_Wputf hx hb hown (hts _ hw args) p1 p2 p3 q1 (by rw [q3]; exact fun h => by cases h) hslot p5 (by rw [q2, q3]; exact p6) rfl rfl hd (kk _ _ ls fin hSS hL)
  split at h
  · rename_i x ob r
    obtain ⟨hob, h⟩ := h
    split at h
    rotate_left
    · exact h.elim
    rename_i hz
    obtain ⟨hzo, h⟩ := h
    have hty : narrow (am_ty (ck / 32) (ck % 32)) (.int x) = .int x ∧ fits (am_ty (ck / 32) (ck % 32)) (.int x) = true := by
      unfold am_zo at hzo
      split at hzo
      · rename_i ht
        rw [ht]
        rcases hzo with rfl | rfl <;> exact ⟨by decide, by decide⟩
      · rename_i ht
        rw [ht]
        exact ⟨rfl, rfl⟩
      · exact hzo.elim
    refine key ob (.int x) r st.2.1 (am_f2 st.2.2.2.2.1 ob (ck % 32) x) hob hty.1 hty.2 (fun k hk => ⟨rfl, am_f2_ne hk⟩) hob.2.1 hob.2.2 (fun j => ?_) h
    rw [am_f2_eq]
    unfold am_fv
    by_cases hj : j = ck % 32
    · subst hj
      rw [if_pos rfl, hz]
      simp [va_up, am_v]
    · rw [if_neg hj]
      simp only [va_up, if_neg hj]
  · rename_i y ob r
    obtain ⟨hob, h⟩ := h
    split at h
    rotate_left
    · exact h.elim
    rename_i z hz
    obtain ⟨⟨-, hzr⟩, h⟩ := h
    have hty : narrow (am_ty (ck / 32) (ck % 32)) (.ref (B + y)) = .ref (B + y) ∧ fits (am_ty (ck / 32) (ck % 32)) (.ref (B + y)) = true := by
      unfold am_zr at hzr
      split at hzr
      · rename_i ht
        rw [ht]
        exact ⟨rfl, rfl⟩
      · rename_i ht
        rw [ht]
        exact ⟨rfl, rfl⟩
      · exact hzr.elim
    have hup : va_up st.2.1 ob (0, ck / 32, (st.2.1 ob).2.2.set (ck % 32) (some (some y))) ob = (0, ck / 32, (st.2.1 ob).2.2.set (ck % 32) (some (some y))) := by
      unfold va_up
      rw [if_pos rfl]
    refine key ob (.ref y) r (va_up st.2.1 ob (0, ck / 32, (st.2.1 ob).2.2.set (ck % 32) (some (some y)))) st.2.2.2.2.1 hob hty.1 hty.2 (fun k hk => ⟨va_up_ne _ _ hk, rfl⟩) (by rw [hup]) (by rw [hup]) (fun j => ?_) h
    rw [hup]
    unfold am_fv
    dsimp only
    by_cases hj : j = ck % 32
    · subst hj
      rw [if_pos rfl, List.getElem?_set_self (List.getElem?_eq_some_iff.mp hz).1]
      rfl
    · rw [if_neg hj, List.getElem?_set_ne (fun q => hj q.symm)]
  · exact h.elim
end SOH
