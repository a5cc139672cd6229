/-! THE CLAIM OUT OF ONE WALK OF THE LAW'S BODY. Your part is whole_start (and what it stands on); all else here is the same for every law, but numbers. -/
def R_law : String := "BranchedSourceLaw"
def lw_P (b : Addr) (xs : List Int32) (args : Array Value) (s : State) : Prop := args = #[.ref b] ∧ s.IntsAt b xs ∧ xs.length ≤ 260 ∧ (Jvm.Cond.and given_1 narrow_1).before args s = true
/-- what a walk over the start with the record d0 says of its end, said of the start itself -/
theorem lw_closed {s t : State} {o : Outcome} {d0 : Drawn} {L : List Loc} {k n : Nat} (hd0 : s.drawn.sameBut d0 lw_cs) (hv : ∃ v, o = .returned v) (hW : (s.setDrawn d0).WarmedH t.vm) (hs : (s.setDrawn d0).sameButNew ({ t with vm := s.vm } : State) L k n) : State.butDraws s t lw_cs (fun t1 => Framed s o t1 L k n) := by
  have h2 : t.drawn = d0 := congrArg State.drawn hs.1
  refine ⟨⟨hv, hW, State.sameButNew.setDrawn hs s.drawn⟩, ?_, by decide⟩
  rw [h2]
  exact hd0
def lw_Q (_ : Array Value) (s : State) (o : Outcome) (t : State) : Prop := o = .returned (some (.int 1)) ∧ State.butDraws s t lw_cs (fun t1 => Framed s o t1 [] 657182 7130077)
def lw_Z (below : List Frame) (a : Array Value) (s : State) : State → Prop := fun t => ∃ o, t.status = .running ∧ Ended t below o ∧ lw_Q a s o t
/-- the law's own end, with 1 on the stack, nothing written that was there before, its room as the claim has it; d0: the record of draws at this point (at the entry s.drawn: begin with 'refine W.base ?_' and 'have hd0 := Drawn.sameBut.refl s.drawn lw_cs') -/
theorem lw_ret {p : Program} {l : Launch} {e : Env} {s : State} {m : MethodId} {below : List Frame} {meth : Method} {c : Code} {b : Nat} {d0 : Drawn} (hd0 : s.drawn.sameBut d0 lw_cs) (hx : p.tables.exec = Jvm.exec) (hb : c.code = code) (hr : meth.sig.returnType = ret) (hlocks : meth.locks = false) {pc : Nat} {H : Heap} {ls : Array Slot} (hdg : decode code pc = .ok (.ireturn, 1)) : W p l e room_1 (s.setDrawn d0) m #[Value.ref b] below meth c H [] 657182 7130077 (lw_Z below #[Value.ref b] s) (F0 m pc ls [.int 1]) := by
  intro T hT X
  obtain ⟨fs, hret, hrun, hended, hW, hframe⟩ := X.leave (v := some (.int 1)) (hlocks := hlocks) (fun h => by rw [hr] at h; cases h)
  have hmeth' : T.vm.method? m = some meth := X.method'
  refine ⟨T.setFrames fs, ?_, .returned (some (.int 1)), hrun, hended, rfl, lw_closed hd0 ⟨_, rfl⟩ hW hframe⟩
  jvm_step X.here [X.here.top, hx, hb, hdg, hmeth', hr, ret, narrow_b1]
  (try refine ⟨rfl, ?_⟩); (try refine ⟨rfl, ?_⟩)
  first | (intro acts; rw [hret _ acts rfl rfl rfl]) | rw [hret _ _ rfl rfl rfl]
  exact Steps.refl _
/-- what holds at the law's entry: the machine, the code, the tables' words (any of lw_tbl by 'hts w (by decide +kernel)'), the script of L ints xs at the cell b, what the Statement gives of the start (any of its parts by flat_of_before) -/
def lw_At (p : Program) (s : State) (m : MethodId) (meth : Method) (c : Code) (b L : Nat) (xs : Nat → Int32) : Prop :=
  p.tables.exec = Jvm.exec ∧ c.code = code ∧ meth.sig.returnType = ret ∧ c.maxLocals = 12 ∧ s.vm.findClass R_law = some m.cls ∧ (∀ w ∈ lw_tbl, w.before #[Value.ref b] s = true) ∧ va_X b L xs s s.heap ∧ b < s.heap.size ∧ meth.locks = false ∧ (Jvm.Cond.and given_1 narrow_1).before #[Value.ref b] s = true
set_option maxRecDepth 100000 in
theorem am_of8900 : am_of 8900 = some am_m8900 := rfl
theorem lw_exs : ∀ q ∈ am_th, Cond.exactly (.string (am_nm q.1) q.2.2.2.1) "java/lang/String" ∈ flatC (Jvm.Cond.and given_1 narrow_1) := by decide +kernel
/-- the start of the small machine: nothing is made yet -/
def am_s0 : am_S := (0, fun _ => (9, 0, []), 0, 0, fun _ _ => 0, fun _ _ => 0, fun _ _ => 0)
def am_Q0 : am_Q := fun r st => r = .inl (some (.int 1)) ∧ st.2.2.1 ≤ 657182 ∧ st.2.2.2.1 ≤ 7130077
def am_l0 : List Value := [.retAddr 0, am_u, am_u, am_u, am_u, am_u, am_u, am_u, am_u, am_u, am_u, am_u]
def lw_fl : List Cond := am_th.map (fun q => Cond.exactly (.string (am_nm q.1) q.2.2.2.1) "java/lang/String")
theorem am_strw : (am_th.all fun q => am_kw (Cond.stringRef (am_nm q.1) q.2.2.2.1 q.2.2.2.2.2.2) || decide (Cond.stringRef (am_nm q.1) q.2.2.2.1 q.2.2.2.2.2.2 ∈ lw_tbl)) = true := by decide +kernel
theorem am_strw2 : (am_th.all fun q => decide (Cond.stringRef (am_nm q.1) q.2.2.2.1 q.2.2.2.2.2.2 ∈ lw_tbl)) = true := by decide +kernel
theorem lw_inst : ∀ ci, ci < 7 → Cond.instantiable (am_nm ci) (am_N ci) ∈ lw_tbl := by decide +kernel
theorem lw_inx : Cond.instantiable am_IAE 6 ∈ lw_tbl ∧ Cond.instantiable am_ISE 6 ∈ lw_tbl := by decide +kernel
theorem lw_arw : Cond.arrayClass .int ∈ lw_tbl ∧ Cond.arrayClass .int ∈ lw_tbl ∧ Cond.arrayOver (.object RX5) ∈ lw_tbl := by decide +kernel
theorem lw_stw : Cond.laysStatic Bundle.tN "UNASSIGNED_STACK" Bundle.steD ∈ lw_tbl ∧ Cond.laysStatic Bundle.tN "SUPPRESSED_SENTINEL" Bundle.listD ∈ lw_tbl ∧ Cond.initialized Bundle.tN ∈ lw_tbl := by decide +kernel
theorem lw_gw {w : Cond} (h : w ∈ am_gw) : w ∈ lw_tbl := (List.mem_filter.mp h).1
/-- what is fixed, at the law's start -/
theorem am_W0 {s : State} {b : Nat} {L : Nat} {xs : Nat → Int32} (hX : va_X b L xs s s.heap) (hbl : b < s.heap.size) (hts : ∀ w ∈ lw_tbl, w.before #[Value.ref b] s = true) (hgv : (Jvm.Cond.and given_1 narrow_1).before #[Value.ref b] s = true) : ∃ (D : va_G) (cA : Nat → ClassId), am_W s.heap.size (b, L, xs) D cA s := by
  have hs := flat_of_before _ hgv
  have hkn : ∀ ci, ∃ cC : ClassId, ∃ iS : Nat → Nat, ci < 9 → ∀ q, am_cl[ci]? = some q → u_Kn s q.1 q.2.1 q.2.2 cC iS := by
    intro ci
    by_cases h : ci < 7
    · obtain ⟨c0, i0, h0⟩ := u_known (C := am_nm ci) (T := am_T ci) (N := am_N ci) (n := am_N ci) hts (fun w hw => lw_gw (am_u_in h w hw)) (hts _ (lw_inst ci h))
      refine ⟨c0, i0, fun _ q hq => ?_⟩
      rw [am_cl_at h] at hq
      cases hq
      exact h0
    · by_cases h8 : ci = 7
      · obtain ⟨c0, i0, h0⟩ := u_known (C := am_IAE) (T := am_TE) (N := 0) (n := 6) hts (fun w hw => by simp [u_ws] at hw) (hts _ lw_inx.1)
        refine ⟨c0, i0, fun _ q hq => ?_⟩
        subst h8
        cases hq
        exact h0
      · by_cases h9 : ci = 8
        · obtain ⟨c0, i0, h0⟩ := u_known (C := am_ISE) (T := am_TE) (N := 0) (n := 6) hts (fun w hw => by simp [u_ws] at hw) (hts _ lw_inx.2)
          refine ⟨c0, i0, fun _ q hq => ?_⟩
          subst h9
          cases hq
          exact h0
        · exact ⟨0, fun _ => 0, fun z => by omega⟩
  have hKn : ∀ (k : Nat) (q : vw_C), am_cl[k]? = some q → u_Kn s q.1 q.2.1 q.2.2 (Classical.choose (hkn k)) (Classical.choose (Classical.choose_spec (hkn k))) := fun k q hq => Classical.choose_spec (Classical.choose_spec (hkn k)) (List.getElem?_eq_some_iff.mp hq).1 q hq
  obtain ⟨cI, kI, pI, i1, i2, i3⟩ := Cond.arrayClass_spec (hts _ lw_arw.1)
  obtain ⟨cL, kL, pL, l1, l2, l3⟩ := Cond.arrayClass_spec (hts _ lw_arw.2.1)
  obtain ⟨comp, cS, kS, s1, -, s2, s3, s4⟩ := Cond.arrayOver_spec (hts _ lw_arw.2.2)
  have hA : ∀ a : Nat, a < s.heap.size → ¬ am_A s.heap.size a := fun a h1 h2 => absurd h1 (Nat.not_lt.mpr h2)
  refine ⟨(fun k => Classical.choose (hkn k), fun k => Classical.choose (Classical.choose_spec (hkn k))), fun k => if k = 1 then cI else if k = 2 then cL else cS, ⟨hKn, fun k q hq => ?_⟩, ?_, ?_, ?_, ?_, fun q hq => ?_, hts _ lw_arw.2.2, Nat.le_refl _, hX, hbl⟩
  · match k, hq with
    | 0, hq => cases hq; exact ⟨fun n z => ⟨fun k h => (by cases h), kI, i2, pI, i3⟩, i1⟩
    | 1, hq => cases hq; exact ⟨fun n z => ⟨fun k h => (by cases h), kL, l2, pL, l3⟩, l1⟩
    | 2, hq => cases hq; exact ⟨fun n z => ⟨fun k h => (by cases h), kS, s2, comp, s3⟩, kS, comp, s2, s3, s1, s4⟩
    | k + 3, hq => simp [am_tys] at hq
  · exact vx_Zqof (hts _ lw_stw.1) (hts _ lw_stw.2.2) (hs _ (by decide +kernel)) hA
  · exact vx_Zqof (hts _ lw_stw.2.1) (hts _ lw_stw.2.2) (hs _ (by decide +kernel)) hA
  · exact va_Nc.of (hs _ (by decide +kernel))
  · exact va_Nc.of (hs _ (by decide +kernel))
  · have h1 := of_decide_eq_true (List.all_eq_true.mp am_strw2 q hq)
    have hx : (Cond.exactly (.string (am_nm q.1) q.2.2.2.1) "java/lang/String").before #[Value.ref b] s = true := hs _ (lw_exs q hq)
    obtain ⟨a, c, cell, k, he, -⟩ := Cond.exactly_spec hx
    exact ⟨a, vk_R.of (hts _ h1) he⟩
theorem lw_of {p : Program} {e : Env} {s : State} {m : MethodId} {below : List Frame} {meth : Method} {c : Code} (l : Launch) (hflags : l.flags = flags0) {b L : Nat} {xs : Nat → Int32} (htb : ∀ x ∈ c.exceptionTable.toList, False) (hnm : meth.name = "law") (C0 : lw_At p s m meth c b L xs)
    (hgo : am_Go (am_Ca (L, xs, 11) 11) (L, xs, 11) am_m8900 0 am_l0 [] am_s0 am_Q0) : W p l e room_1 s m #[Value.ref b] below meth c s.heap [] 0 0 (lw_Z below #[Value.ref b] s) (entryFrame m ([Value.ref b] : List Value).toArray 12) := by
  obtain ⟨hx, hb, hr, hml, hown, hts, hX, hbl, hlocks, hgv⟩ := id C0
  obtain ⟨D, cA, hW⟩ := am_W0 hX hbl hts hgv
  have htr : l.stackTraces = false := by
    unfold Launch.stackTraces
    rw [hflags]
    decide
  have hts2 : ∀ w ∈ am_gw, ∀ args, w.before args s = true := fun w hw args => am_warm (fun w hw => hts w (lw_gw hw)) w hw args s (State.WarmedH.refl s)
  obtain ⟨r, st2, ⟨rfl, q1, q2⟩, g1, g2, hS⟩ := so_go (l := l) (B := s.heap.size) (b := (b, L, xs)) (D := D) (cA := cA) (so_all (X := (L, xs, 11)) ⟨rfl, rfl⟩ htr 11) (am_of_mem (m := 8900) am_of8900).1 hgo
  have hl := lv_entry ([.ref b]) (n := 12) (Nat.le_of_ble_eq_true rfl)
  rw [lg_entry_eq]
  generalize (lg_sl ([.ref b]) ++ List.replicate (12 - (lg_sl ([.ref b])).length) Slot.unset).toArray = ls at hl ⊢
  have hl : lv_has ls 12 [(0, .ref b)] := hl
  have hF : am_F l s.heap.size (b, L, xs) D cA (L, xs, 11) am_m8900 p room_1 s m meth c := ⟨hx, hb, hml, hr, hown, hts2, hlocks, List.eq_nil_iff_forall_not_mem.mpr htb, hnm, hW, Nat.le_of_ble_eq_true rfl, Nat.le_of_ble_eq_true rfl, htr, ⟨rfl, rfl⟩⟩
  refine hS p e room_1 s m _ below meth c hF s.heap [] ls 0 0 _ (by rw [Nat.zero_add]; exact Nat.le_trans (Nat.sub_le _ _) q1) (by rw [Nat.zero_add]; exact Nat.le_trans (Nat.sub_le _ _) q2) ⟨fun _ => rfl, fun k hk => absurd hk (Nat.not_lt_zero k)⟩ va_S.rf ?_ ?_
  · refine ⟨hl.1, rfl, hl.2.1, fun j v hj hv => ?_⟩
    match j, hj with
    | 0, hj => cases hj; exact hl.2.2 _ List.mem_cons_self
    | 1, hj => cases hj; exact absurd rfl hv
    | 2, hj => cases hj; exact absurd rfl hv
    | 3, hj => cases hj; exact absurd rfl hv
    | 4, hj => cases hj; exact absurd rfl hv
    | 5, hj => cases hj; exact absurd rfl hv
    | 6, hj => cases hj; exact absurd rfl hv
    | 7, hj => cases hj; exact absurd rfl hv
    | 8, hj => cases hj; exact absurd rfl hv
    | 9, hj => cases hj; exact absurd rfl hv
    | 10, hj => cases hj; exact absurd rfl hv
    | 11, hj => cases hj; exact absurd rfl hv
    | j + 12, hj => simp [am_l0] at hj
  · intro H locs ls pc hre hH hSS
    refine va_forget hSS.2.2 ?_
    refine W.widen (k := 657182) (n := 7130077) (by rw [Nat.zero_add]; exact Nat.le_trans (Nat.sub_le _ _) q1) (by rw [Nat.zero_add]; exact Nat.le_trans (Nat.sub_le _ _) q2) ?_
    refine W.base ?_
    exact lw_ret (Drawn.sameBut.refl s.drawn lw_cs) hx hb hr hlocks hre.1
