/-! THE SMALL MACHINE IS SOUND: its steps, its methods -/
section SOZ
variable {l : Launch} {B : Nat} {b : am_B} {D : va_G} {cA : Nat → ClassId} {X : am_X} {e : am_M} {Q : am_Q}
set_option maxHeartbeats 4000000 in
theorem so_step {C : am_C} (hC : am_CC l B b D cA X C) (hck : am_hck e = true) (hhe : (am_hd e).isEmpty = (am_hh e).isEmpty) {pc n a : Nat} {i : Instr} (hk : am_ckb e (pc, i, n, a) = true) {lc sk : List Value} {st : am_S} (h : am_step C X e i n pc lc sk st (am_P l B b D cA X e Q) Q) : am_P l B b D cA X e Q pc lc sk st := by
  unfold am_step at h
  split at h
  · exact so_aload (q := (pc, .aload _, n, a)) hk h
  · exact so_iload (q := (pc, .iload _, n, a)) hk h
  · exact so_lload (q := (pc, .lload _, n, a)) hk h
  · exact so_dload (q := (pc, .dload _, n, a)) hk h
  · exact so_astore (q := (pc, .astore _, n, a)) hk h
  · exact so_istore (q := (pc, .istore _, n, a)) hk h
  · exact so_lstore (q := (pc, .lstore _, n, a)) hk h
  · exact so_dstore (q := (pc, .dstore _, n, a)) hk h
  · exact so_sipush (q := (pc, .sipush _, n, a)) hk h
  · exact so_tick (q := (pc, .monitorenter, n, a)) hk h
  · exact so_lconst (q := (pc, .lconst _, n, a)) hk h
  · exact so_ldc2 (q := (pc, .ldc2_w _, n, a)) (am_and hk).1 ((am_and hk).2) h
  · exact so_iadd (q := (pc, .iadd, n, a)) hk h
  · exact so_isub (q := (pc, .isub, n, a)) hk h
  · exact so_imul (q := (pc, .imul, n, a)) hk h
  · exact so_irem (q := (pc, .irem, n, a)) hk h
  · exact so_iand (q := (pc, .iand, n, a)) hk h
  · exact so_ior (q := (pc, .ior, n, a)) hk h
  · exact so_land (q := (pc, .land, n, a)) hk h
  · exact so_lor (q := (pc, .lor, n, a)) hk h
  · exact so_lshl (q := (pc, .lshl, n, a)) hk h
  · exact so_lshr (q := (pc, .lshr, n, a)) hk h
  · exact so_ldcI (q := (pc, .ldc _, n, a)) (am_and hk).1 ((am_and hk).2) h
  · exact so_ldcL (q := (pc, .ldc_w _, n, a)) (am_and hk).1 ((am_and hk).2) h
  · exact so_idiv (q := (pc, .idiv, n, a)) hk h
  · exact so_ishr (q := (pc, .ishr, n, a)) hk h
  · exact so_ladd (q := (pc, .ladd, n, a)) hk h
  · exact so_lmul (q := (pc, .lmul, n, a)) hk h
  · exact so_l2i (q := (pc, .l2i, n, a)) hk h
  · exact so_lcmp (q := (pc, .lcmp, n, a)) hk h
  · exact so_i2l (q := (pc, .i2l, n, a)) hk h
  · exact so_i2d (q := (pc, .i2d, n, a)) hk h
  · exact so_ddiv (q := (pc, .ddiv, n, a)) hk h
  · exact so_dcmp (q := (pc, .dcmp _, n, a)) hk h
  · exact so_dup (q := (pc, .dup, n, a)) hk h
  · exact so_dup2 (q := (pc, .dup2, n, a)) hk h
  · exact so_pop (q := (pc, .pop, n, a)) hk h
  · exact so_if_eq (q := (pc, .ifCond .eq _, n, a)) (am_and hk).1 (of_decide_eq_true ((am_and hk).2)) h
  · exact so_if_ne (q := (pc, .ifCond .ne _, n, a)) (am_and hk).1 (of_decide_eq_true ((am_and hk).2)) h
  · exact so_if_lt (q := (pc, .ifCond .lt _, n, a)) (am_and hk).1 (of_decide_eq_true ((am_and hk).2)) h
  · exact so_if_ge (q := (pc, .ifCond .ge _, n, a)) (am_and hk).1 (of_decide_eq_true ((am_and hk).2)) h
  · exact so_if_gt (q := (pc, .ifCond .gt _, n, a)) (am_and hk).1 (of_decide_eq_true ((am_and hk).2)) h
  · exact so_if_le (q := (pc, .ifCond .le _, n, a)) (am_and hk).1 (of_decide_eq_true ((am_and hk).2)) h
  · exact so_icmp_eq (q := (pc, .if_icmp .eq _, n, a)) (am_and hk).1 (of_decide_eq_true ((am_and hk).2)) h
  · exact so_icmp_ne (q := (pc, .if_icmp .ne _, n, a)) (am_and hk).1 (of_decide_eq_true ((am_and hk).2)) h
  · exact so_icmp_lt (q := (pc, .if_icmp .lt _, n, a)) (am_and hk).1 (of_decide_eq_true ((am_and hk).2)) h
  · exact so_icmp_ge (q := (pc, .if_icmp .ge _, n, a)) (am_and hk).1 (of_decide_eq_true ((am_and hk).2)) h
  · exact so_icmp_gt (q := (pc, .if_icmp .gt _, n, a)) (am_and hk).1 (of_decide_eq_true ((am_and hk).2)) h
  · exact so_icmp_le (q := (pc, .if_icmp .le _, n, a)) (am_and hk).1 (of_decide_eq_true ((am_and hk).2)) h
  · exact so_goto (q := (pc, .goto _, n, a)) (am_and hk).1 (of_decide_eq_true ((am_and hk).2)) h
  · exact so_ifnull (q := (pc, .ifnull _, n, a)) (am_and hk).1 (of_decide_eq_true ((am_and hk).2)) h
  · exact so_table (q := (pc, .tableswitch _ _ _ _, n, a)) (am_and (am_and hk).1).1 (of_decide_eq_true ((am_and (am_and hk).1).2)) ((am_and hk).2) h
  · exact so_iinc (q := (pc, .iinc _ _, n, a)) hk h
  · exact so_alen (q := (pc, .arraylength, n, a)) hk h
  · exact so_iald (q := (pc, .iaload, n, a)) hk h
  · exact so_iast (q := (pc, .iastore, n, a)) hk h
  · exact so_aald (q := (pc, .aaload, n, a)) hk h
  · exact so_aast (q := (pc, .aastore, n, a)) hk h
  · exact so_get (q := (pc, .getfield _, n, a)) (am_and (am_and hk).1).1 ((am_and (am_and hk).1).2) ((am_and hk).2) h
  · exact so_put (q := (pc, .putfield _, n, a)) (am_and (am_and (am_and hk).1).1).1 ((am_and (am_and (am_and hk).1).1).2) ((am_and (am_and hk).1).2) ((am_and hk).2) h
  · exact so_new (q := (pc, .new _, n, a)) (am_and (am_and (am_and (am_and hk).1).1).1).1 (of_decide_eq_true ((am_and (am_and (am_and (am_and hk).1).1).1).2)) ((am_and (am_and (am_and hk).1).1).2) ((am_and (am_and hk).1).2) ((am_and hk).2) h
  · exact so_newi (q := (pc, .newarray .int, n, a)) hk h
  · exact so_newq (q := (pc, .anewarray _, n, a)) (am_and hk).1 ((am_and hk).2) h
  · exact so_virt (q := (pc, .invokeinterface _ _, n, a)) hC hck (am_and (am_and (am_and (am_and (am_and hk).1).1).1).1).1 ((am_and (am_and (am_and (am_and (am_and hk).1).1).1).1).2) ((am_and (am_and (am_and (am_and hk).1).1).1).2) ((am_and (am_and (am_and hk).1).1).2) ((am_and (am_and hk).1).2) (of_decide_eq_true ((am_and hk).2)) h
  · exact so_stat (q := (pc, .multianewarray _ _, n, a)) hC hck (am_and (am_and (am_and hk).1).1).1 ((am_and (am_and (am_and hk).1).1).2) ((am_and (am_and hk).1).2) ((am_and hk).2) h
  · exact so_obj (q := (pc, .invokespecial 0, n, a)) (am_and hk).1 ((am_and hk).2) h
  · exact so_spec (q := (pc, .invokespecial _, n, a)) hC hck (am_and (am_and (am_and (am_and hk).1).1).1).1 ((am_and (am_and (am_and (am_and hk).1).1).1).2) ((am_and (am_and (am_and hk).1).1).2) ((am_and (am_and hk).1).2) ((am_and hk).2) (am_ini ((am_and (am_and (am_and hk).1).1).2)) h
  · exact so_copy (q := (pc, .invokestatic 1, n, a)) (am_and hk).1 ((am_and hk).2) h
  · exact so_max (q := (pc, .invokestatic 2, n, a)) (am_and hk).1 ((am_and hk).2) h
  · exact so_min (q := (pc, .invokestatic 3, n, a)) (am_and hk).1 ((am_and hk).2) h
  · exact so_throw (q := (pc, .jsr _, n, a)) hhe hk h
  · exact so_vret (q := (pc, .return_, n, a)) (am_and hk).1 (of_decide_eq_true ((am_and hk).2)) h
  · exact so_iret (q := (pc, .ireturn, n, a)) (am_and hk).1 (of_decide_eq_true ((am_and hk).2)) h
  · exact so_zret (q := (pc, .freturn, n, a)) (am_and hk).1 (of_decide_eq_true ((am_and hk).2)) h
  · exact so_lret (q := (pc, .lreturn, n, a)) (am_and hk).1 (of_decide_eq_true ((am_and hk).2)) h
  · exact so_dret (q := (pc, .dreturn, n, a)) (am_and hk).1 (of_decide_eq_true ((am_and hk).2)) h
  · exact so_aret (q := (pc, .areturn, n, a)) (am_and hk).1 (of_decide_eq_true ((am_and hk).2)) h
  · exact h.elim
theorem so_hhe (hck : am_hck e = true) : (am_hd e).isEmpty = (am_hh e).isEmpty := by
  simp only [am_hck, Bool.and_eq_true, decide_eq_true_eq] at hck
  rw [hck.1]
  cases am_hd e <;> rfl
theorem so_go {C : am_C} (hC : am_CC l B b D cA X C) (he : e ∈ am_ms) {pc : Nat} {lc sk : List Value} {st : am_S} (h : am_Go C X e pc lc sk st Q) : am_P l B b D cA X e Q pc lc sk st := by
  obtain ⟨hall, hck⟩ := am_ks e he
  refine h (am_P l B b D cA X e Q) fun pc lc sk st h1 => ?_
  unfold am_one at h1
  split at h1
  · rename_i q hq
    obtain ⟨h2, h3⟩ := am_lk_mem hq
    subst h3
    exact so_step hC hck (so_hhe hck) (List.all_eq_true.mp hall q h2) h1
  · exact h1.elim
theorem am_ag_at : ∀ (a : List Value) (i j : Nat) (v : Value), (am_ag a)[j]? = some v → v ≠ am_u → (i + j, am_v B b v) ∈ lv_args i (a.map (am_v B b))
  | [], i, j, v, h, _ => by simp [am_ag] at h
  | x :: a, i, j, v, h, hv => by
    have hc : (am_v B b x).category = x.category := am_v_cat x
    rw [List.map_cons]
    unfold lv_args
    rw [hc]
    have hag : am_ag (x :: a) = (if x.category = 2 then [x, am_u] else [x]) ++ am_ag a := rfl
    rw [hag] at h
    by_cases h2 : x.category = 2
    · rw [if_pos h2] at h ⊢
      match j, h with
      | 0, h => cases h; exact List.mem_cons_self
      | 1, h => cases h; exact absurd rfl hv
      | j + 2, h =>
        have := am_ag_at a (i + 2) j v (by simpa using h) hv
        rw [show i + 2 + j = i + (j + 2) by omega] at this
        exact List.mem_cons_of_mem _ this
    · rw [if_neg h2] at h ⊢
      match j, h with
      | 0, h => cases h; exact List.mem_cons_self
      | j + 1, h =>
        have := am_ag_at a (i + 1) j v (by simpa using h) hv
        rw [show i + 1 + j = i + (j + 1) by omega] at this
        exact List.mem_cons_of_mem _ this
theorem am_ag_len (a : List Value) : (lg_sl (a.map (am_v B b))).length = (am_ag a).length := by
  induction a with
  | nil => rfl
  | cons x a ih =>
    have h1 : lg_sl ((x :: a).map (am_v B b)) = (if (am_v B b x).category = 2 then [.val (am_v B b x), .second] else [.val (am_v B b x)]) ++ lg_sl (a.map (am_v B b)) := rfl
    have h2 : am_ag (x :: a) = (if x.category = 2 then [x, am_u] else [x]) ++ am_ag a := rfl
    rw [h1, h2, List.length_append, List.length_append, ih, am_v_cat]
    split <;> rfl
theorem am_en_ok {a : List Value} {ls : Array Slot} (hlen : (am_ag a).length ≤ am_nl e) (h : lv_has ls (am_nl e) (lv_args 0 (a.map (am_v B b)))) : am_Lc B b (am_nl e) (am_en e a) ls := by
  refine ⟨h.1, by unfold am_en; rw [List.length_append, List.length_replicate]; omega, h.2.1, fun j v hj hv => ?_⟩
  unfold am_en at hj
  by_cases hl : j < (am_ag a).length
  · rw [List.getElem?_append_left hl] at hj
    have := h.2.2 _ (am_ag_at (B := B) (b := b) a 0 j v hj hv)
    rw [Nat.zero_add] at this
    exact this
  · rw [List.getElem?_append_right (Nat.not_lt.mp hl), List.getElem?_replicate] at hj
    split at hj
    · exact absurd (Option.some.inj hj).symm hv
    · cases hj
theorem so_ret9 {p : Program} {en : Env} {R : Room} {s : State} {m : MethodId} {args : Array Value} {below : List Frame} {meth : Method} {c : Code} {mc ms : Nat} {r : am_R} {st2 : am_S} {xc : String → State → State → Prop} (hF : am_F l B b D cA X e p R s m meth c) (H : Heap) (locs : List Loc) (ls : Array Slot) (pc : Nat) {v : Option Value} (hr9 : r = .inl v) (hre : am_re e pc v) (hH : am_H B cA D st2 H) (hS : va_S (am_A B) s.heap H locs) :
    W p l en R s m args below meth c H locs mc ms (vx_MQ below (am_Qr B b D cA r st2) xc args s mc ms (am_A B)) (F0 m pc ls (v.map (am_v B b)).toList) := by
  obtain ⟨hx, hb, hml, hr, hown, hts, hlk, -⟩ := hF
  have hq : ∀ t : State, t.heap = H → s.WarmedH t.vm → am_Qr B b D cA r st2 args s (.returned (v.map (am_v B b))) t := fun t ht _ => ⟨v, hr9, rfl, by rw [ht]; exact hH, hS.F ht⟩
  unfold am_re at hre
  split at hre
  · exact vx_ret (W.vret hx hb (hr.trans hre.2) hq hS.2.2 hre.1)
  · obtain ⟨h1, ty, h2, h3⟩ := hre
    exact vx_ret (W.zret hx hb (hr.trans h2) h3 hq hS.2.2 h1)
  · exact vx_ret (W.lret hx hb (hr.trans hre.2) hq hS.2.2 hre.1)
  · exact vx_ret (W.dret hx hb (hr.trans hre.2) hq hS.2.2 hre.1)
  · exact vx_ret (W.aret hx hb (hr.trans hre.2) (Or.inl ⟨_, rfl⟩) (Or.inr ⟨_, rfl⟩) hq hS.2.2 hre.1)
  · exact hre.elim
theorem so_body {p : Program} {en : Env} {s : State} {m : MethodId} {below : List Frame} {meth : Method} {c : Code} {d mt : Nat} {a : List Value} {st st2 : am_S} {r : am_R} (hF : am_F l B b D cA (X.1, X.2.1, d) e p (am_rmm d (st2.2.2.1 - st.2.2.1) (st2.2.2.2.1 - st.2.2.2.1)) s m meth c) (hlen : (am_ag a).length ≤ am_nl e) (hS : am_Sim l B b D cA (X.1, X.2.1, d) e 0 (am_en e a) [] st r st2) (hH : am_H B cA D st s.heap) :
    W p l en (am_rmm d (st2.2.2.1 - st.2.2.1) (st2.2.2.2.1 - st.2.2.2.1)) s m (a.map (am_v B b)).toArray below meth c s.heap [] 0 0 (vx_MQ below (am_Qr B b D cA r st2) (am_Xr B D cA r st2) (a.map (am_v B b)).toArray s (st2.2.2.1 - st.2.2.1) (st2.2.2.2.1 - st.2.2.2.1) (am_A B)) (entryFrame m (a.map (am_v B b)).toArray (am_nl e)) := by
  have hl := lv_entry (a.map (am_v B b)) (n := am_nl e) (by rw [am_ag_len]; exact hlen)
  rw [lg_entry_eq]
  generalize (lg_sl (a.map (am_v B b)) ++ List.replicate (am_nl e - (lg_sl (a.map (am_v B b))).length) Slot.unset).toArray = ls at hl ⊢
  refine hS p en _ s m _ below meth c hF s.heap [] ls 0 0 _ (by rw [Nat.zero_add]; exact Nat.le_refl _) (by rw [Nat.zero_add]; exact Nat.le_refl _) hH va_S.rf (am_en_ok hlen hl) ?_
  rw [Nat.zero_add, Nat.zero_add]
  rcases r with v | x
  · exact fun H locs ls pc hre h1 h2 => so_ret9 hF H locs ls pc rfl hre h1 h2
  · exact ⟨_, rfl⟩
theorem so_meth {d m : Nat} {a : List Value} {st : am_S} (hXb : X.1 = b.2.1 ∧ X.2.1 = b.2.2) (htr : l.stackTraces = false) (hC : am_CC l B b D cA (X.1, X.2.1, d) (am_Ca X d)) (h : am_Ca X (d + 1) m a st Q) : ∃ r st2, Q r st2 ∧ am_Con l B b D cA d m a st r st2 := by
  unfold am_Ca at h
  split at h
  rotate_left
  · exact h.elim
  rename_i e he
  obtain ⟨hlen, hgo⟩ := h
  obtain ⟨r, st2, hq, h1, h2, hS⟩ := so_go hC (am_of_mem he).1 hgo
  refine ⟨r, st2, hq, h1, h2, fun e' he' hne hw hpl => ?_⟩
  have : e' = e := Option.some.inj (he'.symm.trans he)
  subst this
  have hem : e'.1 = m := (am_of_mem he).2
  by_cases hh : (am_hh e').isEmpty = true
  · refine vx_ofW (cc := am_co e') (maxL := am_nl e') (ret := am_rt e') (ws' := am_gw) hpl (by unfold am_ws; rw [am_cw0 hh]) ?_
    intro p en s m9 args below meth c s₁ BL hml htab hPc
    obtain ⟨rfl, hH, hW⟩ := hPc
    have hts : ∀ w ∈ am_gw, ∀ args, w.before args s = true := fun w hw args' => am_warm (fun w hw => atoms_spec (ws := am_ws e') BL.pre w (List.mem_cons_of_mem _ hw)) w hw args' s (State.WarmedH.refl s)
    exact so_body (mt := m) (X := X) ⟨BL.exec, BL.bytes, hml, BL.returns, findClass_of_methodNamed BL.named, hts, BL.notSynchronized, by rw [List.isEmpty_iff.mp hh]; exact List.eq_nil_iff_forall_not_mem.mpr htab, (name_of_methodNamed BL.named BL.method).1, hW, Nat.le_refl _, Nat.le_refl _, htr, hXb⟩ hlen hS hH
  · refine vx_ofWH (cc := am_co e') (maxL := am_nl e') (ret := am_rt e') (hh := am_hh e') (ws' := am_gw) hpl (by unfold am_ws; rw [am_cw1 hh]) ?_
    intro p en s m9 args below meth c s₁ BL hml hPc
    obtain ⟨rfl, hH, hW⟩ := hPc
    have hts : ∀ w ∈ am_gw, ∀ args, w.before args s = true := fun w hw args' => am_warm (fun w hw => atoms_spec (ws := am_ws e') BL.pre w (List.mem_cons_of_mem _ hw)) w hw args' s (State.WarmedH.refl s)
    have htab : c.exceptionTable.toList = tableOf (am_hh e') := vx_table (x := am_y e') BL (by have := hts _ hw (a.map (am_v B b)).toArray; rw [am_cw1 hh] at this; exact this)
    exact so_body (mt := m) (X := X) ⟨BL.exec, BL.bytes, hml, BL.returns, findClass_of_methodNamed BL.named, hts, BL.notSynchronized, htab, (name_of_methodNamed BL.named BL.method).1, hW, Nat.le_refl _, Nat.le_refl _, htr, hXb⟩ hlen hS hH
theorem so_all (hXb : X.1 = b.2.1 ∧ X.2.1 = b.2.2) (htr : l.stackTraces = false) : ∀ (d : Nat), am_CC l B b D cA (X.1, X.2.1, d) (am_Ca X d)
  | 0 => fun _ _ _ _ h => h.elim
  | d + 1 => fun m a st Q h => ⟨Nat.succ_le_succ (Nat.zero_le d), so_meth hXb htr (so_all hXb htr d) h⟩
end SOZ
