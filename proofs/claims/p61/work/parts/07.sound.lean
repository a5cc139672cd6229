/-! EVERY STEP OF THE SMALL MACHINE IS A STEP OF THE MACHINE -/
/-- the script: its cell, its length, what it holds -/
abbrev am_B : Type := Nat × Nat × (Nat → Int32)
abbrev am_A (B : Nat) : Nat → Prop := fun q => B ≤ q
def am_tys (cA : Nat → ClassId) : List (ClassId × FieldType) := [(cA 1, .int), (cA 2, .int), (cA 3, .object RX5)]
def am_v (B : Nat) (b : am_B) : Value → Value := fun v => match v with | .ref k => .ref (B + k) | .retAddr 0 => .ref b.1 | v => v
def am_fv (B : Nat) (F : Nat → Int32) (rs : List (Option (Option Nat))) (j : Nat) : Value := match rs[j]? with
  | some none => .int (F j)
  | some (some (some r)) => .ref (B + r)
  | _ => .null
def am_qv (B : Nat) (rs : List (Option (Option Nat))) (j : Nat) : Option Nat := match rs[j]? with
  | some (some (some r)) => some (B + r)
  | _ => none
def am_c (B : Nat) (cA : Nat → ClassId) (d : am_D) (F A : Nat → Int32) (L : Nat → Int64) : va_E :=
  if d.1 = 0 then .inr (d.2.1, (List.range d.2.2.length).map (am_fv B F d.2.2))
  else if d.1 = 1 then .inl (cA 1, d.2.1, .inl A)
  else if d.1 = 2 then .inl (cA 2, d.2.1, .inr (.inl L))
  else .inl (cA 3, d.2.1, .inr (.inr (.inr (.inr (am_qv B d.2.2)))))
abbrev am_ce (B : Nat) (cA : Nat → ClassId) (st : am_S) (k : Nat) : va_E := am_c B cA (st.2.1 k) (st.2.2.2.2.1 k) (st.2.2.2.2.2.1 k) (st.2.2.2.2.2.2 k)
/-- the heap holds the state -/
def am_H (B : Nat) (cA : Nat → ClassId) (D : va_G) (st : am_S) (H : Heap) : Prop := (st.2.2.1 = st.1 → H.size = B + st.1) ∧ ∀ k, k < st.1 → va_at D am_cl (B + k, am_ce B cA st k) H
theorem am_fv_V (B : Nat) (F : Nat → Int32) (rs : List (Option (Option Nat))) (j : Nat) : vp_V ((List.range rs.length).map (am_fv B F rs)) j = am_fv B F rs j := by
  unfold vp_V
  rw [List.getD_eq_getElem?_getD, List.getElem?_map]
  by_cases h : j < rs.length
  · rw [List.getElem?_range h]
    rfl
  · rw [List.getElem?_eq_none (by simpa using Nat.not_lt.mp h)]
    unfold am_fv
    rw [List.getElem?_eq_none (Nat.not_lt.mp h)]
    rfl
/-- what is fixed about the classes and what lies below B -/
def am_W (B : Nat) (b : am_B) (D : va_G) (cA : Nat → ClassId) (U : State) : Prop :=
  va_K D am_cl (am_tys cA) U ∧ vx_Zq Bundle.tN "UNASSIGNED_STACK" Bundle.steD (am_A B) U U.heap ∧ vx_Zq Bundle.tN "SUPPRESSED_SENTINEL" Bundle.listD (am_A B) U U.heap ∧ va_Nc am_ISE am_IAE U ∧ va_Nc am_IAE am_ISE U ∧ (∀ q ∈ am_th, ∃ a, vk_R (am_nm q.1) q.2.2.2.1 q.2.2.2.2.2.2 a U) ∧ va_AO RX5 U ∧ B ≤ U.heap.size ∧ va_X b.1 b.2.1 b.2.2 U U.heap ∧ b.1 < B
theorem am_W.warm {B : Nat} {b : am_B} {D : va_G} {cA : Nat → ClassId} {s U : State} {H : Heap} {locs : List Loc} (h : am_W B b D cA s) (hU : U.heap = H) (hW : s.WarmedH U.vm) (hS : va_S (am_A B) s.heap H locs) : am_W B b D cA U := by
  obtain ⟨h1, h2, h3, h4, h5, h6, h7, h8, h9, h10⟩ := h
  subst hU
  exact ⟨va_K.moved hW.alike h1, (vx_Zq.moved hW.alike h2).kept hS.2.1, (vx_Zq.moved hW.alike h3).kept hS.2.1, va_Nc.moved hW.alike h4, va_Nc.moved hW.alike h5, fun q hq => (h6 q hq).imp fun a ha => vk_R.warm hW ha, va_AO.moved hW.alike h7, Nat.le_trans h8 hS.1, (va_X.moved hW.alike h9).kept (hS.2.1 b.1 (Nat.lt_of_lt_of_le h10 h8) (Nat.not_le.mpr h10)), h10⟩
theorem am_W.calling {B : Nat} {b : am_B} {D : va_G} {cA : Nat → ClassId} {U : State} {g : JFrame} {mk : MethodId} {a : Array Value} (h : am_W B b D cA U) : am_W B b D cA (U.calling g mk a) := by
  obtain ⟨h1, h2, h3, h4, h5, h6, h7, h8, h9, h10⟩ := h
  exact ⟨va_K.moved (u := U) (U := U.calling g mk a) (Vm.Alike.refl U.vm) h1, vx_Zq.moved (u := U) (U := U.calling g mk a) (Vm.Alike.refl U.vm) h2, vx_Zq.moved (u := U) (U := U.calling g mk a) (Vm.Alike.refl U.vm) h3, va_Nc.moved (u := U) (U := U.calling g mk a) (Vm.Alike.refl U.vm) h4, va_Nc.moved (u := U) (U := U.calling g mk a) (Vm.Alike.refl U.vm) h5, fun q hq => (h6 q hq).imp fun a ha => vk_R.same (u := U) rfl ha, va_AO.moved (u := U) (U := U.calling g mk a) (Vm.Alike.refl U.vm) h7, h8, va_X.moved (u := U) (U := U.calling g mk a) (Vm.Alike.refl U.vm) h9, h10⟩
/-- a frame of method e: what it needs of the machine -/
def am_F (l : Launch) (B : Nat) (b : am_B) (D : va_G) (cA : Nat → ClassId) (X : am_X) (e : am_M) (p : Program) (R : Room) (s : State) (m : MethodId) (meth : Method) (c : Code) : Prop :=
  p.tables.exec = Jvm.exec ∧ c.code = am_co e ∧ c.maxLocals = am_nl e ∧ meth.sig.returnType = am_rt e ∧ s.vm.findClass (am_nm (am_o e)) = some m.cls ∧ (∀ w ∈ am_gw, ∀ args, w.before args s = true) ∧ meth.locks = false ∧ c.exceptionTable.toList = tableOf (am_hh e) ∧ meth.name = e.2.1.1 ∧ am_W B b D cA s ∧ X.2.2 + 1 ≤ R.frames ∧ 42 * X.2.2 + 90 ≤ R.locals ∧ l.stackTraces = false ∧ (X.1 = b.2.1 ∧ X.2.1 = b.2.2)
/-- the locals -/
def am_Lc (B : Nat) (b : am_B) (nL : Nat) (lc : List Value) (ls : Array Slot) : Prop := ls.size = nL ∧ lc.length = nL ∧ lv_wf ls ∧ ∀ (j : Nat) (v : Value), lc[j]? = some v → v ≠ am_u → ls[j]? = some (.val (am_v B b v))
def am_re (e : am_M) (pc : Nat) (v : Option Value) : Prop := match v with
  | none => decode (am_co e) pc = .ok (.return_, 1) ∧ am_rt e = none
  | some (.int x) => decode (am_co e) pc = .ok (.ireturn, 1) ∧ ∃ ty, am_rt e = some ty ∧ narrow ty (.int x) = .int x
  | some (.long _) => decode (am_co e) pc = .ok (.lreturn, 1) ∧ am_rt e = some .long
  | some (.double _) => decode (am_co e) pc = .ok (.dreturn, 1) ∧ am_rt e = some .double
  | some (.ref _) => decode (am_co e) pc = .ok (.areturn, 1) ∧ am_rt e = some (.object RX5)
  | _ => False
def am_XC (B : Nat) (cA : Nat → ClassId) (D : va_G) (x : Nat) (st : am_S) : String → State → State → Prop := fun E s t => E = am_E x ∧ am_H B cA D st t.heap ∧ va_F (am_A B) s t
/-- the end, from the machine's side -/
def am_End (B : Nat) (b : am_B) (D : va_G) (cA : Nat → ClassId) (e : am_M) (p : Program) (l : Launch) (en : Env) (R : Room) (s : State) (m : MethodId) (args : Array Value) (below : List Frame) (meth : Method) (c : Code) (c1 s1 : Nat) (Qf : State → Prop) (r : am_R) (st : am_S) : Prop := match r with
  | .inl v => ∀ (H : Heap) (locs : List Loc) (ls : Array Slot) (pc : Nat), am_re e pc v → am_H B cA D st H → va_S (am_A B) s.heap H locs → W p l en R s m args below meth c H locs c1 s1 Qf (F0 m pc ls (v.map (am_v B b)).toList)
  | .inr x => ∃ Qc, Qf = vx_MQ below Qc (am_XC B cA D x st) args s c1 s1 (am_A B)
def am_Sim (l : Launch) (B : Nat) (b : am_B) (D : va_G) (cA : Nat → ClassId) (X : am_X) (e : am_M) (pc : Nat) (lc sk : List Value) (st : am_S) (r : am_R) (st2 : am_S) : Prop :=
  ∀ (p : Program) (en : Env) (R : Room) (s : State) (m : MethodId) (args : Array Value) (below : List Frame) (meth : Method) (c : Code), am_F l B b D cA X e p R s m meth c →
  ∀ (H : Heap) (locs : List Loc) (ls : Array Slot) (c0 s0 : Nat) (Qf : State → Prop), c0 + (st2.2.2.1 - st.2.2.1) ≤ R.cells → s0 + (st2.2.2.2.1 - st.2.2.2.1) ≤ R.slots → am_H B cA D st H → va_S (am_A B) s.heap H locs → am_Lc B b (am_nl e) lc ls →
  am_End B b D cA e p l en R s m args below meth c (c0 + (st2.2.2.1 - st.2.2.1)) (s0 + (st2.2.2.2.1 - st.2.2.2.1)) Qf r st2 → W p l en R s m args below meth c H locs c0 s0 Qf (F0 m pc ls (sk.map (am_v B b)))
def am_P (l : Launch) (B : Nat) (b : am_B) (D : va_G) (cA : Nat → ClassId) (X : am_X) (e : am_M) (Q : am_Q) : am_K := fun pc lc sk st =>
  ∃ r st2, Q r st2 ∧ st.2.2.1 ≤ st2.2.2.1 ∧ st.2.2.2.1 ≤ st2.2.2.2.1 ∧ am_Sim l B b D cA X e pc lc sk st r st2
section SO
variable {l : Launch} {B : Nat} {b : am_B} {D : va_G} {cA : Nat → ClassId} {X : am_X} {e : am_M} {Q : am_Q}
theorem so_gen {pc pc2 : Nat} {lc sk lc2 sk2 : List Value} {st st2 : am_S} (h : am_P l B b D cA X e Q pc2 lc2 sk2 st2) (dc ds : Nat) (h1 : st2.2.2.1 = st.2.2.1 + dc) (h2 : st2.2.2.2.1 = st.2.2.2.1 + ds)
    (row : ∀ (p : Program) (en : Env) (R : Room) (s : State) (m : MethodId) (args : Array Value) (below : List Frame) (meth : Method) (c : Code), am_F l B b D cA X e p R s m meth c →
      ∀ (H : Heap) (locs : List Loc) (ls : Array Slot) (c0 s0 : Nat) (Qf : State → Prop), c0 + dc ≤ R.cells → s0 + ds ≤ R.slots → am_H B cA D st H → va_S (am_A B) s.heap H locs → am_Lc B b (am_nl e) lc ls →
      (∀ (H2 : Heap) (locs2 : List Loc) (ls2 : Array Slot), am_H B cA D st2 H2 → va_S (am_A B) s.heap H2 locs2 → am_Lc B b (am_nl e) lc2 ls2 → W p l en R s m args below meth c H2 locs2 (c0 + dc) (s0 + ds) Qf (F0 m pc2 ls2 (sk2.map (am_v B b)))) →
      W p l en R s m args below meth c H locs c0 s0 Qf (F0 m pc ls (sk.map (am_v B b)))) : am_P l B b D cA X e Q pc lc sk st := by
  obtain ⟨r, st3, hq, g1, g2, hS⟩ := h
  refine ⟨r, st3, hq, by omega, by omega, fun p en R s m args below meth c hF H locs ls c0 s0 Qf hc hs hH hSS hL hE => ?_⟩
  have e1 : c0 + (st3.2.2.1 - st.2.2.1) = c0 + dc + (st3.2.2.1 - st2.2.2.1) := by omega
  have e2 : s0 + (st3.2.2.2.1 - st.2.2.2.1) = s0 + ds + (st3.2.2.2.1 - st2.2.2.2.1) := by omega
  rw [e1, e2] at hE
  exact row p en R s m args below meth c hF H locs ls c0 s0 Qf (by omega) (by omega) hH hSS hL fun H2 locs2 ls2 k1 k2 k3 => hS p en R s m args below meth c hF H2 locs2 ls2 _ _ Qf (by omega) (by omega) k1 k2 k3 hE
/-! the locals -/
def am_pr (B : Nat) (b : am_B) (lc : List Value) : List (Nat × Value) := (List.range lc.length).filterMap fun j => match lc[j]? with | some v => if v = am_u then none else some (j, am_v B b v) | none => none
theorem am_pr_mem {lc : List Value} {j : Nat} {x : Value} : (j, x) ∈ am_pr B b lc ↔ ∃ v, lc[j]? = some v ∧ v ≠ am_u ∧ x = am_v B b v := by
  unfold am_pr
  rw [List.mem_filterMap]
  constructor
  · rintro ⟨i, hi, h⟩
    cases hv : lc[i]? with
    | none => simp [hv] at h
    | some v =>
      simp only [hv] at h
      split at h
      · cases h
      · cases h
        exact ⟨v, hv, by assumption, rfl⟩
  · rintro ⟨v, hv, hn, rfl⟩
    exact ⟨j, List.mem_range.mpr (List.getElem?_eq_some_iff.mp hv).1, by simp only [hv, if_neg hn]⟩
theorem am_pr_has {nL : Nat} {lc : List Value} {ls : Array Slot} (h : am_Lc B b nL lc ls) : lv_has ls nL (am_pr B b lc) := ⟨h.1, h.2.2.1, fun q hq => by
  obtain ⟨v, h1, h2, h3⟩ := am_pr_mem.mp hq
  rw [h3]
  exact h.2.2.2 _ v h1 h2⟩
theorem am_v_cat (v : Value) : (am_v B b v).category = v.category := by
  unfold am_v
  split <;> rfl
theorem am_kl_len (lc : List Value) (k : Nat) : (am_kl lc k).length = lc.length := by
  unfold am_kl
  (repeat' split) <;> simp
theorem am_kl_at {lc : List Value} {k j : Nat} {v : Value} (h : (am_kl lc k)[j]? = some v) (hv : v ≠ am_u) : lc[j]? = some v ∧ ¬ (j + 1 = k ∧ v.category = 2) := by
  unfold am_kl at h
  split at h
  · exact ⟨h, fun q => by omega⟩
  · rename_i i
    split at h
    · rename_i z hz
      split at h
      · rename_i hc
        by_cases hj : i = j
        · subst hj
          rw [List.getElem?_set_self (List.getElem?_eq_some_iff.mp hz).1] at h
          exact absurd (Option.some.inj h).symm hv
        · rw [List.getElem?_set_ne hj] at h
          exact ⟨h, fun q => by omega⟩
      · rename_i hc
        refine ⟨h, fun q => ?_⟩
        have : i = j := by omega
        subst this
        rw [hz] at h
        cases h
        exact hc q.2
    · rename_i hz
      refine ⟨h, fun q => ?_⟩
      have : i = j := by omega
      subst this
      rw [hz] at h
      cases h
theorem am_s1_ok {nL k : Nat} {lc : List Value} {ls ls2 : Array Slot} {v : Value} (h : am_Lc B b nL lc ls) (hk : k < lc.length) (h2 : lv_has ls2 nL ((k, am_v B b v) :: (am_pr B b lc).filter (fun q => !(q.1 == k) && !(q.1 + 1 == k && q.2.category == 2)))) : am_Lc B b nL (am_s1 lc k v) ls2 := by
  refine ⟨h2.1, by rw [am_s1, List.length_set, am_kl_len]; exact h.2.1, h2.2.1, fun j x hx hn => ?_⟩
  unfold am_s1 at hx
  by_cases hj : k = j
  · subst hj
    rw [List.getElem?_set_self (by rw [am_kl_len]; exact hk)] at hx
    cases hx
    exact h2.2.2 _ List.mem_cons_self
  · rw [List.getElem?_set_ne hj] at hx
    obtain ⟨g1, g2⟩ := am_kl_at hx hn
    refine h2.2.2 (j, am_v B b x) (List.mem_cons_of_mem _ (List.mem_filter.mpr ⟨am_pr_mem.mpr ⟨x, g1, hn, rfl⟩, ?_⟩))
    simp only [Bool.and_eq_true, Bool.not_eq_true', beq_eq_false_iff_ne, ne_eq, Bool.and_eq_false_iff, am_v_cat]
    refine ⟨fun q => hj q.symm, ?_⟩
    by_cases q1 : j + 1 = k
    · exact Or.inr fun q2 => g2 ⟨q1, q2⟩
    · exact Or.inl q1
theorem am_s1u_ok {nL k : Nat} {lc : List Value} {ls ls2 : Array Slot} {z : Value} (h : am_Lc B b nL lc ls) (h2 : lv_has ls2 nL ((k, z) :: (am_pr B b lc).filter (fun q => !(q.1 == k) && !(q.1 + 1 == k && q.2.category == 2)))) : am_Lc B b nL (am_s1 lc k am_u) ls2 := by
  refine ⟨h2.1, by rw [am_s1, List.length_set, am_kl_len]; exact h.2.1, h2.2.1, fun j x hx hn => ?_⟩
  unfold am_s1 at hx
  by_cases hj : k = j
  · subst hj
    by_cases hk : k < (am_kl lc k).length
    · rw [List.getElem?_set_self hk] at hx
      exact absurd (Option.some.inj hx).symm hn
    · rw [List.getElem?_eq_none (by rw [List.length_set]; exact Nat.not_lt.mp hk)] at hx
      cases hx
  · rw [List.getElem?_set_ne hj] at hx
    obtain ⟨g1, g2⟩ := am_kl_at hx hn
    refine h2.2.2 (j, am_v B b x) (List.mem_cons_of_mem _ (List.mem_filter.mpr ⟨am_pr_mem.mpr ⟨x, g1, hn, rfl⟩, ?_⟩))
    simp only [Bool.and_eq_true, Bool.not_eq_true', beq_eq_false_iff_ne, ne_eq, Bool.and_eq_false_iff, am_v_cat]
    refine ⟨fun q => hj q.symm, ?_⟩
    by_cases q1 : j + 1 = k
    · exact Or.inr fun q2 => g2 ⟨q1, q2⟩
    · exact Or.inl q1
theorem am_s2_ok {nL k : Nat} {lc : List Value} {ls ls2 : Array Slot} {v : Value} (h : am_Lc B b nL lc ls) (hk : k + 1 < lc.length) (h2 : lv_has ls2 nL ((k, am_v B b v) :: (am_pr B b lc).filter (fun q => !(q.1 == k) && (!(q.1 == k + 1) && !(q.1 + 1 == k && q.2.category == 2))))) : am_Lc B b nL (am_s2 lc k v) ls2 := by
  refine ⟨h2.1, by rw [am_s2, List.length_set, List.length_set, am_kl_len]; exact h.2.1, h2.2.1, fun j x hx hn => ?_⟩
  unfold am_s2 at hx
  by_cases hj2 : k + 1 = j
  · subst hj2
    rw [List.getElem?_set_self (by rw [List.length_set, am_kl_len]; exact hk)] at hx
    exact absurd (Option.some.inj hx).symm hn
  rw [List.getElem?_set_ne hj2] at hx
  by_cases hj : k = j
  · subst hj
    rw [List.getElem?_set_self (by rw [am_kl_len]; omega)] at hx
    cases hx
    exact h2.2.2 _ List.mem_cons_self
  · rw [List.getElem?_set_ne hj] at hx
    obtain ⟨g1, g2⟩ := am_kl_at hx hn
    refine h2.2.2 (j, am_v B b x) (List.mem_cons_of_mem _ (List.mem_filter.mpr ⟨am_pr_mem.mpr ⟨x, g1, hn, rfl⟩, ?_⟩))
    simp only [Bool.and_eq_true, Bool.not_eq_true', beq_eq_false_iff_ne, ne_eq, Bool.and_eq_false_iff, am_v_cat]
    refine ⟨fun q => hj q.symm, fun q => hj2 q.symm, ?_⟩
    by_cases q1 : j + 1 = k
    · exact Or.inr fun q2 => g2 ⟨q1, q2⟩
    · exact Or.inl q1

theorem so_aload {q : am_I} {lc sk : List Value} {st : am_S} {k : Nat} (hk : am_q4 e q k (.aload k) .aload_n = true) (h : am_ld k am_ta (q.1 + q.2.2.1) lc sk st (am_P l B b D cA X e Q)) : am_P l B b D cA X e Q q.1 lc sk st := by
  unfold am_ld at h
  split at h
  rotate_left
  · exact h.elim
  rename_i v hv
  split at h
  rotate_left
  · exact h.elim
  rename_i ht
  refine so_gen h 0 0 rfl rfl (fun p en R s m args below meth c hF H locs ls c0 s0 Qf hc hs hH hS hL kk => ?_)
  obtain ⟨hx, hb, hml, hr, hown, hts, hlk, htab, hnm, hW, hfr, hlo, htr, hsc⟩ := hF
  obtain ⟨x, hvx⟩ : ∃ x, am_v B b v = .ref x := by
    cases v <;> first | exact ⟨_, rfl⟩ | (cases ht; done) | skip
    rename_i n
    cases n
    · exact ⟨_, rfl⟩
    · cases ht
  have hlx := hL.2.2.2 k _ hv (by intro h0; rw [h0] at ht; cases ht)
  rw [hvx] at hlx
  simp only [List.map_cons, hvx] at kk
  rcases am_q4_s hk with ⟨hd, hn⟩ | ⟨hk4, hd, hn⟩
  · rw [hn] at kk
    exact lv_aload hx hb hd hlx (kk H locs ls hH hS hL)
  · rw [hn] at kk
    exact lv_aload_n hx hb hd rfl hlx (kk H locs ls hH hS hL)
theorem so_iload {q : am_I} {lc sk : List Value} {st : am_S} {k : Nat} (hk : am_q4 e q k (.iload k) .iload_n = true) (h : am_ld k am_ti (q.1 + q.2.2.1) lc sk st (am_P l B b D cA X e Q)) : am_P l B b D cA X e Q q.1 lc sk st := by
  unfold am_ld at h
  split at h
  rotate_left
  · exact h.elim
  rename_i v hv
  split at h
  rotate_left
  · exact h.elim
  rename_i ht
  refine so_gen h 0 0 rfl rfl (fun p en R s m args below meth c hF H locs ls c0 s0 Qf hc hs hH hS hL kk => ?_)
  obtain ⟨hx, hb, hml, hr, hown, hts, hlk, htab, hnm, hW, hfr, hlo, htr, hsc⟩ := hF
  obtain ⟨x, rfl⟩ : ∃ x, v = .int x := by cases v <;> first | exact ⟨_, rfl⟩ | cases ht
  have hlx := hL.2.2.2 k _ hv (by intro h0; cases h0)
  rcases am_q4_s hk with ⟨hd, hn⟩ | ⟨hk4, hd, hn⟩
  · rw [hn] at kk
    exact lv_iload hx hb hd hlx (kk H locs ls hH hS hL)
  · rw [hn] at kk
    exact lv_iload_n hx hb hd rfl hlx (kk H locs ls hH hS hL)
theorem so_lload {q : am_I} {lc sk : List Value} {st : am_S} {k : Nat} (hk : am_q4 e q k (.lload k) .lload_n = true) (h : am_ld k am_tl (q.1 + q.2.2.1) lc sk st (am_P l B b D cA X e Q)) : am_P l B b D cA X e Q q.1 lc sk st := by
  unfold am_ld at h
  split at h
  rotate_left
  · exact h.elim
  rename_i v hv
  split at h
  rotate_left
  · exact h.elim
  rename_i ht
  refine so_gen h 0 0 rfl rfl (fun p en R s m args below meth c hF H locs ls c0 s0 Qf hc hs hH hS hL kk => ?_)
  obtain ⟨hx, hb, hml, hr, hown, hts, hlk, htab, hnm, hW, hfr, hlo, htr, hsc⟩ := hF
  obtain ⟨x, rfl⟩ : ∃ x, v = .long x := by cases v <;> first | exact ⟨_, rfl⟩ | cases ht
  have hlx := hL.2.2.2 k _ hv (by intro h0; cases h0)
  rcases am_q4_s hk with ⟨hd, hn⟩ | ⟨hk4, hd, hn⟩
  · rw [hn] at kk
    exact lv_lload hx hb hd hlx (kk H locs ls hH hS hL)
  · rw [hn] at kk
    exact lv_lload_n hx hb hd rfl hlx (kk H locs ls hH hS hL)
theorem so_dload {q : am_I} {lc sk : List Value} {st : am_S} {k : Nat} (hk : am_q4 e q k (.dload k) .dload_n = true) (h : am_ld k am_td (q.1 + q.2.2.1) lc sk st (am_P l B b D cA X e Q)) : am_P l B b D cA X e Q q.1 lc sk st := by
  unfold am_ld at h
  split at h
  rotate_left
  · exact h.elim
  rename_i v hv
  split at h
  rotate_left
  · exact h.elim
  rename_i ht
  refine so_gen h 0 0 rfl rfl (fun p en R s m args below meth c hF H locs ls c0 s0 Qf hc hs hH hS hL kk => ?_)
  obtain ⟨hx, hb, hml, hr, hown, hts, hlk, htab, hnm, hW, hfr, hlo, htr, hsc⟩ := hF
  obtain ⟨x, rfl⟩ : ∃ x, v = .double x := by cases v <;> first | exact ⟨_, rfl⟩ | cases ht
  have hlx := hL.2.2.2 k _ hv (by intro h0; cases h0)
  rcases am_q4_s hk with ⟨hd, hn⟩ | ⟨hk4, hd, hn⟩
  · rw [hn] at kk
    exact lv_dload hx hb hd hlx (kk H locs ls hH hS hL)
  · rw [hn] at kk
    exact lv_dload_n hx hb hd rfl hlx (kk H locs ls hH hS hL)
theorem so_astore {q : am_I} {lc sk : List Value} {st : am_S} {k : Nat} (hk : am_q4 e q k (.astore k) .astore_n = true) (h : am_so k am_tr (q.1 + q.2.2.1) lc sk st (am_P l B b D cA X e Q)) : am_P l B b D cA X e Q q.1 lc sk st := by
  unfold am_so at h
  split at h
  rotate_left
  · exact h.elim
  rename_i v r
  split at h
  rotate_left
  · exact h.elim
  rename_i ht
  obtain ⟨ht, hkl⟩ := ht
  obtain ⟨x, rfl⟩ : ∃ x, v = .ref x := by cases v <;> first | exact ⟨_, rfl⟩ | cases ht
  refine so_gen h 0 0 rfl rfl (fun p en R s m args below meth c hF H locs ls c0 s0 Qf hc hs hH hS hL kk => ?_)
  obtain ⟨hx, hb, hml, hr, hown, hts, hlk, htab, hnm, hW, hfr, hlo, htr, hsc⟩ := hF
  have hkn : k < am_nl e := by rw [← hL.2.1]; exact hkl
  rcases am_q4_s hk with ⟨hd, hn⟩ | ⟨hk4, hd, hn⟩
  · rw [hn] at kk
    exact lv_astore hx hb hd (am_pr_has hL) hkn rfl (fun ls2 h2 => kk H locs ls2 hH hS (am_s1_ok hL hkl h2))
  · rw [hn] at kk
    exact lv_astore_n hx hb hd rfl (am_pr_has hL) hkn rfl (fun ls2 h2 => kk H locs ls2 hH hS (am_s1_ok hL hkl h2))
theorem so_istore {q : am_I} {lc sk : List Value} {st : am_S} {k : Nat} (hk : am_q4 e q k (.istore k) .istore_n = true) (h : am_so k am_ti (q.1 + q.2.2.1) lc sk st (am_P l B b D cA X e Q)) : am_P l B b D cA X e Q q.1 lc sk st := by
  unfold am_so at h
  split at h
  rotate_left
  · exact h.elim
  rename_i v r
  split at h
  rotate_left
  · exact h.elim
  rename_i ht
  obtain ⟨ht, hkl⟩ := ht
  obtain ⟨x, rfl⟩ : ∃ x, v = .int x := by cases v <;> first | exact ⟨_, rfl⟩ | cases ht
  refine so_gen h 0 0 rfl rfl (fun p en R s m args below meth c hF H locs ls c0 s0 Qf hc hs hH hS hL kk => ?_)
  obtain ⟨hx, hb, hml, hr, hown, hts, hlk, htab, hnm, hW, hfr, hlo, htr, hsc⟩ := hF
  have hkn : k < am_nl e := by rw [← hL.2.1]; exact hkl
  rcases am_q4_s hk with ⟨hd, hn⟩ | ⟨hk4, hd, hn⟩
  · rw [hn] at kk
    exact lv_istore hx hb hd (am_pr_has hL) hkn rfl (fun ls2 h2 => kk H locs ls2 hH hS (am_s1_ok hL hkl h2))
  · rw [hn] at kk
    exact lv_istore_n hx hb hd rfl (am_pr_has hL) hkn rfl (fun ls2 h2 => kk H locs ls2 hH hS (am_s1_ok hL hkl h2))
theorem so_lstore {q : am_I} {lc sk : List Value} {st : am_S} {k : Nat} (hk : am_q4 e q k (.lstore k) .lstore_n = true) (h : am_so2 k am_tl (q.1 + q.2.2.1) lc sk st (am_P l B b D cA X e Q)) : am_P l B b D cA X e Q q.1 lc sk st := by
  unfold am_so2 at h
  split at h
  rotate_left
  · exact h.elim
  rename_i v r
  split at h
  rotate_left
  · exact h.elim
  rename_i ht
  obtain ⟨ht, hkl⟩ := ht
  obtain ⟨x, rfl⟩ : ∃ x, v = .long x := by cases v <;> first | exact ⟨_, rfl⟩ | cases ht
  refine so_gen h 0 0 rfl rfl (fun p en R s m args below meth c hF H locs ls c0 s0 Qf hc hs hH hS hL kk => ?_)
  obtain ⟨hx, hb, hml, hr, hown, hts, hlk, htab, hnm, hW, hfr, hlo, htr, hsc⟩ := hF
  have hkn : k + 1 < am_nl e := by rw [← hL.2.1]; exact hkl
  rcases am_q4_s hk with ⟨hd, hn⟩ | ⟨hk4, hd, hn⟩
  · rw [hn] at kk
    exact lv_lstore hx hb hd (am_pr_has hL) hkn rfl (fun ls2 h2 => kk H locs ls2 hH hS (am_s2_ok hL hkl h2))
  · rw [hn] at kk
    exact lv_lstore_n hx hb hd rfl (am_pr_has hL) hkn rfl (fun ls2 h2 => kk H locs ls2 hH hS (am_s2_ok hL hkl h2))
theorem so_dstore {q : am_I} {lc sk : List Value} {st : am_S} {k : Nat} (hk : am_q4 e q k (.dstore k) .dstore_n = true) (h : am_so2 k am_td (q.1 + q.2.2.1) lc sk st (am_P l B b D cA X e Q)) : am_P l B b D cA X e Q q.1 lc sk st := by
  unfold am_so2 at h
  split at h
  rotate_left
  · exact h.elim
  rename_i v r
  split at h
  rotate_left
  · exact h.elim
  rename_i ht
  obtain ⟨ht, hkl⟩ := ht
  obtain ⟨x, rfl⟩ : ∃ x, v = .double x := by cases v <;> first | exact ⟨_, rfl⟩ | cases ht
  refine so_gen h 0 0 rfl rfl (fun p en R s m args below meth c hF H locs ls c0 s0 Qf hc hs hH hS hL kk => ?_)
  obtain ⟨hx, hb, hml, hr, hown, hts, hlk, htab, hnm, hW, hfr, hlo, htr, hsc⟩ := hF
  have hkn : k + 1 < am_nl e := by rw [← hL.2.1]; exact hkl
  rcases am_q4_s hk with ⟨hd, hn⟩ | ⟨hk4, hd, hn⟩
  · rw [hn] at kk
    exact lv_dstore hx hb hd (am_pr_has hL) hkn rfl (fun ls2 h2 => kk H locs ls2 hH hS (am_s2_ok hL hkl h2))
  · rw [hn] at kk
    exact lv_dstore_n hx hb hd rfl (am_pr_has hL) hkn rfl (fun ls2 h2 => kk H locs ls2 hH hS (am_s2_ok hL hkl h2))
theorem so_sipush {q : am_I} {lc sk : List Value} {st : am_S} {v : Int} (hk : am_qc e q v = true) (h : am_P l B b D cA X e Q (q.1 + q.2.2.1) lc (.int (am_i v) :: sk) st) : am_P l B b D cA X e Q q.1 lc sk st := by
  refine so_gen h 0 0 rfl rfl (fun p en R s m args below meth c hF H locs ls c0 s0 Qf hc hs hH hS hL kk => ?_)
  obtain ⟨hx, hb, hml, hr, hown, hts, hlk, htab, hnm, hW, hfr, hlo, htr, hsc⟩ := hF
  unfold am_qc at hk
  split at hk
  · obtain ⟨hd, hn⟩ := am_q1_s hk
    rw [hn] at kk
    exact lv_iconst hx hb hd rfl (kk H locs ls hH hS hL)
  · split at hk
    · simp only [Bool.and_eq_true, decide_eq_true_eq] at hk
      obtain ⟨hd, hn⟩ := am_q1_s hk.1
      rw [hn] at kk
      exact lv_bipush hx hb hd hk.2 (kk H locs ls hH hS hL)
    · simp only [Bool.and_eq_true, decide_eq_true_eq] at hk
      obtain ⟨hd, hn⟩ := am_q1_s hk.1
      rw [hn] at kk
      exact lv_sipush hx hb hd hk.2 (kk H locs ls hH hS hL)
theorem so_lconst {q : am_I} {lc sk : List Value} {st : am_S} {k : Fin 2} (hk : am_q1 e q (.lconst k) 1 = true) (h : am_P l B b D cA X e Q (q.1 + q.2.2.1) lc (.long (Int64.ofNat (k : Nat)) :: sk) st) : am_P l B b D cA X e Q q.1 lc sk st := by
  refine so_gen h 0 0 rfl rfl (fun p en R s m args below meth c hF H locs ls c0 s0 Qf hc hs hH hS hL kk => ?_)
  obtain ⟨hd, hn⟩ := am_q1_s hk
  rw [hn] at kk
  obtain ⟨hx, hb, hml, hr, hown, hts, hlk, htab, hnm, hW, hfr, hlo, htr, hsc⟩ := hF
  exact lv_lconst hx hb hd rfl (kk H locs ls hH hS hL)
theorem so_ldc2 {q : am_I} {lc sk : List Value} {st : am_S} {v : Nat} (hk : am_q1 e q (.ldc2_w q.2.2.2) 3 = true) (hw : am_in (.constantDouble (am_nm (am_o e)) q.2.2.2 (UInt64.ofNat v)) = true) (h : am_P l B b D cA X e Q (q.1 + q.2.2.1) lc (.double (UInt64.ofNat v) :: sk) st) : am_P l B b D cA X e Q q.1 lc sk st := by
  refine so_gen h 0 0 rfl rfl (fun p en R s m args below meth c hF H locs ls c0 s0 Qf hc hs hH hS hL kk => ?_)
  obtain ⟨hd, hn⟩ := am_q1_s hk
  rw [hn] at kk
  obtain ⟨hx, hb, hml, hr, hown, hts, hlk, htab, hnm, hW, hfr, hlo, htr, hsc⟩ := hF
  exact lv_ldc2d hx hb hown (hts _ (am_in_mem hw) _) hd (kk H locs ls hH hS hL)
theorem so_iadd {q : am_I} {lc sk : List Value} {st : am_S} (hk : am_q1 e q (.iadd) 1 = true) (h : am_b2 (fun x y => x + y) (q.1 + q.2.2.1) lc sk st (am_P l B b D cA X e Q)) : am_P l B b D cA X e Q q.1 lc sk st := by
  unfold am_b2 at h
  split at h
  rotate_left
  · exact h.elim
  refine so_gen h 0 0 rfl rfl (fun p en R s m args below meth c hF H locs ls c0 s0 Qf hc hs hH hS hL kk => ?_)
  obtain ⟨hd, hn⟩ := am_q1_s hk
  rw [hn] at kk
  obtain ⟨hx, hb, hml, hr, hown, hts, hlk, htab, hnm, hW, hfr, hlo, htr, hsc⟩ := hF
  exact lv_iadd hx hb hd (kk H locs ls hH hS hL)
theorem so_isub {q : am_I} {lc sk : List Value} {st : am_S} (hk : am_q1 e q (.isub) 1 = true) (h : am_b2 (fun x y => x - y) (q.1 + q.2.2.1) lc sk st (am_P l B b D cA X e Q)) : am_P l B b D cA X e Q q.1 lc sk st := by
  unfold am_b2 at h
  split at h
  rotate_left
  · exact h.elim
  refine so_gen h 0 0 rfl rfl (fun p en R s m args below meth c hF H locs ls c0 s0 Qf hc hs hH hS hL kk => ?_)
  obtain ⟨hd, hn⟩ := am_q1_s hk
  rw [hn] at kk
  obtain ⟨hx, hb, hml, hr, hown, hts, hlk, htab, hnm, hW, hfr, hlo, htr, hsc⟩ := hF
  exact lv_isub hx hb hd (kk H locs ls hH hS hL)
theorem so_imul {q : am_I} {lc sk : List Value} {st : am_S} (hk : am_q1 e q (.imul) 1 = true) (h : am_b2 (fun x y => x * y) (q.1 + q.2.2.1) lc sk st (am_P l B b D cA X e Q)) : am_P l B b D cA X e Q q.1 lc sk st := by
  unfold am_b2 at h
  split at h
  rotate_left
  · exact h.elim
  refine so_gen h 0 0 rfl rfl (fun p en R s m args below meth c hF H locs ls c0 s0 Qf hc hs hH hS hL kk => ?_)
  obtain ⟨hd, hn⟩ := am_q1_s hk
  rw [hn] at kk
  obtain ⟨hx, hb, hml, hr, hown, hts, hlk, htab, hnm, hW, hfr, hlo, htr, hsc⟩ := hF
  exact lv_imul hx hb hd (kk H locs ls hH hS hL)
theorem so_iand {q : am_I} {lc sk : List Value} {st : am_S} (hk : am_q1 e q (.iand) 1 = true) (h : am_b2 (fun x y => x &&& y) (q.1 + q.2.2.1) lc sk st (am_P l B b D cA X e Q)) : am_P l B b D cA X e Q q.1 lc sk st := by
  unfold am_b2 at h
  split at h
  rotate_left
  · exact h.elim
  refine so_gen h 0 0 rfl rfl (fun p en R s m args below meth c hF H locs ls c0 s0 Qf hc hs hH hS hL kk => ?_)
  obtain ⟨hd, hn⟩ := am_q1_s hk
  rw [hn] at kk
  obtain ⟨hx, hb, hml, hr, hown, hts, hlk, htab, hnm, hW, hfr, hlo, htr, hsc⟩ := hF
  exact lv_iand hx hb hd (kk H locs ls hH hS hL)
theorem so_ior {q : am_I} {lc sk : List Value} {st : am_S} (hk : am_q1 e q (.ior) 1 = true) (h : am_b2 (fun x y => x ||| y) (q.1 + q.2.2.1) lc sk st (am_P l B b D cA X e Q)) : am_P l B b D cA X e Q q.1 lc sk st := by
  unfold am_b2 at h
  split at h
  rotate_left
  · exact h.elim
  refine so_gen h 0 0 rfl rfl (fun p en R s m args below meth c hF H locs ls c0 s0 Qf hc hs hH hS hL kk => ?_)
  obtain ⟨hd, hn⟩ := am_q1_s hk
  rw [hn] at kk
  obtain ⟨hx, hb, hml, hr, hown, hts, hlk, htab, hnm, hW, hfr, hlo, htr, hsc⟩ := hF
  exact lv_ior hx hb hd (kk H locs ls hH hS hL)
theorem so_land {q : am_I} {lc sk : List Value} {st : am_S} (hk : am_q1 e q (.land) 1 = true) (h : am_l2 (fun x y => x &&& y) (q.1 + q.2.2.1) lc sk st (am_P l B b D cA X e Q)) : am_P l B b D cA X e Q q.1 lc sk st := by
  unfold am_l2 at h
  split at h
  rotate_left
  · exact h.elim
  refine so_gen h 0 0 rfl rfl (fun p en R s m args below meth c hF H locs ls c0 s0 Qf hc hs hH hS hL kk => ?_)
  obtain ⟨hd, hn⟩ := am_q1_s hk
  rw [hn] at kk
  obtain ⟨hx, hb, hml, hr, hown, hts, hlk, htab, hnm, hW, hfr, hlo, htr, hsc⟩ := hF
  exact lv_land hx hb hd (kk H locs ls hH hS hL)
theorem so_lor {q : am_I} {lc sk : List Value} {st : am_S} (hk : am_q1 e q (.lor) 1 = true) (h : am_l2 (fun x y => x ||| y) (q.1 + q.2.2.1) lc sk st (am_P l B b D cA X e Q)) : am_P l B b D cA X e Q q.1 lc sk st := by
  unfold am_l2 at h
  split at h
  rotate_left
  · exact h.elim
  refine so_gen h 0 0 rfl rfl (fun p en R s m args below meth c hF H locs ls c0 s0 Qf hc hs hH hS hL kk => ?_)
  obtain ⟨hd, hn⟩ := am_q1_s hk
  rw [hn] at kk
  obtain ⟨hx, hb, hml, hr, hown, hts, hlk, htab, hnm, hW, hfr, hlo, htr, hsc⟩ := hF
  exact lv_lor hx hb hd (kk H locs ls hH hS hL)
theorem so_lshl {q : am_I} {lc sk : List Value} {st : am_S} (hk : am_q1 e q (.lshl) 1 = true) (h : am_ls (fun x y => x <<< y) (q.1 + q.2.2.1) lc sk st (am_P l B b D cA X e Q)) : am_P l B b D cA X e Q q.1 lc sk st := by
  unfold am_ls at h
  split at h
  rotate_left
  · exact h.elim
  refine so_gen h 0 0 rfl rfl (fun p en R s m args below meth c hF H locs ls c0 s0 Qf hc hs hH hS hL kk => ?_)
  obtain ⟨hd, hn⟩ := am_q1_s hk
  rw [hn] at kk
  obtain ⟨hx, hb, hml, hr, hown, hts, hlk, htab, hnm, hW, hfr, hlo, htr, hsc⟩ := hF
  exact lv_lshl hx hb hd rfl (kk H locs ls hH hS hL)
theorem so_lshr {q : am_I} {lc sk : List Value} {st : am_S} (hk : am_q1 e q (.lshr) 1 = true) (h : am_ls (fun x y => x >>> y) (q.1 + q.2.2.1) lc sk st (am_P l B b D cA X e Q)) : am_P l B b D cA X e Q q.1 lc sk st := by
  unfold am_ls at h
  split at h
  rotate_left
  · exact h.elim
  refine so_gen h 0 0 rfl rfl (fun p en R s m args below meth c hF H locs ls c0 s0 Qf hc hs hH hS hL kk => ?_)
  obtain ⟨hd, hn⟩ := am_q1_s hk
  rw [hn] at kk
  obtain ⟨hx, hb, hml, hr, hown, hts, hlk, htab, hnm, hW, hfr, hlo, htr, hsc⟩ := hF
  exact lv_lshr hx hb hd rfl (kk H locs ls hH hS hL)
theorem so_irem {q : am_I} {lc sk : List Value} {st : am_S} (hk : am_q1 e q (.irem) 1 = true) (h : am_rm (q.1 + q.2.2.1) lc sk st (am_P l B b D cA X e Q)) : am_P l B b D cA X e Q q.1 lc sk st := by
  unfold am_rm at h
  split at h
  rotate_left
  · exact h.elim
  obtain ⟨hne, h⟩ := h
  refine so_gen h 0 0 rfl rfl (fun p en R s m args below meth c hF H locs ls c0 s0 Qf hc hs hH hS hL kk => ?_)
  obtain ⟨hd, hn⟩ := am_q1_s hk
  rw [hn] at kk
  obtain ⟨hx, hb, hml, hr, hown, hts, hlk, htab, hnm, hW, hfr, hlo, htr, hsc⟩ := hF
  exact lv_irem hx hb hd hne (kk H locs ls hH hS hL)
theorem so_idiv {q : am_I} {lc sk : List Value} {st : am_S} (hk : am_q1 e q (.idiv) 1 = true) (h : am_di (q.1 + q.2.2.1) lc sk st (am_P l B b D cA X e Q)) : am_P l B b D cA X e Q q.1 lc sk st := by
  unfold am_di at h
  split at h
  rotate_left
  · exact h.elim
  obtain ⟨hne, h⟩ := h
  refine so_gen h 0 0 rfl rfl (fun p en R s m args below meth c hF H locs ls c0 s0 Qf hc hs hH hS hL kk => ?_)
  obtain ⟨hd, hn⟩ := am_q1_s hk
  rw [hn] at kk
  obtain ⟨hx, hb, hml, hr, hown, hts, hlk, htab, hnm, hW, hfr, hlo, htr, hsc⟩ := hF
  exact lv_idiv hx hb hd hne (kk H locs ls hH hS hL)
theorem so_ishr {q : am_I} {lc sk : List Value} {st : am_S} (hk : am_q1 e q (.ishr) 1 = true) (h : am_b2 (fun x y => x >>> (y &&& 31)) (q.1 + q.2.2.1) lc sk st (am_P l B b D cA X e Q)) : am_P l B b D cA X e Q q.1 lc sk st := by
  unfold am_b2 at h
  split at h
  rotate_left
  · exact h.elim
  refine so_gen h 0 0 rfl rfl (fun p en R s m args below meth c hF H locs ls c0 s0 Qf hc hs hH hS hL kk => ?_)
  obtain ⟨hd, hn⟩ := am_q1_s hk
  rw [hn] at kk
  obtain ⟨hx, hb, hml, hr, hown, hts, hlk, htab, hnm, hW, hfr, hlo, htr, hsc⟩ := hF
  exact lv_ishr hx hb hd (kk H locs ls hH hS hL)
theorem so_ladd {q : am_I} {lc sk : List Value} {st : am_S} (hk : am_q1 e q (.ladd) 1 = true) (h : am_l2 (fun x y => x + y) (q.1 + q.2.2.1) lc sk st (am_P l B b D cA X e Q)) : am_P l B b D cA X e Q q.1 lc sk st := by
  unfold am_l2 at h
  split at h
  rotate_left
  · exact h.elim
  refine so_gen h 0 0 rfl rfl (fun p en R s m args below meth c hF H locs ls c0 s0 Qf hc hs hH hS hL kk => ?_)
  obtain ⟨hd, hn⟩ := am_q1_s hk
  rw [hn] at kk
  obtain ⟨hx, hb, hml, hr, hown, hts, hlk, htab, hnm, hW, hfr, hlo, htr, hsc⟩ := hF
  exact lv_ladd hx hb hd (kk H locs ls hH hS hL)
theorem so_lmul {q : am_I} {lc sk : List Value} {st : am_S} (hk : am_q1 e q (.lmul) 1 = true) (h : am_l2 (fun x y => x * y) (q.1 + q.2.2.1) lc sk st (am_P l B b D cA X e Q)) : am_P l B b D cA X e Q q.1 lc sk st := by
  unfold am_l2 at h
  split at h
  rotate_left
  · exact h.elim
  refine so_gen h 0 0 rfl rfl (fun p en R s m args below meth c hF H locs ls c0 s0 Qf hc hs hH hS hL kk => ?_)
  obtain ⟨hd, hn⟩ := am_q1_s hk
  rw [hn] at kk
  obtain ⟨hx, hb, hml, hr, hown, hts, hlk, htab, hnm, hW, hfr, hlo, htr, hsc⟩ := hF
  exact lv_lmul hx hb hd (kk H locs ls hH hS hL)
theorem so_l2i {q : am_I} {lc sk : List Value} {st : am_S} (hk : am_q1 e q (.l2i) 1 = true) (h : am_cl2 (q.1 + q.2.2.1) lc sk st (am_P l B b D cA X e Q)) : am_P l B b D cA X e Q q.1 lc sk st := by
  unfold am_cl2 at h
  split at h
  rotate_left
  · exact h.elim
  refine so_gen h 0 0 rfl rfl (fun p en R s m args below meth c hF H locs ls c0 s0 Qf hc hs hH hS hL kk => ?_)
  obtain ⟨hd, hn⟩ := am_q1_s hk
  rw [hn] at kk
  obtain ⟨hx, hb, hml, hr, hown, hts, hlk, htab, hnm, hW, hfr, hlo, htr, hsc⟩ := hF
  exact lv_l2i hx hb hd rfl (kk H locs ls hH hS hL)
theorem so_ldcL {q : am_I} {lc sk : List Value} {st : am_S} {v : Nat} (hk : am_q1 e q (.ldc2_w q.2.2.2) 3 = true) (hw : am_in (.constantLong (am_nm (am_o e)) q.2.2.2 (Int64.ofNat v)) = true) (h : am_P l B b D cA X e Q (q.1 + q.2.2.1) lc (.long (Int64.ofNat v) :: sk) st) : am_P l B b D cA X e Q q.1 lc sk st := by
  refine so_gen h 0 0 rfl rfl (fun p en R s m args below meth c hF H locs ls c0 s0 Qf hc hs hH hS hL kk => ?_)
  obtain ⟨hd, hn⟩ := am_q1_s hk
  rw [hn] at kk
  obtain ⟨hx, hb, hml, hr, hown, hts, hlk, htab, hnm, hW, hfr, hlo, htr, hsc⟩ := hF
  exact lv_ldc2 hx hb hown (hts _ (am_in_mem hw) _) hd (kk H locs ls hH hS hL)
theorem so_ldcI {q : am_I} {lc sk : List Value} {st : am_S} {v : Nat} (hk : am_q1 e q (.ldc q.2.2.2) 2 = true) (hw : am_in (.constant (am_nm (am_o e)) q.2.2.2 (Int32.ofNat v)) = true) (h : am_P l B b D cA X e Q (q.1 + q.2.2.1) lc (.int (Int32.ofNat v) :: sk) st) : am_P l B b D cA X e Q q.1 lc sk st := by
  refine so_gen h 0 0 rfl rfl (fun p en R s m args below meth c hF H locs ls c0 s0 Qf hc hs hH hS hL kk => ?_)
  obtain ⟨hd, hn⟩ := am_q1_s hk
  rw [hn] at kk
  obtain ⟨hx, hb, hml, hr, hown, hts, hlk, htab, hnm, hW, hfr, hlo, htr, hsc⟩ := hF
  exact lv_ldc hx hb hown (hts _ (am_in_mem hw) _) hd (kk H locs ls hH hS hL)
theorem so_lcmp {q : am_I} {lc sk : List Value} {st : am_S} (hk : am_q1 e q (.lcmp) 1 = true) (h : am_cm (q.1 + q.2.2.1) lc sk st (am_P l B b D cA X e Q)) : am_P l B b D cA X e Q q.1 lc sk st := by
  unfold am_cm at h
  split at h
  rotate_left
  · exact h.elim
  refine so_gen h 0 0 rfl rfl (fun p en R s m args below meth c hF H locs ls c0 s0 Qf hc hs hH hS hL kk => ?_)
  obtain ⟨hd, hn⟩ := am_q1_s hk
  rw [hn] at kk
  obtain ⟨hx, hb, hml, hr, hown, hts, hlk, htab, hnm, hW, hfr, hlo, htr, hsc⟩ := hF
  exact W.lcmp hx hb hd (kk H locs ls hH hS hL)
theorem so_i2l {q : am_I} {lc sk : List Value} {st : am_S} (hk : am_q1 e q (.i2l) 1 = true) (h : am_cl1 (q.1 + q.2.2.1) lc sk st (am_P l B b D cA X e Q)) : am_P l B b D cA X e Q q.1 lc sk st := by
  unfold am_cl1 at h
  split at h
  rotate_left
  · exact h.elim
  refine so_gen h 0 0 rfl rfl (fun p en R s m args below meth c hF H locs ls c0 s0 Qf hc hs hH hS hL kk => ?_)
  obtain ⟨hd, hn⟩ := am_q1_s hk
  rw [hn] at kk
  obtain ⟨hx, hb, hml, hr, hown, hts, hlk, htab, hnm, hW, hfr, hlo, htr, hsc⟩ := hF
  exact lv_i2l hx hb hd rfl (kk H locs ls hH hS hL)
theorem so_i2d {q : am_I} {lc sk : List Value} {st : am_S} (hk : am_q1 e q (.i2d) 1 = true) (h : am_cd1 (q.1 + q.2.2.1) lc sk st (am_P l B b D cA X e Q)) : am_P l B b D cA X e Q q.1 lc sk st := by
  unfold am_cd1 at h
  split at h
  rotate_left
  · exact h.elim
  refine so_gen h 0 0 rfl rfl (fun p en R s m args below meth c hF H locs ls c0 s0 Qf hc hs hH hS hL kk => ?_)
  obtain ⟨hd, hn⟩ := am_q1_s hk
  rw [hn] at kk
  obtain ⟨hx, hb, hml, hr, hown, hts, hlk, htab, hnm, hW, hfr, hlo, htr, hsc⟩ := hF
  exact lv_i2d hx hb hd (kk H locs ls hH hS hL)
theorem so_ddiv {q : am_I} {lc sk : List Value} {st : am_S} (hk : am_q1 e q (.ddiv) 1 = true) (h : am_dv (q.1 + q.2.2.1) lc sk st (am_P l B b D cA X e Q)) : am_P l B b D cA X e Q q.1 lc sk st := by
  unfold am_dv at h
  split at h
  rotate_left
  · exact h.elim
  obtain ⟨hne, h⟩ := h
  refine so_gen h 0 0 rfl rfl (fun p en R s m args below meth c hF H locs ls c0 s0 Qf hc hs hH hS hL kk => ?_)
  obtain ⟨hd, hn⟩ := am_q1_s hk
  rw [hn] at kk
  obtain ⟨hx, hb, hml, hr, hown, hts, hlk, htab, hnm, hW, hfr, hlo, htr, hsc⟩ := hF
  exact lv_ddiv hx hb hd hne (kk H locs ls hH hS hL)
theorem so_dcmp {q : am_I} {lc sk : List Value} {st : am_S} {op : CmpOp} (hk : am_q1 e q (.dcmp op) 1 = true) (h : am_dc op (q.1 + q.2.2.1) lc sk st (am_P l B b D cA X e Q)) : am_P l B b D cA X e Q q.1 lc sk st := by
  unfold am_dc at h
  split at h
  rotate_left
  · exact h.elim
  refine so_gen h 0 0 rfl rfl (fun p en R s m args below meth c hF H locs ls c0 s0 Qf hc hs hH hS hL kk => ?_)
  obtain ⟨hd, hn⟩ := am_q1_s hk
  rw [hn] at kk
  obtain ⟨hx, hb, hml, hr, hown, hts, hlk, htab, hnm, hW, hfr, hlo, htr, hsc⟩ := hF
  exact lv_dcmp hx hb hd (kk H locs ls hH hS hL)
theorem so_dup {q : am_I} {lc sk : List Value} {st : am_S} (hk : am_q1 e q (.dup) 1 = true) (h : am_d1 (q.1 + q.2.2.1) lc sk st (am_P l B b D cA X e Q)) : am_P l B b D cA X e Q q.1 lc sk st := by
  unfold am_d1 at h
  split at h
  rotate_left
  · exact h.elim
  split at h
  rotate_left
  · exact h.elim
  rename_i hcat
  refine so_gen h 0 0 rfl rfl (fun p en R s m args below meth c hF H locs ls c0 s0 Qf hc hs hH hS hL kk => ?_)
  obtain ⟨hd, hn⟩ := am_q1_s hk
  rw [hn] at kk
  obtain ⟨hx, hb, hml, hr, hown, hts, hlk, htab, hnm, hW, hfr, hlo, htr, hsc⟩ := hF
  exact lv_dup hx hb hd (by rw [am_v_cat]; exact hcat) (kk H locs ls hH hS hL)
theorem so_dup2 {q : am_I} {lc sk : List Value} {st : am_S} (hk : am_q1 e q (.dup2) 1 = true) (h : am_d2 (q.1 + q.2.2.1) lc sk st (am_P l B b D cA X e Q)) : am_P l B b D cA X e Q q.1 lc sk st := by
  unfold am_d2 at h
  split at h
  rotate_left
  · exact h.elim
  split at h
  rotate_left
  · exact h.elim
  rename_i hcat
  refine so_gen h 0 0 rfl rfl (fun p en R s m args below meth c hF H locs ls c0 s0 Qf hc hs hH hS hL kk => ?_)
  obtain ⟨hd, hn⟩ := am_q1_s hk
  rw [hn] at kk
  obtain ⟨hx, hb, hml, hr, hown, hts, hlk, htab, hnm, hW, hfr, hlo, htr, hsc⟩ := hF
  exact lv_dup2_11 hx hb hd (by rw [am_v_cat]; exact hcat.1) (by rw [am_v_cat]; exact hcat.2) (kk H locs ls hH hS hL)
theorem so_pop {q : am_I} {lc sk : List Value} {st : am_S} (hk : am_q1 e q (.pop) 1 = true) (h : am_p1 (q.1 + q.2.2.1) lc sk st (am_P l B b D cA X e Q)) : am_P l B b D cA X e Q q.1 lc sk st := by
  unfold am_p1 at h
  split at h
  rotate_left
  · exact h.elim
  split at h
  rotate_left
  · exact h.elim
  rename_i hcat
  refine so_gen h 0 0 rfl rfl (fun p en R s m args below meth c hF H locs ls c0 s0 Qf hc hs hH hS hL kk => ?_)
  obtain ⟨hd, hn⟩ := am_q1_s hk
  rw [hn] at kk
  obtain ⟨hx, hb, hml, hr, hown, hts, hlk, htab, hnm, hW, hfr, hlo, htr, hsc⟩ := hF
  exact lv_pop hx hb hd (by rw [am_v_cat]; exact hcat) (kk H locs ls hH hS hL)
theorem so_if_eq {q : am_I} {lc sk : List Value} {st : am_S} {t : Int} (hk : am_q1 e q (.ifCond .eq (t - q.1)) 3 = true) (ht : 0 ≤ t) (h : am_i1 (fun x => decide (x = 0)) t.toNat (q.1 + q.2.2.1) lc sk st (am_P l B b D cA X e Q)) : am_P l B b D cA X e Q q.1 lc sk st := by
  obtain ⟨hd, hn⟩ := am_q1_s hk
  rw [hn] at h
  unfold am_i1 at h
  split at h
  rotate_left
  · exact h.elim
  split at h
  · rename_i hc0
    have hc1 : _ := of_decide_eq_true hc0
    refine so_gen h 0 0 rfl rfl (fun p en R s m args below meth c hF H locs ls c0 s0 Qf hc hs hH hS hL kk => ?_)
    obtain ⟨hx, hb, -⟩ := hF
    exact lv_if_eq hx hb hd (tgt := t.toNat) (by omega) (fun _ => kk H locs ls hH hS hL) (fun z => by first | exact absurd hc1 z | exact absurd z hc1)
  · rename_i hc0
    have hc1 : _ := fun z => hc0 (decide_eq_true z)
    refine so_gen h 0 0 rfl rfl (fun p en R s m args below meth c hF H locs ls c0 s0 Qf hc hs hH hS hL kk => ?_)
    obtain ⟨hx, hb, -⟩ := hF
    exact lv_if_eq hx hb hd (tgt := t.toNat) (by omega) (fun z => absurd z hc1) (fun _ => kk H locs ls hH hS hL)
theorem so_if_ne {q : am_I} {lc sk : List Value} {st : am_S} {t : Int} (hk : am_q1 e q (.ifCond .ne (t - q.1)) 3 = true) (ht : 0 ≤ t) (h : am_i1 (fun x => decide (¬ x = 0)) t.toNat (q.1 + q.2.2.1) lc sk st (am_P l B b D cA X e Q)) : am_P l B b D cA X e Q q.1 lc sk st := by
  obtain ⟨hd, hn⟩ := am_q1_s hk
  rw [hn] at h
  unfold am_i1 at h
  split at h
  rotate_left
  · exact h.elim
  split at h
  · rename_i hc0
    have hc1 : _ := of_decide_eq_true hc0
    refine so_gen h 0 0 rfl rfl (fun p en R s m args below meth c hF H locs ls c0 s0 Qf hc hs hH hS hL kk => ?_)
    obtain ⟨hx, hb, -⟩ := hF
    exact lv_if_ne hx hb hd (tgt := t.toNat) (by omega) (fun _ => kk H locs ls hH hS hL) (fun z => by first | exact absurd hc1 z | exact absurd z hc1)
  · rename_i hc0
    have hc1 : _ := fun z => hc0 (decide_eq_true z)
    refine so_gen h 0 0 rfl rfl (fun p en R s m args below meth c hF H locs ls c0 s0 Qf hc hs hH hS hL kk => ?_)
    obtain ⟨hx, hb, -⟩ := hF
    exact lv_if_ne hx hb hd (tgt := t.toNat) (by omega) (fun z => absurd z hc1) (fun _ => kk H locs ls hH hS hL)
theorem so_if_lt {q : am_I} {lc sk : List Value} {st : am_S} {t : Int} (hk : am_q1 e q (.ifCond .lt (t - q.1)) 3 = true) (ht : 0 ≤ t) (h : am_i1 (fun x => decide (x < 0)) t.toNat (q.1 + q.2.2.1) lc sk st (am_P l B b D cA X e Q)) : am_P l B b D cA X e Q q.1 lc sk st := by
  obtain ⟨hd, hn⟩ := am_q1_s hk
  rw [hn] at h
  unfold am_i1 at h
  split at h
  rotate_left
  · exact h.elim
  split at h
  · rename_i hc0
    have hc1 : _ := of_decide_eq_true hc0
    refine so_gen h 0 0 rfl rfl (fun p en R s m args below meth c hF H locs ls c0 s0 Qf hc hs hH hS hL kk => ?_)
    obtain ⟨hx, hb, -⟩ := hF
    exact lv_if_lt hx hb hd (tgt := t.toNat) (by omega) (fun _ => kk H locs ls hH hS hL) (fun z => by first | exact absurd hc1 z | exact absurd z hc1)
  · rename_i hc0
    have hc1 : _ := fun z => hc0 (decide_eq_true z)
    refine so_gen h 0 0 rfl rfl (fun p en R s m args below meth c hF H locs ls c0 s0 Qf hc hs hH hS hL kk => ?_)
    obtain ⟨hx, hb, -⟩ := hF
    exact lv_if_lt hx hb hd (tgt := t.toNat) (by omega) (fun z => absurd z hc1) (fun _ => kk H locs ls hH hS hL)
theorem so_if_ge {q : am_I} {lc sk : List Value} {st : am_S} {t : Int} (hk : am_q1 e q (.ifCond .ge (t - q.1)) 3 = true) (ht : 0 ≤ t) (h : am_i1 (fun x => decide (0 ≤ x)) t.toNat (q.1 + q.2.2.1) lc sk st (am_P l B b D cA X e Q)) : am_P l B b D cA X e Q q.1 lc sk st := by
  obtain ⟨hd, hn⟩ := am_q1_s hk
  rw [hn] at h
  unfold am_i1 at h
  split at h
  rotate_left
  · exact h.elim
  split at h
  · rename_i hc0
    have hc1 : _ := of_decide_eq_true hc0
    refine so_gen h 0 0 rfl rfl (fun p en R s m args below meth c hF H locs ls c0 s0 Qf hc hs hH hS hL kk => ?_)
    obtain ⟨hx, hb, -⟩ := hF
    exact lv_if_ge hx hb hd (tgt := t.toNat) (by omega) (fun _ => kk H locs ls hH hS hL) (fun z => by first | exact absurd hc1 z | exact absurd z hc1)
  · rename_i hc0
    have hc1 : _ := fun z => hc0 (decide_eq_true z)
    refine so_gen h 0 0 rfl rfl (fun p en R s m args below meth c hF H locs ls c0 s0 Qf hc hs hH hS hL kk => ?_)
    obtain ⟨hx, hb, -⟩ := hF
    exact lv_if_ge hx hb hd (tgt := t.toNat) (by omega) (fun z => absurd z hc1) (fun _ => kk H locs ls hH hS hL)
theorem so_if_gt {q : am_I} {lc sk : List Value} {st : am_S} {t : Int} (hk : am_q1 e q (.ifCond .gt (t - q.1)) 3 = true) (ht : 0 ≤ t) (h : am_i1 (fun x => decide (0 < x)) t.toNat (q.1 + q.2.2.1) lc sk st (am_P l B b D cA X e Q)) : am_P l B b D cA X e Q q.1 lc sk st := by
  obtain ⟨hd, hn⟩ := am_q1_s hk
  rw [hn] at h
  unfold am_i1 at h
  split at h
  rotate_left
  · exact h.elim
  split at h
  · rename_i hc0
    have hc1 : _ := of_decide_eq_true hc0
    refine so_gen h 0 0 rfl rfl (fun p en R s m args below meth c hF H locs ls c0 s0 Qf hc hs hH hS hL kk => ?_)
    obtain ⟨hx, hb, -⟩ := hF
    exact lv_if_gt hx hb hd (tgt := t.toNat) (by omega) (fun _ => kk H locs ls hH hS hL) (fun z => by first | exact absurd hc1 z | exact absurd z hc1)
  · rename_i hc0
    have hc1 : _ := fun z => hc0 (decide_eq_true z)
    refine so_gen h 0 0 rfl rfl (fun p en R s m args below meth c hF H locs ls c0 s0 Qf hc hs hH hS hL kk => ?_)
    obtain ⟨hx, hb, -⟩ := hF
    exact lv_if_gt hx hb hd (tgt := t.toNat) (by omega) (fun z => absurd z hc1) (fun _ => kk H locs ls hH hS hL)
theorem so_if_le {q : am_I} {lc sk : List Value} {st : am_S} {t : Int} (hk : am_q1 e q (.ifCond .le (t - q.1)) 3 = true) (ht : 0 ≤ t) (h : am_i1 (fun x => decide (x ≤ 0)) t.toNat (q.1 + q.2.2.1) lc sk st (am_P l B b D cA X e Q)) : am_P l B b D cA X e Q q.1 lc sk st := by
  obtain ⟨hd, hn⟩ := am_q1_s hk
  rw [hn] at h
  unfold am_i1 at h
  split at h
  rotate_left
  · exact h.elim
  split at h
  · rename_i hc0
    have hc1 : _ := of_decide_eq_true hc0
    refine so_gen h 0 0 rfl rfl (fun p en R s m args below meth c hF H locs ls c0 s0 Qf hc hs hH hS hL kk => ?_)
    obtain ⟨hx, hb, -⟩ := hF
    exact lv_if_le hx hb hd (tgt := t.toNat) (by omega) (fun _ => kk H locs ls hH hS hL) (fun z => by first | exact absurd hc1 z | exact absurd z hc1)
  · rename_i hc0
    have hc1 : _ := fun z => hc0 (decide_eq_true z)
    refine so_gen h 0 0 rfl rfl (fun p en R s m args below meth c hF H locs ls c0 s0 Qf hc hs hH hS hL kk => ?_)
    obtain ⟨hx, hb, -⟩ := hF
    exact lv_if_le hx hb hd (tgt := t.toNat) (by omega) (fun z => absurd z hc1) (fun _ => kk H locs ls hH hS hL)
theorem so_icmp_eq {q : am_I} {lc sk : List Value} {st : am_S} {t : Int} (hk : am_q1 e q (.if_icmp .eq (t - q.1)) 3 = true) (ht : 0 ≤ t) (h : am_i2 (fun x y => decide (x = y)) t.toNat (q.1 + q.2.2.1) lc sk st (am_P l B b D cA X e Q)) : am_P l B b D cA X e Q q.1 lc sk st := by
  obtain ⟨hd, hn⟩ := am_q1_s hk
  rw [hn] at h
  unfold am_i2 at h
  split at h
  rotate_left
  · exact h.elim
  split at h
  · rename_i hc0
    have hc1 : _ := of_decide_eq_true hc0
    refine so_gen h 0 0 rfl rfl (fun p en R s m args below meth c hF H locs ls c0 s0 Qf hc hs hH hS hL kk => ?_)
    obtain ⟨hx, hb, -⟩ := hF
    exact lv_icmp_eq hx hb hd (tgt := t.toNat) (by omega) (fun _ => kk H locs ls hH hS hL) (fun z => by first | exact absurd hc1 z | exact absurd z hc1)
  · rename_i hc0
    have hc1 : _ := fun z => hc0 (decide_eq_true z)
    refine so_gen h 0 0 rfl rfl (fun p en R s m args below meth c hF H locs ls c0 s0 Qf hc hs hH hS hL kk => ?_)
    obtain ⟨hx, hb, -⟩ := hF
    exact lv_icmp_eq hx hb hd (tgt := t.toNat) (by omega) (fun z => absurd z hc1) (fun _ => kk H locs ls hH hS hL)
theorem so_icmp_ne {q : am_I} {lc sk : List Value} {st : am_S} {t : Int} (hk : am_q1 e q (.if_icmp .ne (t - q.1)) 3 = true) (ht : 0 ≤ t) (h : am_i2 (fun x y => decide (¬ x = y)) t.toNat (q.1 + q.2.2.1) lc sk st (am_P l B b D cA X e Q)) : am_P l B b D cA X e Q q.1 lc sk st := by
  obtain ⟨hd, hn⟩ := am_q1_s hk
  rw [hn] at h
  unfold am_i2 at h
  split at h
  rotate_left
  · exact h.elim
  split at h
  · rename_i hc0
    have hc1 : _ := of_decide_eq_true hc0
    refine so_gen h 0 0 rfl rfl (fun p en R s m args below meth c hF H locs ls c0 s0 Qf hc hs hH hS hL kk => ?_)
    obtain ⟨hx, hb, -⟩ := hF
    exact lv_icmp_ne hx hb hd (tgt := t.toNat) (by omega) (fun _ => kk H locs ls hH hS hL) (fun z => by first | exact absurd hc1 z | exact absurd z hc1)
  · rename_i hc0
    have hc1 : _ := fun z => hc0 (decide_eq_true z)
    refine so_gen h 0 0 rfl rfl (fun p en R s m args below meth c hF H locs ls c0 s0 Qf hc hs hH hS hL kk => ?_)
    obtain ⟨hx, hb, -⟩ := hF
    exact lv_icmp_ne hx hb hd (tgt := t.toNat) (by omega) (fun z => absurd z hc1) (fun _ => kk H locs ls hH hS hL)
theorem so_icmp_lt {q : am_I} {lc sk : List Value} {st : am_S} {t : Int} (hk : am_q1 e q (.if_icmp .lt (t - q.1)) 3 = true) (ht : 0 ≤ t) (h : am_i2 (fun x y => decide (x < y)) t.toNat (q.1 + q.2.2.1) lc sk st (am_P l B b D cA X e Q)) : am_P l B b D cA X e Q q.1 lc sk st := by
  obtain ⟨hd, hn⟩ := am_q1_s hk
  rw [hn] at h
  unfold am_i2 at h
  split at h
  rotate_left
  · exact h.elim
  split at h
  · rename_i hc0
    have hc1 : _ := of_decide_eq_true hc0
    refine so_gen h 0 0 rfl rfl (fun p en R s m args below meth c hF H locs ls c0 s0 Qf hc hs hH hS hL kk => ?_)
    obtain ⟨hx, hb, -⟩ := hF
    exact lv_icmp_lt hx hb hd (tgt := t.toNat) (by omega) (fun _ => kk H locs ls hH hS hL) (fun z => by first | exact absurd hc1 z | exact absurd z hc1)
  · rename_i hc0
    have hc1 : _ := fun z => hc0 (decide_eq_true z)
    refine so_gen h 0 0 rfl rfl (fun p en R s m args below meth c hF H locs ls c0 s0 Qf hc hs hH hS hL kk => ?_)
    obtain ⟨hx, hb, -⟩ := hF
    exact lv_icmp_lt hx hb hd (tgt := t.toNat) (by omega) (fun z => absurd z hc1) (fun _ => kk H locs ls hH hS hL)
theorem so_icmp_ge {q : am_I} {lc sk : List Value} {st : am_S} {t : Int} (hk : am_q1 e q (.if_icmp .ge (t - q.1)) 3 = true) (ht : 0 ≤ t) (h : am_i2 (fun x y => decide (y ≤ x)) t.toNat (q.1 + q.2.2.1) lc sk st (am_P l B b D cA X e Q)) : am_P l B b D cA X e Q q.1 lc sk st := by
  obtain ⟨hd, hn⟩ := am_q1_s hk
  rw [hn] at h
  unfold am_i2 at h
  split at h
  rotate_left
  · exact h.elim
  split at h
  · rename_i hc0
    have hc1 : _ := of_decide_eq_true hc0
    refine so_gen h 0 0 rfl rfl (fun p en R s m args below meth c hF H locs ls c0 s0 Qf hc hs hH hS hL kk => ?_)
    obtain ⟨hx, hb, -⟩ := hF
    exact lv_icmp_ge hx hb hd (tgt := t.toNat) (by omega) (fun _ => kk H locs ls hH hS hL) (fun z => by first | exact absurd hc1 z | exact absurd z hc1)
  · rename_i hc0
    have hc1 : _ := fun z => hc0 (decide_eq_true z)
    refine so_gen h 0 0 rfl rfl (fun p en R s m args below meth c hF H locs ls c0 s0 Qf hc hs hH hS hL kk => ?_)
    obtain ⟨hx, hb, -⟩ := hF
    exact lv_icmp_ge hx hb hd (tgt := t.toNat) (by omega) (fun z => absurd z hc1) (fun _ => kk H locs ls hH hS hL)
theorem so_icmp_gt {q : am_I} {lc sk : List Value} {st : am_S} {t : Int} (hk : am_q1 e q (.if_icmp .gt (t - q.1)) 3 = true) (ht : 0 ≤ t) (h : am_i2 (fun x y => decide (y < x)) t.toNat (q.1 + q.2.2.1) lc sk st (am_P l B b D cA X e Q)) : am_P l B b D cA X e Q q.1 lc sk st := by
  obtain ⟨hd, hn⟩ := am_q1_s hk
  rw [hn] at h
  unfold am_i2 at h
  split at h
  rotate_left
  · exact h.elim
  split at h
  · rename_i hc0
    have hc1 : _ := of_decide_eq_true hc0
    refine so_gen h 0 0 rfl rfl (fun p en R s m args below meth c hF H locs ls c0 s0 Qf hc hs hH hS hL kk => ?_)
    obtain ⟨hx, hb, -⟩ := hF
    exact lv_icmp_gt hx hb hd (tgt := t.toNat) (by omega) (fun _ => kk H locs ls hH hS hL) (fun z => by first | exact absurd hc1 z | exact absurd z hc1)
  · rename_i hc0
    have hc1 : _ := fun z => hc0 (decide_eq_true z)
    refine so_gen h 0 0 rfl rfl (fun p en R s m args below meth c hF H locs ls c0 s0 Qf hc hs hH hS hL kk => ?_)
    obtain ⟨hx, hb, -⟩ := hF
    exact lv_icmp_gt hx hb hd (tgt := t.toNat) (by omega) (fun z => absurd z hc1) (fun _ => kk H locs ls hH hS hL)
theorem so_icmp_le {q : am_I} {lc sk : List Value} {st : am_S} {t : Int} (hk : am_q1 e q (.if_icmp .le (t - q.1)) 3 = true) (ht : 0 ≤ t) (h : am_i2 (fun x y => decide (x ≤ y)) t.toNat (q.1 + q.2.2.1) lc sk st (am_P l B b D cA X e Q)) : am_P l B b D cA X e Q q.1 lc sk st := by
  obtain ⟨hd, hn⟩ := am_q1_s hk
  rw [hn] at h
  unfold am_i2 at h
  split at h
  rotate_left
  · exact h.elim
  split at h
  · rename_i hc0
    have hc1 : _ := of_decide_eq_true hc0
    refine so_gen h 0 0 rfl rfl (fun p en R s m args below meth c hF H locs ls c0 s0 Qf hc hs hH hS hL kk => ?_)
    obtain ⟨hx, hb, -⟩ := hF
    exact lv_icmp_le hx hb hd (tgt := t.toNat) (by omega) (fun _ => kk H locs ls hH hS hL) (fun z => by first | exact absurd hc1 z | exact absurd z hc1)
  · rename_i hc0
    have hc1 : _ := fun z => hc0 (decide_eq_true z)
    refine so_gen h 0 0 rfl rfl (fun p en R s m args below meth c hF H locs ls c0 s0 Qf hc hs hH hS hL kk => ?_)
    obtain ⟨hx, hb, -⟩ := hF
    exact lv_icmp_le hx hb hd (tgt := t.toNat) (by omega) (fun z => absurd z hc1) (fun _ => kk H locs ls hH hS hL)
theorem so_goto {q : am_I} {lc sk : List Value} {st : am_S} {t : Int} (hk : am_q1 e q (.goto (t - q.1)) 3 = true) (ht : 0 ≤ t) (h : am_P l B b D cA X e Q t.toNat lc sk st) : am_P l B b D cA X e Q q.1 lc sk st := by
  obtain ⟨hd, hn⟩ := am_q1_s hk
  refine so_gen h 0 0 rfl rfl (fun p en R s m args below meth c hF H locs ls c0 s0 Qf hc hs hH hS hL kk => ?_)
  obtain ⟨hx, hb, -⟩ := hF
  exact lv_goto hx hb hd (tgt := t.toNat) (by omega) (kk H locs ls hH hS hL)
theorem so_ifnull {q : am_I} {lc sk : List Value} {st : am_S} {t : Int} (hk : am_q1 e q (.ifnull (t - q.1)) 3 = true) (ht : 0 ≤ t) (h : am_nu t.toNat (q.1 + q.2.2.1) lc sk st (am_P l B b D cA X e Q)) : am_P l B b D cA X e Q q.1 lc sk st := by
  obtain ⟨hd, hn⟩ := am_q1_s hk
  rw [hn] at h
  unfold am_nu at h
  split at h
  · refine so_gen h 0 0 rfl rfl (fun p en R s m args below meth c hF H locs ls c0 s0 Qf hc hs hH hS hL kk => ?_)
    obtain ⟨hx, hb, -⟩ := hF
    exact lv_ifnull hx hb hd (kk H locs ls hH hS hL)
  · refine so_gen h 0 0 rfl rfl (fun p en R s m args below meth c hF H locs ls c0 s0 Qf hc hs hH hS hL kk => ?_)
    obtain ⟨hx, hb, -⟩ := hF
    exact lv_ifnullN hx hb hd (tgt := t.toNat) (by omega) (kk H locs ls hH hS hL)
  · exact h.elim
theorem so_table {q : am_I} {lc sk : List Value} {st : am_S} {d lo hi : Int} {offs : Array Int} (hk : am_q1 e q (.tableswitch (d - q.1) lo hi (offs.map (fun t => t - q.1))) q.2.2.1 = true) (h0 : 0 ≤ d) (ha : offs.all (fun t => decide (0 ≤ t)) = true) (h : am_ts d lo hi offs lc sk st (am_P l B b D cA X e Q)) : am_P l B b D cA X e Q q.1 lc sk st := by
  obtain ⟨hd, -⟩ := am_q1_s hk
  unfold am_ts at h
  split at h
  rotate_left
  · exact h.elim
  split at h
  · rename_i hout
    refine so_gen h 0 0 rfl rfl (fun p en R s m args below meth c hF H locs ls c0 s0 Qf hc hs hH hS hL kk => ?_)
    obtain ⟨hx, hb, -⟩ := hF
    exact lv_tableOut hx hb hd hout (tgt := d.toNat) (by omega) (kk H locs ls hH hS hL)
  · rename_i hin
    split at h
    rotate_left
    · exact h.elim
    rename_i t hto
    have hpos : 0 ≤ t := by
      have := Array.all_eq_true'.mp ha t (Array.mem_of_getElem? hto)
      exact of_decide_eq_true this
    refine so_gen h 0 0 rfl rfl (fun p en R s m args below meth c hF H locs ls c0 s0 Qf hc hs hH hS hL kk => ?_)
    obtain ⟨hx, hb, -⟩ := hF
    exact lv_tableIn hx hb hd (fun z => hin (Or.inl z)) (fun z => hin (Or.inr z)) (off := t - q.1) (by rw [Array.getElem?_map, hto]; rfl) (tgt := t.toNat) (by omega) (kk H locs ls hH hS hL)
theorem so_iinc {q : am_I} {lc sk : List Value} {st : am_S} {k : Nat} {n : Int} (hk : am_q1 e q (.iinc k n) 3 = true) (h : am_in1 k n (q.1 + q.2.2.1) lc sk st (am_P l B b D cA X e Q)) : am_P l B b D cA X e Q q.1 lc sk st := by
  obtain ⟨hd, hn⟩ := am_q1_s hk
  rw [hn] at h
  unfold am_in1 at h
  split at h
  rotate_left
  · exact h.elim
  rename_i x hx0
  refine so_gen h 0 0 rfl rfl (fun p en R s m args below meth c hF H locs ls c0 s0 Qf hc hs hH hS hL kk => ?_)
  obtain ⟨hx, hb, -⟩ := hF
  have hkl : k < lc.length := (List.getElem?_eq_some_iff.mp hx0).1
  obtain ⟨k0, hk0⟩ := List.getElem?_of_mem (am_pr_mem (B := B) (b := b).mpr ⟨_, hx0, (by intro z; cases z), rfl⟩)
  exact lv_iinc hx hb hd (am_pr_has hL) hk0 rfl (by rw [← hL.2.1]; exact hkl) rfl (fun ls2 h2 => kk H locs ls2 hH hS (am_s1_ok hL hkl h2))
theorem so_tick {q : am_I} {lc sk : List Value} {st : am_S} (hk : am_q1 e q (.iconst 0) 1 = true) (h : am_tk (q.1 + q.2.2.1) lc sk st (am_P l B b D cA X e Q)) : am_P l B b D cA X e Q q.1 lc sk st := by
  obtain ⟨hd, hn⟩ := am_q1_s hk
  rw [hn] at h
  obtain ⟨hlt, h⟩ := h
  refine so_gen (st2 := (st.1, st.2.1, st.2.2.1 + 1, st.2.2.2)) h 1 0 rfl rfl (fun p en R s m args below meth c hF H locs ls c0 s0 Qf hc hs hH hS hL kk => ?_)
  obtain ⟨hx, hb, -⟩ := hF
  refine W.widen (Nat.le_succ c0) (Nat.le_refl s0) ?_
  exact lv_iconst hx hb hd rfl (kk H locs ls ⟨fun z => absurd z (by show ¬ st.2.2.1 + 1 = st.1; omega), hH.2⟩ hS hL)
end SO
