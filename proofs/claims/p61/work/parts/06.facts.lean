/-! THE SMALL MACHINE IS SOUND: what an instruction of the tables is in the class file -/
def am_dq (e : am_M) (pc : Nat) (i : Instr) (n : Nat) : Bool := decide (decode (am_co e) pc = .ok (i, n))
def am_q1 (e : am_M) (q : am_I) (i : Instr) (n : Nat) : Bool := am_dq e q.1 i n && q.2.2.1 == n
def am_q4 (e : am_M) (q : am_I) (k : Nat) (f : Instr) (g : Fin 4 → Instr) : Bool := if q.2.2.1 = 2 then am_q1 e q f 2 else (if h : k < 4 then am_q1 e q (g ⟨k, h⟩) 1 else false)
def am_qc (e : am_M) (q : am_I) (v : Int) : Bool := if q.2.2.1 = 1 then am_q1 e q (.iconst v) 1 else if q.2.2.1 = 2 then am_q1 e q (.bipush v) 2 && decide ((Int8.ofInt v).toInt32 = Int32.ofInt v) else am_q1 e q (.sipush v) 3 && decide ((Int16.ofInt v).toInt32 = Int32.ofInt v)
theorem am_q1_s {e : am_M} {q : am_I} {i : Instr} {n : Nat} (h : am_q1 e q i n = true) : decode (am_co e) q.1 = .ok (i, n) ∧ q.2.2.1 = n := by
  simp only [am_q1, am_dq, Bool.and_eq_true, decide_eq_true_eq, beq_iff_eq] at h
  exact h
theorem am_q4_s {e : am_M} {q : am_I} {k : Nat} {f : Instr} {g : Fin 4 → Instr} (h : am_q4 e q k f g = true) : (decode (am_co e) q.1 = .ok (f, 2) ∧ q.2.2.1 = 2) ∨ ∃ h : k < 4, decode (am_co e) q.1 = .ok (g ⟨k, h⟩, 1) ∧ q.2.2.1 = 1 := by
  unfold am_q4 at h
  split at h
  · exact Or.inl (am_q1_s h)
  · split at h
    · rename_i h4
      exact Or.inr ⟨h4, am_q1_s h⟩
    · cases h
def am_fk (ck : Nat) : Bool := decide (ck / 32 < 7 ∧ ck % 32 < am_N (ck / 32))
noncomputable def am_yn (m k : Nat) : Bool := match am_of m with | some e => am_y0 e k | none => false
noncomputable def am_nh (m : Nat) : Bool := match am_of m with | some e => (am_hh e).isEmpty | none => false
def am_ml0 (o i m : Nat) : Bool := am_ml.any fun q => q.1 == o && q.2.1 == i && q.2.2.1 == m && q.2.2.2.2 == 0
abbrev am_o (e : am_M) : Nat := e.1 / 1000
def am_tc (e : am_M) (q : am_I) (x : Int) : Bool := match am_th[q.2.2.2]? with
  | some t => t.1 == am_o e && decide (x = (t.2.1 : Int)) && decide (t.2.1 < 2) && am_dq e q.1 (.new t.2.2.1) 3 && am_dq e (q.1 + 3) .dup 1 && (if t.2.2.2.2.2.1 = 1 then am_dq e (q.1 + 4) (.ldc_w t.2.2.2.1) 3 && am_dq e (q.1 + 7) (.invokespecial t.2.2.2.2.1) 3 && am_dq e (q.1 + 10) .athrow 1 else am_dq e (q.1 + 4) (.ldc t.2.2.2.1) 2 && am_dq e (q.1 + 6) (.invokespecial t.2.2.2.2.1) 3 && am_dq e (q.1 + 9) .athrow 1)
  | none => false
noncomputable def am_ckb (e : am_M) (q : am_I) : Bool := match q.2.1 with
  | .aload k => am_q4 e q k (.aload k) .aload_n
  | .iload k => am_q4 e q k (.iload k) .iload_n
  | .lload k => am_q4 e q k (.lload k) .lload_n
  | .dload k => am_q4 e q k (.dload k) .dload_n
  | .astore k => am_q4 e q k (.astore k) .astore_n
  | .istore k => am_q4 e q k (.istore k) .istore_n
  | .lstore k => am_q4 e q k (.lstore k) .lstore_n
  | .dstore k => am_q4 e q k (.dstore k) .dstore_n
  | .sipush v => am_qc e q v
  | .monitorenter => am_q1 e q (.iconst 0) 1
  | .ldc2_w v => am_q1 e q (.ldc2_w q.2.2.2) 3 && am_in (.constantDouble (am_nm (am_o e)) q.2.2.2 (UInt64.ofNat v))
  | .ldc v => am_q1 e q (.ldc q.2.2.2) 2 && am_in (.constant (am_nm (am_o e)) q.2.2.2 (Int32.ofNat v))
  | .ldc_w v => am_q1 e q (.ldc2_w q.2.2.2) 3 && am_in (.constantLong (am_nm (am_o e)) q.2.2.2 (Int64.ofNat v))
  | .ifCond c t => am_q1 e q (.ifCond c (t - q.1)) 3 && decide (0 ≤ t)
  | .if_icmp c t => am_q1 e q (.if_icmp c (t - q.1)) 3 && decide (0 ≤ t)
  | .goto t => am_q1 e q (.goto (t - q.1)) 3 && decide (0 ≤ t)
  | .ifnull t => am_q1 e q (.ifnull (t - q.1)) 3 && decide (0 ≤ t)
  | .tableswitch d lo hi offs => am_q1 e q (.tableswitch (d - q.1) lo hi (offs.map (fun t => t - q.1))) q.2.2.1 && decide (0 ≤ d) && offs.all (fun t => decide (0 ≤ t))
  | .getfield ck => am_q1 e q (.getfield q.2.2.2) 3 && am_fk ck && am_flk (am_o e) q.2.2.2 ck
  | .putfield ck => am_q1 e q (.putfield q.2.2.2) 3 && am_fk ck && am_flk (am_o e) q.2.2.2 ck && (if (am_T (ck / 32) (ck % 32)).2.2.2 = true then decide (e.2.1.1 = "<init>" ∧ am_o e = ck / 32 ∧ (am_T (ck / 32) (ck % 32)).1 = am_nm (am_o e)) else true)
  | .invokeinterface m k => am_q1 e q (.invokevirtual q.2.2.2) 3 && am_ml0 (am_o e) q.2.2.2 m && am_kd m 0 && am_yn m k && am_nh m && decide (m / 1000 < 7)
  | .multianewarray m k => am_q1 e q (.invokestatic q.2.2.2) 3 && am_ml0 (am_o e) q.2.2.2 m && am_kd m 1 && am_yn m k
  | .invokespecial 0 => am_q1 e q (.invokespecial q.2.2.2) 3 && am_in (.methodLink (am_nm (am_o e)) q.2.2.2 Lib.objectInit)
  | .invokespecial (m + 1) => am_q1 e q (.invokespecial q.2.2.2) 3 && am_mlk (am_o e) q.2.2.2 (m + 1) && am_kd (m + 1) 2 && am_yn (m + 1) 0 && am_nh (m + 1)
  | .invokestatic 1 => am_q1 e q (.invokestatic q.2.2.2) 3 && am_in (.methodLink (am_nm (am_o e)) q.2.2.2 arraycopyName)
  | .invokestatic 2 => am_q1 e q (.invokestatic q.2.2.2) 3 && am_in (.methodLink (am_nm (am_o e)) q.2.2.2 Lib.Math.max.name)
  | .invokestatic 3 => am_q1 e q (.invokestatic q.2.2.2) 3 && am_in (.methodLink (am_nm (am_o e)) q.2.2.2 Lib.Math.min.name)
  | .new ci => am_q1 e q (.new q.2.2.2) 3 && decide (ci < 7) && am_in (.classLink (am_nm (am_o e)) q.2.2.2 (am_nm ci)) && am_in (.instantiable (am_nm ci) (am_N ci)) && am_in (.initialized (am_nm ci))
  | .newarray t => am_q1 e q (.newarray t) 2
  | .anewarray _ => am_q1 e q (.anewarray q.2.2.2) 3 && am_in (.classLink (am_nm (am_o e)) q.2.2.2 RX5)
  | .jsr x => am_tc e q x
  | .freturn => am_q1 e q .ireturn 1 && decide (am_rt e = some .boolean)
  | .ireturn => am_q1 e q .ireturn 1 && decide (am_rt e = some .int)
  | .lreturn => am_q1 e q .lreturn 1 && decide (am_rt e = some .long)
  | .dreturn => am_q1 e q .dreturn 1 && decide (am_rt e = some .double)
  | .areturn => am_q1 e q .areturn 1 && decide (am_rt e = some (.object RX5))
  | .return_ => am_q1 e q .return_ 1 && decide (am_rt e = none)
  | .iinc k c => am_q1 e q (.iinc k c) 3
  | i => am_q1 e q i 1
theorem am_cl_at {ci : Nat} (h : ci < 7) : am_cl[ci]? = some (am_nm ci, am_T ci, am_N ci) := by
  match ci, h with
  | 0, _ => rfl
  | 1, _ => rfl
  | 2, _ => rfl
  | 3, _ => rfl
  | 4, _ => rfl
  | 5, _ => rfl
  | 6, _ => rfl
theorem am_ty_ok {ci : Nat} (h : ci < 7) : ∀ k, k < am_N ci → parseFieldDescriptor (am_T ci k).2.2.1 = some (am_ty ci k) := by
  match ci, h with
  | 0, _ => exact tyX0_ok
  | 1, _ => exact tyX1_ok
  | 2, _ => exact tyX2_ok
  | 3, _ => exact tyX3_ok
  | 4, _ => exact tyX4_ok
  | 5, _ => exact tyX5_ok
  | 6, _ => exact tyX6_ok
theorem am_nm_ok {ci : Nat} (h : ci < 7) : ∀ a, a < am_N ci → ∀ b, b < am_N ci → a ≠ b → (am_T ci a).2.1 ≠ (am_T ci b).2.1 := by
  match ci, h with
  | 0, _ => exact nmX0
  | 1, _ => exact nmX1
  | 2, _ => exact nmX2
  | 3, _ => exact nmX3
  | 4, _ => exact nmX4
  | 5, _ => exact nmX5
  | 6, _ => exact nmX6
theorem am_all_in {l : List Cond} (h : l.all am_in = true) : ∀ w ∈ l, w ∈ am_gw := fun w hw => am_in_mem (List.all_eq_true.mp h w hw)
set_option maxRecDepth 100000 in
theorem am_u0 : (u_ws RX0 TX0 6).all am_in = true := by decide +kernel
set_option maxRecDepth 100000 in
theorem am_u1 : (u_ws RX1 TX1 3).all am_in = true := by decide +kernel
set_option maxRecDepth 100000 in
theorem am_u2 : (u_ws RX2 TX2 2).all am_in = true := by decide +kernel
set_option maxRecDepth 100000 in
theorem am_u3 : (u_ws RX3 TX3 3).all am_in = true := by decide +kernel
set_option maxRecDepth 100000 in
theorem am_u4 : (u_ws RX4 TX4 4).all am_in = true := by decide +kernel
set_option maxRecDepth 100000 in
theorem am_u5 : (u_ws RX5 TX5 14).all am_in = true := by decide +kernel
set_option maxRecDepth 100000 in
theorem am_u6 : (u_ws RX6 TX6 5).all am_in = true := by decide +kernel
theorem am_u_in {ci : Nat} (h : ci < 7) : ∀ w ∈ u_ws (am_nm ci) (am_T ci) (am_N ci), w ∈ am_gw := by
  match ci, h with
  | 0, _ => exact am_all_in am_u0
  | 1, _ => exact am_all_in am_u1
  | 2, _ => exact am_all_in am_u2
  | 3, _ => exact am_all_in am_u3
  | 4, _ => exact am_all_in am_u4
  | 5, _ => exact am_all_in am_u5
  | 6, _ => exact am_all_in am_u6
theorem am_flk_s {o i ck : Nat} (h : am_flk o i ck = true) : .fieldLink (am_nm o) i (am_T (ck / 32) (ck % 32)).1 (am_T (ck / 32) (ck % 32)).2.1 (am_T (ck / 32) (ck % 32)).2.2.1 ∈ am_gw ∨ .fieldLinkNest (am_nm o) i (am_T (ck / 32) (ck % 32)).1 (am_T (ck / 32) (ck % 32)).2.1 (am_T (ck / 32) (ck % 32)).2.2.1 "BranchedSource" ∈ am_gw := by
  obtain ⟨q, hq, hp⟩ := List.any_eq_true.mp h
  simp only [Bool.and_eq_true, beq_iff_eq] at hp
  obtain ⟨⟨rfl, rfl⟩, rfl⟩ := hp
  have h2 := am_at_mem (List.all_eq_true.mp am_fl_ok q hq)
  unfold am_flw at h2
  split at h2
  · exact Or.inr h2
  · exact Or.inl h2
theorem am_mlk_s {o i m : Nat} (h : am_mlk o i m = true) {e : am_M} (he : am_of m = some e) : .methodLink (am_nm o) i (am_y e) ∈ am_gw ∨ .methodLinkNest (am_nm o) i (am_y e) "BranchedSource" ∈ am_gw := by
  obtain ⟨q, hq, hp⟩ := List.any_eq_true.mp h
  simp only [Bool.and_eq_true, beq_iff_eq] at hp
  obtain ⟨⟨rfl, rfl⟩, rfl⟩ := hp
  have h1 := List.all_eq_true.mp am_ml_ok q hq
  simp only [he] at h1
  have h2 := am_at_mem h1
  unfold am_mlw at h2
  split at h2
  · exact Or.inr h2
  · exact Or.inl h2
theorem am_ml0_s {o i m : Nat} (h : am_ml0 o i m = true) {e : am_M} (he : am_of m = some e) : .methodLink (am_nm o) i (am_y e) ∈ am_gw := by
  obtain ⟨q, hq, hp⟩ := List.any_eq_true.mp h
  simp only [Bool.and_eq_true, beq_iff_eq] at hp
  obtain ⟨⟨⟨rfl, rfl⟩, rfl⟩, h0⟩ := hp
  have h1 := List.all_eq_true.mp am_ml_ok q hq
  simp only [he] at h1
  have h2 := am_at_mem h1
  unfold am_mlw at h2
  rw [if_neg (by omega)] at h2
  exact h2
theorem am_kd_s {m k : Nat} (h : am_kd m k = true) {e : am_M} (he : am_of m = some e) : am_cw e ∈ am_gw ∧ .initialized (am_nm (am_o e)) ∈ am_gw ∧ (if k = 1 then .static (am_y e) else .instanceMethod (am_y e)) ∈ am_gw ∧ (k = 0 → .selects (am_nm (am_o e)) (am_y e) (am_y e) ∈ am_gw) := by
  obtain ⟨q, hq, hp⟩ := List.any_eq_true.mp h
  simp only [Bool.and_eq_true, beq_iff_eq] at hp
  obtain ⟨rfl, rfl⟩ := hp
  have h1 := List.all_eq_true.mp am_mw_ok q hq
  simp only [am_mwo, he, am_mwc, Bool.and_eq_true] at h1
  obtain ⟨⟨⟨a1, a2⟩, a3⟩, a4⟩ := h1
  refine ⟨am_at_mem a1, am_at_mem a2, am_at_mem a3, fun h0 => ?_⟩
  rw [if_pos h0] at a4
  exact am_at_mem a4
theorem am_kd_ne0 : am_mw.all (fun q => decide (q.1 ≠ 8900)) = true := by decide +kernel
theorem am_kd_ne {m k : Nat} (h : am_kd m k = true) : m ≠ 8900 := by
  obtain ⟨q, hq, hp⟩ := List.any_eq_true.mp h
  simp only [Bool.and_eq_true, beq_iff_eq] at hp
  rw [← hp.1]
  exact of_decide_eq_true (List.all_eq_true.mp am_kd_ne0 q hq)
theorem am_ini0 : am_mw.all (fun q => q.2.1 != 2 || (match am_of q.1 with | some e => decide (e.2.1.1 = "<init>" ∧ am_rt e = none) | none => false)) = true := by decide +kernel
theorem am_ini {m : Nat} (h : am_kd m 2 = true) : ∀ e2, am_of m = some e2 → e2.2.1.1 = "<init>" ∧ am_rt e2 = none := by
  intro e2 he
  obtain ⟨q, hq, hp⟩ := List.any_eq_true.mp h
  simp only [Bool.and_eq_true, beq_iff_eq] at hp
  have h1 := List.all_eq_true.mp am_ini0 q hq
  rw [hp.1, hp.2, he] at h1
  simpa using h1
theorem am_and {a b : Bool} (h : (a && b) = true) : a = true ∧ b = true := by simpa using h
theorem am_y0_s {e : am_M} {n : Nat} (h : am_y0 e n = true) : plainName (am_y e).cls = true ∧ ((am_y e).cls ≠ "java/lang/invoke/MethodHandle" ∧ (am_y e).cls ≠ "java/lang/invoke/VarHandle") ∧ ∀ sig, parseMethodDescriptor (am_y e).desc = some sig → n = sig.parameters.length := by
  simp only [am_y0, Bool.and_eq_true, decide_eq_true_eq] at h
  refine ⟨h.1.1, h.1.2, fun sig hs => ?_⟩
  have h2 := h.2
  rw [hs] at h2
  exact (Option.some.inj h2).symm
/-- the words stay in every state that the machine comes to -/
theorem am_warm {args : Array Value} {s : State} (hts : ∀ w ∈ am_gw, w.before args s = true) : ∀ w ∈ am_gw, ∀ (a' : Array Value) (U : State), s.WarmedH U.vm → w.before a' U = true := by
  intro w hw a' U hW
  have hb := hts w hw
  have hk := (List.mem_filter.mp hw).2
  simp only [am_kw, Bool.or_eq_true] at hk
  rcases hk with hk | hk
  · exact word_at hW (good_of_word hk) hb
  · cases w <;> first | (cases hk; done) | exact va_Nw.use rfl (va_Nw.warmD hW (va_Nw.of rfl hb)) | exact va_Nw.use rfl (va_Nw.warmC hW (va_Nw.of rfl hb)) | exact va_Nw.use rfl (va_Nw.warmF hW (va_Nw.of rfl hb)) | exact va_Nw.use rfl (va_Nw.warmM hW (va_Nw.of rfl hb))

