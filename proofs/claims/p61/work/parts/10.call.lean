/-! THE SMALL MACHINE IS SOUND: calls and whole methods -/
def am_ct (x : Nat) : Nat := if x = 0 then 15 else 17
/-- the handlers of a method, resolved -/
def am_hck (e : am_M) : Bool := decide (am_hh e = (am_hd e).map (fun q => (q.1, q.2.1, q.2.2.1, am_ct q.2.2.2.1))) && (am_hd e).all (fun q => decide (q.2.2.2.1 < 2) && decide (am_o e = 8) && ((am_dq e q.2.2.1 (.astore q.2.2.2.2.1) 2 && q.2.2.2.2.2 == 2) || (if h : q.2.2.2.2.1 < 4 then am_dq e q.2.2.1 (.astore_n ⟨q.2.2.2.2.1, h⟩) 1 && q.2.2.2.2.2 == 1 else false)))
theorem am_ctw : (am_in (.classLink "BranchedSourceLaw" 15 am_IAE) && am_in (.classLink "BranchedSourceLaw" 17 am_ISE) && am_in (.castable am_IAE am_IAE) && am_in (.castable am_ISE am_ISE)) = true := by decide +kernel
section SOC
variable {l : Launch} {B : Nat} {b : am_B} {D : va_G} {cA : Nat → ClassId} {X : am_X} {e : am_M} {Q : am_Q}
def am_Pc (B : Nat) (b : am_B) (D : va_G) (cA : Nat → ClassId) (a : List Value) (st : am_S) : Array Value → State → Prop := fun v U => v = (a.map (am_v B b)).toArray ∧ am_H B cA D st U.heap ∧ am_W B b D cA U
theorem am_blind {a : List Value} {st : am_S} : FrameBlind (am_Pc B b D cA a st) := fun _ _ _ _ h => ⟨h.1, h.2.1, h.2.2.calling⟩
def am_Qr (B : Nat) (b : am_B) (D : va_G) (cA : Nat → ClassId) (r : am_R) (st : am_S) : Array Value → State → Outcome → State → Prop := fun _ s oc t => ∃ o, r = .inl o ∧ oc = .returned (o.map (am_v B b)) ∧ am_H B cA D st t.heap ∧ va_F (am_A B) s t
def am_Xr (B : Nat) (D : va_G) (cA : Nat → ClassId) (r : am_R) (st : am_S) : String → State → State → Prop := match r with
  | .inl _ => fun _ _ _ => False
  | .inr x => am_XC B cA D x st
def am_rmm (d mc ms : Nat) : Room := { frames := d + 1, cells := mc, slots := ms, locals := 42 * d + 90 }
def am_ws (e : am_M) : List Cond := am_cw e :: am_gw
def am_Con (l : Launch) (B : Nat) (b : am_B) (D : va_G) (cA : Nat → ClassId) (d m : Nat) (a : List Value) (st : am_S) (r : am_R) (st2 : am_S) : Prop := st.2.2.1 ≤ st2.2.2.1 ∧ st.2.2.2.1 ≤ st2.2.2.2.1 ∧ ∀ e, am_of m = some e → m ≠ 8900 → am_cw e ∈ am_gw → plainName (am_y e).cls = true →
  vx_Met l (am_y e) (am_ws e) (am_rmm d (st2.2.2.1 - st.2.2.1) (st2.2.2.2.1 - st.2.2.2.1)) (am_Pc B b D cA a st) (am_Qr B b D cA r st2) (am_Xr B D cA r st2) (st2.2.2.1 - st.2.2.1) (st2.2.2.2.1 - st.2.2.2.1) (am_A B)
theorem am_hit {pc x : Nat} {q : Nat × Nat × Nat × Nat × Nat × Nat} (hck : am_hck e = true) (hf : (am_hd e).find? (fun q => am_cv0 q pc && q.2.2.2.1 == x) = some q) : x = q.2.2.2.1 ∧ q.2.2.2.1 < 2 ∧ am_o e = 8 ∧ am_cv0 q pc = true ∧
    (∃ as bs : List (Nat × Nat × Nat × Nat × Nat × Nat), am_hh e = as.map (fun q => (q.1, q.2.1, q.2.2.1, am_ct q.2.2.2.1)) ++ (q.1, q.2.1, q.2.2.1, am_ct q.2.2.2.1) :: bs.map (fun q => (q.1, q.2.1, q.2.2.1, am_ct q.2.2.2.1)) ∧ ∀ z ∈ as, z.2.2.2.1 < 2 ∧ (am_cv0 z pc = false ∨ z.2.2.2.1 ≠ x)) ∧
    ((decode (am_co e) q.2.2.1 = .ok (.astore q.2.2.2.2.1, 2) ∧ q.2.2.2.2.2 = 2) ∨ ∃ h : q.2.2.2.2.1 < 4, decode (am_co e) q.2.2.1 = .ok (.astore_n ⟨q.2.2.2.2.1, h⟩, 1) ∧ q.2.2.2.2.2 = 1) := by
  obtain ⟨hp, as, bs, hl, has⟩ := List.find?_eq_some_iff_append.mp hf
  simp only [Bool.and_eq_true, beq_iff_eq] at hp
  simp only [am_hck, Bool.and_eq_true, decide_eq_true_eq] at hck
  obtain ⟨hck, hall⟩ := hck
  have hin : q ∈ am_hd e := by rw [hl]; simp
  have hq := List.all_eq_true.mp hall q hin
  simp only [Bool.and_eq_true, decide_eq_true_eq, Bool.or_eq_true, beq_iff_eq, am_dq] at hq
  obtain ⟨⟨h2, h8⟩, hd⟩ := hq
  refine ⟨hp.2.symm, h2, h8, hp.1, ⟨as, bs, by rw [hck, hl]; simp, fun z hz => ?_⟩, ?_⟩
  · have hz2 := List.all_eq_true.mp hall z (by rw [hl]; simp [hz])
    simp only [Bool.and_eq_true, decide_eq_true_eq] at hz2
    refine ⟨hz2.1.1, ?_⟩
    have := has z hz
    simp only [Bool.not_eq_true', Bool.and_eq_false_iff, beq_eq_false_iff_ne, ne_eq] at this
    exact this
  · rcases hd with h | h
    · exact Or.inl h
    · split at h
      · rename_i h4
        simp only [Bool.and_eq_true, decide_eq_true_eq, beq_iff_eq] at h
        exact Or.inr ⟨h4, h⟩
      · cases h
theorem am_nohit {pc : Nat} (hck : am_hck e = true) (hf : ¬ (am_hd e).any (fun q => am_cv0 q pc) = true) : ∀ y ∈ tableOf (am_hh e), covers y pc = false := by
  intro y hy
  simp only [am_hck, Bool.and_eq_true, decide_eq_true_eq] at hck
  rw [hck.1] at hy
  unfold tableOf at hy
  obtain ⟨z, hz, rfl⟩ := List.mem_map.mp hy
  obtain ⟨q, hq, rfl⟩ := List.mem_map.mp hz
  have h1 : ¬ am_cv0 q pc = true := fun h => hf (List.any_eq_true.mpr ⟨q, hq, h⟩)
  unfold am_cv0 at h1
  have h2 : ¬ (q.1 ≤ pc ∧ pc < q.2.1) := fun h => h1 (decide_eq_true h)
  show (decide (q.1 ≤ pc) && decide (pc < q.2.1)) = false
  by_cases h3 : q.1 ≤ pc
  · have h4 : ¬ pc < q.2.1 := fun h => h2 ⟨h3, h⟩
    simp [h4]
  · simp [h3]
theorem am_covered {pc : Nat} {q : Nat × Nat × Nat × Nat × Nat × Nat} : covers ⟨q.1, q.2.1, q.2.2.1, am_ct q.2.2.2.1⟩ pc = am_cv0 q pc := by
  show (decide (q.1 ≤ pc) && decide (pc < q.2.1)) = decide (q.1 ≤ pc ∧ pc < q.2.1)
  rw [Bool.decide_and]
theorem so_core {pc : Nat} {lc sk rest : List Value} {st st1 : am_S} {r1 : am_R} (hck : am_hck e = true) (h1 : st.2.2.1 ≤ st1.2.2.1) (h2 : st.2.2.2.1 ≤ st1.2.2.2.1) (haf : am_af e pc lc rest (am_P l B b D cA X e Q) Q r1 st1)
    (run : ∀ (p : Program) (en : Env) (R : Room) (s : State) (m : MethodId) (args : Array Value) (below : List Frame) (meth : Method) (c : Code), am_F l B b D cA X e p R s m meth c → ∀ (H : Heap) (locs : List Loc) (ls : Array Slot) (c0 s0 : Nat), c0 + (st1.2.2.1 - st.2.2.1) ≤ R.cells → s0 + (st1.2.2.2.1 - st.2.2.2.1) ≤ R.slots → am_H B cA D st H → va_S (am_A B) s.heap H locs → am_Lc B b (am_nl e) lc ls →
      ∃ a9, vx_Run p l en R s m args below meth c H locs c0 s0 (st1.2.2.1 - st.2.2.1) (st1.2.2.2.1 - st.2.2.2.1) (F0 m pc ls (sk.map (am_v B b))) (rest.map (am_v B b)) (am_Qr B b D cA r1 st1 a9) (am_Xr B D cA r1 st1) (am_A B)) : am_P l B b D cA X e Q pc lc sk st := by
  rcases r1 with o | x
  · have haf2 : am_P l B b D cA X e Q (pc + 3) lc (o.toList ++ rest) st1 := by cases o <;> exact haf
    obtain ⟨r, st2, hq, g1, g2, hS⟩ := haf2
    refine ⟨r, st2, hq, by omega, by omega, fun p en R s m args below meth c hF H locs ls c0 s0 Qf hc hs hH hSS hL hE => ?_⟩
    have e1 : c0 + (st2.2.2.1 - st.2.2.1) = c0 + (st1.2.2.1 - st.2.2.1) + (st2.2.2.1 - st1.2.2.1) := by omega
    have e2 : s0 + (st2.2.2.2.1 - st.2.2.2.1) = s0 + (st1.2.2.2.1 - st.2.2.2.1) + (st2.2.2.2.1 - st1.2.2.2.1) := by omega
    rw [e1, e2] at hE
    obtain ⟨a9, hr⟩ := run p en R s m args below meth c hF H locs ls c0 s0 (by omega) (by omega) hH hSS hL
    intro T hT XX
    rcases hr T hT XX with ⟨v, st₀, t, T', L, h0, X', hL', i1, i2, ⟨o2, ho2, hv, hH1, hF1⟩, goes⟩ | ⟨q9, st₀, t, T', L, E, ce, h0, X', hL', i1, i2, hbad, -⟩
    · cases ho2
      have hv2 : v = o.map (am_v B b) := Outcome.returned.inj hv
      obtain ⟨-, -, k3⟩ := vx_keep h0 i1 hSS (fun _ _ h => h) (fun _ h => h) hL' hF1
      obtain ⟨t2, a1, b1⟩ := hS p en R s m args below meth c hF T'.heap (locs ++ L) ls _ _ Qf (by omega) (by omega) (by rw [i1]; exact hH1) k3 hL hE T' rfl X'
      refine ⟨t2, goes t2 ?_, b1⟩
      have es : (o.toList ++ rest).map (am_v B b) = v.toList ++ rest.map (am_v B b) := by rw [hv2]; cases o <;> rfl
      rw [es] at a1
      exact a1
    · exact hbad.elim
  · have haf2 : am_ht e pc x lc st1 (am_P l B b D cA X e Q) Q := haf
    unfold am_ht at haf2
    split at haf2
    · split at haf2
      rotate_left
      · exact haf2.elim
      rename_i q hf
      obtain ⟨hkl, r, st2, hq, g1, g2, hS⟩ := haf2
      obtain ⟨hx, hx2, h8, hcov, ⟨as, bs, hsp, has⟩, hd⟩ := am_hit hck hf
      refine ⟨r, st2, hq, by omega, by omega, fun p en R s m args below meth c hF H locs ls c0 s0 Qf hc hs hH hSS hL hE => ?_⟩
      have e1 : c0 + (st2.2.2.1 - st.2.2.1) = c0 + (st1.2.2.1 - st.2.2.1) + (st2.2.2.1 - st1.2.2.1) := by omega
      have e2 : s0 + (st2.2.2.2.1 - st.2.2.2.1) = s0 + (st1.2.2.2.1 - st.2.2.2.1) + (st2.2.2.2.1 - st1.2.2.2.1) := by omega
      rw [e1, e2] at hE
      obtain ⟨a9, hr⟩ := run p en R s m args below meth c hF H locs ls c0 s0 (by omega) (by omega) hH hSS hL
      have hF0 := hF
      obtain ⟨hxx, hb, hml, hrr, hown, hts, hlk, htab, hnm, hW, hfr, hlo, htr, hsc⟩ := hF
      intro T hT XX
      rcases hr T hT XX with ⟨v, st₀, t, T', L, h0, X', hL', i1, i2, ⟨o2, ho2, -⟩, -⟩ | ⟨q9, st₀, t, T', L, E, ce, h0, X', hL', i1, i2, ⟨hE1, hH1, hF1⟩, hce, hcv, hcl, stp⟩
      · cases ho2
      · obtain ⟨-, -, k3⟩ := vx_keep h0 i1 hSS (fun _ _ h => h) (fun _ h => h) hL' hF1
        subst hE1
        have hw := am_ctw
        simp only [Bool.and_eq_true] at hw
        have hnm8 : am_nm (am_o e) = "BranchedSourceLaw" := by rw [h8]; rfl
        have hlink : ∀ y : Nat, (Cond.classLink (am_nm (am_o e)) (am_ct y) (am_E y)).before args s = true := by
          intro y
          rw [hnm8]
          unfold am_ct am_E
          split
          · exact hts _ (am_in_mem hw.1.1.1) args
          · exact hts _ (am_in_mem hw.1.1.2) args
        have hcast : (Cond.castable (am_E x) (am_E q.2.2.2.1)).before args s = true := by
          rw [← hx]
          unfold am_E
          split
          · exact hts _ (am_in_mem hw.1.2) args
          · exact hts _ (am_in_mem hw.2) args
        have hct : ∀ y : Nat, am_ct y ≠ 0 := by
          intro y
          unfold am_ct
          split <;> decide
        have hcat : vx_W p l en R s m args below meth c T'.heap (locs ++ L) (c0 + (st1.2.2.1 - st.2.2.1)) (s0 + (st1.2.2.2.1 - st.2.2.2.1)) Qf (F0 m pc ls (rest.map (am_v B b))) q9 := by
          refine vx_catch (name := am_E q.2.2.2.1) hown (as.map (fun q => ⟨q.1, q.2.1, q.2.2.1, am_ct q.2.2.2.1⟩)) ⟨q.1, q.2.1, q.2.2.1, am_ct q.2.2.2.1⟩ (bs.map (fun q => ⟨q.1, q.2.1, q.2.2.1, am_ct q.2.2.2.1⟩)) ?_ ?_ (by rw [am_covered]; exact hcov) (hct _) (hlink _) hcast (by rw [i1]; exact hce) hcv hcl ?_
          · rw [htab, hsp]
            unfold tableOf
            simp only [List.map_append, List.map_cons, List.map_map]
            rfl
          · intro z hz
            obtain ⟨z0, hz0, rfl⟩ := List.mem_map.mp hz
            obtain ⟨j1, j2⟩ := has z0 hz0
            rcases j2 with j2 | j2
            · exact Or.inl (by rw [am_covered]; exact j2)
            · refine Or.inr ⟨hct _, am_E z0.2.2.2.1, hlink _, ?_⟩
              rw [hx] at j2 ⊢
              have j3 : (q.2.2.2.1 = 0 ∧ z0.2.2.2.1 = 1) ∨ (q.2.2.2.1 = 1 ∧ z0.2.2.2.1 = 0) := by omega
              rcases j3 with ⟨j3, j4⟩ | ⟨j3, j4⟩ <;> rw [j3, j4]
              · exact hW.2.2.2.2.1
              · exact hW.2.2.2.1
          · have hkn : q.2.2.2.2.1 < am_nl e := by rw [← hL.2.1]; exact hkl
            have fin : ∀ ls2 : Array Slot, lv_has ls2 (am_nl e) ((q.2.2.2.2.1, .ref q9) :: (am_pr B b lc).filter (fun z => !(z.1 == q.2.2.2.2.1) && !(z.1 + 1 == q.2.2.2.2.1 && z.2.category == 2))) → W p l en R s m args below meth c T'.heap (locs ++ L) (c0 + (st1.2.2.1 - st.2.2.1)) (s0 + (st1.2.2.2.1 - st.2.2.2.1)) Qf (F0 m (q.2.2.1 + q.2.2.2.2.2) ls2 []) := fun ls2 h9 =>
              hS p en R s m args below meth c hF0 T'.heap (locs ++ L) ls2 _ _ Qf (by omega) (by omega) (by rw [i1]; exact hH1) k3 (am_s1u_ok hL h9) hE
            rcases hd with ⟨hd, hn⟩ | ⟨h4, hd, hn⟩
            · rw [hn] at fin
              exact lv_astore hxx hb hd (am_pr_has hL) hkn rfl fin
            · rw [hn] at fin
              exact lv_astore_n hxx hb hd rfl (am_pr_has hL) hkn rfl fin
        obtain ⟨t2, a1, b1⟩ := hcat T' rfl X'
        exact ⟨t2, stp.trans a1, b1⟩
    · rename_i hno
      refine ⟨.inr x, st1, haf2, h1, h2, fun p en R s m args below meth c hF H locs ls c0 s0 Qf hc hs hH hSS hL hE => ?_⟩
      obtain ⟨a9, hr⟩ := run p en R s m args below meth c hF H locs ls c0 s0 hc hs hH hSS hL
      obtain ⟨hxx, hb, hml, hrr, hown, hts, hlk, htab, hnm, hW, hfr, hlo, htr, hsc⟩ := hF
      obtain ⟨Qc, rfl⟩ := hE
      intro T hT XX
      rcases hr T hT XX with ⟨v, st₀, t, T', L, h0, X', hL', i1, i2, ⟨o2, ho2, -⟩, -⟩ | ⟨q9, st₀, t, T', L, E, ce, h0, X', hL', i1, i2, ⟨hE1, hH1, hF1⟩, hce, hcv, hcl, stp⟩
      · cases ho2
      · obtain ⟨-, -, k3⟩ := vx_keep h0 i1 hSS (fun _ _ h => h) (fun _ h => h) hL' hF1
        have hout : vx_W p l en R s m args below meth c T'.heap (locs ++ L) (c0 + (st1.2.2.1 - st.2.2.1)) (s0 + (st1.2.2.2.1 - st.2.2.2.1)) (vx_MQ below Qc (am_XC B cA D x st1) args s (c0 + (st1.2.2.1 - st.2.2.1)) (s0 + (st1.2.2.2.1 - st.2.2.2.1)) (am_A B)) (F0 m pc ls (rest.map (am_v B b))) q9 := by
          refine vx_out (by rw [htab]; exact am_nohit hck hno) hlk (by rw [i1]; exact hce) hcv hcl (fun t1 ht1 _ => ?_) k3.2.2 (Nat.le_refl _) (Nat.le_refl _)
          refine ⟨hE1, by rw [ht1, i1]; exact hH1, by rw [ht1]; exact k3.1, fun y y1 y2 => by rw [ht1]; exact k3.2.1 y y1 y2⟩
        obtain ⟨t2, a1, b1⟩ := hout T' rfl X'
        exact ⟨t2, stp.trans a1, b1⟩
/-- what a callee has to be -/
def am_CC (l : Launch) (B : Nat) (b : am_B) (D : va_G) (cA : Nat → ClassId) (X : am_X) (C : am_C) : Prop := ∀ m a st (Q : am_Q), C m a st Q → 1 ≤ X.2.2 ∧ ∃ r st2, Q r st2 ∧ am_Con l B b D cA (X.2.2 - 1) m a st r st2
theorem am_callB {R : Room} {s : State} {args : Array Value} {m k n mc ms : Nat} {e2 : am_M} (hts : ∀ w ∈ am_gw, ∀ args, w.before args s = true) (he : am_of m = some e2) (hkd : am_kd m k = true) (hy : am_y0 e2 n = true) (hnl : am_nl e2 ≤ 21) (hX : 1 ≤ X.2.2) (hfr : X.2.2 + 1 ≤ R.frames) (hlo : 42 * X.2.2 + 90 ≤ R.locals) :
    (am_rmm (X.2.2 - 1) mc ms).cells = mc ∧ (am_rmm (X.2.2 - 1) mc ms).slots = ms ∧ (am_rmm (X.2.2 - 1) mc ms).frames + 1 ≤ R.frames ∧ 8 + (am_nl e2 + 11) + (am_rmm (X.2.2 - 1) mc ms).locals ≤ R.locals ∧ (∀ w ∈ am_ws e2, ∀ (a' : Array Value) (U : State), s.WarmedH U.vm → w.before a' U = true) ∧ am_cw e2 ∈ am_ws e2 ∧ (am_cw e2).before args s = true ∧ (Cond.initialized (am_y e2).cls).before args s = true ∧ ((am_y e2).cls ≠ "java/lang/invoke/MethodHandle" ∧ (am_y e2).cls ≠ "java/lang/invoke/VarHandle") ∧ (∀ sig, parseMethodDescriptor (am_y e2).desc = some sig → n = sig.parameters.length) := by
  obtain ⟨a1, a2, a3, -⟩ := am_kd_s hkd he
  obtain ⟨y1, y2, y3⟩ := am_y0_s hy
  have hf : (am_rmm (X.2.2 - 1) mc ms).frames = X.2.2 - 1 + 1 := rfl
  have hl : (am_rmm (X.2.2 - 1) mc ms).locals = 42 * (X.2.2 - 1) + 90 := rfl
  refine ⟨rfl, rfl, by rw [hf]; omega, by rw [hl]; omega, fun w hw => ?_, List.mem_cons_self, hts _ a1 args, hts _ a2 args, y2, y3⟩
  have hw2 : w ∈ am_gw := by
    rcases List.mem_cons.mp hw with rfl | h
    · exact a1
    · exact h
  exact am_warm (args := args) (fun w hw => hts w hw args) w hw2
theorem am_nls : am_ms.all (fun e => decide (am_nl e ≤ 21)) = true := by decide +kernel
theorem am_nlx {m : Nat} {e2 : am_M} (h : am_of m = some e2) : am_nl e2 ≤ 21 := of_decide_eq_true (List.all_eq_true.mp am_nls e2 (am_of_mem h).1)
theorem lv_room10 {m : MethodId} {pc : Nat} {ls : Array Slot} {rest st : List Value} (h : (st.map fun v => v.category).sum ≤ 10) : 2 * (F0 m pc ls rest).monitorRoom + (st.map fun v => v.category).sum ≤ 10 := by
  show 2 * 0 + _ ≤ 10
  omega
theorem am_wide {R : Room} {e2 : am_M} {mc ms : Nat} (hnl : am_nl e2 ≤ 21) (hX : 1 ≤ X.2.2) (hlo : 42 * X.2.2 + 90 ≤ R.locals) : 10 + (am_nl e2 + 11) + (am_rmm (X.2.2 - 1) mc ms).locals ≤ R.locals := by
  show 10 + (am_nl e2 + 11) + (42 * (X.2.2 - 1) + 90) ≤ R.locals
  omega
theorem am_cats5 {r : List Value} (h : r.length ≤ 5) : ((r.map (am_v B b)).map fun v => v.category).sum ≤ 10 := by
  have h2 : ∀ l : List Value, (l.map fun v => v.category).sum ≤ 2 * l.length := by
    intro l
    induction l with
    | nil => exact Nat.le_refl _
    | cons a l ih =>
      have : a.category ≤ 2 := by cases a <;> simp [Value.category]
      simp only [List.map_cons, List.sum_cons, List.length_cons]
      omega
  have := h2 (r.map (am_v B b))
  rw [List.length_map] at this
  omega
theorem am_yn_s {m k : Nat} (h : am_yn m k = true) : ∃ e2, am_of m = some e2 ∧ am_y0 e2 k = true := by
  unfold am_yn at h
  split at h
  · exact ⟨_, by assumption, h⟩
  · cases h
theorem am_nh_s {m : Nat} {e2 : am_M} (h : am_nh m = true) (he : am_of m = some e2) : (am_hh e2).isEmpty = true := by
  unfold am_nh at h
  rw [he] at h
  exact h
theorem am_cw0 {e2 : am_M} (h : (am_hh e2).isEmpty = true) : am_cw e2 = .code (am_y e2) (am_co e2) (am_nl e2) (am_rt e2) := by
  unfold am_cw
  rw [if_pos h]
theorem am_cw1 {e2 : am_M} (h : ¬ (am_hh e2).isEmpty = true) : am_cw e2 = .codeWith (am_y e2) (am_co e2) (am_nl e2) (am_rt e2) (am_hh e2) := by
  unfold am_cw
  rw [if_neg h]
theorem am_recv {s : State} {st : am_S} {H : Heap} {ob ci : Nat} (hW : am_W B b D cA s) (hci : ci < 7) (hH : am_H B cA D st H) (hob : am_ob st ob ci) : ∃ cell : Cell, H[B + ob]? = some cell ∧ cell.vm.isStatics = false ∧ s.vm.findClass (am_nm ci) = some cell.cls :=
  va_recv (q0 := 0) (ci := ci) hW.1 (am_P1 hH hob.1 (am_c0 hob)) (am_cl_at hci) rfl
theorem so_virt {q : am_I} {lc sk : List Value} {st : am_S} {C : am_C} {m k : Nat} (hC : am_CC l B b D cA X C) (hck : am_hck e = true) (hk : am_q1 e q (.invokevirtual q.2.2.2) 3 = true) (hml0 : am_ml0 (am_o e) q.2.2.2 m = true) (hkd : am_kd m 0 = true) (hyn : am_yn m k = true) (hnh : am_nh m = true) (hm8 : m / 1000 < 7) (h : am_ci C e 5 m k q.1 lc sk st (am_P l B b D cA X e Q) Q) : am_P l B b D cA X e Q q.1 lc sk st := by
  obtain ⟨hd, -⟩ := am_q1_s hk
  unfold am_ci at h
  split at h
  rotate_left
  · exact h.elim
  rename_i ob r hsk
  obtain ⟨⟨hob, hlen⟩, h⟩ := h
  obtain ⟨hX1, r1, st1, haf, h1, h2, hcon⟩ := hC _ _ _ _ h
  obtain ⟨e2, he, hy⟩ := am_yn_s hyn
  have hm : e2.1 = m := (am_of_mem he).2
  have hk2 : k ≤ sk.length := by
    rcases Nat.lt_or_ge sk.length k with z | z
    · rw [List.drop_eq_nil_of_le (Nat.le_of_lt z)] at hsk
      cases hsk
    · exact z
  obtain ⟨w1, w2, w3, w4⟩ := am_kd_s hkd he
  have hM := hcon e2 he (am_kd_ne hkd) w1 (am_y0_s hy).1
  refine so_core hck h1 h2 haf fun p en R s m9 args below meth c hF H locs ls c0 s0 hc hs hH hS hL => ⟨(Value.ref (B + ob) :: ((sk.take k).reverse).map (am_v B b)).toArray, ?_⟩
  obtain ⟨hx, hb, hml, hr, hown, hts, hlk, htab, hnm, hW, hfr, hlo, htr, hsc⟩ := hF
  obtain ⟨b1, b2, b3, b4, b5, b6, b7, b8, b9, b10⟩ := am_callB (X := X) (R := R) (args := args) (mc := st1.2.2.1 - st.2.2.1) (ms := st1.2.2.2.1 - st.2.2.2.1) hts he hkd hy (am_nlx he) hX1 hfr hlo
  rw [am_cw0 (am_nh_s hnh he)] at b6 b7
  have hcls : (am_y e2).cls = am_nm (m / 1000) := by rw [← hm]; rfl
  refine vx_runV10 (C := am_nm (m / 1000)) (As := ((sk.take k).reverse).map (am_v B b)) (b := B + ob) (n := k) (nL := am_nl e) (Ts := am_gw) (own := am_nm (am_o e)) ⟨hx, hb, hml, hown, fun w hw => hts w hw args⟩ hM ⟨⟨b1, b2, b3, b4, b5, b6, b7, b8, b9, b10, hts _ (am_ml0_s hml0 he) args⟩, hts _ w3 args, ?_⟩ (am_wide (X := X) (mc := st1.2.2.1 - st.2.2.1) (ms := st1.2.2.2.1 - st.2.2.2.1) (am_nlx he) hX1 hlo) ⟨am_blind, am_recv hW hm8 hH hob, fun U hU hW2 => ⟨?_, by rw [hU]; exact hH, hW.warm hU hW2 hS⟩⟩ rfl (by simp [hk2]) hL.1 ?_ (lv_room10 (am_cats5 hlen)) hd ⟨hc, hs⟩
  · have := hts _ (w4 rfl) args
    rw [show am_o e2 = m / 1000 by rw [← hm]] at this
    exact this
  · simp [am_v]
  · have : sk = sk.take k ++ .ref ob :: r := by rw [← hsk]; exact (List.take_append_drop k sk).symm
    show sk.map (am_v B b) = _
    conv => lhs; rw [this]
    simp [am_v]
theorem so_stat {q : am_I} {lc sk : List Value} {st : am_S} {C : am_C} {m k : Nat} (hC : am_CC l B b D cA X C) (hck : am_hck e = true) (hk : am_q1 e q (.invokestatic q.2.2.2) 3 = true) (hml0 : am_ml0 (am_o e) q.2.2.2 m = true) (hkd : am_kd m 1 = true) (hyn : am_yn m k = true) (h : am_cs C e m k q.1 lc sk st (am_P l B b D cA X e Q) Q) : am_P l B b D cA X e Q q.1 lc sk st := by
  obtain ⟨hd, -⟩ := am_q1_s hk
  obtain ⟨⟨hk2, hlen⟩, h⟩ := h
  obtain ⟨hX1, r1, st1, haf, h1, h2, hcon⟩ := hC _ _ _ _ h
  obtain ⟨e2, he, hy⟩ := am_yn_s hyn
  obtain ⟨w1, w2, w3, w4⟩ := am_kd_s hkd he
  have hM := hcon e2 he (am_kd_ne hkd) w1 (am_y0_s hy).1
  refine so_core hck h1 h2 haf fun p en R s m9 args below meth c hF H locs ls c0 s0 hc hs hH hS hL => ⟨(((sk.take k).reverse).map (am_v B b)).toArray, ?_⟩
  obtain ⟨hx, hb, hml, hr, hown, hts, hlk, htab, hnm, hW, hfr, hlo, htr, hsc⟩ := hF
  obtain ⟨b1, b2, b3, b4, b5, b6, b7, b8, b9, b10⟩ := am_callB (X := X) (R := R) (args := args) (mc := st1.2.2.1 - st.2.2.1) (ms := st1.2.2.2.1 - st.2.2.2.1) hts he hkd hy (am_nlx he) hX1 hfr hlo
  have hst : (F0 m9 q.1 ls (sk.map (am_v B b))).stack = (((sk.take k).reverse).map (am_v B b)).reverse ++ (sk.drop k).map (am_v B b) := by
    show sk.map (am_v B b) = _
    rw [← List.map_reverse, List.reverse_reverse, ← List.map_append, List.take_append_drop]
  have hpre : PreS s H (am_Pc B b D cA (sk.take k).reverse st) (((sk.take k).reverse).map (am_v B b)) := ⟨am_blind, fun U hU hW2 => ⟨rfl, by rw [hU]; exact hH, hW.warm hU hW2 hS⟩⟩
  by_cases hh : (am_hh e2).isEmpty = true
  · rw [am_cw0 hh] at b6 b7
    exact vx_runS (n := k) (nL := am_nl e) (Ts := am_gw) (own := am_nm (am_o e)) ⟨hx, hb, hml, hown, fun w hw => hts w hw args⟩ hM ⟨⟨b1, b2, b3, b4, b5, b6, b7, b8, b9, b10, hts _ (am_ml0_s hml0 he) args⟩, hts _ w3 args⟩ hpre rfl (by simp [hk2]) hL.1 hst (lv_room (am_cats hlen)) hd ⟨hc, hs⟩
  · rw [am_cw1 hh] at b6 b7
    exact vx_runSX (n := k) (nL := am_nl e) (Ts := am_gw) (own := am_nm (am_o e)) (hh := am_hh e2) ⟨hx, hb, hml, hown, fun w hw => hts w hw args⟩ hM ⟨⟨b1, b2, b3, b4, b5, b6⟩, b7, b8, b9, b10, hts _ (am_ml0_s hml0 he) args, hts _ w3 args⟩ hpre rfl (by simp [hk2]) hL.1 hst (lv_room (am_cats hlen)) hd ⟨hc, hs⟩
theorem so_spec {q : am_I} {lc sk : List Value} {st : am_S} {C : am_C} {m : Nat} (hC : am_CC l B b D cA X C) (hck : am_hck e = true) (hk : am_q1 e q (.invokespecial q.2.2.2) 3 = true) (hmlk : am_mlk (am_o e) q.2.2.2 m = true) (hkd : am_kd m 2 = true) (hyn : am_yn m 0 = true) (hnh : am_nh m = true) (hinit : ∀ e2, am_of m = some e2 → e2.2.1.1 = "<init>" ∧ am_rt e2 = none) (h : am_ci C e 4 m 0 q.1 lc sk st (am_P l B b D cA X e Q) Q) : am_P l B b D cA X e Q q.1 lc sk st := by
  obtain ⟨hd, -⟩ := am_q1_s hk
  unfold am_ci at h
  split at h
  rotate_left
  · exact h.elim
  rename_i ob r hsk
  have hsk : sk = .ref ob :: r := hsk
  subst hsk
  obtain ⟨⟨hob, hlen⟩, h⟩ := h
  obtain ⟨hX1, r1, st1, haf, h1, h2, hcon⟩ := hC _ _ _ _ h
  obtain ⟨e2, he, hy⟩ := am_yn_s hyn
  obtain ⟨w1, w2, w3, w4⟩ := am_kd_s hkd he
  have hM := hcon e2 he (am_kd_ne hkd) w1 (am_y0_s hy).1
  obtain ⟨hi1, hi2⟩ := hinit e2 he
  refine so_core hck h1 h2 haf fun p en R s m9 args below meth c hF H locs ls c0 s0 hc hs hH hS hL => ⟨(Value.ref (B + ob) :: []).toArray, ?_⟩
  obtain ⟨hx, hb, hml, hr, hown, hts, hlk, htab, hnm, hW, hfr, hlo, htr, hsc⟩ := hF
  obtain ⟨b1, b2, b3, b4, b5, b6, b7, b8, b9, b10⟩ := am_callB (X := X) (R := R) (args := args) (mc := st1.2.2.1 - st.2.2.1) (ms := st1.2.2.2.1 - st.2.2.2.1) hts he hkd hy (am_nlx he) hX1 hfr hlo
  rw [am_cw0 (am_nh_s hnh he), hi2] at b6 b7
  have hpre : PreS s H (am_Pc B b D cA (.ref ob :: (List.take 0 (Value.ref ob :: r)).reverse) st) (.ref (B + ob) :: []) := ⟨am_blind, fun U hU hW2 => ⟨rfl, by rw [hU]; exact hH, hW.warm hU hW2 hS⟩⟩
  rcases am_mlk_s hmlk he with hw | hw
  · exact vx_runI (As := []) (b := B + ob) (n := 0) (nL := am_nl e) (Ts := am_gw) (own := am_nm (am_o e)) ⟨hx, hb, hml, hown, fun w hw => hts w hw args⟩ hM ⟨⟨b1, b2, b3, b4, b5, b6, b7, b8, b9, b10, hts _ hw args⟩, hi1, hts _ w3 args⟩ hpre rfl rfl hL.1 rfl (lv_room (am_cats hlen)) hd ⟨hc, hs⟩
  · exact vx_runIN (As := []) (b := B + ob) (n := 0) (nL := am_nl e) (Ts := am_gw) (own := am_nm (am_o e)) ⟨hx, hb, hml, hown, fun w hw => hts w hw args⟩ hM ⟨⟨⟨b1, b2, b3, b4, b5, b6⟩, b7, b8, b9, b10, hts _ hw args⟩, hi1, hts _ w3 args⟩ hpre rfl rfl hL.1 rfl (lv_room (am_cats hlen)) hd ⟨hc, hs⟩
end SOC
