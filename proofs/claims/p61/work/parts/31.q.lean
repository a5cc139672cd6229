/-! what the state of now answers -/
def chN (S : Ab) : Nat → Bool := fun i => decide (¬ S.W i = S.T (hd S) i)
def unl (S : Ab) : Nat := cnt (chN S) 24
def coN (S : Ab) : Nat → Bool := fun i => decide (¬ S.O i = 0)
def nco (S : Ab) : Nat := cnt (coN S) 24
def lfN (br : Nat → Nat) : Nat → Nat → Nat
  | 0, _ => 0
  | k + 1, i => if br i = 0 then i + 1 else lfN br k (i + 1)
section Q
variable {d cl sl : Nat} {X : am_X} {F A : Nat → Nat → Int32} {L : Nat → Nat → Int64} {P : am_Q} {S : Ab}
theorem q_h8 (R : cR F A 4 S) (h : wS S) : A 8 S.cur = nI (hd S) := (R.br _ h.cur6).trans (hd_pk h)
theorem q_hd60 (h : wS S) : hd S < 60 := Nat.lt_of_lt_of_le (hd_n h) h.n60
theorem q_head (R : cR F A 4 S) (h : wS S) : am_Ca X (d + 1) 5016 [.ref 4] (am_Z cl sl F A L) P = P (.inl (some (.int (nI (hd S))))) (am_Z cl sl F A L) := by
  rw [s_headCommit R.cu h.cur6, q_h8 R h]
theorem q_chP (R : cR F A 4 S) (h : wS S) : ∀ i, i < 24 → chP A (hd S) i = chN S i := by
  intro i hi
  have h1 := h.Wv i hi
  have h2 := h.Tv _ (hd_n h) i hi
  unfold chP chN
  rw [R.W i hi, R.T _ (hd_n h) i hi]
  refine decide_eq_decide.mpr ?_
  rw [n_eq (by omega) (by omega)]
theorem q_changed (R : cR F A 4 S) (h : wS S) : am_Ca X (d + 2) 5024 [.ref 4] (am_Z cl sl F A L) P = P (.inl (some (.int (nI (unl S))))) (am_Z cl sl F A L) := by
  rw [s_countChanged R.cu h.cur6 (q_h8 R h) (q_hd60 h), cnt_congr (q_chP R h)]
  rfl
theorem q_rest (R : cR F A 4 S) (h : wS S) : am_Ca X (d + 3) 5026 [.ref 4] (am_Z cl sl F A L) P = P (.inl (some (.int (nI (if S.op = 0 ∧ unl S = 0 then 1 else 0))))) (am_Z cl sl F A L) := by
  rw [s_isAtRest R.cu h.cur6 (q_h8 R h) (q_hd60 h) R.op h.op3, cnt_congr (q_chP R h)]
  rfl
theorem q_conf (R : cR F A 4 S) (h : wS S) : am_Ca X (d + 3) 5029 [.ref 4] (am_Z cl sl F A L) P = P (.inl (some (.int (nI (nco S))))) (am_Z cl sl F A L) := by
  rw [s_countConflicts, cnt_congr (q := coN S) (fun i hi => ?_)]
  · rfl
  · have h1 := h.Ov i hi
    unfold coP coN
    rw [R.O i hi, ← pk_0]
    refine decide_eq_decide.mpr ?_
    rw [pk_inj (by omega) (by omega)]
theorem q_room (R : cR F A 4 S) (h : wS S) : am_Ca X (d + 1) 5004 [.ref 4] (am_Z cl sl F A L) P = P (.inl (some (.int (nI (if S.n < 60 then 1 else 0))))) (am_Z cl sl F A L) := s_hasRoom R.n0 h.n60
theorem q_lfb (R : cR F A 4 S) (h : wS S) : ∀ k i, k + i = 6 → lfb A k i = pk (lfN S.br k i) := by
  intro k
  induction k with
  | zero => intro i _; rfl
  | succ k ih =>
    intro i hi
    have h1 := h.brn i (by omega)
    have h2 := h.n60
    unfold lfb lfN
    have e0 : (A 8 i = m1) = (S.br i = 0) := by
      rw [show A 8 i = pk (S.br i) from R.br i (by omega), ← pk_0, pk_inj (by omega) (by omega)]
    by_cases e : S.br i = 0
    · rw [if_pos (cast e0.symm e), if_pos e, pk_s]
    · rw [if_neg (fun z => e (cast e0 z)), if_neg e]; exact ih (i + 1) (by omega)
theorem q_free (R : cR F A 4 S) (h : wS S) : am_Ca X (d + 3) 5018 [.ref 4] (am_Z cl sl F A L) P = P (.inl (some (.int (pk (lfN S.br 6 0))))) (am_Z cl sl F A L) := by
  rw [s_lowestFreeBranch, q_lfb R h 6 0 rfl]
theorem lfN_le (br : Nat → Nat) : ∀ k i, lfN br k i ≤ i + k := by
  intro k
  induction k with
  | zero => intro i; exact Nat.zero_le _
  | succ k ih =>
    intro i
    unfold lfN
    split
    · omega
    · have := ih (i + 1); omega
theorem q_commitOf (R : cR F A 4 S) {b : Nat} (hb : b < 6) : am_Ca X (d + 1) 5015 [.ref 4, .int (nI b)] (am_Z cl sl F A L) P = P (.inl (some (.int (pk (S.br b))))) (am_Z cl sl F A L) := by
  rw [s_commitOf hb, R.br b hb]
theorem q_hasBranch (R : cR F A 4 S) (h : wS S) {b : Nat} (hb : b < 6) : am_Ca X (d + 2) 5014 [.ref 4, .int (nI b)] (am_Z cl sl F A L) P = P (.inl (some (.int (nI (if S.br b = 0 then 0 else 1))))) (am_Z cl sl F A L) := by
  have h1 := h.brn b hb
  have h2 := h.n60
  rw [s_hasBranch hb, R.br b hb]
  simp only [← pk_0, pk_inj (show S.br b < 2147483648 by omega) (show 0 < 2147483648 by omega)]
theorem q_p1 (R : cR F A 4 S) (h : wS S) {c : Nat} (hc : c < S.n) : am_Ca X (d + 1) 5005 [.ref 4, .int (nI c)] (am_Z cl sl F A L) P = P (.inl (some (.int (pk (S.p c))))) (am_Z cl sl F A L) := by
  have h2 := h.n60
  rw [s_parentOne R.n0 h.n60 (by omega)]
  unfold p1
  rw [if_pos hc]
  have e := R.p c hc
  rw [show A 5 c = pk (S.p c) from e]
theorem q_p2 (R : cR F A 4 S) (h : wS S) {c : Nat} (hc : c < S.n) : am_Ca X (d + 1) 5006 [.ref 4, .int (nI c)] (am_Z cl sl F A L) P = P (.inl (some (.int (pk (S.q c))))) (am_Z cl sl F A L) := by
  have h2 := h.n60
  rw [s_parentTwo R.n0 h.n60 (by omega)]
  unfold p2
  rw [if_pos hc]
  have e := R.q c hc
  rw [show A 6 c = pk (S.q c) from e]
theorem q_tree (R : cR F A 4 S) (h : wS S) {c i : Nat} (hc : c < S.n) (hi : i < 24) : am_Ca X (d + 1) 5007 [.ref 4, .int (nI c), .int (nI i)] (am_Z cl sl F A L) P = P (.inl (some (.int (nI (S.T c i))))) (am_Z cl sl F A L) := by
  have h2 := h.n60
  rw [s_treeLine (by omega) hi]
  rw [show A 7 (c * 24 + i) = nI (S.T c i) from R.T c hc i hi]
theorem q_work (R : cR F A 4 S) {i : Nat} (hi : i < 24) : am_Ca X (d + 1) 5021 [.ref 4, .int (nI i)] (am_Z cl sl F A L) P = P (.inl (some (.int (nI (S.W i))))) (am_Z cl sl F A L) := by
  rw [s_workLine hi]
  rw [show A 9 i = nI (S.W i) from R.W i hi]
theorem q_other (R : cR F A 4 S) {i : Nat} (hi : i < 24) : am_Ca X (d + 1) 5027 [.ref 4, .int (nI i)] (am_Z cl sl F A L) P = P (.inl (some (.int (pk (S.O i))))) (am_Z cl sl F A L) := by
  rw [s_otherSide hi]
  rw [show A 10 i = pk (S.O i) from R.O i hi]
theorem q_inConf (R : cR F A 4 S) (h : wS S) {i : Nat} (hi : i < 24) : am_Ca X (d + 2) 5028 [.ref 4, .int (nI i)] (am_Z cl sl F A L) P = P (.inl (some (.int (nI (if S.O i = 0 then 0 else 1))))) (am_Z cl sl F A L) := by
  have h1 := h.Ov i hi
  rw [s_isInConflict hi]
  rw [show A 10 i = pk (S.O i) from R.O i hi]
  simp only [← pk_0, pk_inj (show S.O i < 2147483648 by omega) (show 0 < 2147483648 by omega)]
theorem q_stand (R : cR F A 4 S) (h : wS S) {c : Nat} (hc : c < S.n) (hcl : 70 < cl) : am_Ca X (d + 2) 5020 [.ref 4, .int (nI c)] (am_Z cl sl F A L) P = P (.inl none) (am_Z cl sl (ksF F) (ksA A S.cur c) L) := s_standAt R.cu h.cur6 (Nat.lt_of_lt_of_le hc h.n60) hcl
theorem q_reached (R : cR F A 4 S) (h : wS S) {c o : Nat} (hc : c < S.n) (ho : o < S.n) : am_Ca X (d + 3) 1002 [.ref 13, .ref 4, .int (nI c), .int (nI o)] (am_Z cl sl F A L) P = P (.inl (some (.int (bI (Re S.p S.q c o))))) (am_Z cl sl F (rcA A (Re S.p S.q c)) L) := s_isReached R.n0 h.n60 (wf_of R h) hc (Nat.lt_of_lt_of_le ho h.n60)
/-! what it becomes -/
theorem cR_setL {i v : Nat} (R : cR F A 4 S) : cR F (am_f2 (am_f2 A 9 i (nI v)) 10 i m1) 4 (setL S i v) := by
  refine cR.mk ?_ ?_ ?_ ?_ ?_ ?_ ?_ ?_ ?_ ?_ ?_ ?_ ?_ ?_
  · exact R.n0
  · exact R.cu
  · exact R.op
  · exact R.mg
  · exact R.ac
  · exact R.cf
  · exact R.p
  · exact R.q
  · exact R.T
  · exact R.br
  · intro j hj
    show am_f2 (am_f2 A 9 i (nI v)) 10 i m1 9 j = nI (va_up S.W i v j)
    rw [f2_ne (by decide), f2_eq]
    by_cases e : j = i
    · subst e; rw [up_eq, up_eq]
    · rw [up_ne e, up_ne e]; exact R.W j hj
  · intro j hj
    show am_f2 (am_f2 A 9 i (nI v)) 10 i m1 10 j = pk (va_up S.O i 0 j)
    rw [f2_eq]
    by_cases e : j = i
    · subst e; rw [up_eq, up_eq]; rfl
    · rw [up_ne e, up_ne e, f2_ne (by decide)]; exact R.O j hj
  · exact R.ah
  · exact R.aT
theorem wS_setL {i v : Nat} (h : wS S) (hv : v < 100) : wS (setL S i v) := wS.mk
  (n1 := h.n1)
  (n60 := h.n60)
  (par := h.par)
  (root := h.root)
  (brn := h.brn)
  (cur6 := h.cur6)
  (curb := h.curb)
  (op3 := h.op3)
  (mgn := h.mgn)
  (ac3 := h.ac3)
  (ahn := h.ahn)
  (Tv := h.Tv)
  (Wv := fun j hj => by
    show va_up S.W i v j < 100
    by_cases e : j = i
    · subst e; rw [up_eq]; exact hv
    · rw [up_ne e]; exact h.Wv j hj)
  (Ov := fun j hj => by
    show va_up S.O i 0 j ≤ 100
    by_cases e : j = i
    · subst e; rw [up_eq]; omega
    · rw [up_ne e]; exact h.Ov j hj)
  (aTv := h.aTv)
theorem cR_setB {b z : Nat} (R : cR F A 4 S) : cR F (am_f2 A 8 b (pk z)) 4 (setB S b z) := by
  refine cR.mk ?_ ?_ ?_ ?_ ?_ ?_ ?_ ?_ ?_ ?_ ?_ ?_ ?_ ?_
  · exact R.n0
  · exact R.cu
  · exact R.op
  · exact R.mg
  · exact R.ac
  · exact R.cf
  · exact R.p
  · exact R.q
  · exact R.T
  · intro j hj
    show am_f2 A 8 b (pk z) 8 j = pk (va_up S.br b z j)
    rw [f2_eq]
    by_cases e : j = b
    · subst e; rw [up_eq, up_eq]
    · rw [up_ne e, up_ne e]; exact R.br j hj
  · exact R.W
  · exact R.O
  · exact R.ah
  · exact R.aT
theorem wS_setB {b z : Nat} (h : wS S) (hz : z ≤ S.n) (hb : b = S.cur → z ≠ 0) : wS (setB S b z) := wS.mk
  (n1 := h.n1)
  (n60 := h.n60)
  (par := h.par)
  (root := h.root)
  (brn := fun j hj => by
    show va_up S.br b z j ≤ S.n
    by_cases e : j = b
    · subst e; rw [up_eq]; exact hz
    · rw [up_ne e]; exact h.brn j hj)
  (cur6 := h.cur6)
  (curb := by
    show va_up S.br b z S.cur ≠ 0
    by_cases e : S.cur = b
    · rw [e, up_eq]; exact hb e.symm
    · rw [up_ne e]; exact h.curb)
  (op3 := h.op3)
  (mgn := h.mgn)
  (ac3 := h.ac3)
  (ahn := h.ahn)
  (Tv := h.Tv)
  (Wv := h.Wv)
  (Ov := h.Ov)
  (aTv := h.aTv)
def curB (S : Ab) (b : Nat) : Ab := mkA S.n (b) S.op S.mg S.ac S.cf S.p S.q S.br S.W S.O S.ah S.T S.aT
theorem cR_cur {b : Nat} (R : cR F A 4 S) : cR (am_f2 F 4 5 (nI b)) A 4 (curB S b) := by
  refine cR.mk ?_ ?_ ?_ ?_ ?_ ?_ ?_ ?_ ?_ ?_ ?_ ?_ ?_ ?_
  · exact R.n0
  · show am_f2 F 4 5 (nI b) 4 5 = nI b
    simp [am_f2, va_up]
  · exact R.op
  · exact R.mg
  · exact R.ac
  · exact R.cf
  · exact R.p
  · exact R.q
  · exact R.T
  · exact R.br
  · exact R.W
  · exact R.O
  · exact R.ah
  · exact R.aT
theorem wS_cur {b : Nat} (h : wS S) (hb : b < 6) (h0 : S.br b ≠ 0) : wS (curB S b) := wS.mk
  (n1 := h.n1)
  (n60 := h.n60)
  (par := h.par)
  (root := h.root)
  (brn := h.brn)
  (cur6 := hb)
  (curb := h0)
  (op3 := h.op3)
  (mgn := h.mgn)
  (ac3 := h.ac3)
  (ahn := h.ahn)
  (Tv := h.Tv)
  (Wv := h.Wv)
  (Ov := h.Ov)
  (aTv := h.aTv)
/-- a commit of the work, v its second parent plus one -/
theorem wS_addC0 {v : Nat} (h : wS S) (hn : S.n < 60) (hv : v ≤ S.n) : wS (addC0 S v) := wS.mk
  (n1 := Nat.le_add_left 1 S.n)
  (n60 := hn)
  (par := fun c hc => by
    have hc' : c < S.n + 1 := hc
    show va_up S.p S.n (S.br S.cur) c ≤ c ∧ va_up S.q S.n v c ≤ c
    by_cases e : c = S.n
    · subst e; rw [up_eq, up_eq]; exact ⟨h.brn _ h.cur6, hv⟩
    · rw [up_ne e, up_ne e]; exact h.par c (by omega))
  (root := fun c hc h0 => by
    have hc' : c < S.n + 1 := hc
    show va_up S.p S.n (S.br S.cur) c ≠ 0
    by_cases e : c = S.n
    · subst e; rw [up_eq]; exact h.curb
    · rw [up_ne e]; exact h.root c (by omega) h0)
  (brn := fun b hb => Nat.le_succ_of_le (h.brn b hb))
  (cur6 := h.cur6)
  (curb := h.curb)
  (op3 := h.op3)
  (mgn := Nat.le_succ_of_le h.mgn)
  (ac3 := h.ac3)
  (ahn := fun j hj => Nat.lt_succ_of_lt (h.ahn j hj))
  (Tv := fun c hc i hi => by
    have hc' : c < S.n + 1 := hc
    show va_up S.T S.n S.W c i < 100
    by_cases e : c = S.n
    · subst e; rw [up_eq]; exact h.Wv i hi
    · rw [up_ne e]; exact h.Tv c (by omega) i hi)
  (Wv := h.Wv)
  (Ov := h.Ov)
  (aTv := h.aTv)
theorem cR_addC0 {v : Nat} (R : cR F A 4 S) (h : wS S) : cR (am_f2 F 4 0 (nI (S.n + 1))) (va_up (am_f2 (am_f2 A 5 S.n (nI (hd S))) 6 S.n (pk v)) 7 (va_cpy (A 9) (A 7) 0 (S.n * 24) 24)) 4 (addC0 S v) := by
  refine cR.mk ?_ ?_ ?_ ?_ ?_ ?_ ?_ ?_ ?_ ?_ ?_ ?_ ?_ ?_
  · show am_f2 F 4 0 (nI (S.n + 1)) 4 0 = nI (S.n + 1)
    simp [am_f2, va_up]
  · exact R.cu
  · exact R.op
  · exact R.mg
  · exact R.ac
  · exact R.cf
  · intro c hc
    show va_up (A 5) S.n (nI (hd S)) c = pk (va_up S.p S.n (S.br S.cur) c)
    by_cases e : c = S.n
    · subst e; rw [up_eq, up_eq, hd_pk h]
    · have hc' : c < S.n + 1 := hc
      rw [up_ne e, up_ne e]; exact R.p c (by omega)
  · intro c hc
    show va_up (A 6) S.n (pk v) c = pk (va_up S.q S.n v c)
    by_cases e : c = S.n
    · subst e; rw [up_eq, up_eq]
    · have hc' : c < S.n + 1 := hc
      rw [up_ne e, up_ne e]; exact R.q c (by omega)
  · intro c hc i hi
    show va_cpy (A 9) (A 7) 0 (S.n * 24) 24 (c * 24 + i) = nI (va_up S.T S.n S.W c i)
    by_cases e : c = S.n
    · subst e
      rw [up_eq, cpy_in (by omega) (by omega), show 0 + (S.n * 24 + i - S.n * 24) = i by omega]
      exact R.W i hi
    · have hc' : c < S.n + 1 := hc
      rw [up_ne e, cpy_out (by omega)]; exact R.T c (by omega) i hi
  · exact R.br
  · exact R.W
  · exact R.O
  · exact R.ah
  · exact R.aT
theorem wS_addC {v : Nat} (h : wS S) (hn : S.n < 60) (hv : v ≤ S.n) : wS (addC S v) := wS_stand (wS_addC0 h hn hv) (Nat.lt_succ_self _)
theorem cR_addC {v : Nat} (R : cR F A 4 S) (h : wS S) (hn : S.n < 60) (hv : v ≤ S.n) : cR (kcF F S.n) (kcA A S.n S.cur (hd S) (pk v)) 4 (addC S v) := cR_stand (cR_addC0 R h) (wS_addC0 h hn hv) (Nat.lt_succ_self _)
theorem Fr_addC {n b h : Nat} {v : Int32} : Fr F A (kcF F n) (kcA A n b h v) := Fr_tr (Fr_tr (Fr_tr (Fr_tr (Fr_f2 (Or.inl rfl)) (Fr_u2 (o := 5) (by omega))) (Fr_u2 (o := 6) (by omega))) (Fr_up (o := 7) (by omega))) Fr_stand
theorem q_addC (R : cR F A 4 S) (h : wS S) (hn : S.n < 60) (hcl : 70 < cl) {v : Int32} : am_Ca X (d + 3) 5013 [.ref 4, .int v] (am_Z cl sl F A L) P = P (.inl (some (.int (nI S.n)))) (am_Z cl sl (kcF F S.n) (kcA A S.n S.cur (hd S) v) L) := s_addCommit R.n0 hn R.cu h.cur6 (q_h8 R h) hcl
/-! what is aside -/
theorem wS_push (h : wS S) (h3 : S.ac < 3) : wS (push S) := wS.mk
  (n1 := h.n1)
  (n60 := h.n60)
  (par := h.par)
  (root := h.root)
  (brn := h.brn)
  (cur6 := h.cur6)
  (curb := h.curb)
  (op3 := h.op3)
  (mgn := h.mgn)
  (ac3 := h3)
  (ahn := fun j hj => by
    have hj' : j < S.ac + 1 := hj
    show va_up S.ah S.ac (hd S) j < S.n
    by_cases e : j = S.ac
    · subst e; rw [up_eq]; exact hd_n h
    · rw [up_ne e]; exact h.ahn j (by omega))
  (Tv := h.Tv)
  (Wv := h.Wv)
  (Ov := h.Ov)
  (aTv := fun j hj i hi => by
    have hj' : j < S.ac + 1 := hj
    show va_up S.aT S.ac S.W j i < 100
    by_cases e : j = S.ac
    · subst e; rw [up_eq]; exact h.Wv i hi
    · rw [up_ne e]; exact h.aTv j (by omega) i hi)
theorem cR_push (R : cR F A 4 S) (h : wS S) : cR (am_f2 F 4 10 (nI (S.ac + 1))) (va_up (am_f2 A 11 S.ac (nI (hd S))) 12 (va_cpy (A 9) (A 12) 0 (S.ac * 24) 24)) 4 (push S) := by
  refine cR.mk ?_ ?_ ?_ ?_ ?_ ?_ ?_ ?_ ?_ ?_ ?_ ?_ ?_ ?_
  · exact R.n0
  · exact R.cu
  · exact R.op
  · exact R.mg
  · show am_f2 F 4 10 (nI (S.ac + 1)) 4 10 = nI (S.ac + 1)
    simp [am_f2, va_up]
  · exact R.cf
  · exact R.p
  · exact R.q
  · exact R.T
  · exact R.br
  · exact R.W
  · exact R.O
  · intro j hj
    have hj' : j < S.ac + 1 := hj
    show va_up (A 11) S.ac (nI (hd S)) j = nI (va_up S.ah S.ac (hd S) j)
    by_cases e : j = S.ac
    · subst e; rw [up_eq, up_eq]
    · rw [up_ne e, up_ne e]; exact R.ah j (by omega)
  · intro j hj i hi
    have hj' : j < S.ac + 1 := hj
    show va_cpy (A 9) (A 12) 0 (S.ac * 24) 24 (j * 24 + i) = nI (va_up S.aT S.ac S.W j i)
    by_cases e : j = S.ac
    · subst e
      rw [up_eq, cpy_in (by omega) (by omega), show 0 + (S.ac * 24 + i - S.ac * 24) = i by omega]
      exact R.W i hi
    · rw [up_ne e, cpy_out (by omega)]; exact R.aT j (by omega) i hi
theorem Fr_push {a : Nat} {v w : Int32} {g : Nat → Int32} : Fr F A (am_f2 F 4 10 v) (va_up (am_f2 A 11 a w) 12 g) := Fr_tr (Fr_tr (Fr_f2 (Or.inl rfl)) (Fr_u2 (o := 11) (by omega))) (Fr_up (o := 12) (by omega))
end Q
