/-! THE STATE AS NUMBERS. A parent, a branch's commit, a line of the other side are one more than they are; 0 is none -/
def Ab : Type := (Nat × Nat × Nat × Nat × Nat × Nat) × (Nat → Nat) × (Nat → Nat) × (Nat → Nat) × (Nat → Nat) × (Nat → Nat) × (Nat → Nat) × (Nat → Nat → Nat) × (Nat → Nat → Nat)
def Ab.n (S : Ab) : Nat := S.1.1
def Ab.cur (S : Ab) : Nat := S.1.2.1
def Ab.op (S : Ab) : Nat := S.1.2.2.1
def Ab.mg (S : Ab) : Nat := S.1.2.2.2.1
def Ab.ac (S : Ab) : Nat := S.1.2.2.2.2.1
def Ab.cf (S : Ab) : Nat := S.1.2.2.2.2.2
def Ab.p (S : Ab) : Nat → Nat := S.2.1
def Ab.q (S : Ab) : Nat → Nat := S.2.2.1
def Ab.br (S : Ab) : Nat → Nat := S.2.2.2.1
def Ab.W (S : Ab) : Nat → Nat := S.2.2.2.2.1
def Ab.O (S : Ab) : Nat → Nat := S.2.2.2.2.2.1
def Ab.ah (S : Ab) : Nat → Nat := S.2.2.2.2.2.2.1
def Ab.T (S : Ab) : Nat → Nat → Nat := S.2.2.2.2.2.2.2.1
def Ab.aT (S : Ab) : Nat → Nat → Nat := S.2.2.2.2.2.2.2.2
def mkA (n cur op mg ac cf : Nat) (p q br W O ah : Nat → Nat) (T aT : Nat → Nat → Nat) : Ab := ((n, cur, op, mg, ac, cf), p, q, br, W, O, ah, T, aT)
/-- what always holds of it -/
def wS (S : Ab) : Prop := (1 ≤ S.n) ∧ (S.n ≤ 60) ∧ (wfP S.p S.q S.n) ∧ (∀ c, c < S.n → c ≠ 0 → S.p c ≠ 0) ∧ (∀ b, b < 6 → S.br b ≤ S.n) ∧ (S.cur < 6) ∧ (S.br S.cur ≠ 0) ∧ (S.op < 3) ∧ (S.mg ≤ S.n) ∧ (S.ac ≤ 3) ∧ (∀ j, j < S.ac → S.ah j < S.n) ∧ (∀ c, c < S.n → ∀ i, i < 24 → S.T c i < 100) ∧ (∀ i, i < 24 → S.W i < 100) ∧ (∀ i, i < 24 → S.O i ≤ 100) ∧ (∀ j, j < S.ac → ∀ i, i < 24 → S.aT j i < 100)
theorem wS.n1 {S : Ab} (h : wS S) : 1 ≤ S.n := h.1
theorem wS.n60 {S : Ab} (h : wS S) : S.n ≤ 60 := h.2.1
theorem wS.par {S : Ab} (h : wS S) : wfP S.p S.q S.n := h.2.2.1
theorem wS.root {S : Ab} (h : wS S) : ∀ c, c < S.n → c ≠ 0 → S.p c ≠ 0 := h.2.2.2.1
theorem wS.brn {S : Ab} (h : wS S) : ∀ b, b < 6 → S.br b ≤ S.n := h.2.2.2.2.1
theorem wS.cur6 {S : Ab} (h : wS S) : S.cur < 6 := h.2.2.2.2.2.1
theorem wS.curb {S : Ab} (h : wS S) : S.br S.cur ≠ 0 := h.2.2.2.2.2.2.1
theorem wS.op3 {S : Ab} (h : wS S) : S.op < 3 := h.2.2.2.2.2.2.2.1
theorem wS.mgn {S : Ab} (h : wS S) : S.mg ≤ S.n := h.2.2.2.2.2.2.2.2.1
theorem wS.ac3 {S : Ab} (h : wS S) : S.ac ≤ 3 := h.2.2.2.2.2.2.2.2.2.1
theorem wS.ahn {S : Ab} (h : wS S) : ∀ j, j < S.ac → S.ah j < S.n := h.2.2.2.2.2.2.2.2.2.2.1
theorem wS.Tv {S : Ab} (h : wS S) : ∀ c, c < S.n → ∀ i, i < 24 → S.T c i < 100 := h.2.2.2.2.2.2.2.2.2.2.2.1
theorem wS.Wv {S : Ab} (h : wS S) : ∀ i, i < 24 → S.W i < 100 := h.2.2.2.2.2.2.2.2.2.2.2.2.1
theorem wS.Ov {S : Ab} (h : wS S) : ∀ i, i < 24 → S.O i ≤ 100 := h.2.2.2.2.2.2.2.2.2.2.2.2.2.1
theorem wS.aTv {S : Ab} (h : wS S) : ∀ j, j < S.ac → ∀ i, i < 24 → S.aT j i < 100 := h.2.2.2.2.2.2.2.2.2.2.2.2.2.2
theorem wS.mk {S : Ab} (n1 : 1 ≤ S.n) (n60 : S.n ≤ 60) (par : wfP S.p S.q S.n) (root : ∀ c, c < S.n → c ≠ 0 → S.p c ≠ 0) (brn : ∀ b, b < 6 → S.br b ≤ S.n) (cur6 : S.cur < 6) (curb : S.br S.cur ≠ 0) (op3 : S.op < 3) (mgn : S.mg ≤ S.n) (ac3 : S.ac ≤ 3) (ahn : ∀ j, j < S.ac → S.ah j < S.n) (Tv : ∀ c, c < S.n → ∀ i, i < 24 → S.T c i < 100) (Wv : ∀ i, i < 24 → S.W i < 100) (Ov : ∀ i, i < 24 → S.O i ≤ 100) (aTv : ∀ j, j < S.ac → ∀ i, i < 24 → S.aT j i < 100) : wS S := ⟨n1, n60, par, root, brn, cur6, curb, op3, mgn, ac3, ahn, Tv, Wv, Ov, aTv⟩
/-- the class's State object o has it -/
def cR (F A : Nat → Nat → Int32) (o : Nat) (S : Ab) : Prop := (F o 0 = nI S.n) ∧ (F o 5 = nI S.cur) ∧ (F o 8 = nI S.op) ∧ (F o 9 = pk S.mg) ∧ (F o 10 = nI S.ac) ∧ (F o 13 = nI S.cf) ∧ (∀ c, c < S.n → A (o + 1) c = pk (S.p c)) ∧ (∀ c, c < S.n → A (o + 2) c = pk (S.q c)) ∧ (∀ c, c < S.n → ∀ i, i < 24 → A (o + 3) (c * 24 + i) = nI (S.T c i)) ∧ (∀ b, b < 6 → A (o + 4) b = pk (S.br b)) ∧ (∀ i, i < 24 → A (o + 5) i = nI (S.W i)) ∧ (∀ i, i < 24 → A (o + 6) i = pk (S.O i)) ∧ (∀ j, j < S.ac → A (o + 7) j = nI (S.ah j)) ∧ (∀ j, j < S.ac → ∀ i, i < 24 → A (o + 8) (j * 24 + i) = nI (S.aT j i))
theorem cR.n0 {F A : Nat → Nat → Int32} {o : Nat} {S : Ab} (h : cR F A o S) : F o 0 = nI S.n := h.1
theorem cR.cu {F A : Nat → Nat → Int32} {o : Nat} {S : Ab} (h : cR F A o S) : F o 5 = nI S.cur := h.2.1
theorem cR.op {F A : Nat → Nat → Int32} {o : Nat} {S : Ab} (h : cR F A o S) : F o 8 = nI S.op := h.2.2.1
theorem cR.mg {F A : Nat → Nat → Int32} {o : Nat} {S : Ab} (h : cR F A o S) : F o 9 = pk S.mg := h.2.2.2.1
theorem cR.ac {F A : Nat → Nat → Int32} {o : Nat} {S : Ab} (h : cR F A o S) : F o 10 = nI S.ac := h.2.2.2.2.1
theorem cR.cf {F A : Nat → Nat → Int32} {o : Nat} {S : Ab} (h : cR F A o S) : F o 13 = nI S.cf := h.2.2.2.2.2.1
theorem cR.p {F A : Nat → Nat → Int32} {o : Nat} {S : Ab} (h : cR F A o S) : ∀ c, c < S.n → A (o + 1) c = pk (S.p c) := h.2.2.2.2.2.2.1
theorem cR.q {F A : Nat → Nat → Int32} {o : Nat} {S : Ab} (h : cR F A o S) : ∀ c, c < S.n → A (o + 2) c = pk (S.q c) := h.2.2.2.2.2.2.2.1
theorem cR.T {F A : Nat → Nat → Int32} {o : Nat} {S : Ab} (h : cR F A o S) : ∀ c, c < S.n → ∀ i, i < 24 → A (o + 3) (c * 24 + i) = nI (S.T c i) := h.2.2.2.2.2.2.2.2.1
theorem cR.br {F A : Nat → Nat → Int32} {o : Nat} {S : Ab} (h : cR F A o S) : ∀ b, b < 6 → A (o + 4) b = pk (S.br b) := h.2.2.2.2.2.2.2.2.2.1
theorem cR.W {F A : Nat → Nat → Int32} {o : Nat} {S : Ab} (h : cR F A o S) : ∀ i, i < 24 → A (o + 5) i = nI (S.W i) := h.2.2.2.2.2.2.2.2.2.2.1
theorem cR.O {F A : Nat → Nat → Int32} {o : Nat} {S : Ab} (h : cR F A o S) : ∀ i, i < 24 → A (o + 6) i = pk (S.O i) := h.2.2.2.2.2.2.2.2.2.2.2.1
theorem cR.ah {F A : Nat → Nat → Int32} {o : Nat} {S : Ab} (h : cR F A o S) : ∀ j, j < S.ac → A (o + 7) j = nI (S.ah j) := h.2.2.2.2.2.2.2.2.2.2.2.2.1
theorem cR.aT {F A : Nat → Nat → Int32} {o : Nat} {S : Ab} (h : cR F A o S) : ∀ j, j < S.ac → ∀ i, i < 24 → A (o + 8) (j * 24 + i) = nI (S.aT j i) := h.2.2.2.2.2.2.2.2.2.2.2.2.2
theorem cR.mk {F A : Nat → Nat → Int32} {o : Nat} {S : Ab} (n0 : F o 0 = nI S.n) (cu : F o 5 = nI S.cur) (op : F o 8 = nI S.op) (mg : F o 9 = pk S.mg) (ac : F o 10 = nI S.ac) (cf : F o 13 = nI S.cf) (p : ∀ c, c < S.n → A (o + 1) c = pk (S.p c)) (q : ∀ c, c < S.n → A (o + 2) c = pk (S.q c)) (T : ∀ c, c < S.n → ∀ i, i < 24 → A (o + 3) (c * 24 + i) = nI (S.T c i)) (br : ∀ b, b < 6 → A (o + 4) b = pk (S.br b)) (W : ∀ i, i < 24 → A (o + 5) i = nI (S.W i)) (O : ∀ i, i < 24 → A (o + 6) i = pk (S.O i)) (ah : ∀ j, j < S.ac → A (o + 7) j = nI (S.ah j)) (aT : ∀ j, j < S.ac → ∀ i, i < 24 → A (o + 8) (j * 24 + i) = nI (S.aT j i)) : cR F A o S := ⟨n0, cu, op, mg, ac, cf, p, q, T, br, W, O, ah, aT⟩
/-- the model's row has it -/
def mR (f : Nat → Int32) (S : Ab) : Prop := (f 1762 = nI S.n) ∧ (f 1566 = nI S.cur) ∧ (f 1615 = nI S.op) ∧ (S.op = 1 → f 1616 = pk S.mg) ∧ (f 1617 = nI S.ac) ∧ (f 1763 = nI S.cf) ∧ (∀ c, c < S.n → f (1440 + c) = nI (S.p c)) ∧ (∀ c, c < S.n → f (1500 + c) = nI (S.q c)) ∧ (∀ c, c < S.n → ∀ i, i < 24 → f (24 * c + i) = nI (S.T c i)) ∧ (∀ b, b < 6 → f (1560 + b) = nI (S.br b)) ∧ (∀ i, i < 24 → f (1567 + i) = nI (S.W i)) ∧ (∀ i, i < 24 → f (1591 + i) = nI (S.O i)) ∧ (∀ j, j < S.ac → ∀ i, i < 24 → f (1618 + 48 * j + i) = nI (S.T (S.ah j) i)) ∧ (∀ j, j < S.ac → ∀ i, i < 24 → f (1618 + 48 * j + 24 + i) = nI (S.aT j i))
theorem mR.n0 {f : Nat → Int32} {S : Ab} (h : mR f S) : f 1762 = nI S.n := h.1
theorem mR.cu {f : Nat → Int32} {S : Ab} (h : mR f S) : f 1566 = nI S.cur := h.2.1
theorem mR.op {f : Nat → Int32} {S : Ab} (h : mR f S) : f 1615 = nI S.op := h.2.2.1
theorem mR.mg {f : Nat → Int32} {S : Ab} (h : mR f S) : S.op = 1 → f 1616 = pk S.mg := h.2.2.2.1
theorem mR.ac {f : Nat → Int32} {S : Ab} (h : mR f S) : f 1617 = nI S.ac := h.2.2.2.2.1
theorem mR.cf {f : Nat → Int32} {S : Ab} (h : mR f S) : f 1763 = nI S.cf := h.2.2.2.2.2.1
theorem mR.p {f : Nat → Int32} {S : Ab} (h : mR f S) : ∀ c, c < S.n → f (1440 + c) = nI (S.p c) := h.2.2.2.2.2.2.1
theorem mR.q {f : Nat → Int32} {S : Ab} (h : mR f S) : ∀ c, c < S.n → f (1500 + c) = nI (S.q c) := h.2.2.2.2.2.2.2.1
theorem mR.T {f : Nat → Int32} {S : Ab} (h : mR f S) : ∀ c, c < S.n → ∀ i, i < 24 → f (24 * c + i) = nI (S.T c i) := h.2.2.2.2.2.2.2.2.1
theorem mR.br {f : Nat → Int32} {S : Ab} (h : mR f S) : ∀ b, b < 6 → f (1560 + b) = nI (S.br b) := h.2.2.2.2.2.2.2.2.2.1
theorem mR.W {f : Nat → Int32} {S : Ab} (h : mR f S) : ∀ i, i < 24 → f (1567 + i) = nI (S.W i) := h.2.2.2.2.2.2.2.2.2.2.1
theorem mR.O {f : Nat → Int32} {S : Ab} (h : mR f S) : ∀ i, i < 24 → f (1591 + i) = nI (S.O i) := h.2.2.2.2.2.2.2.2.2.2.2.1
theorem mR.ah {f : Nat → Int32} {S : Ab} (h : mR f S) : ∀ j, j < S.ac → ∀ i, i < 24 → f (1618 + 48 * j + i) = nI (S.T (S.ah j) i) := h.2.2.2.2.2.2.2.2.2.2.2.2.1
theorem mR.aT {f : Nat → Int32} {S : Ab} (h : mR f S) : ∀ j, j < S.ac → ∀ i, i < 24 → f (1618 + 48 * j + 24 + i) = nI (S.aT j i) := h.2.2.2.2.2.2.2.2.2.2.2.2.2
theorem mR.mk {f : Nat → Int32} {S : Ab} (n0 : f 1762 = nI S.n) (cu : f 1566 = nI S.cur) (op : f 1615 = nI S.op) (mg : S.op = 1 → f 1616 = pk S.mg) (ac : f 1617 = nI S.ac) (cf : f 1763 = nI S.cf) (p : ∀ c, c < S.n → f (1440 + c) = nI (S.p c)) (q : ∀ c, c < S.n → f (1500 + c) = nI (S.q c)) (T : ∀ c, c < S.n → ∀ i, i < 24 → f (24 * c + i) = nI (S.T c i)) (br : ∀ b, b < 6 → f (1560 + b) = nI (S.br b)) (W : ∀ i, i < 24 → f (1567 + i) = nI (S.W i)) (O : ∀ i, i < 24 → f (1591 + i) = nI (S.O i)) (ah : ∀ j, j < S.ac → ∀ i, i < 24 → f (1618 + 48 * j + i) = nI (S.T (S.ah j) i)) (aT : ∀ j, j < S.ac → ∀ i, i < 24 → f (1618 + 48 * j + 24 + i) = nI (S.aT j i)) : mR f S := ⟨n0, cu, op, mg, ac, cf, p, q, T, br, W, O, ah, aT⟩
def hd (S : Ab) : Nat := S.br S.cur - 1
theorem hd_pk {S : Ab} (h : wS S) : pk (S.br S.cur) = nI (hd S) := by
  unfold pk
  rw [if_neg h.curb]
  rfl
theorem hd_n {S : Ab} (h : wS S) : hd S < S.n := by
  have h1 := h.brn S.cur h.cur6
  have h2 := h.curb
  have h3 := h.n1
  unfold hd
  omega
theorem br_hd {S : Ab} (h : wS S) : S.br S.cur = hd S + 1 := by
  have h2 := h.curb
  unfold hd
  omega
/-! what the changes do -/
def stand (S : Ab) (c : Nat) : Ab := mkA S.n S.cur (0) (0) S.ac S.cf S.p S.q (va_up S.br S.cur (c + 1)) (S.T c) (fun _ => 0) S.ah S.T S.aT
def addC0 (S : Ab) (v : Nat) : Ab := mkA (S.n + 1) S.cur S.op S.mg S.ac S.cf (va_up S.p S.n (S.br S.cur)) (va_up S.q S.n v) S.br S.W S.O S.ah (va_up S.T S.n S.W) S.aT
def addC (S : Ab) (v : Nat) : Ab := stand (addC0 S v) S.n
def setL (S : Ab) (i v : Nat) : Ab := mkA S.n S.cur S.op S.mg S.ac S.cf S.p S.q S.br (va_up S.W i v) (va_up S.O i 0) S.ah S.T S.aT
def setB (S : Ab) (b z : Nat) : Ab := mkA S.n S.cur S.op S.mg S.ac S.cf S.p S.q (va_up S.br b z) S.W S.O S.ah S.T S.aT
def push (S : Ab) : Ab := mkA S.n S.cur S.op S.mg (S.ac + 1) S.cf S.p S.q S.br S.W S.O (va_up S.ah S.ac (hd S)) S.T (va_up S.aT S.ac S.W)
/-! a change, combined: the line comes, or clashes -/
def kB (o w t : Nat → Nat) : Nat → Bool := fun i => decide (¬ w i = o i ∧ ¬ w i = t i ∧ t i = o i)
def kC (o w t : Nat → Nat) : Nat → Bool := fun i => decide (¬ w i = o i ∧ ¬ w i = t i ∧ ¬ t i = o i)
def kT (o w t : Nat → Nat) : Nat → Nat := fun i => if kB o w t i = true then w i else t i
def kO (o w t : Nat → Nat) : Nat → Nat := fun i => if kC o w t i = true then w i + 1 else 0
/-- the combination holds it -/
def cmR (F A : Nat → Nat → Int32) (o w t : Nat → Nat) : Prop := (F 17 4 = nI (cnt (kB o w t) 24)) ∧ (F 17 5 = nI (cnt (kC o w t) 24)) ∧ (∀ i, i < 24 → A 20 i = nI (kT o w t i)) ∧ (∀ i, i < 24 → A 21 i = pk (kO o w t i))
theorem cmR.b {F A : Nat → Nat → Int32} {o w t : Nat → Nat} (h : cmR F A o w t) : F 17 4 = nI (cnt (kB o w t) 24) := h.1
theorem cmR.c {F A : Nat → Nat → Int32} {o w t : Nat → Nat} (h : cmR F A o w t) : F 17 5 = nI (cnt (kC o w t) 24) := h.2.1
theorem cmR.T {F A : Nat → Nat → Int32} {o w t : Nat → Nat} (h : cmR F A o w t) : ∀ i, i < 24 → A 20 i = nI (kT o w t i) := h.2.2.1
theorem cmR.O {F A : Nat → Nat → Int32} {o w t : Nat → Nat} (h : cmR F A o w t) : ∀ i, i < 24 → A 21 i = pk (kO o w t i) := h.2.2.2
theorem cmR.mk {F A : Nat → Nat → Int32} {o w t : Nat → Nat} (b : F 17 4 = nI (cnt (kB o w t) 24)) (c : F 17 5 = nI (cnt (kC o w t) 24)) (T : ∀ i, i < 24 → A 20 i = nI (kT o w t i)) (O : ∀ i, i < 24 → A 21 i = pk (kO o w t i)) : cmR F A o w t := ⟨b, c, T, O⟩
theorem cnt_lt {f g : Nat → Bool} {n : Nat} (h : ∀ i, i < n → f i = g i) : cnt f n = cnt g n := cnt_congr h
theorem kk_B {o w t : Nat → Nat} {a b c : Nat → Int32} (ha : ∀ i, i < 24 → a i = nI (o i)) (hb : ∀ i, i < 24 → b i = nI (w i)) (hc : ∀ i, i < 24 → c i = nI (t i)) (v1 : ∀ i, i < 24 → o i < 100) (v2 : ∀ i, i < 24 → w i < 100) (v3 : ∀ i, i < 24 → t i < 100) {i : Nat} (hi : i < 24) : cmB a b c i = kB o w t i ∧ cmC a b c i = kC o w t i := by
  have h1 := v1 i hi
  have h2 := v2 i hi
  have h3 := v3 i hi
  unfold cmB cmC kB kC
  rw [ha i hi, hb i hi, hc i hi]
  refine ⟨decide_eq_decide.mpr ?_, decide_eq_decide.mpr ?_⟩
  · rw [n_eq (a := w i) (b := o i) (by omega) (by omega), n_eq (a := w i) (b := t i) (by omega) (by omega), n_eq (a := t i) (b := o i) (by omega) (by omega)]
  · rw [n_eq (a := w i) (b := o i) (by omega) (by omega), n_eq (a := w i) (b := t i) (by omega) (by omega), n_eq (a := t i) (b := o i) (by omega) (by omega)]
/-- what is left of a call's scratch: all but the state of now, the combination and the rows of marks is as before -/
def Fr (F A F2 A2 : Nat → Nat → Int32) : Prop := (∀ o, o ≠ 4 → o ≠ 17 → F2 o = F o) ∧ (∀ o, (o < 5 ∨ 12 < o) → (o < 14 ∨ 22 < o) → A2 o = A o)
theorem Fr.f {F A F2 A2 : Nat → Nat → Int32} (h : Fr F A F2 A2) : ∀ o, o ≠ 4 → o ≠ 17 → F2 o = F o := h.1
theorem Fr.a {F A F2 A2 : Nat → Nat → Int32} (h : Fr F A F2 A2) : ∀ o, (o < 5 ∨ 12 < o) → (o < 14 ∨ 22 < o) → A2 o = A o := h.2
theorem Fr.mk {F A F2 A2 : Nat → Nat → Int32} (f : ∀ o, o ≠ 4 → o ≠ 17 → F2 o = F o) (a : ∀ o, (o < 5 ∨ 12 < o) → (o < 14 ∨ 22 < o) → A2 o = A o) : Fr F A F2 A2 := ⟨f, a⟩
theorem Fr_id {F A : Nat → Nat → Int32} : Fr F A F A := ⟨fun _ _ _ => rfl, fun _ _ _ => rfl⟩
theorem Fr_tr {F A F2 A2 F3 A3 : Nat → Nat → Int32} (h : Fr F A F2 A2) (g : Fr F2 A2 F3 A3) : Fr F A F3 A3 := ⟨fun o h1 h2 => (g.f o h1 h2).trans (h.f o h1 h2), fun o h1 h2 => (g.a o h1 h2).trans (h.a o h1 h2)⟩
/-- a call that comes to its end -/
def Do (X : am_X) (d m : Nat) (args : List Value) (st : am_S) (r : Option Value ⊕ Nat) (st2 : am_S) : Prop := ∀ P : am_Q, am_Ca X d m args st P = P r st2
theorem Fr_f2 {F A : Nat → Nat → Int32} {o k : Nat} {v : Int32} (h : o = 4 ∨ o = 17) : Fr F A (am_f2 F o k v) A := ⟨fun x h1 h2 => f2_ne (by rcases h with rfl | rfl <;> assumption), fun _ _ _ => rfl⟩
theorem Fr_up {F A : Nat → Nat → Int32} {o : Nat} {g : Nat → Int32} (h : (5 ≤ o ∧ o ≤ 12) ∨ (14 ≤ o ∧ o ≤ 22)) : Fr F A F (va_up A o g) := ⟨fun _ _ _ => rfl, fun x h1 h2 => up_ne (by omega)⟩
theorem Fr_u2 {F A : Nat → Nat → Int32} {o k : Nat} {v : Int32} (h : (5 ≤ o ∧ o ≤ 12) ∨ (14 ≤ o ∧ o ≤ 22)) : Fr F A F (am_f2 A o k v) := Fr_up h
section CR
variable {F A F2 A2 : Nat → Nat → Int32} {o : Nat} {S : Ab}
/-- it lives in few places -/
theorem cR_cg (R : cR F A o S) (hf : F2 o = F o) (ha : ∀ k, 1 ≤ k → k ≤ 8 → A2 (o + k) = A (o + k)) : cR F2 A2 o S := by
  have a1 := ha 1 (by decide) (by decide)
  have a2 := ha 2 (by decide) (by decide)
  have a3 := ha 3 (by decide) (by decide)
  have a4 := ha 4 (by decide) (by decide)
  have a5 := ha 5 (by decide) (by decide)
  have a6 := ha 6 (by decide) (by decide)
  have a7 := ha 7 (by decide) (by decide)
  have a8 := ha 8 (by decide) (by decide)
  refine cR.mk ?_ ?_ ?_ ?_ ?_ ?_ ?_ ?_ ?_ ?_ ?_ ?_ ?_ ?_
  · rw [hf]; exact R.n0
  · rw [hf]; exact R.cu
  · rw [hf]; exact R.op
  · rw [hf]; exact R.mg
  · rw [hf]; exact R.ac
  · rw [hf]; exact R.cf
  · rw [a1]; exact R.p
  · rw [a2]; exact R.q
  · rw [a3]; exact R.T
  · rw [a4]; exact R.br
  · rw [a5]; exact R.W
  · rw [a6]; exact R.O
  · rw [a7]; exact R.ah
  · rw [a8]; exact R.aT
theorem cR_fr (R : cR F A o S) (h : Fr F A F2 A2) (ho : 22 ≤ o) : cR F2 A2 o S := cR_cg R (h.f o (by omega) (by omega)) (fun k h1 h2 => h.a (o + k) (by omega) (by omega))
theorem wf_of (R : cR F A 4 S) (h : wS S) : wfA A S.p S.q S.n := ⟨h.par, R.p, R.q⟩
/-- a scratch row changes nothing of it -/
theorem cR_scr {z : Nat} {g : Nat → Int32} (R : cR F A 4 S) (hz : z < 5 ∨ 12 < z) : cR F (va_up A z g) 4 S := cR_cg R rfl (fun k h1 h2 => up_ne (by omega))
theorem cR_stand {c : Nat} (R : cR F A 4 S) (h : wS S) (hc : c < S.n) : cR (ksF F) (ksA A S.cur c) 4 (stand S c) := by
  refine cR.mk ?_ ?_ ?_ ?_ ?_ ?_ ?_ ?_ ?_ ?_ ?_ ?_ ?_ ?_
  · simp only [ksF, am_f2, va_up]; exact R.n0
  · simp only [ksF, am_f2, va_up]; exact R.cu
  · show ksF F 4 8 = nI 0
    simp [ksF, am_f2, va_up]
  · show ksF F 4 9 = m1
    simp [ksF, am_f2, va_up]
  · simp only [ksF, am_f2, va_up]; exact R.ac
  · simp only [ksF, am_f2, va_up]; exact R.cf
  · exact fun c hc => (show ksA A S.cur _ 5 c = A 5 c by simp [ksA, am_f2, va_up]).trans (R.p c hc)
  · exact fun c hc => (show ksA A S.cur _ 6 c = A 6 c by simp [ksA, am_f2, va_up]).trans (R.q c hc)
  · exact fun c hc i hi => (show ksA A S.cur _ 7 _ = A 7 _ by simp [ksA, am_f2, va_up]).trans (R.T c hc i hi)
  · intro b hb
    show ksA A S.cur c 8 b = pk (va_up S.br S.cur (c + 1) b)
    rw [show ksA A S.cur c 8 = va_up (A 8) S.cur (nI c) by simp [ksA, am_f2, va_up]]
    by_cases e : b = S.cur
    · subst e; rw [up_eq, up_eq, pk_s]
    · rw [up_ne e, up_ne e]; exact R.br b hb
  · intro i hi
    show ksA A S.cur c 9 i = nI (S.T c i)
    rw [show ksA A S.cur c 9 = va_cpy (A 7) (A 9) (c * 24) 0 24 by simp [ksA, am_f2, va_up], cpy_in (by omega) (by omega)]
    exact R.T c hc i hi
  · intro i hi
    show ksA A S.cur c 10 i = pk 0
    rw [show ksA A S.cur c 10 = fil m1 24 (A 10) by simp [ksA, am_f2, va_up], fil_in hi]
    rfl
  · exact fun j hj => (show ksA A S.cur _ 11 j = A 11 j by simp [ksA, am_f2, va_up]).trans (R.ah j hj)
  · exact fun j hj i hi => (show ksA A S.cur _ 12 _ = A 12 _ by simp [ksA, am_f2, va_up]).trans (R.aT j hj i hi)
theorem Fr_stand {b c : Nat} : Fr F A (ksF F) (ksA A b c) := Fr_tr (Fr_tr (Fr_tr (Fr_tr (Fr_f2 (Or.inl rfl)) (Fr_f2 (Or.inl rfl))) (Fr_u2 (o := 8) (by omega))) (Fr_up (o := 9) (by omega))) (Fr_up (o := 10) (by omega))
theorem wS_stand {c : Nat} (h : wS S) (hc : c < S.n) : wS (stand S c) := wS.mk
  (n1 := h.n1)
  (n60 := h.n60)
  (par := h.par)
  (root := h.root)
  (brn := fun b hb => by
    show va_up S.br S.cur (c + 1) b ≤ S.n
    by_cases e : b = S.cur
    · subst e; rw [up_eq]; omega
    · rw [up_ne e]; exact h.brn b hb)
  (cur6 := h.cur6)
  (curb := by
    show va_up S.br S.cur (c + 1) S.cur ≠ 0
    rw [up_eq]; omega)
  (op3 := by show 0 < 3; decide)
  (mgn := Nat.zero_le _)
  (ac3 := h.ac3)
  (ahn := h.ahn)
  (Tv := h.Tv)
  (Wv := h.Tv c hc)
  (Ov := fun _ _ => Nat.zero_le _)
  (aTv := h.aTv)
end CR
