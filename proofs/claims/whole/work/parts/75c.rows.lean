/-! each instruction as a rewriting row -/
section UU
variable {d o n cl sl : Nat} {X : am_X} {sk : List Value} {st : am_S} {Q : am_Q} {sh : Nat → am_D} {F A : Nat → Nat → Int32} {L : Nat → Nat → Int64}
set_option maxRecDepth 100000 in
set_option maxRecDepth 100000 in
theorem u8900_1632 {v0 : Value} {v1 : Value} {v2 : Value} {v3 : Value} {v4 : Value} {v5 : Value} {v6 : Value} {v7 : Value} {v8 : Value} {x : Int32} : am_g d X am_m8900 1632 [v0, v1, v2, v3, v4, v5, v6, v7, v8] (.int x :: sk) st Q = am_g d X am_m8900 1633 [v0, v1, v2, v3, v4, v5, v6, v7, v8] (.long x.toInt64 :: sk) st Q := am_gu.trans rfl
set_option maxRecDepth 100000 in
theorem u8900_1633 {v0 : Value} {v1 : Value} {v2 : Value} {v3 : Value} {v4 : Value} {v5 : Value} {v6 : Value} {v7 : Value} {v8 : Value} {x : Int64} {y : Int64} : am_g d X am_m8900 1633 [v0, v1, v2, v3, v4, v5, v6, v7, v8] (.long y :: .long x :: sk) st Q = am_g d X am_m8900 1634 [v0, v1, v2, v3, v4, v5, v6, v7, v8] (.int (lg_cmp x y) :: sk) st Q := am_gu.trans rfl
set_option maxRecDepth 100000 in
theorem u8900_1634 {v0 : Value} {v1 : Value} {v2 : Value} {v3 : Value} {v4 : Value} {v5 : Value} {v6 : Value} {v7 : Value} {v8 : Value} {x : Int32} : am_g d X am_m8900 1634 [v0, v1, v2, v3, v4, v5, v6, v7, v8] (.int x :: sk) st Q = (if decide (x = 0) = true then am_g d X am_m8900 1639 [v0, v1, v2, v3, v4, v5, v6, v7, v8] sk st Q else am_g d X am_m8900 1637 [v0, v1, v2, v3, v4, v5, v6, v7, v8] sk st Q) := am_gu.trans rfl
set_option maxRecDepth 100000 in
theorem u8900_1637 {v0 : Value} {v1 : Value} {v2 : Value} {v3 : Value} {v4 : Value} {v5 : Value} {v6 : Value} {v7 : Value} {v8 : Value} : am_g d X am_m8900 1637 [v0, v1, v2, v3, v4, v5, v6, v7, v8] sk st Q = am_g d X am_m8900 1638 [v0, v1, v2, v3, v4, v5, v6, v7, v8] (.int (am_i 0) :: sk) st Q := am_gu.trans rfl
set_option maxRecDepth 100000 in
theorem u8900_1638 {v0 : Value} {v1 : Value} {v2 : Value} {v3 : Value} {v4 : Value} {v5 : Value} {v6 : Value} {v7 : Value} {v8 : Value} {x : Int32} : am_g d X am_m8900 1638 [v0, v1, v2, v3, v4, v5, v6, v7, v8] [.int x] st Q = ((x = 0 ∨ x = 1) ∧ Q (.inl (some (.int x))) st) := am_gu.trans rfl
set_option maxRecDepth 100000 in
theorem u8900_1639 {v0 : Value} {v1 : Value} {v2 : Value} {v3 : Value} {v4 : Value} {v5 : Value} {v6 : Value} {v7 : Value} {v8 : Value} : am_g d X am_m8900 1639 [v0, v1, v2, v3, v4, v5, v6, v7, v8] sk st Q = am_g d X am_m8900 2998 [v0, v1, v2, v3, v4, v5, v6, v7, v8] sk st Q := am_gu.trans rfl
set_option maxRecDepth 100000 in
theorem u8900_1642 {v0 : Value} {v2 : Value} {v3 : Value} {v4 : Value} {v5 : Value} {v6 : Value} {v7 : Value} {v8 : Value} {x : Nat} : am_g d X am_m8900 1642 [v0, .ref x, v2, v3, v4, v5, v6, v7, v8] sk st Q = am_g d X am_m8900 1643 [v0, .ref x, v2, v3, v4, v5, v6, v7, v8] (.ref x :: sk) st Q := am_gu.trans rfl
set_option maxRecDepth 100000 in
theorem u8900_1643 {v1 : Value} {v2 : Value} {v3 : Value} {v4 : Value} {v5 : Value} {v6 : Value} {v7 : Value} {v8 : Value} : am_g d X am_m8900 1643 [.retAddr 0, v1, v2, v3, v4, v5, v6, v7, v8] sk st Q = am_g d X am_m8900 1644 [.retAddr 0, v1, v2, v3, v4, v5, v6, v7, v8] (.retAddr 0 :: sk) st Q := am_gu.trans rfl
set_option maxRecDepth 100000 in
theorem u8900_1644 {v0 : Value} {v1 : Value} {v2 : Value} {v3 : Value} {v5 : Value} {v6 : Value} {v7 : Value} {v8 : Value} {x : Int32} : am_g d X am_m8900 1644 [v0, v1, v2, v3, .int x, v5, v6, v7, v8] sk st Q = am_g d X am_m8900 1646 [v0, v1, v2, v3, .int x, v5, v6, v7, v8] (.int x :: sk) st Q := am_gu.trans rfl
set_option maxRecDepth 100000 in
theorem u8900_1646 {v0 : Value} {v1 : Value} {v2 : Value} {v3 : Value} {v4 : Value} {v5 : Value} {v6 : Value} {v7 : Value} {v8 : Value} : am_g d X am_m8900 1646 [v0, v1, v2, v3, v4, v5, v6, v7, v8] sk st Q = am_g d X am_m8900 1647 [v0, v1, v2, v3, v4, v5, v6, v7, v8] (.int (am_i 1) :: sk) st Q := am_gu.trans rfl
set_option maxRecDepth 100000 in
theorem u8900_1647 {v0 : Value} {v1 : Value} {v2 : Value} {v3 : Value} {v4 : Value} {v5 : Value} {v6 : Value} {v7 : Value} {v8 : Value} {x : Int32} {y : Int32} : am_g d X am_m8900 1647 [v0, v1, v2, v3, v4, v5, v6, v7, v8] (.int y :: .int x :: sk) st Q = am_g d X am_m8900 1648 [v0, v1, v2, v3, v4, v5, v6, v7, v8] (.int (x + y) :: sk) st Q := am_gu.trans rfl
set_option maxRecDepth 100000 in
theorem u8900_1648 {v0 : Value} {v1 : Value} {v2 : Value} {v3 : Value} {v4 : Value} {v5 : Value} {v6 : Value} {v7 : Value} {v8 : Value} : am_g d X am_m8900 1648 [v0, v1, v2, v3, v4, v5, v6, v7, v8] sk st Q = am_xl (X.1, X.2.1, d) am_m8900 1649 [v0, v1, v2, v3, v4, v5, v6, v7, v8] sk st (fun pc lc sk st => am_g d X am_m8900 pc lc sk st Q) := am_gu.trans rfl
set_option maxRecDepth 100000 in
theorem u8900_1649 {v1 : Value} {v2 : Value} {v3 : Value} {v4 : Value} {v5 : Value} {v6 : Value} {v7 : Value} {v8 : Value} : am_g d X am_m8900 1649 [.retAddr 0, v1, v2, v3, v4, v5, v6, v7, v8] sk st Q = am_g d X am_m8900 1650 [.retAddr 0, v1, v2, v3, v4, v5, v6, v7, v8] (.retAddr 0 :: sk) st Q := am_gu.trans rfl
set_option maxRecDepth 100000 in
theorem u8900_1650 {v0 : Value} {v1 : Value} {v2 : Value} {v3 : Value} {v5 : Value} {v6 : Value} {v7 : Value} {v8 : Value} {x : Int32} : am_g d X am_m8900 1650 [v0, v1, v2, v3, .int x, v5, v6, v7, v8] sk st Q = am_g d X am_m8900 1652 [v0, v1, v2, v3, .int x, v5, v6, v7, v8] (.int x :: sk) st Q := am_gu.trans rfl
set_option maxRecDepth 100000 in
theorem u8900_1652 {v0 : Value} {v1 : Value} {v2 : Value} {v3 : Value} {v4 : Value} {v5 : Value} {v6 : Value} {v7 : Value} {v8 : Value} : am_g d X am_m8900 1652 [v0, v1, v2, v3, v4, v5, v6, v7, v8] sk st Q = am_g d X am_m8900 1653 [v0, v1, v2, v3, v4, v5, v6, v7, v8] (.int (am_i 2) :: sk) st Q := am_gu.trans rfl
set_option maxRecDepth 100000 in
theorem u8900_1653 {v0 : Value} {v1 : Value} {v2 : Value} {v3 : Value} {v4 : Value} {v5 : Value} {v6 : Value} {v7 : Value} {v8 : Value} {x : Int32} {y : Int32} : am_g d X am_m8900 1653 [v0, v1, v2, v3, v4, v5, v6, v7, v8] (.int y :: .int x :: sk) st Q = am_g d X am_m8900 1654 [v0, v1, v2, v3, v4, v5, v6, v7, v8] (.int (x + y) :: sk) st Q := am_gu.trans rfl
set_option maxRecDepth 100000 in
theorem u8900_1654 {v0 : Value} {v1 : Value} {v2 : Value} {v3 : Value} {v4 : Value} {v5 : Value} {v6 : Value} {v7 : Value} {v8 : Value} : am_g d X am_m8900 1654 [v0, v1, v2, v3, v4, v5, v6, v7, v8] sk st Q = am_xl (X.1, X.2.1, d) am_m8900 1655 [v0, v1, v2, v3, v4, v5, v6, v7, v8] sk st (fun pc lc sk st => am_g d X am_m8900 pc lc sk st Q) := am_gu.trans rfl
set_option maxRecDepth 100000 in
theorem u8900_1655 {v0 : Value} {v1 : Value} {v2 : Value} {v4 : Value} {v5 : Value} {v6 : Value} {v7 : Value} {v8 : Value} {x : Nat} : am_g d X am_m8900 1655 [v0, v1, v2, .ref x, v4, v5, v6, v7, v8] sk st Q = am_g d X am_m8900 1656 [v0, v1, v2, .ref x, v4, v5, v6, v7, v8] (.ref x :: sk) st Q := am_gu.trans rfl
set_option maxRecDepth 100000 in
theorem u8900_1656 {a0 : Value} {a1 : Value} {a2 : Value} {a3 : Value} {v0 : Value} {v1 : Value} {v2 : Value} {v3 : Value} {v4 : Value} {v5 : Value} {v6 : Value} {v7 : Value} {v8 : Value} : am_g d X am_m8900 1656 [v0, v1, v2, v3, v4, v5, v6, v7, v8] (a3 :: a2 :: a1 :: a0 :: sk) st Q = (sk.length ≤ 4 ∧ am_Ca X d 8022 [a0, a1, a2, a3] st (am_af am_m8900 1656 [v0, v1, v2, v3, v4, v5, v6, v7, v8] sk (fun pc lc sk st => am_g d X am_m8900 pc lc sk st Q) Q)) := am_gu.trans (propext ⟨fun h => ⟨h.1.2, h.2⟩, fun h => ⟨⟨Nat.le_add_left _ _, h.1⟩, h.2⟩⟩)
set_option maxRecDepth 100000 in
theorem u8900_1659 {v0 : Value} {v1 : Value} {v2 : Value} {v3 : Value} {v4 : Value} {v5 : Value} {v6 : Value} {v7 : Value} {v8 : Value} {x : Int32} : am_g d X am_m8900 1659 [v0, v1, v2, v3, v4, v5, v6, v7, v8] (.int x :: sk) st Q = am_g d X am_m8900 1661 [v0, v1, v2, v3, am_kc v4, .int x, v6, v7, v8] sk st Q := am_gu.trans (congrArg (fun l => am_g d X am_m8900 1661 (List.set l 5 (.int x)) sk st Q) (kl_5 (l := [v5, v6, v7, v8])))
set_option maxRecDepth 100000 in
theorem u8900_1661 {v0 : Value} {v1 : Value} {v3 : Value} {v4 : Value} {v5 : Value} {v6 : Value} {v7 : Value} {v8 : Value} {x : Nat} : am_g d X am_m8900 1661 [v0, v1, .ref x, v3, v4, v5, v6, v7, v8] sk st Q = am_g d X am_m8900 1662 [v0, v1, .ref x, v3, v4, v5, v6, v7, v8] (.ref x :: sk) st Q := am_gu.trans rfl
set_option maxRecDepth 100000 in
theorem u8900_1662 {v1 : Value} {v2 : Value} {v3 : Value} {v4 : Value} {v5 : Value} {v6 : Value} {v7 : Value} {v8 : Value} : am_g d X am_m8900 1662 [.retAddr 0, v1, v2, v3, v4, v5, v6, v7, v8] sk st Q = am_g d X am_m8900 1663 [.retAddr 0, v1, v2, v3, v4, v5, v6, v7, v8] (.retAddr 0 :: sk) st Q := am_gu.trans rfl
set_option maxRecDepth 100000 in
theorem u8900_1663 {v0 : Value} {v1 : Value} {v2 : Value} {v3 : Value} {v5 : Value} {v6 : Value} {v7 : Value} {v8 : Value} {x : Int32} : am_g d X am_m8900 1663 [v0, v1, v2, v3, .int x, v5, v6, v7, v8] sk st Q = am_g d X am_m8900 1665 [v0, v1, v2, v3, .int x, v5, v6, v7, v8] (.int x :: sk) st Q := am_gu.trans rfl
set_option maxRecDepth 100000 in
theorem u8900_1665 {v0 : Value} {v1 : Value} {v2 : Value} {v3 : Value} {v4 : Value} {v5 : Value} {v6 : Value} {v7 : Value} {v8 : Value} : am_g d X am_m8900 1665 [v0, v1, v2, v3, v4, v5, v6, v7, v8] sk st Q = am_g d X am_m8900 1666 [v0, v1, v2, v3, v4, v5, v6, v7, v8] (.int (am_i 1) :: sk) st Q := am_gu.trans rfl
set_option maxRecDepth 100000 in
theorem u8900_1666 {v0 : Value} {v1 : Value} {v2 : Value} {v3 : Value} {v4 : Value} {v5 : Value} {v6 : Value} {v7 : Value} {v8 : Value} {x : Int32} {y : Int32} : am_g d X am_m8900 1666 [v0, v1, v2, v3, v4, v5, v6, v7, v8] (.int y :: .int x :: sk) st Q = am_g d X am_m8900 1667 [v0, v1, v2, v3, v4, v5, v6, v7, v8] (.int (x + y) :: sk) st Q := am_gu.trans rfl
set_option maxRecDepth 100000 in
theorem u8900_1667 {v0 : Value} {v1 : Value} {v2 : Value} {v3 : Value} {v4 : Value} {v5 : Value} {v6 : Value} {v7 : Value} {v8 : Value} : am_g d X am_m8900 1667 [v0, v1, v2, v3, v4, v5, v6, v7, v8] sk st Q = am_xl (X.1, X.2.1, d) am_m8900 1668 [v0, v1, v2, v3, v4, v5, v6, v7, v8] sk st (fun pc lc sk st => am_g d X am_m8900 pc lc sk st Q) := am_gu.trans rfl
set_option maxRecDepth 100000 in
theorem u8900_1668 {v1 : Value} {v2 : Value} {v3 : Value} {v4 : Value} {v5 : Value} {v6 : Value} {v7 : Value} {v8 : Value} : am_g d X am_m8900 1668 [.retAddr 0, v1, v2, v3, v4, v5, v6, v7, v8] sk st Q = am_g d X am_m8900 1669 [.retAddr 0, v1, v2, v3, v4, v5, v6, v7, v8] (.retAddr 0 :: sk) st Q := am_gu.trans rfl
set_option maxRecDepth 100000 in
theorem u8900_1669 {v0 : Value} {v1 : Value} {v2 : Value} {v3 : Value} {v5 : Value} {v6 : Value} {v7 : Value} {v8 : Value} {x : Int32} : am_g d X am_m8900 1669 [v0, v1, v2, v3, .int x, v5, v6, v7, v8] sk st Q = am_g d X am_m8900 1671 [v0, v1, v2, v3, .int x, v5, v6, v7, v8] (.int x :: sk) st Q := am_gu.trans rfl
set_option maxRecDepth 100000 in
theorem u8900_1671 {v0 : Value} {v1 : Value} {v2 : Value} {v3 : Value} {v4 : Value} {v5 : Value} {v6 : Value} {v7 : Value} {v8 : Value} : am_g d X am_m8900 1671 [v0, v1, v2, v3, v4, v5, v6, v7, v8] sk st Q = am_g d X am_m8900 1672 [v0, v1, v2, v3, v4, v5, v6, v7, v8] (.int (am_i 2) :: sk) st Q := am_gu.trans rfl
set_option maxRecDepth 100000 in
theorem u8900_1672 {v0 : Value} {v1 : Value} {v2 : Value} {v3 : Value} {v4 : Value} {v5 : Value} {v6 : Value} {v7 : Value} {v8 : Value} {x : Int32} {y : Int32} : am_g d X am_m8900 1672 [v0, v1, v2, v3, v4, v5, v6, v7, v8] (.int y :: .int x :: sk) st Q = am_g d X am_m8900 1673 [v0, v1, v2, v3, v4, v5, v6, v7, v8] (.int (x + y) :: sk) st Q := am_gu.trans rfl
set_option maxRecDepth 100000 in
theorem u8900_1673 {v0 : Value} {v1 : Value} {v2 : Value} {v3 : Value} {v4 : Value} {v5 : Value} {v6 : Value} {v7 : Value} {v8 : Value} : am_g d X am_m8900 1673 [v0, v1, v2, v3, v4, v5, v6, v7, v8] sk st Q = am_xl (X.1, X.2.1, d) am_m8900 1674 [v0, v1, v2, v3, v4, v5, v6, v7, v8] sk st (fun pc lc sk st => am_g d X am_m8900 pc lc sk st Q) := am_gu.trans rfl
set_option maxRecDepth 100000 in
theorem u8900_1674 {a0 : Value} {a1 : Value} {v0 : Value} {v1 : Value} {v2 : Value} {v3 : Value} {v4 : Value} {v5 : Value} {v6 : Value} {v7 : Value} {v8 : Value} : am_g d X am_m8900 1674 [v0, v1, v2, v3, v4, v5, v6, v7, v8] (a1 :: a0 :: .ref o :: sk) st Q = ((am_ob st o 7 ∧ sk.length ≤ 4) ∧ am_Ca X d 7096 [.ref o, a0, a1] st (am_af am_m8900 1674 [v0, v1, v2, v3, v4, v5, v6, v7, v8] sk (fun pc lc sk st => am_g d X am_m8900 pc lc sk st Q) Q)) := am_gu.trans rfl
set_option maxRecDepth 100000 in
theorem u8900_1677 {v0 : Value} {v1 : Value} {v2 : Value} {v3 : Value} {v4 : Value} {v5 : Value} {v6 : Value} {v7 : Value} {v8 : Value} {x : Int32} : am_g d X am_m8900 1677 [v0, v1, v2, v3, v4, v5, v6, v7, v8] (.int x :: sk) st Q = am_g d X am_m8900 1679 [v0, v1, v2, v3, v4, am_kc v5, .int x, v7, v8] sk st Q := am_gu.trans (congrArg (fun l => am_g d X am_m8900 1679 (List.set l 6 (.int x)) sk st Q) (kl_6 (l := [v6, v7, v8])))
set_option maxRecDepth 100000 in
theorem u8900_1679 {v0 : Value} {v1 : Value} {v3 : Value} {v4 : Value} {v5 : Value} {v6 : Value} {v7 : Value} {v8 : Value} {x : Nat} : am_g d X am_m8900 1679 [v0, v1, .ref x, v3, v4, v5, v6, v7, v8] sk st Q = am_g d X am_m8900 1680 [v0, v1, .ref x, v3, v4, v5, v6, v7, v8] (.ref x :: sk) st Q := am_gu.trans rfl
set_option maxRecDepth 100000 in
theorem u8900_1680 {v0 : Value} {v1 : Value} {v2 : Value} {v3 : Value} {v4 : Value} {v5 : Value} {v6 : Value} {v7 : Value} {v8 : Value} : am_g d X am_m8900 1680 [v0, v1, v2, v3, v4, v5, v6, v7, v8] (.ref o :: sk) st Q = ((am_ob st o 7 ∧ sk.length ≤ 4) ∧ am_Ca X d 7002 [.ref o] st (am_af am_m8900 1680 [v0, v1, v2, v3, v4, v5, v6, v7, v8] sk (fun pc lc sk st => am_g d X am_m8900 pc lc sk st Q) Q)) := am_gu.trans rfl
set_option maxRecDepth 100000 in
theorem u8900_1683 {v0 : Value} {v1 : Value} {v2 : Value} {v3 : Value} {v4 : Value} {v6 : Value} {v7 : Value} {v8 : Value} {x : Int32} : am_g d X am_m8900 1683 [v0, v1, v2, v3, v4, .int x, v6, v7, v8] sk st Q = am_g d X am_m8900 1685 [v0, v1, v2, v3, v4, .int x, v6, v7, v8] (.int x :: sk) st Q := am_gu.trans rfl
set_option maxRecDepth 100000 in
theorem u8900_1685 {v0 : Value} {v1 : Value} {v2 : Value} {v3 : Value} {v4 : Value} {v5 : Value} {v6 : Value} {v7 : Value} {v8 : Value} {x : Int32} {y : Int32} : am_g d X am_m8900 1685 [v0, v1, v2, v3, v4, v5, v6, v7, v8] (.int y :: .int x :: sk) st Q = (if decide (x = y) = true then am_g d X am_m8900 1690 [v0, v1, v2, v3, v4, v5, v6, v7, v8] sk st Q else am_g d X am_m8900 1688 [v0, v1, v2, v3, v4, v5, v6, v7, v8] sk st Q) := am_gu.trans rfl
set_option maxRecDepth 100000 in
theorem u8900_1688 {v0 : Value} {v1 : Value} {v2 : Value} {v3 : Value} {v4 : Value} {v5 : Value} {v6 : Value} {v7 : Value} {v8 : Value} : am_g d X am_m8900 1688 [v0, v1, v2, v3, v4, v5, v6, v7, v8] sk st Q = am_g d X am_m8900 1689 [v0, v1, v2, v3, v4, v5, v6, v7, v8] (.int (am_i 0) :: sk) st Q := am_gu.trans rfl
set_option maxRecDepth 100000 in
theorem u8900_1689 {v0 : Value} {v1 : Value} {v2 : Value} {v3 : Value} {v4 : Value} {v5 : Value} {v6 : Value} {v7 : Value} {v8 : Value} {x : Int32} : am_g d X am_m8900 1689 [v0, v1, v2, v3, v4, v5, v6, v7, v8] [.int x] st Q = ((x = 0 ∨ x = 1) ∧ Q (.inl (some (.int x))) st) := am_gu.trans rfl
set_option maxRecDepth 100000 in
theorem u8900_1690 {v0 : Value} {v1 : Value} {v2 : Value} {v3 : Value} {v4 : Value} {v6 : Value} {v7 : Value} {v8 : Value} {x : Int32} : am_g d X am_m8900 1690 [v0, v1, v2, v3, v4, .int x, v6, v7, v8] sk st Q = am_g d X am_m8900 1692 [v0, v1, v2, v3, v4, .int x, v6, v7, v8] (.int x :: sk) st Q := am_gu.trans rfl
set_option maxRecDepth 100000 in
theorem u8900_1692 {v0 : Value} {v1 : Value} {v2 : Value} {v3 : Value} {v4 : Value} {v5 : Value} {v6 : Value} {v7 : Value} {v8 : Value} {x : Int32} : am_g d X am_m8900 1692 [v0, v1, v2, v3, v4, v5, v6, v7, v8] (.int x :: sk) st Q = (if decide (¬ x = 0) = true then am_g d X am_m8900 1707 [v0, v1, v2, v3, v4, v5, v6, v7, v8] sk st Q else am_g d X am_m8900 1695 [v0, v1, v2, v3, v4, v5, v6, v7, v8] sk st Q) := am_gu.trans rfl
set_option maxRecDepth 100000 in
theorem u8900_1695 {v0 : Value} {v1 : Value} {v2 : Value} {v4 : Value} {v5 : Value} {v6 : Value} {v7 : Value} {v8 : Value} {x : Nat} : am_g d X am_m8900 1695 [v0, v1, v2, .ref x, v4, v5, v6, v7, v8] sk st Q = am_g d X am_m8900 1696 [v0, v1, v2, .ref x, v4, v5, v6, v7, v8] (.ref x :: sk) st Q := am_gu.trans rfl
set_option maxRecDepth 100000 in
theorem u8900_1696 {v0 : Value} {v1 : Value} {v2 : Value} {v3 : Value} {v4 : Value} {v5 : Value} {v6 : Value} {v7 : Value} {v8 : Value} : am_g d X am_m8900 1696 [v0, v1, v2, v3, v4, v5, v6, v7, v8] sk st Q = am_g d X am_m8900 1697 [v0, v1, v2, v3, v4, v5, v6, v7, v8] (.int (am_i 0) :: sk) st Q := am_gu.trans rfl
set_option maxRecDepth 100000 in
theorem u8900_1697 {v0 : Value} {v1 : Value} {v2 : Value} {v3 : Value} {v4 : Value} {v5 : Value} {v6 : Value} {v7 : Value} {v8 : Value} : am_g d X am_m8900 1697 [v0, v1, v2, v3, v4, v5, v6, v7, v8] sk st Q = am_jl 1698 [v0, v1, v2, v3, v4, v5, v6, v7, v8] sk st (fun pc lc sk st => am_g d X am_m8900 pc lc sk st Q) := am_gu.trans rfl
set_option maxRecDepth 100000 in
theorem u8900_1698 {v0 : Value} {v1 : Value} {v2 : Value} {v3 : Value} {v4 : Value} {v5 : Value} {v7 : Value} {v8 : Value} {x : Int32} : am_g d X am_m8900 1698 [v0, v1, v2, v3, v4, v5, .int x, v7, v8] sk st Q = am_g d X am_m8900 1700 [v0, v1, v2, v3, v4, v5, .int x, v7, v8] (.int x :: sk) st Q := am_gu.trans rfl
set_option maxRecDepth 100000 in
theorem u8900_1700 {v0 : Value} {v1 : Value} {v2 : Value} {v3 : Value} {v4 : Value} {v5 : Value} {v6 : Value} {v7 : Value} {v8 : Value} {x : Int32} : am_g d X am_m8900 1700 [v0, v1, v2, v3, v4, v5, v6, v7, v8] (.int x :: sk) st Q = am_g d X am_m8900 1701 [v0, v1, v2, v3, v4, v5, v6, v7, v8] (.long x.toInt64 :: sk) st Q := am_gu.trans rfl
set_option maxRecDepth 100000 in
theorem u8900_1701 {v0 : Value} {v1 : Value} {v2 : Value} {v3 : Value} {v4 : Value} {v5 : Value} {v6 : Value} {v7 : Value} {v8 : Value} {x : Int64} {y : Int64} : am_g d X am_m8900 1701 [v0, v1, v2, v3, v4, v5, v6, v7, v8] (.long y :: .long x :: sk) st Q = am_g d X am_m8900 1702 [v0, v1, v2, v3, v4, v5, v6, v7, v8] (.int (lg_cmp x y) :: sk) st Q := am_gu.trans rfl
set_option maxRecDepth 100000 in
theorem u8900_1702 {v0 : Value} {v1 : Value} {v2 : Value} {v3 : Value} {v4 : Value} {v5 : Value} {v6 : Value} {v7 : Value} {v8 : Value} {x : Int32} : am_g d X am_m8900 1702 [v0, v1, v2, v3, v4, v5, v6, v7, v8] (.int x :: sk) st Q = (if decide (x = 0) = true then am_g d X am_m8900 1707 [v0, v1, v2, v3, v4, v5, v6, v7, v8] sk st Q else am_g d X am_m8900 1705 [v0, v1, v2, v3, v4, v5, v6, v7, v8] sk st Q) := am_gu.trans rfl
set_option maxRecDepth 100000 in
theorem u8900_1705 {v0 : Value} {v1 : Value} {v2 : Value} {v3 : Value} {v4 : Value} {v5 : Value} {v6 : Value} {v7 : Value} {v8 : Value} : am_g d X am_m8900 1705 [v0, v1, v2, v3, v4, v5, v6, v7, v8] sk st Q = am_g d X am_m8900 1706 [v0, v1, v2, v3, v4, v5, v6, v7, v8] (.int (am_i 0) :: sk) st Q := am_gu.trans rfl
set_option maxRecDepth 100000 in
theorem u8900_1706 {v0 : Value} {v1 : Value} {v2 : Value} {v3 : Value} {v4 : Value} {v5 : Value} {v6 : Value} {v7 : Value} {v8 : Value} {x : Int32} : am_g d X am_m8900 1706 [v0, v1, v2, v3, v4, v5, v6, v7, v8] [.int x] st Q = ((x = 0 ∨ x = 1) ∧ Q (.inl (some (.int x))) st) := am_gu.trans rfl
set_option maxRecDepth 100000 in
theorem u8900_1707 {v0 : Value} {v1 : Value} {v2 : Value} {v3 : Value} {v4 : Value} {v5 : Value} {v6 : Value} {v7 : Value} {v8 : Value} : am_g d X am_m8900 1707 [v0, v1, v2, v3, v4, v5, v6, v7, v8] sk st Q = am_g d X am_m8900 2998 [v0, v1, v2, v3, v4, v5, v6, v7, v8] sk st Q := am_gu.trans rfl
set_option maxRecDepth 100000 in
theorem u8900_1710 {v0 : Value} {v2 : Value} {v3 : Value} {v4 : Value} {v5 : Value} {v6 : Value} {v7 : Value} {v8 : Value} {x : Nat} : am_g d X am_m8900 1710 [v0, .ref x, v2, v3, v4, v5, v6, v7, v8] sk st Q = am_g d X am_m8900 1711 [v0, .ref x, v2, v3, v4, v5, v6, v7, v8] (.ref x :: sk) st Q := am_gu.trans rfl
set_option maxRecDepth 100000 in
theorem u8900_1711 {v1 : Value} {v2 : Value} {v3 : Value} {v4 : Value} {v5 : Value} {v6 : Value} {v7 : Value} {v8 : Value} : am_g d X am_m8900 1711 [.retAddr 0, v1, v2, v3, v4, v5, v6, v7, v8] sk st Q = am_g d X am_m8900 1712 [.retAddr 0, v1, v2, v3, v4, v5, v6, v7, v8] (.retAddr 0 :: sk) st Q := am_gu.trans rfl
set_option maxRecDepth 100000 in
theorem u8900_1712 {v0 : Value} {v1 : Value} {v2 : Value} {v3 : Value} {v5 : Value} {v6 : Value} {v7 : Value} {v8 : Value} {x : Int32} : am_g d X am_m8900 1712 [v0, v1, v2, v3, .int x, v5, v6, v7, v8] sk st Q = am_g d X am_m8900 1714 [v0, v1, v2, v3, .int x, v5, v6, v7, v8] (.int x :: sk) st Q := am_gu.trans rfl
set_option maxRecDepth 100000 in
theorem u8900_1714 {v0 : Value} {v1 : Value} {v2 : Value} {v3 : Value} {v4 : Value} {v5 : Value} {v6 : Value} {v7 : Value} {v8 : Value} : am_g d X am_m8900 1714 [v0, v1, v2, v3, v4, v5, v6, v7, v8] sk st Q = am_g d X am_m8900 1715 [v0, v1, v2, v3, v4, v5, v6, v7, v8] (.int (am_i 1) :: sk) st Q := am_gu.trans rfl
set_option maxRecDepth 100000 in
theorem u8900_1715 {v0 : Value} {v1 : Value} {v2 : Value} {v3 : Value} {v4 : Value} {v5 : Value} {v6 : Value} {v7 : Value} {v8 : Value} {x : Int32} {y : Int32} : am_g d X am_m8900 1715 [v0, v1, v2, v3, v4, v5, v6, v7, v8] (.int y :: .int x :: sk) st Q = am_g d X am_m8900 1716 [v0, v1, v2, v3, v4, v5, v6, v7, v8] (.int (x + y) :: sk) st Q := am_gu.trans rfl
set_option maxRecDepth 100000 in
theorem u8900_1716 {v0 : Value} {v1 : Value} {v2 : Value} {v3 : Value} {v4 : Value} {v5 : Value} {v6 : Value} {v7 : Value} {v8 : Value} : am_g d X am_m8900 1716 [v0, v1, v2, v3, v4, v5, v6, v7, v8] sk st Q = am_xl (X.1, X.2.1, d) am_m8900 1717 [v0, v1, v2, v3, v4, v5, v6, v7, v8] sk st (fun pc lc sk st => am_g d X am_m8900 pc lc sk st Q) := am_gu.trans rfl
set_option maxRecDepth 100000 in
theorem u8900_1717 {v1 : Value} {v2 : Value} {v3 : Value} {v4 : Value} {v5 : Value} {v6 : Value} {v7 : Value} {v8 : Value} : am_g d X am_m8900 1717 [.retAddr 0, v1, v2, v3, v4, v5, v6, v7, v8] sk st Q = am_g d X am_m8900 1718 [.retAddr 0, v1, v2, v3, v4, v5, v6, v7, v8] (.retAddr 0 :: sk) st Q := am_gu.trans rfl
set_option maxRecDepth 100000 in
theorem u8900_1718 {v0 : Value} {v1 : Value} {v2 : Value} {v3 : Value} {v5 : Value} {v6 : Value} {v7 : Value} {v8 : Value} {x : Int32} : am_g d X am_m8900 1718 [v0, v1, v2, v3, .int x, v5, v6, v7, v8] sk st Q = am_g d X am_m8900 1720 [v0, v1, v2, v3, .int x, v5, v6, v7, v8] (.int x :: sk) st Q := am_gu.trans rfl
set_option maxRecDepth 100000 in
theorem u8900_1720 {v0 : Value} {v1 : Value} {v2 : Value} {v3 : Value} {v4 : Value} {v5 : Value} {v6 : Value} {v7 : Value} {v8 : Value} : am_g d X am_m8900 1720 [v0, v1, v2, v3, v4, v5, v6, v7, v8] sk st Q = am_g d X am_m8900 1721 [v0, v1, v2, v3, v4, v5, v6, v7, v8] (.int (am_i 2) :: sk) st Q := am_gu.trans rfl
set_option maxRecDepth 100000 in
theorem u8900_1721 {v0 : Value} {v1 : Value} {v2 : Value} {v3 : Value} {v4 : Value} {v5 : Value} {v6 : Value} {v7 : Value} {v8 : Value} {x : Int32} {y : Int32} : am_g d X am_m8900 1721 [v0, v1, v2, v3, v4, v5, v6, v7, v8] (.int y :: .int x :: sk) st Q = am_g d X am_m8900 1722 [v0, v1, v2, v3, v4, v5, v6, v7, v8] (.int (x + y) :: sk) st Q := am_gu.trans rfl
set_option maxRecDepth 100000 in
theorem u8900_1722 {v0 : Value} {v1 : Value} {v2 : Value} {v3 : Value} {v4 : Value} {v5 : Value} {v6 : Value} {v7 : Value} {v8 : Value} : am_g d X am_m8900 1722 [v0, v1, v2, v3, v4, v5, v6, v7, v8] sk st Q = am_xl (X.1, X.2.1, d) am_m8900 1723 [v0, v1, v2, v3, v4, v5, v6, v7, v8] sk st (fun pc lc sk st => am_g d X am_m8900 pc lc sk st Q) := am_gu.trans rfl
set_option maxRecDepth 100000 in
theorem u8900_1723 {v1 : Value} {v2 : Value} {v3 : Value} {v4 : Value} {v5 : Value} {v6 : Value} {v7 : Value} {v8 : Value} : am_g d X am_m8900 1723 [.retAddr 0, v1, v2, v3, v4, v5, v6, v7, v8] sk st Q = am_g d X am_m8900 1724 [.retAddr 0, v1, v2, v3, v4, v5, v6, v7, v8] (.retAddr 0 :: sk) st Q := am_gu.trans rfl
set_option maxRecDepth 100000 in
theorem u8900_1724 {v0 : Value} {v1 : Value} {v2 : Value} {v3 : Value} {v5 : Value} {v6 : Value} {v7 : Value} {v8 : Value} {x : Int32} : am_g d X am_m8900 1724 [v0, v1, v2, v3, .int x, v5, v6, v7, v8] sk st Q = am_g d X am_m8900 1726 [v0, v1, v2, v3, .int x, v5, v6, v7, v8] (.int x :: sk) st Q := am_gu.trans rfl
set_option maxRecDepth 100000 in
theorem u8900_1726 {v0 : Value} {v1 : Value} {v2 : Value} {v3 : Value} {v4 : Value} {v5 : Value} {v6 : Value} {v7 : Value} {v8 : Value} : am_g d X am_m8900 1726 [v0, v1, v2, v3, v4, v5, v6, v7, v8] sk st Q = am_g d X am_m8900 1727 [v0, v1, v2, v3, v4, v5, v6, v7, v8] (.int (am_i 3) :: sk) st Q := am_gu.trans rfl
set_option maxRecDepth 100000 in
theorem u8900_1727 {v0 : Value} {v1 : Value} {v2 : Value} {v3 : Value} {v4 : Value} {v5 : Value} {v6 : Value} {v7 : Value} {v8 : Value} {x : Int32} {y : Int32} : am_g d X am_m8900 1727 [v0, v1, v2, v3, v4, v5, v6, v7, v8] (.int y :: .int x :: sk) st Q = am_g d X am_m8900 1728 [v0, v1, v2, v3, v4, v5, v6, v7, v8] (.int (x + y) :: sk) st Q := am_gu.trans rfl
set_option maxRecDepth 100000 in
theorem u8900_1728 {v0 : Value} {v1 : Value} {v2 : Value} {v3 : Value} {v4 : Value} {v5 : Value} {v6 : Value} {v7 : Value} {v8 : Value} : am_g d X am_m8900 1728 [v0, v1, v2, v3, v4, v5, v6, v7, v8] sk st Q = am_xl (X.1, X.2.1, d) am_m8900 1729 [v0, v1, v2, v3, v4, v5, v6, v7, v8] sk st (fun pc lc sk st => am_g d X am_m8900 pc lc sk st Q) := am_gu.trans rfl
set_option maxRecDepth 100000 in
theorem u8900_1729 {v0 : Value} {v1 : Value} {v2 : Value} {v4 : Value} {v5 : Value} {v6 : Value} {v7 : Value} {v8 : Value} {x : Nat} : am_g d X am_m8900 1729 [v0, v1, v2, .ref x, v4, v5, v6, v7, v8] sk st Q = am_g d X am_m8900 1730 [v0, v1, v2, .ref x, v4, v5, v6, v7, v8] (.ref x :: sk) st Q := am_gu.trans rfl
set_option maxRecDepth 100000 in
theorem u8900_1730 {a0 : Value} {a1 : Value} {a2 : Value} {a3 : Value} {a4 : Value} {v0 : Value} {v1 : Value} {v2 : Value} {v3 : Value} {v4 : Value} {v5 : Value} {v6 : Value} {v7 : Value} {v8 : Value} : am_g d X am_m8900 1730 [v0, v1, v2, v3, v4, v5, v6, v7, v8] (a4 :: a3 :: a2 :: a1 :: a0 :: sk) st Q = (sk.length ≤ 4 ∧ am_Ca X d 8023 [a0, a1, a2, a3, a4] st (am_af am_m8900 1730 [v0, v1, v2, v3, v4, v5, v6, v7, v8] sk (fun pc lc sk st => am_g d X am_m8900 pc lc sk st Q) Q)) := am_gu.trans (propext ⟨fun h => ⟨h.1.2, h.2⟩, fun h => ⟨⟨Nat.le_add_left _ _, h.1⟩, h.2⟩⟩)
set_option maxRecDepth 100000 in
theorem u8900_1733 {v0 : Value} {v1 : Value} {v2 : Value} {v3 : Value} {v4 : Value} {v5 : Value} {v6 : Value} {v7 : Value} {v8 : Value} {x : Int32} : am_g d X am_m8900 1733 [v0, v1, v2, v3, v4, v5, v6, v7, v8] (.int x :: sk) st Q = am_g d X am_m8900 1735 [v0, v1, v2, v3, am_kc v4, .int x, v6, v7, v8] sk st Q := am_gu.trans (congrArg (fun l => am_g d X am_m8900 1735 (List.set l 5 (.int x)) sk st Q) (kl_5 (l := [v5, v6, v7, v8])))
set_option maxRecDepth 100000 in
theorem u8900_1735 {v0 : Value} {v1 : Value} {v3 : Value} {v4 : Value} {v5 : Value} {v6 : Value} {v7 : Value} {v8 : Value} {x : Nat} : am_g d X am_m8900 1735 [v0, v1, .ref x, v3, v4, v5, v6, v7, v8] sk st Q = am_g d X am_m8900 1736 [v0, v1, .ref x, v3, v4, v5, v6, v7, v8] (.ref x :: sk) st Q := am_gu.trans rfl
set_option maxRecDepth 100000 in
theorem u8900_1736 {v1 : Value} {v2 : Value} {v3 : Value} {v4 : Value} {v5 : Value} {v6 : Value} {v7 : Value} {v8 : Value} : am_g d X am_m8900 1736 [.retAddr 0, v1, v2, v3, v4, v5, v6, v7, v8] sk st Q = am_g d X am_m8900 1737 [.retAddr 0, v1, v2, v3, v4, v5, v6, v7, v8] (.retAddr 0 :: sk) st Q := am_gu.trans rfl
set_option maxRecDepth 100000 in
theorem u8900_1737 {v0 : Value} {v1 : Value} {v2 : Value} {v3 : Value} {v5 : Value} {v6 : Value} {v7 : Value} {v8 : Value} {x : Int32} : am_g d X am_m8900 1737 [v0, v1, v2, v3, .int x, v5, v6, v7, v8] sk st Q = am_g d X am_m8900 1739 [v0, v1, v2, v3, .int x, v5, v6, v7, v8] (.int x :: sk) st Q := am_gu.trans rfl
set_option maxRecDepth 100000 in
theorem u8900_1739 {v0 : Value} {v1 : Value} {v2 : Value} {v3 : Value} {v4 : Value} {v5 : Value} {v6 : Value} {v7 : Value} {v8 : Value} : am_g d X am_m8900 1739 [v0, v1, v2, v3, v4, v5, v6, v7, v8] sk st Q = am_g d X am_m8900 1740 [v0, v1, v2, v3, v4, v5, v6, v7, v8] (.int (am_i 1) :: sk) st Q := am_gu.trans rfl
set_option maxRecDepth 100000 in
theorem u8900_1740 {v0 : Value} {v1 : Value} {v2 : Value} {v3 : Value} {v4 : Value} {v5 : Value} {v6 : Value} {v7 : Value} {v8 : Value} {x : Int32} {y : Int32} : am_g d X am_m8900 1740 [v0, v1, v2, v3, v4, v5, v6, v7, v8] (.int y :: .int x :: sk) st Q = am_g d X am_m8900 1741 [v0, v1, v2, v3, v4, v5, v6, v7, v8] (.int (x + y) :: sk) st Q := am_gu.trans rfl
set_option maxRecDepth 100000 in
theorem u8900_1741 {v0 : Value} {v1 : Value} {v2 : Value} {v3 : Value} {v4 : Value} {v5 : Value} {v6 : Value} {v7 : Value} {v8 : Value} : am_g d X am_m8900 1741 [v0, v1, v2, v3, v4, v5, v6, v7, v8] sk st Q = am_xl (X.1, X.2.1, d) am_m8900 1742 [v0, v1, v2, v3, v4, v5, v6, v7, v8] sk st (fun pc lc sk st => am_g d X am_m8900 pc lc sk st Q) := am_gu.trans rfl
set_option maxRecDepth 100000 in
theorem u8900_1742 {v1 : Value} {v2 : Value} {v3 : Value} {v4 : Value} {v5 : Value} {v6 : Value} {v7 : Value} {v8 : Value} : am_g d X am_m8900 1742 [.retAddr 0, v1, v2, v3, v4, v5, v6, v7, v8] sk st Q = am_g d X am_m8900 1743 [.retAddr 0, v1, v2, v3, v4, v5, v6, v7, v8] (.retAddr 0 :: sk) st Q := am_gu.trans rfl
set_option maxRecDepth 100000 in
theorem u8900_1743 {v0 : Value} {v1 : Value} {v2 : Value} {v3 : Value} {v5 : Value} {v6 : Value} {v7 : Value} {v8 : Value} {x : Int32} : am_g d X am_m8900 1743 [v0, v1, v2, v3, .int x, v5, v6, v7, v8] sk st Q = am_g d X am_m8900 1745 [v0, v1, v2, v3, .int x, v5, v6, v7, v8] (.int x :: sk) st Q := am_gu.trans rfl
set_option maxRecDepth 100000 in
theorem u8900_1745 {v0 : Value} {v1 : Value} {v2 : Value} {v3 : Value} {v4 : Value} {v5 : Value} {v6 : Value} {v7 : Value} {v8 : Value} : am_g d X am_m8900 1745 [v0, v1, v2, v3, v4, v5, v6, v7, v8] sk st Q = am_g d X am_m8900 1746 [v0, v1, v2, v3, v4, v5, v6, v7, v8] (.int (am_i 2) :: sk) st Q := am_gu.trans rfl
set_option maxRecDepth 100000 in
theorem u8900_1746 {v0 : Value} {v1 : Value} {v2 : Value} {v3 : Value} {v4 : Value} {v5 : Value} {v6 : Value} {v7 : Value} {v8 : Value} {x : Int32} {y : Int32} : am_g d X am_m8900 1746 [v0, v1, v2, v3, v4, v5, v6, v7, v8] (.int y :: .int x :: sk) st Q = am_g d X am_m8900 1747 [v0, v1, v2, v3, v4, v5, v6, v7, v8] (.int (x + y) :: sk) st Q := am_gu.trans rfl
set_option maxRecDepth 100000 in
theorem u8900_1747 {v0 : Value} {v1 : Value} {v2 : Value} {v3 : Value} {v4 : Value} {v5 : Value} {v6 : Value} {v7 : Value} {v8 : Value} : am_g d X am_m8900 1747 [v0, v1, v2, v3, v4, v5, v6, v7, v8] sk st Q = am_xl (X.1, X.2.1, d) am_m8900 1748 [v0, v1, v2, v3, v4, v5, v6, v7, v8] sk st (fun pc lc sk st => am_g d X am_m8900 pc lc sk st Q) := am_gu.trans rfl
set_option maxRecDepth 100000 in
theorem u8900_1748 {v1 : Value} {v2 : Value} {v3 : Value} {v4 : Value} {v5 : Value} {v6 : Value} {v7 : Value} {v8 : Value} : am_g d X am_m8900 1748 [.retAddr 0, v1, v2, v3, v4, v5, v6, v7, v8] sk st Q = am_g d X am_m8900 1749 [.retAddr 0, v1, v2, v3, v4, v5, v6, v7, v8] (.retAddr 0 :: sk) st Q := am_gu.trans rfl
set_option maxRecDepth 100000 in
theorem u8900_1749 {v0 : Value} {v1 : Value} {v2 : Value} {v3 : Value} {v5 : Value} {v6 : Value} {v7 : Value} {v8 : Value} {x : Int32} : am_g d X am_m8900 1749 [v0, v1, v2, v3, .int x, v5, v6, v7, v8] sk st Q = am_g d X am_m8900 1751 [v0, v1, v2, v3, .int x, v5, v6, v7, v8] (.int x :: sk) st Q := am_gu.trans rfl
set_option maxRecDepth 100000 in
theorem u8900_1751 {v0 : Value} {v1 : Value} {v2 : Value} {v3 : Value} {v4 : Value} {v5 : Value} {v6 : Value} {v7 : Value} {v8 : Value} : am_g d X am_m8900 1751 [v0, v1, v2, v3, v4, v5, v6, v7, v8] sk st Q = am_g d X am_m8900 1752 [v0, v1, v2, v3, v4, v5, v6, v7, v8] (.int (am_i 3) :: sk) st Q := am_gu.trans rfl
set_option maxRecDepth 100000 in
theorem u8900_1752 {v0 : Value} {v1 : Value} {v2 : Value} {v3 : Value} {v4 : Value} {v5 : Value} {v6 : Value} {v7 : Value} {v8 : Value} {x : Int32} {y : Int32} : am_g d X am_m8900 1752 [v0, v1, v2, v3, v4, v5, v6, v7, v8] (.int y :: .int x :: sk) st Q = am_g d X am_m8900 1753 [v0, v1, v2, v3, v4, v5, v6, v7, v8] (.int (x + y) :: sk) st Q := am_gu.trans rfl
set_option maxRecDepth 100000 in
theorem u8900_1753 {v0 : Value} {v1 : Value} {v2 : Value} {v3 : Value} {v4 : Value} {v5 : Value} {v6 : Value} {v7 : Value} {v8 : Value} : am_g d X am_m8900 1753 [v0, v1, v2, v3, v4, v5, v6, v7, v8] sk st Q = am_xl (X.1, X.2.1, d) am_m8900 1754 [v0, v1, v2, v3, v4, v5, v6, v7, v8] sk st (fun pc lc sk st => am_g d X am_m8900 pc lc sk st Q) := am_gu.trans rfl
set_option maxRecDepth 100000 in
theorem u8900_1754 {a0 : Value} {a1 : Value} {a2 : Value} {v0 : Value} {v1 : Value} {v2 : Value} {v3 : Value} {v4 : Value} {v5 : Value} {v6 : Value} {v7 : Value} {v8 : Value} : am_g d X am_m8900 1754 [v0, v1, v2, v3, v4, v5, v6, v7, v8] (a2 :: a1 :: a0 :: .ref o :: sk) st Q = ((am_ob st o 7 ∧ sk.length ≤ 4) ∧ am_Ca X d 7097 [.ref o, a0, a1, a2] st (am_af am_m8900 1754 [v0, v1, v2, v3, v4, v5, v6, v7, v8] sk (fun pc lc sk st => am_g d X am_m8900 pc lc sk st Q) Q)) := am_gu.trans rfl
set_option maxRecDepth 100000 in
theorem u8900_1757 {v0 : Value} {v1 : Value} {v2 : Value} {v3 : Value} {v4 : Value} {v5 : Value} {v6 : Value} {v7 : Value} {v8 : Value} {x : Int32} : am_g d X am_m8900 1757 [v0, v1, v2, v3, v4, v5, v6, v7, v8] (.int x :: sk) st Q = am_g d X am_m8900 1759 [v0, v1, v2, v3, v4, am_kc v5, .int x, v7, v8] sk st Q := am_gu.trans (congrArg (fun l => am_g d X am_m8900 1759 (List.set l 6 (.int x)) sk st Q) (kl_6 (l := [v6, v7, v8])))
set_option maxRecDepth 100000 in
theorem u8900_1759 {v0 : Value} {v1 : Value} {v3 : Value} {v4 : Value} {v5 : Value} {v6 : Value} {v7 : Value} {v8 : Value} {x : Nat} : am_g d X am_m8900 1759 [v0, v1, .ref x, v3, v4, v5, v6, v7, v8] sk st Q = am_g d X am_m8900 1760 [v0, v1, .ref x, v3, v4, v5, v6, v7, v8] (.ref x :: sk) st Q := am_gu.trans rfl
set_option maxRecDepth 100000 in
theorem u8900_1760 {v0 : Value} {v1 : Value} {v2 : Value} {v3 : Value} {v4 : Value} {v5 : Value} {v6 : Value} {v7 : Value} {v8 : Value} : am_g d X am_m8900 1760 [v0, v1, v2, v3, v4, v5, v6, v7, v8] (.ref o :: sk) st Q = ((am_ob st o 7 ∧ sk.length ≤ 4) ∧ am_Ca X d 7002 [.ref o] st (am_af am_m8900 1760 [v0, v1, v2, v3, v4, v5, v6, v7, v8] sk (fun pc lc sk st => am_g d X am_m8900 pc lc sk st Q) Q)) := am_gu.trans rfl
set_option maxRecDepth 100000 in
theorem u8900_1763 {v0 : Value} {v1 : Value} {v2 : Value} {v3 : Value} {v4 : Value} {v6 : Value} {v7 : Value} {v8 : Value} {x : Int32} : am_g d X am_m8900 1763 [v0, v1, v2, v3, v4, .int x, v6, v7, v8] sk st Q = am_g d X am_m8900 1765 [v0, v1, v2, v3, v4, .int x, v6, v7, v8] (.int x :: sk) st Q := am_gu.trans rfl
set_option maxRecDepth 100000 in
theorem u8900_1765 {v0 : Value} {v1 : Value} {v2 : Value} {v3 : Value} {v4 : Value} {v5 : Value} {v6 : Value} {v7 : Value} {v8 : Value} {x : Int32} {y : Int32} : am_g d X am_m8900 1765 [v0, v1, v2, v3, v4, v5, v6, v7, v8] (.int y :: .int x :: sk) st Q = (if decide (x = y) = true then am_g d X am_m8900 1770 [v0, v1, v2, v3, v4, v5, v6, v7, v8] sk st Q else am_g d X am_m8900 1768 [v0, v1, v2, v3, v4, v5, v6, v7, v8] sk st Q) := am_gu.trans rfl
set_option maxRecDepth 100000 in
theorem u8900_1768 {v0 : Value} {v1 : Value} {v2 : Value} {v3 : Value} {v4 : Value} {v5 : Value} {v6 : Value} {v7 : Value} {v8 : Value} : am_g d X am_m8900 1768 [v0, v1, v2, v3, v4, v5, v6, v7, v8] sk st Q = am_g d X am_m8900 1769 [v0, v1, v2, v3, v4, v5, v6, v7, v8] (.int (am_i 0) :: sk) st Q := am_gu.trans rfl
set_option maxRecDepth 100000 in
theorem u8900_1769 {v0 : Value} {v1 : Value} {v2 : Value} {v3 : Value} {v4 : Value} {v5 : Value} {v6 : Value} {v7 : Value} {v8 : Value} {x : Int32} : am_g d X am_m8900 1769 [v0, v1, v2, v3, v4, v5, v6, v7, v8] [.int x] st Q = ((x = 0 ∨ x = 1) ∧ Q (.inl (some (.int x))) st) := am_gu.trans rfl
set_option maxRecDepth 100000 in
theorem u8900_1770 {v0 : Value} {v1 : Value} {v2 : Value} {v3 : Value} {v4 : Value} {v6 : Value} {v7 : Value} {v8 : Value} {x : Int32} : am_g d X am_m8900 1770 [v0, v1, v2, v3, v4, .int x, v6, v7, v8] sk st Q = am_g d X am_m8900 1772 [v0, v1, v2, v3, v4, .int x, v6, v7, v8] (.int x :: sk) st Q := am_gu.trans rfl
set_option maxRecDepth 100000 in
theorem u8900_1772 {v0 : Value} {v1 : Value} {v2 : Value} {v3 : Value} {v4 : Value} {v5 : Value} {v6 : Value} {v7 : Value} {v8 : Value} {x : Int32} : am_g d X am_m8900 1772 [v0, v1, v2, v3, v4, v5, v6, v7, v8] (.int x :: sk) st Q = (if decide (¬ x = 0) = true then am_g d X am_m8900 1787 [v0, v1, v2, v3, v4, v5, v6, v7, v8] sk st Q else am_g d X am_m8900 1775 [v0, v1, v2, v3, v4, v5, v6, v7, v8] sk st Q) := am_gu.trans rfl
set_option maxRecDepth 100000 in
theorem u8900_1775 {v0 : Value} {v1 : Value} {v2 : Value} {v4 : Value} {v5 : Value} {v6 : Value} {v7 : Value} {v8 : Value} {x : Nat} : am_g d X am_m8900 1775 [v0, v1, v2, .ref x, v4, v5, v6, v7, v8] sk st Q = am_g d X am_m8900 1776 [v0, v1, v2, .ref x, v4, v5, v6, v7, v8] (.ref x :: sk) st Q := am_gu.trans rfl
set_option maxRecDepth 100000 in
theorem u8900_1776 {v0 : Value} {v1 : Value} {v2 : Value} {v3 : Value} {v4 : Value} {v5 : Value} {v6 : Value} {v7 : Value} {v8 : Value} : am_g d X am_m8900 1776 [v0, v1, v2, v3, v4, v5, v6, v7, v8] sk st Q = am_g d X am_m8900 1777 [v0, v1, v2, v3, v4, v5, v6, v7, v8] (.int (am_i 0) :: sk) st Q := am_gu.trans rfl
set_option maxRecDepth 100000 in
theorem u8900_1777 {v0 : Value} {v1 : Value} {v2 : Value} {v3 : Value} {v4 : Value} {v5 : Value} {v6 : Value} {v7 : Value} {v8 : Value} : am_g d X am_m8900 1777 [v0, v1, v2, v3, v4, v5, v6, v7, v8] sk st Q = am_jl 1778 [v0, v1, v2, v3, v4, v5, v6, v7, v8] sk st (fun pc lc sk st => am_g d X am_m8900 pc lc sk st Q) := am_gu.trans rfl
set_option maxRecDepth 100000 in
theorem u8900_1778 {v0 : Value} {v1 : Value} {v2 : Value} {v3 : Value} {v4 : Value} {v5 : Value} {v7 : Value} {v8 : Value} {x : Int32} : am_g d X am_m8900 1778 [v0, v1, v2, v3, v4, v5, .int x, v7, v8] sk st Q = am_g d X am_m8900 1780 [v0, v1, v2, v3, v4, v5, .int x, v7, v8] (.int x :: sk) st Q := am_gu.trans rfl
set_option maxRecDepth 100000 in
theorem u8900_1780 {v0 : Value} {v1 : Value} {v2 : Value} {v3 : Value} {v4 : Value} {v5 : Value} {v6 : Value} {v7 : Value} {v8 : Value} {x : Int32} : am_g d X am_m8900 1780 [v0, v1, v2, v3, v4, v5, v6, v7, v8] (.int x :: sk) st Q = am_g d X am_m8900 1781 [v0, v1, v2, v3, v4, v5, v6, v7, v8] (.long x.toInt64 :: sk) st Q := am_gu.trans rfl
set_option maxRecDepth 100000 in
theorem u8900_1781 {v0 : Value} {v1 : Value} {v2 : Value} {v3 : Value} {v4 : Value} {v5 : Value} {v6 : Value} {v7 : Value} {v8 : Value} {x : Int64} {y : Int64} : am_g d X am_m8900 1781 [v0, v1, v2, v3, v4, v5, v6, v7, v8] (.long y :: .long x :: sk) st Q = am_g d X am_m8900 1782 [v0, v1, v2, v3, v4, v5, v6, v7, v8] (.int (lg_cmp x y) :: sk) st Q := am_gu.trans rfl
set_option maxRecDepth 100000 in
theorem u8900_1782 {v0 : Value} {v1 : Value} {v2 : Value} {v3 : Value} {v4 : Value} {v5 : Value} {v6 : Value} {v7 : Value} {v8 : Value} {x : Int32} : am_g d X am_m8900 1782 [v0, v1, v2, v3, v4, v5, v6, v7, v8] (.int x :: sk) st Q = (if decide (x = 0) = true then am_g d X am_m8900 1787 [v0, v1, v2, v3, v4, v5, v6, v7, v8] sk st Q else am_g d X am_m8900 1785 [v0, v1, v2, v3, v4, v5, v6, v7, v8] sk st Q) := am_gu.trans rfl
set_option maxRecDepth 100000 in
theorem u8900_1785 {v0 : Value} {v1 : Value} {v2 : Value} {v3 : Value} {v4 : Value} {v5 : Value} {v6 : Value} {v7 : Value} {v8 : Value} : am_g d X am_m8900 1785 [v0, v1, v2, v3, v4, v5, v6, v7, v8] sk st Q = am_g d X am_m8900 1786 [v0, v1, v2, v3, v4, v5, v6, v7, v8] (.int (am_i 0) :: sk) st Q := am_gu.trans rfl
set_option maxRecDepth 100000 in
theorem u8900_1786 {v0 : Value} {v1 : Value} {v2 : Value} {v3 : Value} {v4 : Value} {v5 : Value} {v6 : Value} {v7 : Value} {v8 : Value} {x : Int32} : am_g d X am_m8900 1786 [v0, v1, v2, v3, v4, v5, v6, v7, v8] [.int x] st Q = ((x = 0 ∨ x = 1) ∧ Q (.inl (some (.int x))) st) := am_gu.trans rfl
set_option maxRecDepth 100000 in
theorem u8900_1787 {v0 : Value} {v1 : Value} {v2 : Value} {v3 : Value} {v4 : Value} {v5 : Value} {v6 : Value} {v7 : Value} {v8 : Value} : am_g d X am_m8900 1787 [v0, v1, v2, v3, v4, v5, v6, v7, v8] sk st Q = am_g d X am_m8900 2998 [v0, v1, v2, v3, v4, v5, v6, v7, v8] sk st Q := am_gu.trans rfl
set_option maxRecDepth 100000 in
theorem u8900_1790 {v0 : Value} {v2 : Value} {v3 : Value} {v4 : Value} {v5 : Value} {v6 : Value} {v7 : Value} {v8 : Value} {x : Nat} : am_g d X am_m8900 1790 [v0, .ref x, v2, v3, v4, v5, v6, v7, v8] sk st Q = am_g d X am_m8900 1791 [v0, .ref x, v2, v3, v4, v5, v6, v7, v8] (.ref x :: sk) st Q := am_gu.trans rfl
set_option maxRecDepth 100000 in
theorem u8900_1791 {v1 : Value} {v2 : Value} {v3 : Value} {v4 : Value} {v5 : Value} {v6 : Value} {v7 : Value} {v8 : Value} : am_g d X am_m8900 1791 [.retAddr 0, v1, v2, v3, v4, v5, v6, v7, v8] sk st Q = am_g d X am_m8900 1792 [.retAddr 0, v1, v2, v3, v4, v5, v6, v7, v8] (.retAddr 0 :: sk) st Q := am_gu.trans rfl
set_option maxRecDepth 100000 in
theorem u8900_1792 {v0 : Value} {v1 : Value} {v2 : Value} {v3 : Value} {v5 : Value} {v6 : Value} {v7 : Value} {v8 : Value} {x : Int32} : am_g d X am_m8900 1792 [v0, v1, v2, v3, .int x, v5, v6, v7, v8] sk st Q = am_g d X am_m8900 1794 [v0, v1, v2, v3, .int x, v5, v6, v7, v8] (.int x :: sk) st Q := am_gu.trans rfl
set_option maxRecDepth 100000 in
theorem u8900_1794 {v0 : Value} {v1 : Value} {v2 : Value} {v3 : Value} {v4 : Value} {v5 : Value} {v6 : Value} {v7 : Value} {v8 : Value} : am_g d X am_m8900 1794 [v0, v1, v2, v3, v4, v5, v6, v7, v8] sk st Q = am_g d X am_m8900 1795 [v0, v1, v2, v3, v4, v5, v6, v7, v8] (.int (am_i 1) :: sk) st Q := am_gu.trans rfl
set_option maxRecDepth 100000 in
theorem u8900_1795 {v0 : Value} {v1 : Value} {v2 : Value} {v3 : Value} {v4 : Value} {v5 : Value} {v6 : Value} {v7 : Value} {v8 : Value} {x : Int32} {y : Int32} : am_g d X am_m8900 1795 [v0, v1, v2, v3, v4, v5, v6, v7, v8] (.int y :: .int x :: sk) st Q = am_g d X am_m8900 1796 [v0, v1, v2, v3, v4, v5, v6, v7, v8] (.int (x + y) :: sk) st Q := am_gu.trans rfl
set_option maxRecDepth 100000 in
theorem u8900_1796 {v0 : Value} {v1 : Value} {v2 : Value} {v3 : Value} {v4 : Value} {v5 : Value} {v6 : Value} {v7 : Value} {v8 : Value} : am_g d X am_m8900 1796 [v0, v1, v2, v3, v4, v5, v6, v7, v8] sk st Q = am_xl (X.1, X.2.1, d) am_m8900 1797 [v0, v1, v2, v3, v4, v5, v6, v7, v8] sk st (fun pc lc sk st => am_g d X am_m8900 pc lc sk st Q) := am_gu.trans rfl
set_option maxRecDepth 100000 in
theorem u8900_1797 {v1 : Value} {v2 : Value} {v3 : Value} {v4 : Value} {v5 : Value} {v6 : Value} {v7 : Value} {v8 : Value} : am_g d X am_m8900 1797 [.retAddr 0, v1, v2, v3, v4, v5, v6, v7, v8] sk st Q = am_g d X am_m8900 1798 [.retAddr 0, v1, v2, v3, v4, v5, v6, v7, v8] (.retAddr 0 :: sk) st Q := am_gu.trans rfl
set_option maxRecDepth 100000 in
theorem u8900_1798 {v0 : Value} {v1 : Value} {v2 : Value} {v3 : Value} {v5 : Value} {v6 : Value} {v7 : Value} {v8 : Value} {x : Int32} : am_g d X am_m8900 1798 [v0, v1, v2, v3, .int x, v5, v6, v7, v8] sk st Q = am_g d X am_m8900 1800 [v0, v1, v2, v3, .int x, v5, v6, v7, v8] (.int x :: sk) st Q := am_gu.trans rfl
set_option maxRecDepth 100000 in
theorem u8900_1800 {v0 : Value} {v1 : Value} {v2 : Value} {v3 : Value} {v4 : Value} {v5 : Value} {v6 : Value} {v7 : Value} {v8 : Value} : am_g d X am_m8900 1800 [v0, v1, v2, v3, v4, v5, v6, v7, v8] sk st Q = am_g d X am_m8900 1801 [v0, v1, v2, v3, v4, v5, v6, v7, v8] (.int (am_i 2) :: sk) st Q := am_gu.trans rfl
set_option maxRecDepth 100000 in
theorem u8900_1801 {v0 : Value} {v1 : Value} {v2 : Value} {v3 : Value} {v4 : Value} {v5 : Value} {v6 : Value} {v7 : Value} {v8 : Value} {x : Int32} {y : Int32} : am_g d X am_m8900 1801 [v0, v1, v2, v3, v4, v5, v6, v7, v8] (.int y :: .int x :: sk) st Q = am_g d X am_m8900 1802 [v0, v1, v2, v3, v4, v5, v6, v7, v8] (.int (x + y) :: sk) st Q := am_gu.trans rfl
set_option maxRecDepth 100000 in
theorem u8900_1802 {v0 : Value} {v1 : Value} {v2 : Value} {v3 : Value} {v4 : Value} {v5 : Value} {v6 : Value} {v7 : Value} {v8 : Value} : am_g d X am_m8900 1802 [v0, v1, v2, v3, v4, v5, v6, v7, v8] sk st Q = am_xl (X.1, X.2.1, d) am_m8900 1803 [v0, v1, v2, v3, v4, v5, v6, v7, v8] sk st (fun pc lc sk st => am_g d X am_m8900 pc lc sk st Q) := am_gu.trans rfl
set_option maxRecDepth 100000 in
theorem u8900_1803 {v1 : Value} {v2 : Value} {v3 : Value} {v4 : Value} {v5 : Value} {v6 : Value} {v7 : Value} {v8 : Value} : am_g d X am_m8900 1803 [.retAddr 0, v1, v2, v3, v4, v5, v6, v7, v8] sk st Q = am_g d X am_m8900 1804 [.retAddr 0, v1, v2, v3, v4, v5, v6, v7, v8] (.retAddr 0 :: sk) st Q := am_gu.trans rfl
set_option maxRecDepth 100000 in
theorem u8900_1804 {v0 : Value} {v1 : Value} {v2 : Value} {v3 : Value} {v5 : Value} {v6 : Value} {v7 : Value} {v8 : Value} {x : Int32} : am_g d X am_m8900 1804 [v0, v1, v2, v3, .int x, v5, v6, v7, v8] sk st Q = am_g d X am_m8900 1806 [v0, v1, v2, v3, .int x, v5, v6, v7, v8] (.int x :: sk) st Q := am_gu.trans rfl
set_option maxRecDepth 100000 in
theorem u8900_1806 {v0 : Value} {v1 : Value} {v2 : Value} {v3 : Value} {v4 : Value} {v5 : Value} {v6 : Value} {v7 : Value} {v8 : Value} : am_g d X am_m8900 1806 [v0, v1, v2, v3, v4, v5, v6, v7, v8] sk st Q = am_g d X am_m8900 1807 [v0, v1, v2, v3, v4, v5, v6, v7, v8] (.int (am_i 3) :: sk) st Q := am_gu.trans rfl
set_option maxRecDepth 100000 in
theorem u8900_1807 {v0 : Value} {v1 : Value} {v2 : Value} {v3 : Value} {v4 : Value} {v5 : Value} {v6 : Value} {v7 : Value} {v8 : Value} {x : Int32} {y : Int32} : am_g d X am_m8900 1807 [v0, v1, v2, v3, v4, v5, v6, v7, v8] (.int y :: .int x :: sk) st Q = am_g d X am_m8900 1808 [v0, v1, v2, v3, v4, v5, v6, v7, v8] (.int (x + y) :: sk) st Q := am_gu.trans rfl
set_option maxRecDepth 100000 in
theorem u8900_1808 {v0 : Value} {v1 : Value} {v2 : Value} {v3 : Value} {v4 : Value} {v5 : Value} {v6 : Value} {v7 : Value} {v8 : Value} : am_g d X am_m8900 1808 [v0, v1, v2, v3, v4, v5, v6, v7, v8] sk st Q = am_xl (X.1, X.2.1, d) am_m8900 1809 [v0, v1, v2, v3, v4, v5, v6, v7, v8] sk st (fun pc lc sk st => am_g d X am_m8900 pc lc sk st Q) := am_gu.trans rfl
set_option maxRecDepth 100000 in
theorem u8900_1809 {v1 : Value} {v2 : Value} {v3 : Value} {v4 : Value} {v5 : Value} {v6 : Value} {v7 : Value} {v8 : Value} : am_g d X am_m8900 1809 [.retAddr 0, v1, v2, v3, v4, v5, v6, v7, v8] sk st Q = am_g d X am_m8900 1810 [.retAddr 0, v1, v2, v3, v4, v5, v6, v7, v8] (.retAddr 0 :: sk) st Q := am_gu.trans rfl
set_option maxRecDepth 100000 in
theorem u8900_1810 {v0 : Value} {v1 : Value} {v2 : Value} {v3 : Value} {v5 : Value} {v6 : Value} {v7 : Value} {v8 : Value} {x : Int32} : am_g d X am_m8900 1810 [v0, v1, v2, v3, .int x, v5, v6, v7, v8] sk st Q = am_g d X am_m8900 1812 [v0, v1, v2, v3, .int x, v5, v6, v7, v8] (.int x :: sk) st Q := am_gu.trans rfl
set_option maxRecDepth 100000 in
theorem u8900_1812 {v0 : Value} {v1 : Value} {v2 : Value} {v3 : Value} {v4 : Value} {v5 : Value} {v6 : Value} {v7 : Value} {v8 : Value} : am_g d X am_m8900 1812 [v0, v1, v2, v3, v4, v5, v6, v7, v8] sk st Q = am_g d X am_m8900 1813 [v0, v1, v2, v3, v4, v5, v6, v7, v8] (.int (am_i 4) :: sk) st Q := am_gu.trans rfl
set_option maxRecDepth 100000 in
theorem u8900_1813 {v0 : Value} {v1 : Value} {v2 : Value} {v3 : Value} {v4 : Value} {v5 : Value} {v6 : Value} {v7 : Value} {v8 : Value} {x : Int32} {y : Int32} : am_g d X am_m8900 1813 [v0, v1, v2, v3, v4, v5, v6, v7, v8] (.int y :: .int x :: sk) st Q = am_g d X am_m8900 1814 [v0, v1, v2, v3, v4, v5, v6, v7, v8] (.int (x + y) :: sk) st Q := am_gu.trans rfl
set_option maxRecDepth 100000 in
theorem u8900_1814 {v0 : Value} {v1 : Value} {v2 : Value} {v3 : Value} {v4 : Value} {v5 : Value} {v6 : Value} {v7 : Value} {v8 : Value} : am_g d X am_m8900 1814 [v0, v1, v2, v3, v4, v5, v6, v7, v8] sk st Q = am_xl (X.1, X.2.1, d) am_m8900 1815 [v0, v1, v2, v3, v4, v5, v6, v7, v8] sk st (fun pc lc sk st => am_g d X am_m8900 pc lc sk st Q) := am_gu.trans rfl
set_option maxRecDepth 100000 in
theorem u8900_1815 {v0 : Value} {v1 : Value} {v2 : Value} {v4 : Value} {v5 : Value} {v6 : Value} {v7 : Value} {v8 : Value} {x : Nat} : am_g d X am_m8900 1815 [v0, v1, v2, .ref x, v4, v5, v6, v7, v8] sk st Q = am_g d X am_m8900 1816 [v0, v1, v2, .ref x, v4, v5, v6, v7, v8] (.ref x :: sk) st Q := am_gu.trans rfl
set_option maxRecDepth 100000 in
theorem u8900_1816 {a0 : Value} {a1 : Value} {a2 : Value} {a3 : Value} {a4 : Value} {a5 : Value} {v0 : Value} {v1 : Value} {v2 : Value} {v3 : Value} {v4 : Value} {v5 : Value} {v6 : Value} {v7 : Value} {v8 : Value} : am_g d X am_m8900 1816 [v0, v1, v2, v3, v4, v5, v6, v7, v8] (a5 :: a4 :: a3 :: a2 :: a1 :: a0 :: sk) st Q = (sk.length ≤ 4 ∧ am_Ca X d 8024 [a0, a1, a2, a3, a4, a5] st (am_af am_m8900 1816 [v0, v1, v2, v3, v4, v5, v6, v7, v8] sk (fun pc lc sk st => am_g d X am_m8900 pc lc sk st Q) Q)) := am_gu.trans (propext ⟨fun h => ⟨h.1.2, h.2⟩, fun h => ⟨⟨Nat.le_add_left _ _, h.1⟩, h.2⟩⟩)
set_option maxRecDepth 100000 in
theorem u8900_1819 {v0 : Value} {v1 : Value} {v2 : Value} {v3 : Value} {v4 : Value} {v5 : Value} {v6 : Value} {v7 : Value} {v8 : Value} {x : Int32} : am_g d X am_m8900 1819 [v0, v1, v2, v3, v4, v5, v6, v7, v8] (.int x :: sk) st Q = am_g d X am_m8900 1821 [v0, v1, v2, v3, am_kc v4, .int x, v6, v7, v8] sk st Q := am_gu.trans (congrArg (fun l => am_g d X am_m8900 1821 (List.set l 5 (.int x)) sk st Q) (kl_5 (l := [v5, v6, v7, v8])))
set_option maxRecDepth 100000 in
theorem u8900_1821 {v0 : Value} {v1 : Value} {v3 : Value} {v4 : Value} {v5 : Value} {v6 : Value} {v7 : Value} {v8 : Value} {x : Nat} : am_g d X am_m8900 1821 [v0, v1, .ref x, v3, v4, v5, v6, v7, v8] sk st Q = am_g d X am_m8900 1822 [v0, v1, .ref x, v3, v4, v5, v6, v7, v8] (.ref x :: sk) st Q := am_gu.trans rfl
set_option maxRecDepth 100000 in
theorem u8900_1822 {v1 : Value} {v2 : Value} {v3 : Value} {v4 : Value} {v5 : Value} {v6 : Value} {v7 : Value} {v8 : Value} : am_g d X am_m8900 1822 [.retAddr 0, v1, v2, v3, v4, v5, v6, v7, v8] sk st Q = am_g d X am_m8900 1823 [.retAddr 0, v1, v2, v3, v4, v5, v6, v7, v8] (.retAddr 0 :: sk) st Q := am_gu.trans rfl
set_option maxRecDepth 100000 in
theorem u8900_1823 {v0 : Value} {v1 : Value} {v2 : Value} {v3 : Value} {v5 : Value} {v6 : Value} {v7 : Value} {v8 : Value} {x : Int32} : am_g d X am_m8900 1823 [v0, v1, v2, v3, .int x, v5, v6, v7, v8] sk st Q = am_g d X am_m8900 1825 [v0, v1, v2, v3, .int x, v5, v6, v7, v8] (.int x :: sk) st Q := am_gu.trans rfl
set_option maxRecDepth 100000 in
theorem u8900_1825 {v0 : Value} {v1 : Value} {v2 : Value} {v3 : Value} {v4 : Value} {v5 : Value} {v6 : Value} {v7 : Value} {v8 : Value} : am_g d X am_m8900 1825 [v0, v1, v2, v3, v4, v5, v6, v7, v8] sk st Q = am_g d X am_m8900 1826 [v0, v1, v2, v3, v4, v5, v6, v7, v8] (.int (am_i 1) :: sk) st Q := am_gu.trans rfl
set_option maxRecDepth 100000 in
theorem u8900_1826 {v0 : Value} {v1 : Value} {v2 : Value} {v3 : Value} {v4 : Value} {v5 : Value} {v6 : Value} {v7 : Value} {v8 : Value} {x : Int32} {y : Int32} : am_g d X am_m8900 1826 [v0, v1, v2, v3, v4, v5, v6, v7, v8] (.int y :: .int x :: sk) st Q = am_g d X am_m8900 1827 [v0, v1, v2, v3, v4, v5, v6, v7, v8] (.int (x + y) :: sk) st Q := am_gu.trans rfl
set_option maxRecDepth 100000 in
theorem u8900_1827 {v0 : Value} {v1 : Value} {v2 : Value} {v3 : Value} {v4 : Value} {v5 : Value} {v6 : Value} {v7 : Value} {v8 : Value} : am_g d X am_m8900 1827 [v0, v1, v2, v3, v4, v5, v6, v7, v8] sk st Q = am_xl (X.1, X.2.1, d) am_m8900 1828 [v0, v1, v2, v3, v4, v5, v6, v7, v8] sk st (fun pc lc sk st => am_g d X am_m8900 pc lc sk st Q) := am_gu.trans rfl
set_option maxRecDepth 100000 in
theorem u8900_1828 {v1 : Value} {v2 : Value} {v3 : Value} {v4 : Value} {v5 : Value} {v6 : Value} {v7 : Value} {v8 : Value} : am_g d X am_m8900 1828 [.retAddr 0, v1, v2, v3, v4, v5, v6, v7, v8] sk st Q = am_g d X am_m8900 1829 [.retAddr 0, v1, v2, v3, v4, v5, v6, v7, v8] (.retAddr 0 :: sk) st Q := am_gu.trans rfl
set_option maxRecDepth 100000 in
theorem u8900_1829 {v0 : Value} {v1 : Value} {v2 : Value} {v3 : Value} {v5 : Value} {v6 : Value} {v7 : Value} {v8 : Value} {x : Int32} : am_g d X am_m8900 1829 [v0, v1, v2, v3, .int x, v5, v6, v7, v8] sk st Q = am_g d X am_m8900 1831 [v0, v1, v2, v3, .int x, v5, v6, v7, v8] (.int x :: sk) st Q := am_gu.trans rfl
set_option maxRecDepth 100000 in
theorem u8900_1831 {v0 : Value} {v1 : Value} {v2 : Value} {v3 : Value} {v4 : Value} {v5 : Value} {v6 : Value} {v7 : Value} {v8 : Value} : am_g d X am_m8900 1831 [v0, v1, v2, v3, v4, v5, v6, v7, v8] sk st Q = am_g d X am_m8900 1832 [v0, v1, v2, v3, v4, v5, v6, v7, v8] (.int (am_i 2) :: sk) st Q := am_gu.trans rfl
set_option maxRecDepth 100000 in
theorem u8900_1832 {v0 : Value} {v1 : Value} {v2 : Value} {v3 : Value} {v4 : Value} {v5 : Value} {v6 : Value} {v7 : Value} {v8 : Value} {x : Int32} {y : Int32} : am_g d X am_m8900 1832 [v0, v1, v2, v3, v4, v5, v6, v7, v8] (.int y :: .int x :: sk) st Q = am_g d X am_m8900 1833 [v0, v1, v2, v3, v4, v5, v6, v7, v8] (.int (x + y) :: sk) st Q := am_gu.trans rfl
set_option maxRecDepth 100000 in
theorem u8900_1833 {v0 : Value} {v1 : Value} {v2 : Value} {v3 : Value} {v4 : Value} {v5 : Value} {v6 : Value} {v7 : Value} {v8 : Value} : am_g d X am_m8900 1833 [v0, v1, v2, v3, v4, v5, v6, v7, v8] sk st Q = am_xl (X.1, X.2.1, d) am_m8900 1834 [v0, v1, v2, v3, v4, v5, v6, v7, v8] sk st (fun pc lc sk st => am_g d X am_m8900 pc lc sk st Q) := am_gu.trans rfl
set_option maxRecDepth 100000 in
theorem u8900_1834 {v1 : Value} {v2 : Value} {v3 : Value} {v4 : Value} {v5 : Value} {v6 : Value} {v7 : Value} {v8 : Value} : am_g d X am_m8900 1834 [.retAddr 0, v1, v2, v3, v4, v5, v6, v7, v8] sk st Q = am_g d X am_m8900 1835 [.retAddr 0, v1, v2, v3, v4, v5, v6, v7, v8] (.retAddr 0 :: sk) st Q := am_gu.trans rfl
set_option maxRecDepth 100000 in
theorem u8900_1835 {v0 : Value} {v1 : Value} {v2 : Value} {v3 : Value} {v5 : Value} {v6 : Value} {v7 : Value} {v8 : Value} {x : Int32} : am_g d X am_m8900 1835 [v0, v1, v2, v3, .int x, v5, v6, v7, v8] sk st Q = am_g d X am_m8900 1837 [v0, v1, v2, v3, .int x, v5, v6, v7, v8] (.int x :: sk) st Q := am_gu.trans rfl
set_option maxRecDepth 100000 in
theorem u8900_1837 {v0 : Value} {v1 : Value} {v2 : Value} {v3 : Value} {v4 : Value} {v5 : Value} {v6 : Value} {v7 : Value} {v8 : Value} : am_g d X am_m8900 1837 [v0, v1, v2, v3, v4, v5, v6, v7, v8] sk st Q = am_g d X am_m8900 1838 [v0, v1, v2, v3, v4, v5, v6, v7, v8] (.int (am_i 3) :: sk) st Q := am_gu.trans rfl
set_option maxRecDepth 100000 in
theorem u8900_1838 {v0 : Value} {v1 : Value} {v2 : Value} {v3 : Value} {v4 : Value} {v5 : Value} {v6 : Value} {v7 : Value} {v8 : Value} {x : Int32} {y : Int32} : am_g d X am_m8900 1838 [v0, v1, v2, v3, v4, v5, v6, v7, v8] (.int y :: .int x :: sk) st Q = am_g d X am_m8900 1839 [v0, v1, v2, v3, v4, v5, v6, v7, v8] (.int (x + y) :: sk) st Q := am_gu.trans rfl
set_option maxRecDepth 100000 in
theorem u8900_1839 {v0 : Value} {v1 : Value} {v2 : Value} {v3 : Value} {v4 : Value} {v5 : Value} {v6 : Value} {v7 : Value} {v8 : Value} : am_g d X am_m8900 1839 [v0, v1, v2, v3, v4, v5, v6, v7, v8] sk st Q = am_xl (X.1, X.2.1, d) am_m8900 1840 [v0, v1, v2, v3, v4, v5, v6, v7, v8] sk st (fun pc lc sk st => am_g d X am_m8900 pc lc sk st Q) := am_gu.trans rfl
set_option maxRecDepth 100000 in
theorem u8900_1840 {v1 : Value} {v2 : Value} {v3 : Value} {v4 : Value} {v5 : Value} {v6 : Value} {v7 : Value} {v8 : Value} : am_g d X am_m8900 1840 [.retAddr 0, v1, v2, v3, v4, v5, v6, v7, v8] sk st Q = am_g d X am_m8900 1841 [.retAddr 0, v1, v2, v3, v4, v5, v6, v7, v8] (.retAddr 0 :: sk) st Q := am_gu.trans rfl
set_option maxRecDepth 100000 in
theorem u8900_1841 {v0 : Value} {v1 : Value} {v2 : Value} {v3 : Value} {v5 : Value} {v6 : Value} {v7 : Value} {v8 : Value} {x : Int32} : am_g d X am_m8900 1841 [v0, v1, v2, v3, .int x, v5, v6, v7, v8] sk st Q = am_g d X am_m8900 1843 [v0, v1, v2, v3, .int x, v5, v6, v7, v8] (.int x :: sk) st Q := am_gu.trans rfl
set_option maxRecDepth 100000 in
theorem u8900_1843 {v0 : Value} {v1 : Value} {v2 : Value} {v3 : Value} {v4 : Value} {v5 : Value} {v6 : Value} {v7 : Value} {v8 : Value} : am_g d X am_m8900 1843 [v0, v1, v2, v3, v4, v5, v6, v7, v8] sk st Q = am_g d X am_m8900 1844 [v0, v1, v2, v3, v4, v5, v6, v7, v8] (.int (am_i 4) :: sk) st Q := am_gu.trans rfl
set_option maxRecDepth 100000 in
theorem u8900_1844 {v0 : Value} {v1 : Value} {v2 : Value} {v3 : Value} {v4 : Value} {v5 : Value} {v6 : Value} {v7 : Value} {v8 : Value} {x : Int32} {y : Int32} : am_g d X am_m8900 1844 [v0, v1, v2, v3, v4, v5, v6, v7, v8] (.int y :: .int x :: sk) st Q = am_g d X am_m8900 1845 [v0, v1, v2, v3, v4, v5, v6, v7, v8] (.int (x + y) :: sk) st Q := am_gu.trans rfl
set_option maxRecDepth 100000 in
theorem u8900_1845 {v0 : Value} {v1 : Value} {v2 : Value} {v3 : Value} {v4 : Value} {v5 : Value} {v6 : Value} {v7 : Value} {v8 : Value} : am_g d X am_m8900 1845 [v0, v1, v2, v3, v4, v5, v6, v7, v8] sk st Q = am_xl (X.1, X.2.1, d) am_m8900 1846 [v0, v1, v2, v3, v4, v5, v6, v7, v8] sk st (fun pc lc sk st => am_g d X am_m8900 pc lc sk st Q) := am_gu.trans rfl
set_option maxRecDepth 100000 in
theorem u8900_1846 {a0 : Value} {a1 : Value} {a2 : Value} {a3 : Value} {v0 : Value} {v1 : Value} {v2 : Value} {v3 : Value} {v4 : Value} {v5 : Value} {v6 : Value} {v7 : Value} {v8 : Value} : am_g d X am_m8900 1846 [v0, v1, v2, v3, v4, v5, v6, v7, v8] (a3 :: a2 :: a1 :: a0 :: .ref o :: sk) st Q = ((am_ob st o 7 ∧ sk.length ≤ 4) ∧ am_Ca X d 7098 [.ref o, a0, a1, a2, a3] st (am_af am_m8900 1846 [v0, v1, v2, v3, v4, v5, v6, v7, v8] sk (fun pc lc sk st => am_g d X am_m8900 pc lc sk st Q) Q)) := am_gu.trans rfl
set_option maxRecDepth 100000 in
theorem u8900_1849 {v0 : Value} {v1 : Value} {v2 : Value} {v3 : Value} {v4 : Value} {v5 : Value} {v6 : Value} {v7 : Value} {v8 : Value} {x : Int32} : am_g d X am_m8900 1849 [v0, v1, v2, v3, v4, v5, v6, v7, v8] (.int x :: sk) st Q = am_g d X am_m8900 1851 [v0, v1, v2, v3, v4, am_kc v5, .int x, v7, v8] sk st Q := am_gu.trans (congrArg (fun l => am_g d X am_m8900 1851 (List.set l 6 (.int x)) sk st Q) (kl_6 (l := [v6, v7, v8])))
set_option maxRecDepth 100000 in
theorem u8900_1851 {v0 : Value} {v1 : Value} {v3 : Value} {v4 : Value} {v5 : Value} {v6 : Value} {v7 : Value} {v8 : Value} {x : Nat} : am_g d X am_m8900 1851 [v0, v1, .ref x, v3, v4, v5, v6, v7, v8] sk st Q = am_g d X am_m8900 1852 [v0, v1, .ref x, v3, v4, v5, v6, v7, v8] (.ref x :: sk) st Q := am_gu.trans rfl
set_option maxRecDepth 100000 in
theorem u8900_1852 {v0 : Value} {v1 : Value} {v2 : Value} {v3 : Value} {v4 : Value} {v5 : Value} {v6 : Value} {v7 : Value} {v8 : Value} : am_g d X am_m8900 1852 [v0, v1, v2, v3, v4, v5, v6, v7, v8] (.ref o :: sk) st Q = ((am_ob st o 7 ∧ sk.length ≤ 4) ∧ am_Ca X d 7002 [.ref o] st (am_af am_m8900 1852 [v0, v1, v2, v3, v4, v5, v6, v7, v8] sk (fun pc lc sk st => am_g d X am_m8900 pc lc sk st Q) Q)) := am_gu.trans rfl
set_option maxRecDepth 100000 in
theorem u8900_1855 {v0 : Value} {v1 : Value} {v2 : Value} {v3 : Value} {v4 : Value} {v6 : Value} {v7 : Value} {v8 : Value} {x : Int32} : am_g d X am_m8900 1855 [v0, v1, v2, v3, v4, .int x, v6, v7, v8] sk st Q = am_g d X am_m8900 1857 [v0, v1, v2, v3, v4, .int x, v6, v7, v8] (.int x :: sk) st Q := am_gu.trans rfl
set_option maxRecDepth 100000 in
theorem u8900_1857 {v0 : Value} {v1 : Value} {v2 : Value} {v3 : Value} {v4 : Value} {v5 : Value} {v6 : Value} {v7 : Value} {v8 : Value} {x : Int32} {y : Int32} : am_g d X am_m8900 1857 [v0, v1, v2, v3, v4, v5, v6, v7, v8] (.int y :: .int x :: sk) st Q = (if decide (x = y) = true then am_g d X am_m8900 1862 [v0, v1, v2, v3, v4, v5, v6, v7, v8] sk st Q else am_g d X am_m8900 1860 [v0, v1, v2, v3, v4, v5, v6, v7, v8] sk st Q) := am_gu.trans rfl
set_option maxRecDepth 100000 in
theorem u8900_1860 {v0 : Value} {v1 : Value} {v2 : Value} {v3 : Value} {v4 : Value} {v5 : Value} {v6 : Value} {v7 : Value} {v8 : Value} : am_g d X am_m8900 1860 [v0, v1, v2, v3, v4, v5, v6, v7, v8] sk st Q = am_g d X am_m8900 1861 [v0, v1, v2, v3, v4, v5, v6, v7, v8] (.int (am_i 0) :: sk) st Q := am_gu.trans rfl
set_option maxRecDepth 100000 in
theorem u8900_1861 {v0 : Value} {v1 : Value} {v2 : Value} {v3 : Value} {v4 : Value} {v5 : Value} {v6 : Value} {v7 : Value} {v8 : Value} {x : Int32} : am_g d X am_m8900 1861 [v0, v1, v2, v3, v4, v5, v6, v7, v8] [.int x] st Q = ((x = 0 ∨ x = 1) ∧ Q (.inl (some (.int x))) st) := am_gu.trans rfl
set_option maxRecDepth 100000 in
theorem u8900_1862 {v0 : Value} {v1 : Value} {v2 : Value} {v3 : Value} {v4 : Value} {v6 : Value} {v7 : Value} {v8 : Value} {x : Int32} : am_g d X am_m8900 1862 [v0, v1, v2, v3, v4, .int x, v6, v7, v8] sk st Q = am_g d X am_m8900 1864 [v0, v1, v2, v3, v4, .int x, v6, v7, v8] (.int x :: sk) st Q := am_gu.trans rfl
set_option maxRecDepth 100000 in
theorem u8900_1864 {v0 : Value} {v1 : Value} {v2 : Value} {v3 : Value} {v4 : Value} {v5 : Value} {v6 : Value} {v7 : Value} {v8 : Value} {x : Int32} : am_g d X am_m8900 1864 [v0, v1, v2, v3, v4, v5, v6, v7, v8] (.int x :: sk) st Q = (if decide (¬ x = 0) = true then am_g d X am_m8900 1879 [v0, v1, v2, v3, v4, v5, v6, v7, v8] sk st Q else am_g d X am_m8900 1867 [v0, v1, v2, v3, v4, v5, v6, v7, v8] sk st Q) := am_gu.trans rfl
set_option maxRecDepth 100000 in
theorem u8900_1867 {v0 : Value} {v1 : Value} {v2 : Value} {v4 : Value} {v5 : Value} {v6 : Value} {v7 : Value} {v8 : Value} {x : Nat} : am_g d X am_m8900 1867 [v0, v1, v2, .ref x, v4, v5, v6, v7, v8] sk st Q = am_g d X am_m8900 1868 [v0, v1, v2, .ref x, v4, v5, v6, v7, v8] (.ref x :: sk) st Q := am_gu.trans rfl
set_option maxRecDepth 100000 in
theorem u8900_1868 {v0 : Value} {v1 : Value} {v2 : Value} {v3 : Value} {v4 : Value} {v5 : Value} {v6 : Value} {v7 : Value} {v8 : Value} : am_g d X am_m8900 1868 [v0, v1, v2, v3, v4, v5, v6, v7, v8] sk st Q = am_g d X am_m8900 1869 [v0, v1, v2, v3, v4, v5, v6, v7, v8] (.int (am_i 0) :: sk) st Q := am_gu.trans rfl
set_option maxRecDepth 100000 in
theorem u8900_1869 {v0 : Value} {v1 : Value} {v2 : Value} {v3 : Value} {v4 : Value} {v5 : Value} {v6 : Value} {v7 : Value} {v8 : Value} : am_g d X am_m8900 1869 [v0, v1, v2, v3, v4, v5, v6, v7, v8] sk st Q = am_jl 1870 [v0, v1, v2, v3, v4, v5, v6, v7, v8] sk st (fun pc lc sk st => am_g d X am_m8900 pc lc sk st Q) := am_gu.trans rfl
set_option maxRecDepth 100000 in
theorem u8900_1870 {v0 : Value} {v1 : Value} {v2 : Value} {v3 : Value} {v4 : Value} {v5 : Value} {v7 : Value} {v8 : Value} {x : Int32} : am_g d X am_m8900 1870 [v0, v1, v2, v3, v4, v5, .int x, v7, v8] sk st Q = am_g d X am_m8900 1872 [v0, v1, v2, v3, v4, v5, .int x, v7, v8] (.int x :: sk) st Q := am_gu.trans rfl
set_option maxRecDepth 100000 in
theorem u8900_1872 {v0 : Value} {v1 : Value} {v2 : Value} {v3 : Value} {v4 : Value} {v5 : Value} {v6 : Value} {v7 : Value} {v8 : Value} {x : Int32} : am_g d X am_m8900 1872 [v0, v1, v2, v3, v4, v5, v6, v7, v8] (.int x :: sk) st Q = am_g d X am_m8900 1873 [v0, v1, v2, v3, v4, v5, v6, v7, v8] (.long x.toInt64 :: sk) st Q := am_gu.trans rfl
set_option maxRecDepth 100000 in
theorem u8900_1873 {v0 : Value} {v1 : Value} {v2 : Value} {v3 : Value} {v4 : Value} {v5 : Value} {v6 : Value} {v7 : Value} {v8 : Value} {x : Int64} {y : Int64} : am_g d X am_m8900 1873 [v0, v1, v2, v3, v4, v5, v6, v7, v8] (.long y :: .long x :: sk) st Q = am_g d X am_m8900 1874 [v0, v1, v2, v3, v4, v5, v6, v7, v8] (.int (lg_cmp x y) :: sk) st Q := am_gu.trans rfl
set_option maxRecDepth 100000 in
theorem u8900_1874 {v0 : Value} {v1 : Value} {v2 : Value} {v3 : Value} {v4 : Value} {v5 : Value} {v6 : Value} {v7 : Value} {v8 : Value} {x : Int32} : am_g d X am_m8900 1874 [v0, v1, v2, v3, v4, v5, v6, v7, v8] (.int x :: sk) st Q = (if decide (x = 0) = true then am_g d X am_m8900 1879 [v0, v1, v2, v3, v4, v5, v6, v7, v8] sk st Q else am_g d X am_m8900 1877 [v0, v1, v2, v3, v4, v5, v6, v7, v8] sk st Q) := am_gu.trans rfl
set_option maxRecDepth 100000 in
theorem u8900_1877 {v0 : Value} {v1 : Value} {v2 : Value} {v3 : Value} {v4 : Value} {v5 : Value} {v6 : Value} {v7 : Value} {v8 : Value} : am_g d X am_m8900 1877 [v0, v1, v2, v3, v4, v5, v6, v7, v8] sk st Q = am_g d X am_m8900 1878 [v0, v1, v2, v3, v4, v5, v6, v7, v8] (.int (am_i 0) :: sk) st Q := am_gu.trans rfl
set_option maxRecDepth 100000 in
theorem u8900_1878 {v0 : Value} {v1 : Value} {v2 : Value} {v3 : Value} {v4 : Value} {v5 : Value} {v6 : Value} {v7 : Value} {v8 : Value} {x : Int32} : am_g d X am_m8900 1878 [v0, v1, v2, v3, v4, v5, v6, v7, v8] [.int x] st Q = ((x = 0 ∨ x = 1) ∧ Q (.inl (some (.int x))) st) := am_gu.trans rfl
set_option maxRecDepth 100000 in
theorem u8900_1879 {v0 : Value} {v1 : Value} {v2 : Value} {v3 : Value} {v4 : Value} {v5 : Value} {v6 : Value} {v7 : Value} {v8 : Value} : am_g d X am_m8900 1879 [v0, v1, v2, v3, v4, v5, v6, v7, v8] sk st Q = am_g d X am_m8900 2998 [v0, v1, v2, v3, v4, v5, v6, v7, v8] sk st Q := am_gu.trans rfl
set_option maxRecDepth 100000 in
theorem u8900_1882 {v0 : Value} {v2 : Value} {v3 : Value} {v4 : Value} {v5 : Value} {v6 : Value} {v7 : Value} {v8 : Value} {x : Nat} : am_g d X am_m8900 1882 [v0, .ref x, v2, v3, v4, v5, v6, v7, v8] sk st Q = am_g d X am_m8900 1883 [v0, .ref x, v2, v3, v4, v5, v6, v7, v8] (.ref x :: sk) st Q := am_gu.trans rfl
set_option maxRecDepth 100000 in
theorem u8900_1883 {v0 : Value} {v1 : Value} {v2 : Value} {v3 : Value} {v4 : Value} {v5 : Value} {v6 : Value} {v7 : Value} {v8 : Value} : am_g d X am_m8900 1883 [v0, v1, v2, v3, v4, v5, v6, v7, v8] (.ref o :: sk) st Q = ((am_ob st o 6 ∧ sk.length ≤ 4) ∧ am_Ca X d 6034 [.ref o] st (am_af am_m8900 1883 [v0, v1, v2, v3, v4, v5, v6, v7, v8] sk (fun pc lc sk st => am_g d X am_m8900 pc lc sk st Q) Q)) := am_gu.trans rfl
set_option maxRecDepth 100000 in
theorem u8900_1886 {v0 : Value} {v1 : Value} {v2 : Value} {v3 : Value} {v4 : Value} {v5 : Value} {v6 : Value} {v7 : Value} {v8 : Value} {x : UInt64} : am_g d X am_m8900 1886 [v0, v1, v2, v3, v4, v5, v6, v7, v8] (.double x :: sk) st Q = am_g d X am_m8900 1888 [v0, v1, v2, v3, am_kc v4, .double x, am_u, v7, v8] sk st Q := am_gu.trans (congrArg (fun l => am_g d X am_m8900 1888 (List.set (List.set l 5 (Value.double x)) 6 am_u) sk st Q) (kl_5 (l := [v5, v6, v7, v8])))
set_option maxRecDepth 100000 in
theorem u8900_1888 {v0 : Value} {v1 : Value} {v3 : Value} {v4 : Value} {v5 : Value} {v6 : Value} {v7 : Value} {v8 : Value} {x : Nat} : am_g d X am_m8900 1888 [v0, v1, .ref x, v3, v4, v5, v6, v7, v8] sk st Q = am_g d X am_m8900 1889 [v0, v1, .ref x, v3, v4, v5, v6, v7, v8] (.ref x :: sk) st Q := am_gu.trans rfl
set_option maxRecDepth 100000 in
theorem u8900_1889 {v0 : Value} {v1 : Value} {v2 : Value} {v3 : Value} {v4 : Value} {v5 : Value} {v6 : Value} {v7 : Value} {v8 : Value} : am_g d X am_m8900 1889 [v0, v1, v2, v3, v4, v5, v6, v7, v8] (.ref o :: sk) st Q = ((am_ob st o 7 ∧ sk.length ≤ 4) ∧ am_Ca X d 7099 [.ref o] st (am_af am_m8900 1889 [v0, v1, v2, v3, v4, v5, v6, v7, v8] sk (fun pc lc sk st => am_g d X am_m8900 pc lc sk st Q) Q)) := am_gu.trans rfl
set_option maxRecDepth 100000 in
theorem u8900_1892 {v0 : Value} {v1 : Value} {v2 : Value} {v3 : Value} {v4 : Value} {v5 : Value} {v6 : Value} {v7 : Value} {v8 : Value} {x : UInt64} : am_g d X am_m8900 1892 [v0, v1, v2, v3, v4, v5, v6, v7, v8] (.double x :: sk) st Q = am_g d X am_m8900 1894 [v0, v1, v2, v3, v4, v5, am_kc v6, .double x, am_u] sk st Q := am_gu.trans (congrArg (fun l => am_g d X am_m8900 1894 (List.set (List.set l 7 (Value.double x)) 8 am_u) sk st Q) (kl_7 (l := [v7, v8])))
set_option maxRecDepth 100000 in
theorem u8900_1894 {v0 : Value} {v1 : Value} {v2 : Value} {v3 : Value} {v4 : Value} {v6 : Value} {v7 : Value} {v8 : Value} {x : UInt64} : am_g d X am_m8900 1894 [v0, v1, v2, v3, v4, .double x, v6, v7, v8] sk st Q = am_g d X am_m8900 1896 [v0, v1, v2, v3, v4, .double x, v6, v7, v8] (.double x :: sk) st Q := am_gu.trans rfl
set_option maxRecDepth 100000 in
theorem u8900_1896 {v0 : Value} {v1 : Value} {v2 : Value} {v3 : Value} {v4 : Value} {v5 : Value} {v6 : Value} {v8 : Value} {x : UInt64} : am_g d X am_m8900 1896 [v0, v1, v2, v3, v4, v5, v6, .double x, v8] sk st Q = am_g d X am_m8900 1898 [v0, v1, v2, v3, v4, v5, v6, .double x, v8] (.double x :: sk) st Q := am_gu.trans rfl
set_option maxRecDepth 100000 in
theorem u8900_1898 {v0 : Value} {v1 : Value} {v2 : Value} {v3 : Value} {v4 : Value} {v5 : Value} {v6 : Value} {v7 : Value} {v8 : Value} {x : UInt64} {y : UInt64} : am_g d X am_m8900 1898 [v0, v1, v2, v3, v4, v5, v6, v7, v8] (.double y :: .double x :: sk) st Q = am_g d X am_m8900 1899 [v0, v1, v2, v3, v4, v5, v6, v7, v8] (.int (Op.cmpValue (FP.dcmp x y) .l) :: sk) st Q := am_gu.trans rfl
set_option maxRecDepth 100000 in
theorem u8900_1899 {v0 : Value} {v1 : Value} {v2 : Value} {v3 : Value} {v4 : Value} {v5 : Value} {v6 : Value} {v7 : Value} {v8 : Value} {x : Int32} : am_g d X am_m8900 1899 [v0, v1, v2, v3, v4, v5, v6, v7, v8] (.int x :: sk) st Q = (if decide (x = 0) = true then am_g d X am_m8900 1920 [v0, v1, v2, v3, v4, v5, v6, v7, v8] sk st Q else am_g d X am_m8900 1902 [v0, v1, v2, v3, v4, v5, v6, v7, v8] sk st Q) := am_gu.trans rfl
set_option maxRecDepth 100000 in
theorem u8900_1902 {v0 : Value} {v1 : Value} {v2 : Value} {v3 : Value} {v4 : Value} {v6 : Value} {v7 : Value} {v8 : Value} {x : UInt64} : am_g d X am_m8900 1902 [v0, v1, v2, v3, v4, .double x, v6, v7, v8] sk st Q = am_g d X am_m8900 1904 [v0, v1, v2, v3, v4, .double x, v6, v7, v8] (.double x :: sk) st Q := am_gu.trans rfl
set_option maxRecDepth 100000 in
theorem u8900_1904 {v0 : Value} {v1 : Value} {v2 : Value} {v3 : Value} {v4 : Value} {v6 : Value} {v7 : Value} {v8 : Value} {x : UInt64} : am_g d X am_m8900 1904 [v0, v1, v2, v3, v4, .double x, v6, v7, v8] sk st Q = am_g d X am_m8900 1906 [v0, v1, v2, v3, v4, .double x, v6, v7, v8] (.double x :: sk) st Q := am_gu.trans rfl
set_option maxRecDepth 100000 in
theorem u8900_1906 {v0 : Value} {v1 : Value} {v2 : Value} {v3 : Value} {v4 : Value} {v5 : Value} {v6 : Value} {v7 : Value} {v8 : Value} {x : UInt64} {y : UInt64} : am_g d X am_m8900 1906 [v0, v1, v2, v3, v4, v5, v6, v7, v8] (.double y :: .double x :: sk) st Q = am_g d X am_m8900 1907 [v0, v1, v2, v3, v4, v5, v6, v7, v8] (.int (Op.cmpValue (FP.dcmp x y) .l) :: sk) st Q := am_gu.trans rfl
set_option maxRecDepth 100000 in
theorem u8900_1907 {v0 : Value} {v1 : Value} {v2 : Value} {v3 : Value} {v4 : Value} {v5 : Value} {v6 : Value} {v7 : Value} {v8 : Value} {x : Int32} : am_g d X am_m8900 1907 [v0, v1, v2, v3, v4, v5, v6, v7, v8] (.int x :: sk) st Q = (if decide (x = 0) = true then am_g d X am_m8900 1918 [v0, v1, v2, v3, v4, v5, v6, v7, v8] sk st Q else am_g d X am_m8900 1910 [v0, v1, v2, v3, v4, v5, v6, v7, v8] sk st Q) := am_gu.trans rfl
set_option maxRecDepth 100000 in
theorem u8900_1910 {v0 : Value} {v1 : Value} {v2 : Value} {v3 : Value} {v4 : Value} {v5 : Value} {v6 : Value} {v8 : Value} {x : UInt64} : am_g d X am_m8900 1910 [v0, v1, v2, v3, v4, v5, v6, .double x, v8] sk st Q = am_g d X am_m8900 1912 [v0, v1, v2, v3, v4, v5, v6, .double x, v8] (.double x :: sk) st Q := am_gu.trans rfl
set_option maxRecDepth 100000 in
theorem u8900_1912 {v0 : Value} {v1 : Value} {v2 : Value} {v3 : Value} {v4 : Value} {v5 : Value} {v6 : Value} {v8 : Value} {x : UInt64} : am_g d X am_m8900 1912 [v0, v1, v2, v3, v4, v5, v6, .double x, v8] sk st Q = am_g d X am_m8900 1914 [v0, v1, v2, v3, v4, v5, v6, .double x, v8] (.double x :: sk) st Q := am_gu.trans rfl
set_option maxRecDepth 100000 in
theorem u8900_1914 {v0 : Value} {v1 : Value} {v2 : Value} {v3 : Value} {v4 : Value} {v5 : Value} {v6 : Value} {v7 : Value} {v8 : Value} {x : UInt64} {y : UInt64} : am_g d X am_m8900 1914 [v0, v1, v2, v3, v4, v5, v6, v7, v8] (.double y :: .double x :: sk) st Q = am_g d X am_m8900 1915 [v0, v1, v2, v3, v4, v5, v6, v7, v8] (.int (Op.cmpValue (FP.dcmp x y) .l) :: sk) st Q := am_gu.trans rfl
set_option maxRecDepth 100000 in
theorem u8900_1915 {v0 : Value} {v1 : Value} {v2 : Value} {v3 : Value} {v4 : Value} {v5 : Value} {v6 : Value} {v7 : Value} {v8 : Value} {x : Int32} : am_g d X am_m8900 1915 [v0, v1, v2, v3, v4, v5, v6, v7, v8] (.int x :: sk) st Q = (if decide (¬ x = 0) = true then am_g d X am_m8900 1920 [v0, v1, v2, v3, v4, v5, v6, v7, v8] sk st Q else am_g d X am_m8900 1918 [v0, v1, v2, v3, v4, v5, v6, v7, v8] sk st Q) := am_gu.trans rfl
set_option maxRecDepth 100000 in
theorem u8900_1918 {v0 : Value} {v1 : Value} {v2 : Value} {v3 : Value} {v4 : Value} {v5 : Value} {v6 : Value} {v7 : Value} {v8 : Value} : am_g d X am_m8900 1918 [v0, v1, v2, v3, v4, v5, v6, v7, v8] sk st Q = am_g d X am_m8900 1919 [v0, v1, v2, v3, v4, v5, v6, v7, v8] (.int (am_i 0) :: sk) st Q := am_gu.trans rfl
set_option maxRecDepth 100000 in
theorem u8900_1919 {v0 : Value} {v1 : Value} {v2 : Value} {v3 : Value} {v4 : Value} {v5 : Value} {v6 : Value} {v7 : Value} {v8 : Value} {x : Int32} : am_g d X am_m8900 1919 [v0, v1, v2, v3, v4, v5, v6, v7, v8] [.int x] st Q = ((x = 0 ∨ x = 1) ∧ Q (.inl (some (.int x))) st) := am_gu.trans rfl
set_option maxRecDepth 100000 in
theorem u8900_1920 {v0 : Value} {v1 : Value} {v2 : Value} {v3 : Value} {v4 : Value} {v5 : Value} {v6 : Value} {v7 : Value} {v8 : Value} : am_g d X am_m8900 1920 [v0, v1, v2, v3, v4, v5, v6, v7, v8] sk st Q = am_g d X am_m8900 2998 [v0, v1, v2, v3, v4, v5, v6, v7, v8] sk st Q := am_gu.trans rfl
set_option maxRecDepth 100000 in
theorem u8900_1923 {v0 : Value} {v2 : Value} {v3 : Value} {v4 : Value} {v5 : Value} {v6 : Value} {v7 : Value} {v8 : Value} {x : Nat} : am_g d X am_m8900 1923 [v0, .ref x, v2, v3, v4, v5, v6, v7, v8] sk st Q = am_g d X am_m8900 1924 [v0, .ref x, v2, v3, v4, v5, v6, v7, v8] (.ref x :: sk) st Q := am_gu.trans rfl
set_option maxRecDepth 100000 in
theorem u8900_1924 {v0 : Value} {v1 : Value} {v2 : Value} {v3 : Value} {v4 : Value} {v5 : Value} {v6 : Value} {v7 : Value} {v8 : Value} : am_g d X am_m8900 1924 [v0, v1, v2, v3, v4, v5, v6, v7, v8] (.ref o :: sk) st Q = ((am_ob st o 6 ∧ sk.length ≤ 4) ∧ am_Ca X d 6035 [.ref o] st (am_af am_m8900 1924 [v0, v1, v2, v3, v4, v5, v6, v7, v8] sk (fun pc lc sk st => am_g d X am_m8900 pc lc sk st Q) Q)) := am_gu.trans rfl
set_option maxRecDepth 100000 in
theorem u8900_1927 {v0 : Value} {v1 : Value} {v3 : Value} {v4 : Value} {v5 : Value} {v6 : Value} {v7 : Value} {v8 : Value} {x : Nat} : am_g d X am_m8900 1927 [v0, v1, .ref x, v3, v4, v5, v6, v7, v8] sk st Q = am_g d X am_m8900 1928 [v0, v1, .ref x, v3, v4, v5, v6, v7, v8] (.ref x :: sk) st Q := am_gu.trans rfl
set_option maxRecDepth 100000 in
theorem u8900_1928 {v0 : Value} {v1 : Value} {v2 : Value} {v3 : Value} {v4 : Value} {v5 : Value} {v6 : Value} {v7 : Value} {v8 : Value} : am_g d X am_m8900 1928 [v0, v1, v2, v3, v4, v5, v6, v7, v8] (.ref o :: sk) st Q = ((am_ob st o 7 ∧ sk.length ≤ 4) ∧ am_Ca X d 7100 [.ref o] st (am_af am_m8900 1928 [v0, v1, v2, v3, v4, v5, v6, v7, v8] sk (fun pc lc sk st => am_g d X am_m8900 pc lc sk st Q) Q)) := am_gu.trans rfl
set_option maxRecDepth 100000 in
theorem u8900_1931 {v0 : Value} {v1 : Value} {v2 : Value} {v3 : Value} {v4 : Value} {v5 : Value} {v6 : Value} {v7 : Value} {v8 : Value} {x : Int32} {y : Int32} : am_g d X am_m8900 1931 [v0, v1, v2, v3, v4, v5, v6, v7, v8] (.int y :: .int x :: sk) st Q = (if decide (x = y) = true then am_g d X am_m8900 2998 [v0, v1, v2, v3, v4, v5, v6, v7, v8] sk st Q else am_g d X am_m8900 1934 [v0, v1, v2, v3, v4, v5, v6, v7, v8] sk st Q) := am_gu.trans rfl
set_option maxRecDepth 100000 in
theorem u8900_1934 {v0 : Value} {v1 : Value} {v2 : Value} {v3 : Value} {v4 : Value} {v5 : Value} {v6 : Value} {v7 : Value} {v8 : Value} : am_g d X am_m8900 1934 [v0, v1, v2, v3, v4, v5, v6, v7, v8] sk st Q = am_g d X am_m8900 1935 [v0, v1, v2, v3, v4, v5, v6, v7, v8] (.int (am_i 0) :: sk) st Q := am_gu.trans rfl
set_option maxRecDepth 100000 in
theorem u8900_1935 {v0 : Value} {v1 : Value} {v2 : Value} {v3 : Value} {v4 : Value} {v5 : Value} {v6 : Value} {v7 : Value} {v8 : Value} {x : Int32} : am_g d X am_m8900 1935 [v0, v1, v2, v3, v4, v5, v6, v7, v8] [.int x] st Q = ((x = 0 ∨ x = 1) ∧ Q (.inl (some (.int x))) st) := am_gu.trans rfl
set_option maxRecDepth 100000 in
theorem u8900_1936 {v0 : Value} {v2 : Value} {v3 : Value} {v4 : Value} {v5 : Value} {v6 : Value} {v7 : Value} {v8 : Value} {x : Nat} : am_g d X am_m8900 1936 [v0, .ref x, v2, v3, v4, v5, v6, v7, v8] sk st Q = am_g d X am_m8900 1937 [v0, .ref x, v2, v3, v4, v5, v6, v7, v8] (.ref x :: sk) st Q := am_gu.trans rfl
set_option maxRecDepth 100000 in
theorem u8900_1937 {v1 : Value} {v2 : Value} {v3 : Value} {v4 : Value} {v5 : Value} {v6 : Value} {v7 : Value} {v8 : Value} : am_g d X am_m8900 1937 [.retAddr 0, v1, v2, v3, v4, v5, v6, v7, v8] sk st Q = am_g d X am_m8900 1938 [.retAddr 0, v1, v2, v3, v4, v5, v6, v7, v8] (.retAddr 0 :: sk) st Q := am_gu.trans rfl
set_option maxRecDepth 100000 in
theorem u8900_1938 {v0 : Value} {v1 : Value} {v2 : Value} {v3 : Value} {v5 : Value} {v6 : Value} {v7 : Value} {v8 : Value} {x : Int32} : am_g d X am_m8900 1938 [v0, v1, v2, v3, .int x, v5, v6, v7, v8] sk st Q = am_g d X am_m8900 1940 [v0, v1, v2, v3, .int x, v5, v6, v7, v8] (.int x :: sk) st Q := am_gu.trans rfl
set_option maxRecDepth 100000 in
theorem u8900_1940 {v0 : Value} {v1 : Value} {v2 : Value} {v3 : Value} {v4 : Value} {v5 : Value} {v6 : Value} {v7 : Value} {v8 : Value} : am_g d X am_m8900 1940 [v0, v1, v2, v3, v4, v5, v6, v7, v8] sk st Q = am_g d X am_m8900 1941 [v0, v1, v2, v3, v4, v5, v6, v7, v8] (.int (am_i 1) :: sk) st Q := am_gu.trans rfl
set_option maxRecDepth 100000 in
theorem u8900_1941 {v0 : Value} {v1 : Value} {v2 : Value} {v3 : Value} {v4 : Value} {v5 : Value} {v6 : Value} {v7 : Value} {v8 : Value} {x : Int32} {y : Int32} : am_g d X am_m8900 1941 [v0, v1, v2, v3, v4, v5, v6, v7, v8] (.int y :: .int x :: sk) st Q = am_g d X am_m8900 1942 [v0, v1, v2, v3, v4, v5, v6, v7, v8] (.int (x + y) :: sk) st Q := am_gu.trans rfl
set_option maxRecDepth 100000 in
theorem u8900_1942 {v0 : Value} {v1 : Value} {v2 : Value} {v3 : Value} {v4 : Value} {v5 : Value} {v6 : Value} {v7 : Value} {v8 : Value} : am_g d X am_m8900 1942 [v0, v1, v2, v3, v4, v5, v6, v7, v8] sk st Q = am_xl (X.1, X.2.1, d) am_m8900 1943 [v0, v1, v2, v3, v4, v5, v6, v7, v8] sk st (fun pc lc sk st => am_g d X am_m8900 pc lc sk st Q) := am_gu.trans rfl
set_option maxRecDepth 100000 in
theorem u8900_1943 {v0 : Value} {v1 : Value} {v2 : Value} {v4 : Value} {v5 : Value} {v6 : Value} {v7 : Value} {v8 : Value} {x : Nat} : am_g d X am_m8900 1943 [v0, v1, v2, .ref x, v4, v5, v6, v7, v8] sk st Q = am_g d X am_m8900 1944 [v0, v1, v2, .ref x, v4, v5, v6, v7, v8] (.ref x :: sk) st Q := am_gu.trans rfl
set_option maxRecDepth 100000 in
theorem u8900_1944 {a0 : Value} {a1 : Value} {a2 : Value} {v0 : Value} {v1 : Value} {v2 : Value} {v3 : Value} {v4 : Value} {v5 : Value} {v6 : Value} {v7 : Value} {v8 : Value} : am_g d X am_m8900 1944 [v0, v1, v2, v3, v4, v5, v6, v7, v8] (a2 :: a1 :: a0 :: sk) st Q = (sk.length ≤ 4 ∧ am_Ca X d 8025 [a0, a1, a2] st (am_af am_m8900 1944 [v0, v1, v2, v3, v4, v5, v6, v7, v8] sk (fun pc lc sk st => am_g d X am_m8900 pc lc sk st Q) Q)) := am_gu.trans (propext ⟨fun h => ⟨h.1.2, h.2⟩, fun h => ⟨⟨Nat.le_add_left _ _, h.1⟩, h.2⟩⟩)
set_option maxRecDepth 100000 in
theorem u8900_1947 {v0 : Value} {v1 : Value} {v2 : Value} {v3 : Value} {v4 : Value} {v5 : Value} {v6 : Value} {v7 : Value} {v8 : Value} {x : Int32} : am_g d X am_m8900 1947 [v0, v1, v2, v3, v4, v5, v6, v7, v8] (.int x :: sk) st Q = am_g d X am_m8900 1949 [v0, v1, v2, v3, am_kc v4, .int x, v6, v7, v8] sk st Q := am_gu.trans (congrArg (fun l => am_g d X am_m8900 1949 (List.set l 5 (.int x)) sk st Q) (kl_5 (l := [v5, v6, v7, v8])))
set_option maxRecDepth 100000 in
theorem u8900_1949 {v0 : Value} {v1 : Value} {v3 : Value} {v4 : Value} {v5 : Value} {v6 : Value} {v7 : Value} {v8 : Value} {x : Nat} : am_g d X am_m8900 1949 [v0, v1, .ref x, v3, v4, v5, v6, v7, v8] sk st Q = am_g d X am_m8900 1950 [v0, v1, .ref x, v3, v4, v5, v6, v7, v8] (.ref x :: sk) st Q := am_gu.trans rfl
set_option maxRecDepth 100000 in
theorem u8900_1950 {v1 : Value} {v2 : Value} {v3 : Value} {v4 : Value} {v5 : Value} {v6 : Value} {v7 : Value} {v8 : Value} : am_g d X am_m8900 1950 [.retAddr 0, v1, v2, v3, v4, v5, v6, v7, v8] sk st Q = am_g d X am_m8900 1951 [.retAddr 0, v1, v2, v3, v4, v5, v6, v7, v8] (.retAddr 0 :: sk) st Q := am_gu.trans rfl
set_option maxRecDepth 100000 in
theorem u8900_1951 {v0 : Value} {v1 : Value} {v2 : Value} {v3 : Value} {v5 : Value} {v6 : Value} {v7 : Value} {v8 : Value} {x : Int32} : am_g d X am_m8900 1951 [v0, v1, v2, v3, .int x, v5, v6, v7, v8] sk st Q = am_g d X am_m8900 1953 [v0, v1, v2, v3, .int x, v5, v6, v7, v8] (.int x :: sk) st Q := am_gu.trans rfl
set_option maxRecDepth 100000 in
theorem u8900_1953 {v0 : Value} {v1 : Value} {v2 : Value} {v3 : Value} {v4 : Value} {v5 : Value} {v6 : Value} {v7 : Value} {v8 : Value} : am_g d X am_m8900 1953 [v0, v1, v2, v3, v4, v5, v6, v7, v8] sk st Q = am_g d X am_m8900 1954 [v0, v1, v2, v3, v4, v5, v6, v7, v8] (.int (am_i 1) :: sk) st Q := am_gu.trans rfl
set_option maxRecDepth 100000 in
theorem u8900_1954 {v0 : Value} {v1 : Value} {v2 : Value} {v3 : Value} {v4 : Value} {v5 : Value} {v6 : Value} {v7 : Value} {v8 : Value} {x : Int32} {y : Int32} : am_g d X am_m8900 1954 [v0, v1, v2, v3, v4, v5, v6, v7, v8] (.int y :: .int x :: sk) st Q = am_g d X am_m8900 1955 [v0, v1, v2, v3, v4, v5, v6, v7, v8] (.int (x + y) :: sk) st Q := am_gu.trans rfl
set_option maxRecDepth 100000 in
theorem u8900_1955 {v0 : Value} {v1 : Value} {v2 : Value} {v3 : Value} {v4 : Value} {v5 : Value} {v6 : Value} {v7 : Value} {v8 : Value} : am_g d X am_m8900 1955 [v0, v1, v2, v3, v4, v5, v6, v7, v8] sk st Q = am_xl (X.1, X.2.1, d) am_m8900 1956 [v0, v1, v2, v3, v4, v5, v6, v7, v8] sk st (fun pc lc sk st => am_g d X am_m8900 pc lc sk st Q) := am_gu.trans rfl
set_option maxRecDepth 100000 in
theorem u8900_1956 {a0 : Value} {v0 : Value} {v1 : Value} {v2 : Value} {v3 : Value} {v4 : Value} {v5 : Value} {v6 : Value} {v7 : Value} {v8 : Value} : am_g d X am_m8900 1956 [v0, v1, v2, v3, v4, v5, v6, v7, v8] (a0 :: .ref o :: sk) st Q = ((am_ob st o 7 ∧ sk.length ≤ 4) ∧ am_Ca X d 7101 [.ref o, a0] st (am_af am_m8900 1956 [v0, v1, v2, v3, v4, v5, v6, v7, v8] sk (fun pc lc sk st => am_g d X am_m8900 pc lc sk st Q) Q)) := am_gu.trans rfl
set_option maxRecDepth 100000 in
theorem u8900_1959 {v0 : Value} {v1 : Value} {v2 : Value} {v3 : Value} {v4 : Value} {v5 : Value} {v6 : Value} {v7 : Value} {v8 : Value} {x : Int32} : am_g d X am_m8900 1959 [v0, v1, v2, v3, v4, v5, v6, v7, v8] (.int x :: sk) st Q = am_g d X am_m8900 1961 [v0, v1, v2, v3, v4, am_kc v5, .int x, v7, v8] sk st Q := am_gu.trans (congrArg (fun l => am_g d X am_m8900 1961 (List.set l 6 (.int x)) sk st Q) (kl_6 (l := [v6, v7, v8])))
set_option maxRecDepth 100000 in
theorem u8900_1961 {v0 : Value} {v1 : Value} {v3 : Value} {v4 : Value} {v5 : Value} {v6 : Value} {v7 : Value} {v8 : Value} {x : Nat} : am_g d X am_m8900 1961 [v0, v1, .ref x, v3, v4, v5, v6, v7, v8] sk st Q = am_g d X am_m8900 1962 [v0, v1, .ref x, v3, v4, v5, v6, v7, v8] (.ref x :: sk) st Q := am_gu.trans rfl
set_option maxRecDepth 100000 in
theorem u8900_1962 {v0 : Value} {v1 : Value} {v2 : Value} {v3 : Value} {v4 : Value} {v5 : Value} {v6 : Value} {v7 : Value} {v8 : Value} : am_g d X am_m8900 1962 [v0, v1, v2, v3, v4, v5, v6, v7, v8] (.ref o :: sk) st Q = ((am_ob st o 7 ∧ sk.length ≤ 4) ∧ am_Ca X d 7002 [.ref o] st (am_af am_m8900 1962 [v0, v1, v2, v3, v4, v5, v6, v7, v8] sk (fun pc lc sk st => am_g d X am_m8900 pc lc sk st Q) Q)) := am_gu.trans rfl
set_option maxRecDepth 100000 in
theorem u8900_1965 {v0 : Value} {v1 : Value} {v2 : Value} {v3 : Value} {v4 : Value} {v6 : Value} {v7 : Value} {v8 : Value} {x : Int32} : am_g d X am_m8900 1965 [v0, v1, v2, v3, v4, .int x, v6, v7, v8] sk st Q = am_g d X am_m8900 1967 [v0, v1, v2, v3, v4, .int x, v6, v7, v8] (.int x :: sk) st Q := am_gu.trans rfl
set_option maxRecDepth 100000 in
theorem u8900_1967 {v0 : Value} {v1 : Value} {v2 : Value} {v3 : Value} {v4 : Value} {v5 : Value} {v6 : Value} {v7 : Value} {v8 : Value} {x : Int32} {y : Int32} : am_g d X am_m8900 1967 [v0, v1, v2, v3, v4, v5, v6, v7, v8] (.int y :: .int x :: sk) st Q = (if decide (x = y) = true then am_g d X am_m8900 1972 [v0, v1, v2, v3, v4, v5, v6, v7, v8] sk st Q else am_g d X am_m8900 1970 [v0, v1, v2, v3, v4, v5, v6, v7, v8] sk st Q) := am_gu.trans rfl
set_option maxRecDepth 100000 in
theorem u8900_1970 {v0 : Value} {v1 : Value} {v2 : Value} {v3 : Value} {v4 : Value} {v5 : Value} {v6 : Value} {v7 : Value} {v8 : Value} : am_g d X am_m8900 1970 [v0, v1, v2, v3, v4, v5, v6, v7, v8] sk st Q = am_g d X am_m8900 1971 [v0, v1, v2, v3, v4, v5, v6, v7, v8] (.int (am_i 0) :: sk) st Q := am_gu.trans rfl
set_option maxRecDepth 100000 in
theorem u8900_1971 {v0 : Value} {v1 : Value} {v2 : Value} {v3 : Value} {v4 : Value} {v5 : Value} {v6 : Value} {v7 : Value} {v8 : Value} {x : Int32} : am_g d X am_m8900 1971 [v0, v1, v2, v3, v4, v5, v6, v7, v8] [.int x] st Q = ((x = 0 ∨ x = 1) ∧ Q (.inl (some (.int x))) st) := am_gu.trans rfl
set_option maxRecDepth 100000 in
theorem u8900_1972 {v0 : Value} {v1 : Value} {v2 : Value} {v3 : Value} {v4 : Value} {v6 : Value} {v7 : Value} {v8 : Value} {x : Int32} : am_g d X am_m8900 1972 [v0, v1, v2, v3, v4, .int x, v6, v7, v8] sk st Q = am_g d X am_m8900 1974 [v0, v1, v2, v3, v4, .int x, v6, v7, v8] (.int x :: sk) st Q := am_gu.trans rfl
set_option maxRecDepth 100000 in
theorem u8900_1974 {v0 : Value} {v1 : Value} {v2 : Value} {v3 : Value} {v4 : Value} {v5 : Value} {v6 : Value} {v7 : Value} {v8 : Value} {x : Int32} : am_g d X am_m8900 1974 [v0, v1, v2, v3, v4, v5, v6, v7, v8] (.int x :: sk) st Q = (if decide (¬ x = 0) = true then am_g d X am_m8900 1989 [v0, v1, v2, v3, v4, v5, v6, v7, v8] sk st Q else am_g d X am_m8900 1977 [v0, v1, v2, v3, v4, v5, v6, v7, v8] sk st Q) := am_gu.trans rfl
set_option maxRecDepth 100000 in
theorem u8900_1977 {v0 : Value} {v1 : Value} {v2 : Value} {v4 : Value} {v5 : Value} {v6 : Value} {v7 : Value} {v8 : Value} {x : Nat} : am_g d X am_m8900 1977 [v0, v1, v2, .ref x, v4, v5, v6, v7, v8] sk st Q = am_g d X am_m8900 1978 [v0, v1, v2, .ref x, v4, v5, v6, v7, v8] (.ref x :: sk) st Q := am_gu.trans rfl
set_option maxRecDepth 100000 in
theorem u8900_1978 {v0 : Value} {v1 : Value} {v2 : Value} {v3 : Value} {v4 : Value} {v5 : Value} {v6 : Value} {v7 : Value} {v8 : Value} : am_g d X am_m8900 1978 [v0, v1, v2, v3, v4, v5, v6, v7, v8] sk st Q = am_g d X am_m8900 1979 [v0, v1, v2, v3, v4, v5, v6, v7, v8] (.int (am_i 0) :: sk) st Q := am_gu.trans rfl
set_option maxRecDepth 100000 in
theorem u8900_1979 {v0 : Value} {v1 : Value} {v2 : Value} {v3 : Value} {v4 : Value} {v5 : Value} {v6 : Value} {v7 : Value} {v8 : Value} : am_g d X am_m8900 1979 [v0, v1, v2, v3, v4, v5, v6, v7, v8] sk st Q = am_jl 1980 [v0, v1, v2, v3, v4, v5, v6, v7, v8] sk st (fun pc lc sk st => am_g d X am_m8900 pc lc sk st Q) := am_gu.trans rfl
set_option maxRecDepth 100000 in
theorem u8900_1980 {v0 : Value} {v1 : Value} {v2 : Value} {v3 : Value} {v4 : Value} {v5 : Value} {v7 : Value} {v8 : Value} {x : Int32} : am_g d X am_m8900 1980 [v0, v1, v2, v3, v4, v5, .int x, v7, v8] sk st Q = am_g d X am_m8900 1982 [v0, v1, v2, v3, v4, v5, .int x, v7, v8] (.int x :: sk) st Q := am_gu.trans rfl
set_option maxRecDepth 100000 in
theorem u8900_1982 {v0 : Value} {v1 : Value} {v2 : Value} {v3 : Value} {v4 : Value} {v5 : Value} {v6 : Value} {v7 : Value} {v8 : Value} {x : Int32} : am_g d X am_m8900 1982 [v0, v1, v2, v3, v4, v5, v6, v7, v8] (.int x :: sk) st Q = am_g d X am_m8900 1983 [v0, v1, v2, v3, v4, v5, v6, v7, v8] (.long x.toInt64 :: sk) st Q := am_gu.trans rfl
set_option maxRecDepth 100000 in
theorem u8900_1983 {v0 : Value} {v1 : Value} {v2 : Value} {v3 : Value} {v4 : Value} {v5 : Value} {v6 : Value} {v7 : Value} {v8 : Value} {x : Int64} {y : Int64} : am_g d X am_m8900 1983 [v0, v1, v2, v3, v4, v5, v6, v7, v8] (.long y :: .long x :: sk) st Q = am_g d X am_m8900 1984 [v0, v1, v2, v3, v4, v5, v6, v7, v8] (.int (lg_cmp x y) :: sk) st Q := am_gu.trans rfl
set_option maxRecDepth 100000 in
theorem u8900_1984 {v0 : Value} {v1 : Value} {v2 : Value} {v3 : Value} {v4 : Value} {v5 : Value} {v6 : Value} {v7 : Value} {v8 : Value} {x : Int32} : am_g d X am_m8900 1984 [v0, v1, v2, v3, v4, v5, v6, v7, v8] (.int x :: sk) st Q = (if decide (x = 0) = true then am_g d X am_m8900 1989 [v0, v1, v2, v3, v4, v5, v6, v7, v8] sk st Q else am_g d X am_m8900 1987 [v0, v1, v2, v3, v4, v5, v6, v7, v8] sk st Q) := am_gu.trans rfl
set_option maxRecDepth 100000 in
theorem u8900_1987 {v0 : Value} {v1 : Value} {v2 : Value} {v3 : Value} {v4 : Value} {v5 : Value} {v6 : Value} {v7 : Value} {v8 : Value} : am_g d X am_m8900 1987 [v0, v1, v2, v3, v4, v5, v6, v7, v8] sk st Q = am_g d X am_m8900 1988 [v0, v1, v2, v3, v4, v5, v6, v7, v8] (.int (am_i 0) :: sk) st Q := am_gu.trans rfl
set_option maxRecDepth 100000 in
theorem u8900_1988 {v0 : Value} {v1 : Value} {v2 : Value} {v3 : Value} {v4 : Value} {v5 : Value} {v6 : Value} {v7 : Value} {v8 : Value} {x : Int32} : am_g d X am_m8900 1988 [v0, v1, v2, v3, v4, v5, v6, v7, v8] [.int x] st Q = ((x = 0 ∨ x = 1) ∧ Q (.inl (some (.int x))) st) := am_gu.trans rfl
set_option maxRecDepth 100000 in
theorem u8900_1989 {v0 : Value} {v1 : Value} {v2 : Value} {v3 : Value} {v4 : Value} {v5 : Value} {v6 : Value} {v7 : Value} {v8 : Value} : am_g d X am_m8900 1989 [v0, v1, v2, v3, v4, v5, v6, v7, v8] sk st Q = am_g d X am_m8900 2998 [v0, v1, v2, v3, v4, v5, v6, v7, v8] sk st Q := am_gu.trans rfl
set_option maxRecDepth 100000 in
theorem u8900_1992 {v0 : Value} {v2 : Value} {v3 : Value} {v4 : Value} {v5 : Value} {v6 : Value} {v7 : Value} {v8 : Value} {x : Nat} : am_g d X am_m8900 1992 [v0, .ref x, v2, v3, v4, v5, v6, v7, v8] sk st Q = am_g d X am_m8900 1993 [v0, .ref x, v2, v3, v4, v5, v6, v7, v8] (.ref x :: sk) st Q := am_gu.trans rfl
set_option maxRecDepth 100000 in
theorem u8900_1993 {v1 : Value} {v2 : Value} {v3 : Value} {v4 : Value} {v5 : Value} {v6 : Value} {v7 : Value} {v8 : Value} : am_g d X am_m8900 1993 [.retAddr 0, v1, v2, v3, v4, v5, v6, v7, v8] sk st Q = am_g d X am_m8900 1994 [.retAddr 0, v1, v2, v3, v4, v5, v6, v7, v8] (.retAddr 0 :: sk) st Q := am_gu.trans rfl
set_option maxRecDepth 100000 in
theorem u8900_1994 {v0 : Value} {v1 : Value} {v2 : Value} {v3 : Value} {v5 : Value} {v6 : Value} {v7 : Value} {v8 : Value} {x : Int32} : am_g d X am_m8900 1994 [v0, v1, v2, v3, .int x, v5, v6, v7, v8] sk st Q = am_g d X am_m8900 1996 [v0, v1, v2, v3, .int x, v5, v6, v7, v8] (.int x :: sk) st Q := am_gu.trans rfl
set_option maxRecDepth 100000 in
theorem u8900_1996 {v0 : Value} {v1 : Value} {v2 : Value} {v3 : Value} {v4 : Value} {v5 : Value} {v6 : Value} {v7 : Value} {v8 : Value} : am_g d X am_m8900 1996 [v0, v1, v2, v3, v4, v5, v6, v7, v8] sk st Q = am_g d X am_m8900 1997 [v0, v1, v2, v3, v4, v5, v6, v7, v8] (.int (am_i 1) :: sk) st Q := am_gu.trans rfl
set_option maxRecDepth 100000 in
theorem u8900_1997 {v0 : Value} {v1 : Value} {v2 : Value} {v3 : Value} {v4 : Value} {v5 : Value} {v6 : Value} {v7 : Value} {v8 : Value} {x : Int32} {y : Int32} : am_g d X am_m8900 1997 [v0, v1, v2, v3, v4, v5, v6, v7, v8] (.int y :: .int x :: sk) st Q = am_g d X am_m8900 1998 [v0, v1, v2, v3, v4, v5, v6, v7, v8] (.int (x + y) :: sk) st Q := am_gu.trans rfl
set_option maxRecDepth 100000 in
theorem u8900_1998 {v0 : Value} {v1 : Value} {v2 : Value} {v3 : Value} {v4 : Value} {v5 : Value} {v6 : Value} {v7 : Value} {v8 : Value} : am_g d X am_m8900 1998 [v0, v1, v2, v3, v4, v5, v6, v7, v8] sk st Q = am_xl (X.1, X.2.1, d) am_m8900 1999 [v0, v1, v2, v3, v4, v5, v6, v7, v8] sk st (fun pc lc sk st => am_g d X am_m8900 pc lc sk st Q) := am_gu.trans rfl
set_option maxRecDepth 100000 in
theorem u8900_1999 {v0 : Value} {v1 : Value} {v2 : Value} {v4 : Value} {v5 : Value} {v6 : Value} {v7 : Value} {v8 : Value} {x : Nat} : am_g d X am_m8900 1999 [v0, v1, v2, .ref x, v4, v5, v6, v7, v8] sk st Q = am_g d X am_m8900 2000 [v0, v1, v2, .ref x, v4, v5, v6, v7, v8] (.ref x :: sk) st Q := am_gu.trans rfl
set_option maxRecDepth 100000 in
theorem u8900_2000 {a0 : Value} {a1 : Value} {a2 : Value} {v0 : Value} {v1 : Value} {v2 : Value} {v3 : Value} {v4 : Value} {v5 : Value} {v6 : Value} {v7 : Value} {v8 : Value} : am_g d X am_m8900 2000 [v0, v1, v2, v3, v4, v5, v6, v7, v8] (a2 :: a1 :: a0 :: sk) st Q = (sk.length ≤ 4 ∧ am_Ca X d 8026 [a0, a1, a2] st (am_af am_m8900 2000 [v0, v1, v2, v3, v4, v5, v6, v7, v8] sk (fun pc lc sk st => am_g d X am_m8900 pc lc sk st Q) Q)) := am_gu.trans (propext ⟨fun h => ⟨h.1.2, h.2⟩, fun h => ⟨⟨Nat.le_add_left _ _, h.1⟩, h.2⟩⟩)
set_option maxRecDepth 100000 in
theorem u8900_2003 {v0 : Value} {v1 : Value} {v2 : Value} {v3 : Value} {v4 : Value} {v5 : Value} {v6 : Value} {v7 : Value} {v8 : Value} {x : Int32} : am_g d X am_m8900 2003 [v0, v1, v2, v3, v4, v5, v6, v7, v8] (.int x :: sk) st Q = am_g d X am_m8900 2005 [v0, v1, v2, v3, am_kc v4, .int x, v6, v7, v8] sk st Q := am_gu.trans (congrArg (fun l => am_g d X am_m8900 2005 (List.set l 5 (.int x)) sk st Q) (kl_5 (l := [v5, v6, v7, v8])))
set_option maxRecDepth 100000 in
theorem u8900_2005 {v0 : Value} {v1 : Value} {v3 : Value} {v4 : Value} {v5 : Value} {v6 : Value} {v7 : Value} {v8 : Value} {x : Nat} : am_g d X am_m8900 2005 [v0, v1, .ref x, v3, v4, v5, v6, v7, v8] sk st Q = am_g d X am_m8900 2006 [v0, v1, .ref x, v3, v4, v5, v6, v7, v8] (.ref x :: sk) st Q := am_gu.trans rfl
set_option maxRecDepth 100000 in
theorem u8900_2006 {v1 : Value} {v2 : Value} {v3 : Value} {v4 : Value} {v5 : Value} {v6 : Value} {v7 : Value} {v8 : Value} : am_g d X am_m8900 2006 [.retAddr 0, v1, v2, v3, v4, v5, v6, v7, v8] sk st Q = am_g d X am_m8900 2007 [.retAddr 0, v1, v2, v3, v4, v5, v6, v7, v8] (.retAddr 0 :: sk) st Q := am_gu.trans rfl
set_option maxRecDepth 100000 in
theorem u8900_2007 {v0 : Value} {v1 : Value} {v2 : Value} {v3 : Value} {v5 : Value} {v6 : Value} {v7 : Value} {v8 : Value} {x : Int32} : am_g d X am_m8900 2007 [v0, v1, v2, v3, .int x, v5, v6, v7, v8] sk st Q = am_g d X am_m8900 2009 [v0, v1, v2, v3, .int x, v5, v6, v7, v8] (.int x :: sk) st Q := am_gu.trans rfl
set_option maxRecDepth 100000 in
theorem u8900_2009 {v0 : Value} {v1 : Value} {v2 : Value} {v3 : Value} {v4 : Value} {v5 : Value} {v6 : Value} {v7 : Value} {v8 : Value} : am_g d X am_m8900 2009 [v0, v1, v2, v3, v4, v5, v6, v7, v8] sk st Q = am_g d X am_m8900 2010 [v0, v1, v2, v3, v4, v5, v6, v7, v8] (.int (am_i 1) :: sk) st Q := am_gu.trans rfl
set_option maxRecDepth 100000 in
theorem u8900_2010 {v0 : Value} {v1 : Value} {v2 : Value} {v3 : Value} {v4 : Value} {v5 : Value} {v6 : Value} {v7 : Value} {v8 : Value} {x : Int32} {y : Int32} : am_g d X am_m8900 2010 [v0, v1, v2, v3, v4, v5, v6, v7, v8] (.int y :: .int x :: sk) st Q = am_g d X am_m8900 2011 [v0, v1, v2, v3, v4, v5, v6, v7, v8] (.int (x + y) :: sk) st Q := am_gu.trans rfl
set_option maxRecDepth 100000 in
theorem u8900_2011 {v0 : Value} {v1 : Value} {v2 : Value} {v3 : Value} {v4 : Value} {v5 : Value} {v6 : Value} {v7 : Value} {v8 : Value} : am_g d X am_m8900 2011 [v0, v1, v2, v3, v4, v5, v6, v7, v8] sk st Q = am_xl (X.1, X.2.1, d) am_m8900 2012 [v0, v1, v2, v3, v4, v5, v6, v7, v8] sk st (fun pc lc sk st => am_g d X am_m8900 pc lc sk st Q) := am_gu.trans rfl
set_option maxRecDepth 100000 in
theorem u8900_2012 {a0 : Value} {v0 : Value} {v1 : Value} {v2 : Value} {v3 : Value} {v4 : Value} {v5 : Value} {v6 : Value} {v7 : Value} {v8 : Value} : am_g d X am_m8900 2012 [v0, v1, v2, v3, v4, v5, v6, v7, v8] (a0 :: .ref o :: sk) st Q = ((am_ob st o 7 ∧ sk.length ≤ 4) ∧ am_Ca X d 7102 [.ref o, a0] st (am_af am_m8900 2012 [v0, v1, v2, v3, v4, v5, v6, v7, v8] sk (fun pc lc sk st => am_g d X am_m8900 pc lc sk st Q) Q)) := am_gu.trans rfl
set_option maxRecDepth 100000 in
theorem u8900_2015 {v0 : Value} {v1 : Value} {v2 : Value} {v3 : Value} {v4 : Value} {v5 : Value} {v6 : Value} {v7 : Value} {v8 : Value} {x : Int32} : am_g d X am_m8900 2015 [v0, v1, v2, v3, v4, v5, v6, v7, v8] (.int x :: sk) st Q = am_g d X am_m8900 2017 [v0, v1, v2, v3, v4, am_kc v5, .int x, v7, v8] sk st Q := am_gu.trans (congrArg (fun l => am_g d X am_m8900 2017 (List.set l 6 (.int x)) sk st Q) (kl_6 (l := [v6, v7, v8])))
set_option maxRecDepth 100000 in
theorem u8900_2017 {v0 : Value} {v1 : Value} {v3 : Value} {v4 : Value} {v5 : Value} {v6 : Value} {v7 : Value} {v8 : Value} {x : Nat} : am_g d X am_m8900 2017 [v0, v1, .ref x, v3, v4, v5, v6, v7, v8] sk st Q = am_g d X am_m8900 2018 [v0, v1, .ref x, v3, v4, v5, v6, v7, v8] (.ref x :: sk) st Q := am_gu.trans rfl
set_option maxRecDepth 100000 in
theorem u8900_2018 {v0 : Value} {v1 : Value} {v2 : Value} {v3 : Value} {v4 : Value} {v5 : Value} {v6 : Value} {v7 : Value} {v8 : Value} : am_g d X am_m8900 2018 [v0, v1, v2, v3, v4, v5, v6, v7, v8] (.ref o :: sk) st Q = ((am_ob st o 7 ∧ sk.length ≤ 4) ∧ am_Ca X d 7002 [.ref o] st (am_af am_m8900 2018 [v0, v1, v2, v3, v4, v5, v6, v7, v8] sk (fun pc lc sk st => am_g d X am_m8900 pc lc sk st Q) Q)) := am_gu.trans rfl
set_option maxRecDepth 100000 in
theorem u8900_2021 {v0 : Value} {v1 : Value} {v2 : Value} {v3 : Value} {v4 : Value} {v6 : Value} {v7 : Value} {v8 : Value} {x : Int32} : am_g d X am_m8900 2021 [v0, v1, v2, v3, v4, .int x, v6, v7, v8] sk st Q = am_g d X am_m8900 2023 [v0, v1, v2, v3, v4, .int x, v6, v7, v8] (.int x :: sk) st Q := am_gu.trans rfl
set_option maxRecDepth 100000 in
theorem u8900_2023 {v0 : Value} {v1 : Value} {v2 : Value} {v3 : Value} {v4 : Value} {v5 : Value} {v6 : Value} {v7 : Value} {v8 : Value} {x : Int32} {y : Int32} : am_g d X am_m8900 2023 [v0, v1, v2, v3, v4, v5, v6, v7, v8] (.int y :: .int x :: sk) st Q = (if decide (x = y) = true then am_g d X am_m8900 2028 [v0, v1, v2, v3, v4, v5, v6, v7, v8] sk st Q else am_g d X am_m8900 2026 [v0, v1, v2, v3, v4, v5, v6, v7, v8] sk st Q) := am_gu.trans rfl
set_option maxRecDepth 100000 in
theorem u8900_2026 {v0 : Value} {v1 : Value} {v2 : Value} {v3 : Value} {v4 : Value} {v5 : Value} {v6 : Value} {v7 : Value} {v8 : Value} : am_g d X am_m8900 2026 [v0, v1, v2, v3, v4, v5, v6, v7, v8] sk st Q = am_g d X am_m8900 2027 [v0, v1, v2, v3, v4, v5, v6, v7, v8] (.int (am_i 0) :: sk) st Q := am_gu.trans rfl
set_option maxRecDepth 100000 in
theorem u8900_2027 {v0 : Value} {v1 : Value} {v2 : Value} {v3 : Value} {v4 : Value} {v5 : Value} {v6 : Value} {v7 : Value} {v8 : Value} {x : Int32} : am_g d X am_m8900 2027 [v0, v1, v2, v3, v4, v5, v6, v7, v8] [.int x] st Q = ((x = 0 ∨ x = 1) ∧ Q (.inl (some (.int x))) st) := am_gu.trans rfl
set_option maxRecDepth 100000 in
theorem u8900_2028 {v0 : Value} {v1 : Value} {v2 : Value} {v3 : Value} {v4 : Value} {v6 : Value} {v7 : Value} {v8 : Value} {x : Int32} : am_g d X am_m8900 2028 [v0, v1, v2, v3, v4, .int x, v6, v7, v8] sk st Q = am_g d X am_m8900 2030 [v0, v1, v2, v3, v4, .int x, v6, v7, v8] (.int x :: sk) st Q := am_gu.trans rfl
set_option maxRecDepth 100000 in
theorem u8900_2030 {v0 : Value} {v1 : Value} {v2 : Value} {v3 : Value} {v4 : Value} {v5 : Value} {v6 : Value} {v7 : Value} {v8 : Value} {x : Int32} : am_g d X am_m8900 2030 [v0, v1, v2, v3, v4, v5, v6, v7, v8] (.int x :: sk) st Q = (if decide (¬ x = 0) = true then am_g d X am_m8900 2045 [v0, v1, v2, v3, v4, v5, v6, v7, v8] sk st Q else am_g d X am_m8900 2033 [v0, v1, v2, v3, v4, v5, v6, v7, v8] sk st Q) := am_gu.trans rfl
set_option maxRecDepth 100000 in
theorem u8900_2033 {v0 : Value} {v1 : Value} {v2 : Value} {v4 : Value} {v5 : Value} {v6 : Value} {v7 : Value} {v8 : Value} {x : Nat} : am_g d X am_m8900 2033 [v0, v1, v2, .ref x, v4, v5, v6, v7, v8] sk st Q = am_g d X am_m8900 2034 [v0, v1, v2, .ref x, v4, v5, v6, v7, v8] (.ref x :: sk) st Q := am_gu.trans rfl
set_option maxRecDepth 100000 in
theorem u8900_2034 {v0 : Value} {v1 : Value} {v2 : Value} {v3 : Value} {v4 : Value} {v5 : Value} {v6 : Value} {v7 : Value} {v8 : Value} : am_g d X am_m8900 2034 [v0, v1, v2, v3, v4, v5, v6, v7, v8] sk st Q = am_g d X am_m8900 2035 [v0, v1, v2, v3, v4, v5, v6, v7, v8] (.int (am_i 0) :: sk) st Q := am_gu.trans rfl
set_option maxRecDepth 100000 in
theorem u8900_2035 {v0 : Value} {v1 : Value} {v2 : Value} {v3 : Value} {v4 : Value} {v5 : Value} {v6 : Value} {v7 : Value} {v8 : Value} : am_g d X am_m8900 2035 [v0, v1, v2, v3, v4, v5, v6, v7, v8] sk st Q = am_jl 2036 [v0, v1, v2, v3, v4, v5, v6, v7, v8] sk st (fun pc lc sk st => am_g d X am_m8900 pc lc sk st Q) := am_gu.trans rfl
set_option maxRecDepth 100000 in
theorem u8900_2036 {v0 : Value} {v1 : Value} {v2 : Value} {v3 : Value} {v4 : Value} {v5 : Value} {v7 : Value} {v8 : Value} {x : Int32} : am_g d X am_m8900 2036 [v0, v1, v2, v3, v4, v5, .int x, v7, v8] sk st Q = am_g d X am_m8900 2038 [v0, v1, v2, v3, v4, v5, .int x, v7, v8] (.int x :: sk) st Q := am_gu.trans rfl
set_option maxRecDepth 100000 in
theorem u8900_2038 {v0 : Value} {v1 : Value} {v2 : Value} {v3 : Value} {v4 : Value} {v5 : Value} {v6 : Value} {v7 : Value} {v8 : Value} {x : Int32} : am_g d X am_m8900 2038 [v0, v1, v2, v3, v4, v5, v6, v7, v8] (.int x :: sk) st Q = am_g d X am_m8900 2039 [v0, v1, v2, v3, v4, v5, v6, v7, v8] (.long x.toInt64 :: sk) st Q := am_gu.trans rfl
set_option maxRecDepth 100000 in
theorem u8900_2039 {v0 : Value} {v1 : Value} {v2 : Value} {v3 : Value} {v4 : Value} {v5 : Value} {v6 : Value} {v7 : Value} {v8 : Value} {x : Int64} {y : Int64} : am_g d X am_m8900 2039 [v0, v1, v2, v3, v4, v5, v6, v7, v8] (.long y :: .long x :: sk) st Q = am_g d X am_m8900 2040 [v0, v1, v2, v3, v4, v5, v6, v7, v8] (.int (lg_cmp x y) :: sk) st Q := am_gu.trans rfl
set_option maxRecDepth 100000 in
theorem u8900_2040 {v0 : Value} {v1 : Value} {v2 : Value} {v3 : Value} {v4 : Value} {v5 : Value} {v6 : Value} {v7 : Value} {v8 : Value} {x : Int32} : am_g d X am_m8900 2040 [v0, v1, v2, v3, v4, v5, v6, v7, v8] (.int x :: sk) st Q = (if decide (x = 0) = true then am_g d X am_m8900 2045 [v0, v1, v2, v3, v4, v5, v6, v7, v8] sk st Q else am_g d X am_m8900 2043 [v0, v1, v2, v3, v4, v5, v6, v7, v8] sk st Q) := am_gu.trans rfl
set_option maxRecDepth 100000 in
theorem u8900_2043 {v0 : Value} {v1 : Value} {v2 : Value} {v3 : Value} {v4 : Value} {v5 : Value} {v6 : Value} {v7 : Value} {v8 : Value} : am_g d X am_m8900 2043 [v0, v1, v2, v3, v4, v5, v6, v7, v8] sk st Q = am_g d X am_m8900 2044 [v0, v1, v2, v3, v4, v5, v6, v7, v8] (.int (am_i 0) :: sk) st Q := am_gu.trans rfl
set_option maxRecDepth 100000 in
theorem u8900_2044 {v0 : Value} {v1 : Value} {v2 : Value} {v3 : Value} {v4 : Value} {v5 : Value} {v6 : Value} {v7 : Value} {v8 : Value} {x : Int32} : am_g d X am_m8900 2044 [v0, v1, v2, v3, v4, v5, v6, v7, v8] [.int x] st Q = ((x = 0 ∨ x = 1) ∧ Q (.inl (some (.int x))) st) := am_gu.trans rfl
set_option maxRecDepth 100000 in
theorem u8900_2045 {v0 : Value} {v1 : Value} {v2 : Value} {v3 : Value} {v4 : Value} {v5 : Value} {v6 : Value} {v7 : Value} {v8 : Value} : am_g d X am_m8900 2045 [v0, v1, v2, v3, v4, v5, v6, v7, v8] sk st Q = am_g d X am_m8900 2998 [v0, v1, v2, v3, v4, v5, v6, v7, v8] sk st Q := am_gu.trans rfl
set_option maxRecDepth 100000 in
theorem u8900_2048 {v0 : Value} {v2 : Value} {v3 : Value} {v4 : Value} {v5 : Value} {v6 : Value} {v7 : Value} {v8 : Value} {x : Nat} : am_g d X am_m8900 2048 [v0, .ref x, v2, v3, v4, v5, v6, v7, v8] sk st Q = am_g d X am_m8900 2049 [v0, .ref x, v2, v3, v4, v5, v6, v7, v8] (.ref x :: sk) st Q := am_gu.trans rfl
set_option maxRecDepth 100000 in
theorem u8900_2049 {v0 : Value} {v1 : Value} {v2 : Value} {v3 : Value} {v4 : Value} {v5 : Value} {v6 : Value} {v7 : Value} {v8 : Value} : am_g d X am_m8900 2049 [v0, v1, v2, v3, v4, v5, v6, v7, v8] (.ref o :: sk) st Q = ((am_ob st o 6 ∧ sk.length ≤ 4) ∧ am_Ca X d 6038 [.ref o] st (am_af am_m8900 2049 [v0, v1, v2, v3, v4, v5, v6, v7, v8] sk (fun pc lc sk st => am_g d X am_m8900 pc lc sk st Q) Q)) := am_gu.trans rfl
set_option maxRecDepth 100000 in
theorem u8900_2052 {v0 : Value} {v1 : Value} {v3 : Value} {v4 : Value} {v5 : Value} {v6 : Value} {v7 : Value} {v8 : Value} {x : Nat} : am_g d X am_m8900 2052 [v0, v1, .ref x, v3, v4, v5, v6, v7, v8] sk st Q = am_g d X am_m8900 2053 [v0, v1, .ref x, v3, v4, v5, v6, v7, v8] (.ref x :: sk) st Q := am_gu.trans rfl
set_option maxRecDepth 100000 in
theorem u8900_2053 {v0 : Value} {v1 : Value} {v2 : Value} {v3 : Value} {v4 : Value} {v5 : Value} {v6 : Value} {v7 : Value} {v8 : Value} : am_g d X am_m8900 2053 [v0, v1, v2, v3, v4, v5, v6, v7, v8] (.ref o :: sk) st Q = ((am_ob st o 7 ∧ sk.length ≤ 4) ∧ am_Ca X d 7103 [.ref o] st (am_af am_m8900 2053 [v0, v1, v2, v3, v4, v5, v6, v7, v8] sk (fun pc lc sk st => am_g d X am_m8900 pc lc sk st Q) Q)) := am_gu.trans rfl
set_option maxRecDepth 100000 in
theorem u8900_2056 {v0 : Value} {v1 : Value} {v2 : Value} {v3 : Value} {v4 : Value} {v5 : Value} {v6 : Value} {v7 : Value} {v8 : Value} {x : Int32} {y : Int32} : am_g d X am_m8900 2056 [v0, v1, v2, v3, v4, v5, v6, v7, v8] (.int y :: .int x :: sk) st Q = (if decide (x = y) = true then am_g d X am_m8900 2998 [v0, v1, v2, v3, v4, v5, v6, v7, v8] sk st Q else am_g d X am_m8900 2059 [v0, v1, v2, v3, v4, v5, v6, v7, v8] sk st Q) := am_gu.trans rfl
set_option maxRecDepth 100000 in
theorem u8900_2059 {v0 : Value} {v1 : Value} {v2 : Value} {v3 : Value} {v4 : Value} {v5 : Value} {v6 : Value} {v7 : Value} {v8 : Value} : am_g d X am_m8900 2059 [v0, v1, v2, v3, v4, v5, v6, v7, v8] sk st Q = am_g d X am_m8900 2060 [v0, v1, v2, v3, v4, v5, v6, v7, v8] (.int (am_i 0) :: sk) st Q := am_gu.trans rfl
set_option maxRecDepth 100000 in
theorem u8900_2060 {v0 : Value} {v1 : Value} {v2 : Value} {v3 : Value} {v4 : Value} {v5 : Value} {v6 : Value} {v7 : Value} {v8 : Value} {x : Int32} : am_g d X am_m8900 2060 [v0, v1, v2, v3, v4, v5, v6, v7, v8] [.int x] st Q = ((x = 0 ∨ x = 1) ∧ Q (.inl (some (.int x))) st) := am_gu.trans rfl
set_option maxRecDepth 100000 in
theorem u8900_2061 {v0 : Value} {v2 : Value} {v3 : Value} {v4 : Value} {v5 : Value} {v6 : Value} {v7 : Value} {v8 : Value} {x : Nat} : am_g d X am_m8900 2061 [v0, .ref x, v2, v3, v4, v5, v6, v7, v8] sk st Q = am_g d X am_m8900 2062 [v0, .ref x, v2, v3, v4, v5, v6, v7, v8] (.ref x :: sk) st Q := am_gu.trans rfl
set_option maxRecDepth 100000 in
theorem u8900_2062 {v1 : Value} {v2 : Value} {v3 : Value} {v4 : Value} {v5 : Value} {v6 : Value} {v7 : Value} {v8 : Value} : am_g d X am_m8900 2062 [.retAddr 0, v1, v2, v3, v4, v5, v6, v7, v8] sk st Q = am_g d X am_m8900 2063 [.retAddr 0, v1, v2, v3, v4, v5, v6, v7, v8] (.retAddr 0 :: sk) st Q := am_gu.trans rfl
set_option maxRecDepth 100000 in
theorem u8900_2063 {v0 : Value} {v1 : Value} {v2 : Value} {v3 : Value} {v5 : Value} {v6 : Value} {v7 : Value} {v8 : Value} {x : Int32} : am_g d X am_m8900 2063 [v0, v1, v2, v3, .int x, v5, v6, v7, v8] sk st Q = am_g d X am_m8900 2065 [v0, v1, v2, v3, .int x, v5, v6, v7, v8] (.int x :: sk) st Q := am_gu.trans rfl
set_option maxRecDepth 100000 in
theorem u8900_2065 {v0 : Value} {v1 : Value} {v2 : Value} {v3 : Value} {v4 : Value} {v5 : Value} {v6 : Value} {v7 : Value} {v8 : Value} : am_g d X am_m8900 2065 [v0, v1, v2, v3, v4, v5, v6, v7, v8] sk st Q = am_g d X am_m8900 2066 [v0, v1, v2, v3, v4, v5, v6, v7, v8] (.int (am_i 1) :: sk) st Q := am_gu.trans rfl
set_option maxRecDepth 100000 in
theorem u8900_2066 {v0 : Value} {v1 : Value} {v2 : Value} {v3 : Value} {v4 : Value} {v5 : Value} {v6 : Value} {v7 : Value} {v8 : Value} {x : Int32} {y : Int32} : am_g d X am_m8900 2066 [v0, v1, v2, v3, v4, v5, v6, v7, v8] (.int y :: .int x :: sk) st Q = am_g d X am_m8900 2067 [v0, v1, v2, v3, v4, v5, v6, v7, v8] (.int (x + y) :: sk) st Q := am_gu.trans rfl
set_option maxRecDepth 100000 in
theorem u8900_2067 {v0 : Value} {v1 : Value} {v2 : Value} {v3 : Value} {v4 : Value} {v5 : Value} {v6 : Value} {v7 : Value} {v8 : Value} : am_g d X am_m8900 2067 [v0, v1, v2, v3, v4, v5, v6, v7, v8] sk st Q = am_xl (X.1, X.2.1, d) am_m8900 2068 [v0, v1, v2, v3, v4, v5, v6, v7, v8] sk st (fun pc lc sk st => am_g d X am_m8900 pc lc sk st Q) := am_gu.trans rfl
set_option maxRecDepth 100000 in
theorem u8900_2068 {v0 : Value} {v1 : Value} {v2 : Value} {v4 : Value} {v5 : Value} {v6 : Value} {v7 : Value} {v8 : Value} {x : Nat} : am_g d X am_m8900 2068 [v0, v1, v2, .ref x, v4, v5, v6, v7, v8] sk st Q = am_g d X am_m8900 2069 [v0, v1, v2, .ref x, v4, v5, v6, v7, v8] (.ref x :: sk) st Q := am_gu.trans rfl
set_option maxRecDepth 100000 in
theorem u8900_2069 {a0 : Value} {a1 : Value} {a2 : Value} {v0 : Value} {v1 : Value} {v2 : Value} {v3 : Value} {v4 : Value} {v5 : Value} {v6 : Value} {v7 : Value} {v8 : Value} : am_g d X am_m8900 2069 [v0, v1, v2, v3, v4, v5, v6, v7, v8] (a2 :: a1 :: a0 :: sk) st Q = (sk.length ≤ 4 ∧ am_Ca X d 8027 [a0, a1, a2] st (am_af am_m8900 2069 [v0, v1, v2, v3, v4, v5, v6, v7, v8] sk (fun pc lc sk st => am_g d X am_m8900 pc lc sk st Q) Q)) := am_gu.trans (propext ⟨fun h => ⟨h.1.2, h.2⟩, fun h => ⟨⟨Nat.le_add_left _ _, h.1⟩, h.2⟩⟩)
set_option maxRecDepth 100000 in
theorem u8900_2072 {v0 : Value} {v1 : Value} {v2 : Value} {v3 : Value} {v4 : Value} {v5 : Value} {v6 : Value} {v7 : Value} {v8 : Value} {x : Int32} : am_g d X am_m8900 2072 [v0, v1, v2, v3, v4, v5, v6, v7, v8] (.int x :: sk) st Q = am_g d X am_m8900 2074 [v0, v1, v2, v3, am_kc v4, .int x, v6, v7, v8] sk st Q := am_gu.trans (congrArg (fun l => am_g d X am_m8900 2074 (List.set l 5 (.int x)) sk st Q) (kl_5 (l := [v5, v6, v7, v8])))
set_option maxRecDepth 100000 in
theorem u8900_2074 {v0 : Value} {v1 : Value} {v3 : Value} {v4 : Value} {v5 : Value} {v6 : Value} {v7 : Value} {v8 : Value} {x : Nat} : am_g d X am_m8900 2074 [v0, v1, .ref x, v3, v4, v5, v6, v7, v8] sk st Q = am_g d X am_m8900 2075 [v0, v1, .ref x, v3, v4, v5, v6, v7, v8] (.ref x :: sk) st Q := am_gu.trans rfl
set_option maxRecDepth 100000 in
theorem u8900_2075 {v1 : Value} {v2 : Value} {v3 : Value} {v4 : Value} {v5 : Value} {v6 : Value} {v7 : Value} {v8 : Value} : am_g d X am_m8900 2075 [.retAddr 0, v1, v2, v3, v4, v5, v6, v7, v8] sk st Q = am_g d X am_m8900 2076 [.retAddr 0, v1, v2, v3, v4, v5, v6, v7, v8] (.retAddr 0 :: sk) st Q := am_gu.trans rfl
set_option maxRecDepth 100000 in
theorem u8900_2076 {v0 : Value} {v1 : Value} {v2 : Value} {v3 : Value} {v5 : Value} {v6 : Value} {v7 : Value} {v8 : Value} {x : Int32} : am_g d X am_m8900 2076 [v0, v1, v2, v3, .int x, v5, v6, v7, v8] sk st Q = am_g d X am_m8900 2078 [v0, v1, v2, v3, .int x, v5, v6, v7, v8] (.int x :: sk) st Q := am_gu.trans rfl
set_option maxRecDepth 100000 in
theorem u8900_2078 {v0 : Value} {v1 : Value} {v2 : Value} {v3 : Value} {v4 : Value} {v5 : Value} {v6 : Value} {v7 : Value} {v8 : Value} : am_g d X am_m8900 2078 [v0, v1, v2, v3, v4, v5, v6, v7, v8] sk st Q = am_g d X am_m8900 2079 [v0, v1, v2, v3, v4, v5, v6, v7, v8] (.int (am_i 1) :: sk) st Q := am_gu.trans rfl
set_option maxRecDepth 100000 in
theorem u8900_2079 {v0 : Value} {v1 : Value} {v2 : Value} {v3 : Value} {v4 : Value} {v5 : Value} {v6 : Value} {v7 : Value} {v8 : Value} {x : Int32} {y : Int32} : am_g d X am_m8900 2079 [v0, v1, v2, v3, v4, v5, v6, v7, v8] (.int y :: .int x :: sk) st Q = am_g d X am_m8900 2080 [v0, v1, v2, v3, v4, v5, v6, v7, v8] (.int (x + y) :: sk) st Q := am_gu.trans rfl
set_option maxRecDepth 100000 in
theorem u8900_2080 {v0 : Value} {v1 : Value} {v2 : Value} {v3 : Value} {v4 : Value} {v5 : Value} {v6 : Value} {v7 : Value} {v8 : Value} : am_g d X am_m8900 2080 [v0, v1, v2, v3, v4, v5, v6, v7, v8] sk st Q = am_xl (X.1, X.2.1, d) am_m8900 2081 [v0, v1, v2, v3, v4, v5, v6, v7, v8] sk st (fun pc lc sk st => am_g d X am_m8900 pc lc sk st Q) := am_gu.trans rfl
set_option maxRecDepth 100000 in
theorem u8900_2081 {a0 : Value} {v0 : Value} {v1 : Value} {v2 : Value} {v3 : Value} {v4 : Value} {v5 : Value} {v6 : Value} {v7 : Value} {v8 : Value} : am_g d X am_m8900 2081 [v0, v1, v2, v3, v4, v5, v6, v7, v8] (a0 :: .ref o :: sk) st Q = ((am_ob st o 7 ∧ sk.length ≤ 4) ∧ am_Ca X d 7104 [.ref o, a0] st (am_af am_m8900 2081 [v0, v1, v2, v3, v4, v5, v6, v7, v8] sk (fun pc lc sk st => am_g d X am_m8900 pc lc sk st Q) Q)) := am_gu.trans rfl
set_option maxRecDepth 100000 in
theorem u8900_2084 {v0 : Value} {v1 : Value} {v2 : Value} {v3 : Value} {v4 : Value} {v5 : Value} {v6 : Value} {v7 : Value} {v8 : Value} {x : Int32} : am_g d X am_m8900 2084 [v0, v1, v2, v3, v4, v5, v6, v7, v8] (.int x :: sk) st Q = am_g d X am_m8900 2086 [v0, v1, v2, v3, v4, am_kc v5, .int x, v7, v8] sk st Q := am_gu.trans (congrArg (fun l => am_g d X am_m8900 2086 (List.set l 6 (.int x)) sk st Q) (kl_6 (l := [v6, v7, v8])))
set_option maxRecDepth 100000 in
theorem u8900_2086 {v0 : Value} {v1 : Value} {v3 : Value} {v4 : Value} {v5 : Value} {v6 : Value} {v7 : Value} {v8 : Value} {x : Nat} : am_g d X am_m8900 2086 [v0, v1, .ref x, v3, v4, v5, v6, v7, v8] sk st Q = am_g d X am_m8900 2087 [v0, v1, .ref x, v3, v4, v5, v6, v7, v8] (.ref x :: sk) st Q := am_gu.trans rfl
set_option maxRecDepth 100000 in
theorem u8900_2087 {v0 : Value} {v1 : Value} {v2 : Value} {v3 : Value} {v4 : Value} {v5 : Value} {v6 : Value} {v7 : Value} {v8 : Value} : am_g d X am_m8900 2087 [v0, v1, v2, v3, v4, v5, v6, v7, v8] (.ref o :: sk) st Q = ((am_ob st o 7 ∧ sk.length ≤ 4) ∧ am_Ca X d 7002 [.ref o] st (am_af am_m8900 2087 [v0, v1, v2, v3, v4, v5, v6, v7, v8] sk (fun pc lc sk st => am_g d X am_m8900 pc lc sk st Q) Q)) := am_gu.trans rfl
set_option maxRecDepth 100000 in
theorem u8900_2090 {v0 : Value} {v1 : Value} {v2 : Value} {v3 : Value} {v4 : Value} {v6 : Value} {v7 : Value} {v8 : Value} {x : Int32} : am_g d X am_m8900 2090 [v0, v1, v2, v3, v4, .int x, v6, v7, v8] sk st Q = am_g d X am_m8900 2092 [v0, v1, v2, v3, v4, .int x, v6, v7, v8] (.int x :: sk) st Q := am_gu.trans rfl
set_option maxRecDepth 100000 in
theorem u8900_2092 {v0 : Value} {v1 : Value} {v2 : Value} {v3 : Value} {v4 : Value} {v5 : Value} {v6 : Value} {v7 : Value} {v8 : Value} {x : Int32} {y : Int32} : am_g d X am_m8900 2092 [v0, v1, v2, v3, v4, v5, v6, v7, v8] (.int y :: .int x :: sk) st Q = (if decide (x = y) = true then am_g d X am_m8900 2097 [v0, v1, v2, v3, v4, v5, v6, v7, v8] sk st Q else am_g d X am_m8900 2095 [v0, v1, v2, v3, v4, v5, v6, v7, v8] sk st Q) := am_gu.trans rfl
set_option maxRecDepth 100000 in
theorem u8900_2095 {v0 : Value} {v1 : Value} {v2 : Value} {v3 : Value} {v4 : Value} {v5 : Value} {v6 : Value} {v7 : Value} {v8 : Value} : am_g d X am_m8900 2095 [v0, v1, v2, v3, v4, v5, v6, v7, v8] sk st Q = am_g d X am_m8900 2096 [v0, v1, v2, v3, v4, v5, v6, v7, v8] (.int (am_i 0) :: sk) st Q := am_gu.trans rfl
set_option maxRecDepth 100000 in
theorem u8900_2096 {v0 : Value} {v1 : Value} {v2 : Value} {v3 : Value} {v4 : Value} {v5 : Value} {v6 : Value} {v7 : Value} {v8 : Value} {x : Int32} : am_g d X am_m8900 2096 [v0, v1, v2, v3, v4, v5, v6, v7, v8] [.int x] st Q = ((x = 0 ∨ x = 1) ∧ Q (.inl (some (.int x))) st) := am_gu.trans rfl
set_option maxRecDepth 100000 in
theorem u8900_2097 {v0 : Value} {v1 : Value} {v2 : Value} {v3 : Value} {v4 : Value} {v6 : Value} {v7 : Value} {v8 : Value} {x : Int32} : am_g d X am_m8900 2097 [v0, v1, v2, v3, v4, .int x, v6, v7, v8] sk st Q = am_g d X am_m8900 2099 [v0, v1, v2, v3, v4, .int x, v6, v7, v8] (.int x :: sk) st Q := am_gu.trans rfl
set_option maxRecDepth 100000 in
theorem u8900_2099 {v0 : Value} {v1 : Value} {v2 : Value} {v3 : Value} {v4 : Value} {v5 : Value} {v6 : Value} {v7 : Value} {v8 : Value} {x : Int32} : am_g d X am_m8900 2099 [v0, v1, v2, v3, v4, v5, v6, v7, v8] (.int x :: sk) st Q = (if decide (¬ x = 0) = true then am_g d X am_m8900 2121 [v0, v1, v2, v3, v4, v5, v6, v7, v8] sk st Q else am_g d X am_m8900 2102 [v0, v1, v2, v3, v4, v5, v6, v7, v8] sk st Q) := am_gu.trans rfl
set_option maxRecDepth 100000 in
theorem u8900_2102 {v0 : Value} {v1 : Value} {v2 : Value} {v4 : Value} {v5 : Value} {v6 : Value} {v7 : Value} {v8 : Value} {x : Nat} : am_g d X am_m8900 2102 [v0, v1, v2, .ref x, v4, v5, v6, v7, v8] sk st Q = am_g d X am_m8900 2103 [v0, v1, v2, .ref x, v4, v5, v6, v7, v8] (.ref x :: sk) st Q := am_gu.trans rfl
set_option maxRecDepth 100000 in
theorem u8900_2103 {v0 : Value} {v1 : Value} {v2 : Value} {v3 : Value} {v4 : Value} {v5 : Value} {v6 : Value} {v7 : Value} {v8 : Value} : am_g d X am_m8900 2103 [v0, v1, v2, v3, v4, v5, v6, v7, v8] sk st Q = am_g d X am_m8900 2104 [v0, v1, v2, v3, v4, v5, v6, v7, v8] (.int (am_i 0) :: sk) st Q := am_gu.trans rfl
set_option maxRecDepth 100000 in
theorem u8900_2104 {v0 : Value} {v1 : Value} {v2 : Value} {v3 : Value} {v4 : Value} {v5 : Value} {v6 : Value} {v7 : Value} {v8 : Value} : am_g d X am_m8900 2104 [v0, v1, v2, v3, v4, v5, v6, v7, v8] sk st Q = am_jl 2105 [v0, v1, v2, v3, v4, v5, v6, v7, v8] sk st (fun pc lc sk st => am_g d X am_m8900 pc lc sk st Q) := am_gu.trans rfl
set_option maxRecDepth 100000 in
theorem u8900_2105 {v0 : Value} {v1 : Value} {v2 : Value} {v3 : Value} {v4 : Value} {v5 : Value} {v7 : Value} {v8 : Value} {x : Int32} : am_g d X am_m8900 2105 [v0, v1, v2, v3, v4, v5, .int x, v7, v8] sk st Q = am_g d X am_m8900 2107 [v0, v1, v2, v3, v4, v5, .int x, v7, v8] (.int x :: sk) st Q := am_gu.trans rfl
set_option maxRecDepth 100000 in
theorem u8900_2107 {v0 : Value} {v1 : Value} {v2 : Value} {v3 : Value} {v4 : Value} {v5 : Value} {v6 : Value} {v7 : Value} {v8 : Value} {x : Int32} : am_g d X am_m8900 2107 [v0, v1, v2, v3, v4, v5, v6, v7, v8] (.int x :: sk) st Q = (if decide (x = 0) = true then am_g d X am_m8900 2114 [v0, v1, v2, v3, v4, v5, v6, v7, v8] sk st Q else am_g d X am_m8900 2110 [v0, v1, v2, v3, v4, v5, v6, v7, v8] sk st Q) := am_gu.trans rfl
set_option maxRecDepth 100000 in
theorem u8900_2110 {v0 : Value} {v1 : Value} {v2 : Value} {v3 : Value} {v4 : Value} {v5 : Value} {v6 : Value} {v7 : Value} {v8 : Value} : am_g d X am_m8900 2110 [v0, v1, v2, v3, v4, v5, v6, v7, v8] sk st Q = am_g d X am_m8900 2111 [v0, v1, v2, v3, v4, v5, v6, v7, v8] (.long 1 :: sk) st Q := am_gu.trans rfl
set_option maxRecDepth 100000 in
theorem u8900_2111 {v0 : Value} {v1 : Value} {v2 : Value} {v3 : Value} {v4 : Value} {v5 : Value} {v6 : Value} {v7 : Value} {v8 : Value} : am_g d X am_m8900 2111 [v0, v1, v2, v3, v4, v5, v6, v7, v8] sk st Q = am_g d X am_m8900 2115 [v0, v1, v2, v3, v4, v5, v6, v7, v8] sk st Q := am_gu.trans rfl
set_option maxRecDepth 100000 in
theorem u8900_2114 {v0 : Value} {v1 : Value} {v2 : Value} {v3 : Value} {v4 : Value} {v5 : Value} {v6 : Value} {v7 : Value} {v8 : Value} : am_g d X am_m8900 2114 [v0, v1, v2, v3, v4, v5, v6, v7, v8] sk st Q = am_g d X am_m8900 2115 [v0, v1, v2, v3, v4, v5, v6, v7, v8] (.long 0 :: sk) st Q := am_gu.trans rfl
set_option maxRecDepth 100000 in
theorem u8900_2115 {v0 : Value} {v1 : Value} {v2 : Value} {v3 : Value} {v4 : Value} {v5 : Value} {v6 : Value} {v7 : Value} {v8 : Value} {x : Int64} {y : Int64} : am_g d X am_m8900 2115 [v0, v1, v2, v3, v4, v5, v6, v7, v8] (.long y :: .long x :: sk) st Q = am_g d X am_m8900 2116 [v0, v1, v2, v3, v4, v5, v6, v7, v8] (.int (lg_cmp x y) :: sk) st Q := am_gu.trans rfl
set_option maxRecDepth 100000 in
theorem u8900_2116 {v0 : Value} {v1 : Value} {v2 : Value} {v3 : Value} {v4 : Value} {v5 : Value} {v6 : Value} {v7 : Value} {v8 : Value} {x : Int32} : am_g d X am_m8900 2116 [v0, v1, v2, v3, v4, v5, v6, v7, v8] (.int x :: sk) st Q = (if decide (x = 0) = true then am_g d X am_m8900 2121 [v0, v1, v2, v3, v4, v5, v6, v7, v8] sk st Q else am_g d X am_m8900 2119 [v0, v1, v2, v3, v4, v5, v6, v7, v8] sk st Q) := am_gu.trans rfl
set_option maxRecDepth 100000 in
theorem u8900_2119 {v0 : Value} {v1 : Value} {v2 : Value} {v3 : Value} {v4 : Value} {v5 : Value} {v6 : Value} {v7 : Value} {v8 : Value} : am_g d X am_m8900 2119 [v0, v1, v2, v3, v4, v5, v6, v7, v8] sk st Q = am_g d X am_m8900 2120 [v0, v1, v2, v3, v4, v5, v6, v7, v8] (.int (am_i 0) :: sk) st Q := am_gu.trans rfl
set_option maxRecDepth 100000 in
theorem u8900_2120 {v0 : Value} {v1 : Value} {v2 : Value} {v3 : Value} {v4 : Value} {v5 : Value} {v6 : Value} {v7 : Value} {v8 : Value} {x : Int32} : am_g d X am_m8900 2120 [v0, v1, v2, v3, v4, v5, v6, v7, v8] [.int x] st Q = ((x = 0 ∨ x = 1) ∧ Q (.inl (some (.int x))) st) := am_gu.trans rfl
set_option maxRecDepth 100000 in
theorem u8900_2121 {v0 : Value} {v1 : Value} {v2 : Value} {v3 : Value} {v4 : Value} {v5 : Value} {v6 : Value} {v7 : Value} {v8 : Value} : am_g d X am_m8900 2121 [v0, v1, v2, v3, v4, v5, v6, v7, v8] sk st Q = am_g d X am_m8900 2998 [v0, v1, v2, v3, v4, v5, v6, v7, v8] sk st Q := am_gu.trans rfl
set_option maxRecDepth 100000 in
theorem u8900_2124 {v0 : Value} {v2 : Value} {v3 : Value} {v4 : Value} {v5 : Value} {v6 : Value} {v7 : Value} {v8 : Value} {x : Nat} : am_g d X am_m8900 2124 [v0, .ref x, v2, v3, v4, v5, v6, v7, v8] sk st Q = am_g d X am_m8900 2125 [v0, .ref x, v2, v3, v4, v5, v6, v7, v8] (.ref x :: sk) st Q := am_gu.trans rfl
set_option maxRecDepth 100000 in
theorem u8900_2125 {v1 : Value} {v2 : Value} {v3 : Value} {v4 : Value} {v5 : Value} {v6 : Value} {v7 : Value} {v8 : Value} : am_g d X am_m8900 2125 [.retAddr 0, v1, v2, v3, v4, v5, v6, v7, v8] sk st Q = am_g d X am_m8900 2126 [.retAddr 0, v1, v2, v3, v4, v5, v6, v7, v8] (.retAddr 0 :: sk) st Q := am_gu.trans rfl
set_option maxRecDepth 100000 in
theorem u8900_2126 {v0 : Value} {v1 : Value} {v2 : Value} {v3 : Value} {v5 : Value} {v6 : Value} {v7 : Value} {v8 : Value} {x : Int32} : am_g d X am_m8900 2126 [v0, v1, v2, v3, .int x, v5, v6, v7, v8] sk st Q = am_g d X am_m8900 2128 [v0, v1, v2, v3, .int x, v5, v6, v7, v8] (.int x :: sk) st Q := am_gu.trans rfl
set_option maxRecDepth 100000 in
theorem u8900_2128 {v0 : Value} {v1 : Value} {v2 : Value} {v3 : Value} {v4 : Value} {v5 : Value} {v6 : Value} {v7 : Value} {v8 : Value} : am_g d X am_m8900 2128 [v0, v1, v2, v3, v4, v5, v6, v7, v8] sk st Q = am_g d X am_m8900 2129 [v0, v1, v2, v3, v4, v5, v6, v7, v8] (.int (am_i 1) :: sk) st Q := am_gu.trans rfl
set_option maxRecDepth 100000 in
theorem u8900_2129 {v0 : Value} {v1 : Value} {v2 : Value} {v3 : Value} {v4 : Value} {v5 : Value} {v6 : Value} {v7 : Value} {v8 : Value} {x : Int32} {y : Int32} : am_g d X am_m8900 2129 [v0, v1, v2, v3, v4, v5, v6, v7, v8] (.int y :: .int x :: sk) st Q = am_g d X am_m8900 2130 [v0, v1, v2, v3, v4, v5, v6, v7, v8] (.int (x + y) :: sk) st Q := am_gu.trans rfl
set_option maxRecDepth 100000 in
theorem u8900_2130 {v0 : Value} {v1 : Value} {v2 : Value} {v3 : Value} {v4 : Value} {v5 : Value} {v6 : Value} {v7 : Value} {v8 : Value} : am_g d X am_m8900 2130 [v0, v1, v2, v3, v4, v5, v6, v7, v8] sk st Q = am_xl (X.1, X.2.1, d) am_m8900 2131 [v0, v1, v2, v3, v4, v5, v6, v7, v8] sk st (fun pc lc sk st => am_g d X am_m8900 pc lc sk st Q) := am_gu.trans rfl
set_option maxRecDepth 100000 in
theorem u8900_2131 {v0 : Value} {v1 : Value} {v2 : Value} {v4 : Value} {v5 : Value} {v6 : Value} {v7 : Value} {v8 : Value} {x : Nat} : am_g d X am_m8900 2131 [v0, v1, v2, .ref x, v4, v5, v6, v7, v8] sk st Q = am_g d X am_m8900 2132 [v0, v1, v2, .ref x, v4, v5, v6, v7, v8] (.ref x :: sk) st Q := am_gu.trans rfl
set_option maxRecDepth 100000 in
theorem u8900_2132 {a0 : Value} {a1 : Value} {a2 : Value} {v0 : Value} {v1 : Value} {v2 : Value} {v3 : Value} {v4 : Value} {v5 : Value} {v6 : Value} {v7 : Value} {v8 : Value} : am_g d X am_m8900 2132 [v0, v1, v2, v3, v4, v5, v6, v7, v8] (a2 :: a1 :: a0 :: sk) st Q = (sk.length ≤ 4 ∧ am_Ca X d 8028 [a0, a1, a2] st (am_af am_m8900 2132 [v0, v1, v2, v3, v4, v5, v6, v7, v8] sk (fun pc lc sk st => am_g d X am_m8900 pc lc sk st Q) Q)) := am_gu.trans (propext ⟨fun h => ⟨h.1.2, h.2⟩, fun h => ⟨⟨Nat.le_add_left _ _, h.1⟩, h.2⟩⟩)
set_option maxRecDepth 100000 in
theorem u8900_2135 {v0 : Value} {v1 : Value} {v2 : Value} {v3 : Value} {v4 : Value} {v5 : Value} {v6 : Value} {v7 : Value} {v8 : Value} {x : Int32} : am_g d X am_m8900 2135 [v0, v1, v2, v3, v4, v5, v6, v7, v8] (.int x :: sk) st Q = am_g d X am_m8900 2137 [v0, v1, v2, v3, am_kc v4, .int x, v6, v7, v8] sk st Q := am_gu.trans (congrArg (fun l => am_g d X am_m8900 2137 (List.set l 5 (.int x)) sk st Q) (kl_5 (l := [v5, v6, v7, v8])))
set_option maxRecDepth 100000 in
theorem u8900_2137 {v0 : Value} {v1 : Value} {v3 : Value} {v4 : Value} {v5 : Value} {v6 : Value} {v7 : Value} {v8 : Value} {x : Nat} : am_g d X am_m8900 2137 [v0, v1, .ref x, v3, v4, v5, v6, v7, v8] sk st Q = am_g d X am_m8900 2138 [v0, v1, .ref x, v3, v4, v5, v6, v7, v8] (.ref x :: sk) st Q := am_gu.trans rfl
set_option maxRecDepth 100000 in
theorem u8900_2138 {v1 : Value} {v2 : Value} {v3 : Value} {v4 : Value} {v5 : Value} {v6 : Value} {v7 : Value} {v8 : Value} : am_g d X am_m8900 2138 [.retAddr 0, v1, v2, v3, v4, v5, v6, v7, v8] sk st Q = am_g d X am_m8900 2139 [.retAddr 0, v1, v2, v3, v4, v5, v6, v7, v8] (.retAddr 0 :: sk) st Q := am_gu.trans rfl
set_option maxRecDepth 100000 in
theorem u8900_2139 {v0 : Value} {v1 : Value} {v2 : Value} {v3 : Value} {v5 : Value} {v6 : Value} {v7 : Value} {v8 : Value} {x : Int32} : am_g d X am_m8900 2139 [v0, v1, v2, v3, .int x, v5, v6, v7, v8] sk st Q = am_g d X am_m8900 2141 [v0, v1, v2, v3, .int x, v5, v6, v7, v8] (.int x :: sk) st Q := am_gu.trans rfl
set_option maxRecDepth 100000 in
theorem u8900_2141 {v0 : Value} {v1 : Value} {v2 : Value} {v3 : Value} {v4 : Value} {v5 : Value} {v6 : Value} {v7 : Value} {v8 : Value} : am_g d X am_m8900 2141 [v0, v1, v2, v3, v4, v5, v6, v7, v8] sk st Q = am_g d X am_m8900 2142 [v0, v1, v2, v3, v4, v5, v6, v7, v8] (.int (am_i 1) :: sk) st Q := am_gu.trans rfl
set_option maxRecDepth 100000 in
theorem u8900_2142 {v0 : Value} {v1 : Value} {v2 : Value} {v3 : Value} {v4 : Value} {v5 : Value} {v6 : Value} {v7 : Value} {v8 : Value} {x : Int32} {y : Int32} : am_g d X am_m8900 2142 [v0, v1, v2, v3, v4, v5, v6, v7, v8] (.int y :: .int x :: sk) st Q = am_g d X am_m8900 2143 [v0, v1, v2, v3, v4, v5, v6, v7, v8] (.int (x + y) :: sk) st Q := am_gu.trans rfl
set_option maxRecDepth 100000 in
theorem u8900_2143 {v0 : Value} {v1 : Value} {v2 : Value} {v3 : Value} {v4 : Value} {v5 : Value} {v6 : Value} {v7 : Value} {v8 : Value} : am_g d X am_m8900 2143 [v0, v1, v2, v3, v4, v5, v6, v7, v8] sk st Q = am_xl (X.1, X.2.1, d) am_m8900 2144 [v0, v1, v2, v3, v4, v5, v6, v7, v8] sk st (fun pc lc sk st => am_g d X am_m8900 pc lc sk st Q) := am_gu.trans rfl
set_option maxRecDepth 100000 in
theorem u8900_2144 {a0 : Value} {v0 : Value} {v1 : Value} {v2 : Value} {v3 : Value} {v4 : Value} {v5 : Value} {v6 : Value} {v7 : Value} {v8 : Value} : am_g d X am_m8900 2144 [v0, v1, v2, v3, v4, v5, v6, v7, v8] (a0 :: .ref o :: sk) st Q = ((am_ob st o 7 ∧ sk.length ≤ 4) ∧ am_Ca X d 7105 [.ref o, a0] st (am_af am_m8900 2144 [v0, v1, v2, v3, v4, v5, v6, v7, v8] sk (fun pc lc sk st => am_g d X am_m8900 pc lc sk st Q) Q)) := am_gu.trans rfl
set_option maxRecDepth 100000 in
theorem u8900_2147 {v0 : Value} {v1 : Value} {v2 : Value} {v3 : Value} {v4 : Value} {v5 : Value} {v6 : Value} {v7 : Value} {v8 : Value} {x : Int32} : am_g d X am_m8900 2147 [v0, v1, v2, v3, v4, v5, v6, v7, v8] (.int x :: sk) st Q = am_g d X am_m8900 2149 [v0, v1, v2, v3, v4, am_kc v5, .int x, v7, v8] sk st Q := am_gu.trans (congrArg (fun l => am_g d X am_m8900 2149 (List.set l 6 (.int x)) sk st Q) (kl_6 (l := [v6, v7, v8])))
set_option maxRecDepth 100000 in
theorem u8900_2149 {v0 : Value} {v1 : Value} {v3 : Value} {v4 : Value} {v5 : Value} {v6 : Value} {v7 : Value} {v8 : Value} {x : Nat} : am_g d X am_m8900 2149 [v0, v1, .ref x, v3, v4, v5, v6, v7, v8] sk st Q = am_g d X am_m8900 2150 [v0, v1, .ref x, v3, v4, v5, v6, v7, v8] (.ref x :: sk) st Q := am_gu.trans rfl
set_option maxRecDepth 100000 in
theorem u8900_2150 {v0 : Value} {v1 : Value} {v2 : Value} {v3 : Value} {v4 : Value} {v5 : Value} {v6 : Value} {v7 : Value} {v8 : Value} : am_g d X am_m8900 2150 [v0, v1, v2, v3, v4, v5, v6, v7, v8] (.ref o :: sk) st Q = ((am_ob st o 7 ∧ sk.length ≤ 4) ∧ am_Ca X d 7002 [.ref o] st (am_af am_m8900 2150 [v0, v1, v2, v3, v4, v5, v6, v7, v8] sk (fun pc lc sk st => am_g d X am_m8900 pc lc sk st Q) Q)) := am_gu.trans rfl
set_option maxRecDepth 100000 in
theorem u8900_2153 {v0 : Value} {v1 : Value} {v2 : Value} {v3 : Value} {v4 : Value} {v6 : Value} {v7 : Value} {v8 : Value} {x : Int32} : am_g d X am_m8900 2153 [v0, v1, v2, v3, v4, .int x, v6, v7, v8] sk st Q = am_g d X am_m8900 2155 [v0, v1, v2, v3, v4, .int x, v6, v7, v8] (.int x :: sk) st Q := am_gu.trans rfl
set_option maxRecDepth 100000 in
theorem u8900_2155 {v0 : Value} {v1 : Value} {v2 : Value} {v3 : Value} {v4 : Value} {v5 : Value} {v6 : Value} {v7 : Value} {v8 : Value} {x : Int32} {y : Int32} : am_g d X am_m8900 2155 [v0, v1, v2, v3, v4, v5, v6, v7, v8] (.int y :: .int x :: sk) st Q = (if decide (x = y) = true then am_g d X am_m8900 2160 [v0, v1, v2, v3, v4, v5, v6, v7, v8] sk st Q else am_g d X am_m8900 2158 [v0, v1, v2, v3, v4, v5, v6, v7, v8] sk st Q) := am_gu.trans rfl
set_option maxRecDepth 100000 in
theorem u8900_2158 {v0 : Value} {v1 : Value} {v2 : Value} {v3 : Value} {v4 : Value} {v5 : Value} {v6 : Value} {v7 : Value} {v8 : Value} : am_g d X am_m8900 2158 [v0, v1, v2, v3, v4, v5, v6, v7, v8] sk st Q = am_g d X am_m8900 2159 [v0, v1, v2, v3, v4, v5, v6, v7, v8] (.int (am_i 0) :: sk) st Q := am_gu.trans rfl
set_option maxRecDepth 100000 in
theorem u8900_2159 {v0 : Value} {v1 : Value} {v2 : Value} {v3 : Value} {v4 : Value} {v5 : Value} {v6 : Value} {v7 : Value} {v8 : Value} {x : Int32} : am_g d X am_m8900 2159 [v0, v1, v2, v3, v4, v5, v6, v7, v8] [.int x] st Q = ((x = 0 ∨ x = 1) ∧ Q (.inl (some (.int x))) st) := am_gu.trans rfl
set_option maxRecDepth 100000 in
theorem u8900_2160 {v0 : Value} {v1 : Value} {v2 : Value} {v3 : Value} {v4 : Value} {v6 : Value} {v7 : Value} {v8 : Value} {x : Int32} : am_g d X am_m8900 2160 [v0, v1, v2, v3, v4, .int x, v6, v7, v8] sk st Q = am_g d X am_m8900 2162 [v0, v1, v2, v3, v4, .int x, v6, v7, v8] (.int x :: sk) st Q := am_gu.trans rfl
set_option maxRecDepth 100000 in
theorem u8900_2162 {v0 : Value} {v1 : Value} {v2 : Value} {v3 : Value} {v4 : Value} {v5 : Value} {v6 : Value} {v7 : Value} {v8 : Value} {x : Int32} : am_g d X am_m8900 2162 [v0, v1, v2, v3, v4, v5, v6, v7, v8] (.int x :: sk) st Q = (if decide (¬ x = 0) = true then am_g d X am_m8900 2177 [v0, v1, v2, v3, v4, v5, v6, v7, v8] sk st Q else am_g d X am_m8900 2165 [v0, v1, v2, v3, v4, v5, v6, v7, v8] sk st Q) := am_gu.trans rfl
set_option maxRecDepth 100000 in
theorem u8900_2165 {v0 : Value} {v1 : Value} {v2 : Value} {v4 : Value} {v5 : Value} {v6 : Value} {v7 : Value} {v8 : Value} {x : Nat} : am_g d X am_m8900 2165 [v0, v1, v2, .ref x, v4, v5, v6, v7, v8] sk st Q = am_g d X am_m8900 2166 [v0, v1, v2, .ref x, v4, v5, v6, v7, v8] (.ref x :: sk) st Q := am_gu.trans rfl
set_option maxRecDepth 100000 in
theorem u8900_2166 {v0 : Value} {v1 : Value} {v2 : Value} {v3 : Value} {v4 : Value} {v5 : Value} {v6 : Value} {v7 : Value} {v8 : Value} : am_g d X am_m8900 2166 [v0, v1, v2, v3, v4, v5, v6, v7, v8] sk st Q = am_g d X am_m8900 2167 [v0, v1, v2, v3, v4, v5, v6, v7, v8] (.int (am_i 0) :: sk) st Q := am_gu.trans rfl
set_option maxRecDepth 100000 in
theorem u8900_2167 {v0 : Value} {v1 : Value} {v2 : Value} {v3 : Value} {v4 : Value} {v5 : Value} {v6 : Value} {v7 : Value} {v8 : Value} : am_g d X am_m8900 2167 [v0, v1, v2, v3, v4, v5, v6, v7, v8] sk st Q = am_jl 2168 [v0, v1, v2, v3, v4, v5, v6, v7, v8] sk st (fun pc lc sk st => am_g d X am_m8900 pc lc sk st Q) := am_gu.trans rfl
set_option maxRecDepth 100000 in
theorem u8900_2168 {v0 : Value} {v1 : Value} {v2 : Value} {v3 : Value} {v4 : Value} {v5 : Value} {v7 : Value} {v8 : Value} {x : Int32} : am_g d X am_m8900 2168 [v0, v1, v2, v3, v4, v5, .int x, v7, v8] sk st Q = am_g d X am_m8900 2170 [v0, v1, v2, v3, v4, v5, .int x, v7, v8] (.int x :: sk) st Q := am_gu.trans rfl
set_option maxRecDepth 100000 in
theorem u8900_2170 {v0 : Value} {v1 : Value} {v2 : Value} {v3 : Value} {v4 : Value} {v5 : Value} {v6 : Value} {v7 : Value} {v8 : Value} {x : Int32} : am_g d X am_m8900 2170 [v0, v1, v2, v3, v4, v5, v6, v7, v8] (.int x :: sk) st Q = am_g d X am_m8900 2171 [v0, v1, v2, v3, v4, v5, v6, v7, v8] (.long x.toInt64 :: sk) st Q := am_gu.trans rfl
set_option maxRecDepth 100000 in
theorem u8900_2171 {v0 : Value} {v1 : Value} {v2 : Value} {v3 : Value} {v4 : Value} {v5 : Value} {v6 : Value} {v7 : Value} {v8 : Value} {x : Int64} {y : Int64} : am_g d X am_m8900 2171 [v0, v1, v2, v3, v4, v5, v6, v7, v8] (.long y :: .long x :: sk) st Q = am_g d X am_m8900 2172 [v0, v1, v2, v3, v4, v5, v6, v7, v8] (.int (lg_cmp x y) :: sk) st Q := am_gu.trans rfl
set_option maxRecDepth 100000 in
theorem u8900_2172 {v0 : Value} {v1 : Value} {v2 : Value} {v3 : Value} {v4 : Value} {v5 : Value} {v6 : Value} {v7 : Value} {v8 : Value} {x : Int32} : am_g d X am_m8900 2172 [v0, v1, v2, v3, v4, v5, v6, v7, v8] (.int x :: sk) st Q = (if decide (x = 0) = true then am_g d X am_m8900 2177 [v0, v1, v2, v3, v4, v5, v6, v7, v8] sk st Q else am_g d X am_m8900 2175 [v0, v1, v2, v3, v4, v5, v6, v7, v8] sk st Q) := am_gu.trans rfl
set_option maxRecDepth 100000 in
theorem u8900_2175 {v0 : Value} {v1 : Value} {v2 : Value} {v3 : Value} {v4 : Value} {v5 : Value} {v6 : Value} {v7 : Value} {v8 : Value} : am_g d X am_m8900 2175 [v0, v1, v2, v3, v4, v5, v6, v7, v8] sk st Q = am_g d X am_m8900 2176 [v0, v1, v2, v3, v4, v5, v6, v7, v8] (.int (am_i 0) :: sk) st Q := am_gu.trans rfl
set_option maxRecDepth 100000 in
theorem u8900_2176 {v0 : Value} {v1 : Value} {v2 : Value} {v3 : Value} {v4 : Value} {v5 : Value} {v6 : Value} {v7 : Value} {v8 : Value} {x : Int32} : am_g d X am_m8900 2176 [v0, v1, v2, v3, v4, v5, v6, v7, v8] [.int x] st Q = ((x = 0 ∨ x = 1) ∧ Q (.inl (some (.int x))) st) := am_gu.trans rfl
set_option maxRecDepth 100000 in
theorem u8900_2177 {v0 : Value} {v1 : Value} {v2 : Value} {v3 : Value} {v4 : Value} {v5 : Value} {v6 : Value} {v7 : Value} {v8 : Value} : am_g d X am_m8900 2177 [v0, v1, v2, v3, v4, v5, v6, v7, v8] sk st Q = am_g d X am_m8900 2998 [v0, v1, v2, v3, v4, v5, v6, v7, v8] sk st Q := am_gu.trans rfl
set_option maxRecDepth 100000 in
theorem u8900_2180 {v0 : Value} {v2 : Value} {v3 : Value} {v4 : Value} {v5 : Value} {v6 : Value} {v7 : Value} {v8 : Value} {x : Nat} : am_g d X am_m8900 2180 [v0, .ref x, v2, v3, v4, v5, v6, v7, v8] sk st Q = am_g d X am_m8900 2181 [v0, .ref x, v2, v3, v4, v5, v6, v7, v8] (.ref x :: sk) st Q := am_gu.trans rfl
set_option maxRecDepth 100000 in
theorem u8900_2181 {v0 : Value} {v1 : Value} {v2 : Value} {v3 : Value} {v4 : Value} {v5 : Value} {v6 : Value} {v7 : Value} {v8 : Value} : am_g d X am_m8900 2181 [v0, v1, v2, v3, v4, v5, v6, v7, v8] (.ref o :: sk) st Q = ((am_ob st o 6 ∧ sk.length ≤ 4) ∧ am_Ca X d 6041 [.ref o] st (am_af am_m8900 2181 [v0, v1, v2, v3, v4, v5, v6, v7, v8] sk (fun pc lc sk st => am_g d X am_m8900 pc lc sk st Q) Q)) := am_gu.trans rfl
set_option maxRecDepth 100000 in
theorem u8900_2184 {v0 : Value} {v1 : Value} {v3 : Value} {v4 : Value} {v5 : Value} {v6 : Value} {v7 : Value} {v8 : Value} {x : Nat} : am_g d X am_m8900 2184 [v0, v1, .ref x, v3, v4, v5, v6, v7, v8] sk st Q = am_g d X am_m8900 2185 [v0, v1, .ref x, v3, v4, v5, v6, v7, v8] (.ref x :: sk) st Q := am_gu.trans rfl
set_option maxRecDepth 100000 in
theorem u8900_2185 {v0 : Value} {v1 : Value} {v2 : Value} {v3 : Value} {v4 : Value} {v5 : Value} {v6 : Value} {v7 : Value} {v8 : Value} : am_g d X am_m8900 2185 [v0, v1, v2, v3, v4, v5, v6, v7, v8] (.ref o :: sk) st Q = ((am_ob st o 7 ∧ sk.length ≤ 4) ∧ am_Ca X d 7106 [.ref o] st (am_af am_m8900 2185 [v0, v1, v2, v3, v4, v5, v6, v7, v8] sk (fun pc lc sk st => am_g d X am_m8900 pc lc sk st Q) Q)) := am_gu.trans rfl
set_option maxRecDepth 100000 in
theorem u8900_2188 {v0 : Value} {v1 : Value} {v2 : Value} {v3 : Value} {v4 : Value} {v5 : Value} {v6 : Value} {v7 : Value} {v8 : Value} {x : Int32} {y : Int32} : am_g d X am_m8900 2188 [v0, v1, v2, v3, v4, v5, v6, v7, v8] (.int y :: .int x :: sk) st Q = (if decide (x = y) = true then am_g d X am_m8900 2998 [v0, v1, v2, v3, v4, v5, v6, v7, v8] sk st Q else am_g d X am_m8900 2191 [v0, v1, v2, v3, v4, v5, v6, v7, v8] sk st Q) := am_gu.trans rfl
set_option maxRecDepth 100000 in
theorem u8900_2191 {v0 : Value} {v1 : Value} {v2 : Value} {v3 : Value} {v4 : Value} {v5 : Value} {v6 : Value} {v7 : Value} {v8 : Value} : am_g d X am_m8900 2191 [v0, v1, v2, v3, v4, v5, v6, v7, v8] sk st Q = am_g d X am_m8900 2192 [v0, v1, v2, v3, v4, v5, v6, v7, v8] (.int (am_i 0) :: sk) st Q := am_gu.trans rfl
set_option maxRecDepth 100000 in
theorem u8900_2192 {v0 : Value} {v1 : Value} {v2 : Value} {v3 : Value} {v4 : Value} {v5 : Value} {v6 : Value} {v7 : Value} {v8 : Value} {x : Int32} : am_g d X am_m8900 2192 [v0, v1, v2, v3, v4, v5, v6, v7, v8] [.int x] st Q = ((x = 0 ∨ x = 1) ∧ Q (.inl (some (.int x))) st) := am_gu.trans rfl
set_option maxRecDepth 100000 in
theorem u8900_2193 {v0 : Value} {v2 : Value} {v3 : Value} {v4 : Value} {v5 : Value} {v6 : Value} {v7 : Value} {v8 : Value} {x : Nat} : am_g d X am_m8900 2193 [v0, .ref x, v2, v3, v4, v5, v6, v7, v8] sk st Q = am_g d X am_m8900 2194 [v0, .ref x, v2, v3, v4, v5, v6, v7, v8] (.ref x :: sk) st Q := am_gu.trans rfl
set_option maxRecDepth 100000 in
theorem u8900_2194 {v0 : Value} {v1 : Value} {v2 : Value} {v3 : Value} {v4 : Value} {v5 : Value} {v6 : Value} {v7 : Value} {v8 : Value} : am_g d X am_m8900 2194 [v0, v1, v2, v3, v4, v5, v6, v7, v8] (.ref o :: sk) st Q = ((am_ob st o 6 ∧ sk.length ≤ 4) ∧ am_Ca X d 6042 [.ref o] st (am_af am_m8900 2194 [v0, v1, v2, v3, v4, v5, v6, v7, v8] sk (fun pc lc sk st => am_g d X am_m8900 pc lc sk st Q) Q)) := am_gu.trans rfl
set_option maxRecDepth 100000 in
theorem u8900_2197 {v0 : Value} {v1 : Value} {v3 : Value} {v4 : Value} {v5 : Value} {v6 : Value} {v7 : Value} {v8 : Value} {x : Nat} : am_g d X am_m8900 2197 [v0, v1, .ref x, v3, v4, v5, v6, v7, v8] sk st Q = am_g d X am_m8900 2198 [v0, v1, .ref x, v3, v4, v5, v6, v7, v8] (.ref x :: sk) st Q := am_gu.trans rfl
set_option maxRecDepth 100000 in
theorem u8900_2198 {v0 : Value} {v1 : Value} {v2 : Value} {v3 : Value} {v4 : Value} {v5 : Value} {v6 : Value} {v7 : Value} {v8 : Value} : am_g d X am_m8900 2198 [v0, v1, v2, v3, v4, v5, v6, v7, v8] (.ref o :: sk) st Q = ((am_ob st o 7 ∧ sk.length ≤ 4) ∧ am_Ca X d 7107 [.ref o] st (am_af am_m8900 2198 [v0, v1, v2, v3, v4, v5, v6, v7, v8] sk (fun pc lc sk st => am_g d X am_m8900 pc lc sk st Q) Q)) := am_gu.trans rfl
set_option maxRecDepth 100000 in
theorem u8900_2201 {v0 : Value} {v1 : Value} {v2 : Value} {v3 : Value} {v4 : Value} {v5 : Value} {v6 : Value} {v7 : Value} {v8 : Value} {x : Int32} {y : Int32} : am_g d X am_m8900 2201 [v0, v1, v2, v3, v4, v5, v6, v7, v8] (.int y :: .int x :: sk) st Q = (if decide (x = y) = true then am_g d X am_m8900 2998 [v0, v1, v2, v3, v4, v5, v6, v7, v8] sk st Q else am_g d X am_m8900 2204 [v0, v1, v2, v3, v4, v5, v6, v7, v8] sk st Q) := am_gu.trans rfl
set_option maxRecDepth 100000 in
theorem u8900_2204 {v0 : Value} {v1 : Value} {v2 : Value} {v3 : Value} {v4 : Value} {v5 : Value} {v6 : Value} {v7 : Value} {v8 : Value} : am_g d X am_m8900 2204 [v0, v1, v2, v3, v4, v5, v6, v7, v8] sk st Q = am_g d X am_m8900 2205 [v0, v1, v2, v3, v4, v5, v6, v7, v8] (.int (am_i 0) :: sk) st Q := am_gu.trans rfl
set_option maxRecDepth 100000 in
theorem u8900_2205 {v0 : Value} {v1 : Value} {v2 : Value} {v3 : Value} {v4 : Value} {v5 : Value} {v6 : Value} {v7 : Value} {v8 : Value} {x : Int32} : am_g d X am_m8900 2205 [v0, v1, v2, v3, v4, v5, v6, v7, v8] [.int x] st Q = ((x = 0 ∨ x = 1) ∧ Q (.inl (some (.int x))) st) := am_gu.trans rfl
set_option maxRecDepth 100000 in
theorem u8900_2206 {v0 : Value} {v2 : Value} {v3 : Value} {v4 : Value} {v5 : Value} {v6 : Value} {v7 : Value} {v8 : Value} {x : Nat} : am_g d X am_m8900 2206 [v0, .ref x, v2, v3, v4, v5, v6, v7, v8] sk st Q = am_g d X am_m8900 2207 [v0, .ref x, v2, v3, v4, v5, v6, v7, v8] (.ref x :: sk) st Q := am_gu.trans rfl
set_option maxRecDepth 100000 in
theorem u8900_2207 {v0 : Value} {v1 : Value} {v2 : Value} {v3 : Value} {v4 : Value} {v5 : Value} {v6 : Value} {v7 : Value} {v8 : Value} : am_g d X am_m8900 2207 [v0, v1, v2, v3, v4, v5, v6, v7, v8] (.ref o :: sk) st Q = ((am_ob st o 6 ∧ sk.length ≤ 4) ∧ am_Ca X d 6043 [.ref o] st (am_af am_m8900 2207 [v0, v1, v2, v3, v4, v5, v6, v7, v8] sk (fun pc lc sk st => am_g d X am_m8900 pc lc sk st Q) Q)) := am_gu.trans rfl
set_option maxRecDepth 100000 in
theorem u8900_2210 {v0 : Value} {v1 : Value} {v3 : Value} {v4 : Value} {v5 : Value} {v6 : Value} {v7 : Value} {v8 : Value} {x : Nat} : am_g d X am_m8900 2210 [v0, v1, .ref x, v3, v4, v5, v6, v7, v8] sk st Q = am_g d X am_m8900 2211 [v0, v1, .ref x, v3, v4, v5, v6, v7, v8] (.ref x :: sk) st Q := am_gu.trans rfl
set_option maxRecDepth 100000 in
theorem u8900_2211 {v0 : Value} {v1 : Value} {v2 : Value} {v3 : Value} {v4 : Value} {v5 : Value} {v6 : Value} {v7 : Value} {v8 : Value} : am_g d X am_m8900 2211 [v0, v1, v2, v3, v4, v5, v6, v7, v8] (.ref o :: sk) st Q = ((am_ob st o 7 ∧ sk.length ≤ 4) ∧ am_Ca X d 7108 [.ref o] st (am_af am_m8900 2211 [v0, v1, v2, v3, v4, v5, v6, v7, v8] sk (fun pc lc sk st => am_g d X am_m8900 pc lc sk st Q) Q)) := am_gu.trans rfl
set_option maxRecDepth 100000 in
theorem u8900_2214 {v0 : Value} {v1 : Value} {v2 : Value} {v3 : Value} {v4 : Value} {v5 : Value} {v6 : Value} {v7 : Value} {v8 : Value} {x : Int32} {y : Int32} : am_g d X am_m8900 2214 [v0, v1, v2, v3, v4, v5, v6, v7, v8] (.int y :: .int x :: sk) st Q = (if decide (x = y) = true then am_g d X am_m8900 2998 [v0, v1, v2, v3, v4, v5, v6, v7, v8] sk st Q else am_g d X am_m8900 2217 [v0, v1, v2, v3, v4, v5, v6, v7, v8] sk st Q) := am_gu.trans rfl
set_option maxRecDepth 100000 in
theorem u8900_2217 {v0 : Value} {v1 : Value} {v2 : Value} {v3 : Value} {v4 : Value} {v5 : Value} {v6 : Value} {v7 : Value} {v8 : Value} : am_g d X am_m8900 2217 [v0, v1, v2, v3, v4, v5, v6, v7, v8] sk st Q = am_g d X am_m8900 2218 [v0, v1, v2, v3, v4, v5, v6, v7, v8] (.int (am_i 0) :: sk) st Q := am_gu.trans rfl
set_option maxRecDepth 100000 in
theorem u8900_2218 {v0 : Value} {v1 : Value} {v2 : Value} {v3 : Value} {v4 : Value} {v5 : Value} {v6 : Value} {v7 : Value} {v8 : Value} {x : Int32} : am_g d X am_m8900 2218 [v0, v1, v2, v3, v4, v5, v6, v7, v8] [.int x] st Q = ((x = 0 ∨ x = 1) ∧ Q (.inl (some (.int x))) st) := am_gu.trans rfl
set_option maxRecDepth 100000 in
theorem u8900_2219 {v0 : Value} {v2 : Value} {v3 : Value} {v4 : Value} {v5 : Value} {v6 : Value} {v7 : Value} {v8 : Value} {x : Nat} : am_g d X am_m8900 2219 [v0, .ref x, v2, v3, v4, v5, v6, v7, v8] sk st Q = am_g d X am_m8900 2220 [v0, .ref x, v2, v3, v4, v5, v6, v7, v8] (.ref x :: sk) st Q := am_gu.trans rfl
set_option maxRecDepth 100000 in
theorem u8900_2220 {v0 : Value} {v1 : Value} {v2 : Value} {v3 : Value} {v4 : Value} {v5 : Value} {v6 : Value} {v7 : Value} {v8 : Value} : am_g d X am_m8900 2220 [v0, v1, v2, v3, v4, v5, v6, v7, v8] (.ref o :: sk) st Q = ((am_ob st o 6 ∧ sk.length ≤ 4) ∧ am_Ca X d 6044 [.ref o] st (am_af am_m8900 2220 [v0, v1, v2, v3, v4, v5, v6, v7, v8] sk (fun pc lc sk st => am_g d X am_m8900 pc lc sk st Q) Q)) := am_gu.trans rfl
set_option maxRecDepth 100000 in
theorem u8900_2223 {v0 : Value} {v1 : Value} {v3 : Value} {v4 : Value} {v5 : Value} {v6 : Value} {v7 : Value} {v8 : Value} {x : Nat} : am_g d X am_m8900 2223 [v0, v1, .ref x, v3, v4, v5, v6, v7, v8] sk st Q = am_g d X am_m8900 2224 [v0, v1, .ref x, v3, v4, v5, v6, v7, v8] (.ref x :: sk) st Q := am_gu.trans rfl
set_option maxRecDepth 100000 in
theorem u8900_2224 {v0 : Value} {v1 : Value} {v2 : Value} {v3 : Value} {v4 : Value} {v5 : Value} {v6 : Value} {v7 : Value} {v8 : Value} : am_g d X am_m8900 2224 [v0, v1, v2, v3, v4, v5, v6, v7, v8] (.ref o :: sk) st Q = ((am_ob st o 7 ∧ sk.length ≤ 4) ∧ am_Ca X d 7109 [.ref o] st (am_af am_m8900 2224 [v0, v1, v2, v3, v4, v5, v6, v7, v8] sk (fun pc lc sk st => am_g d X am_m8900 pc lc sk st Q) Q)) := am_gu.trans rfl
set_option maxRecDepth 100000 in
theorem u8900_2227 {v0 : Value} {v1 : Value} {v2 : Value} {v3 : Value} {v4 : Value} {v5 : Value} {v6 : Value} {v7 : Value} {v8 : Value} {x : Int32} {y : Int32} : am_g d X am_m8900 2227 [v0, v1, v2, v3, v4, v5, v6, v7, v8] (.int y :: .int x :: sk) st Q = (if decide (x = y) = true then am_g d X am_m8900 2998 [v0, v1, v2, v3, v4, v5, v6, v7, v8] sk st Q else am_g d X am_m8900 2230 [v0, v1, v2, v3, v4, v5, v6, v7, v8] sk st Q) := am_gu.trans rfl
set_option maxRecDepth 100000 in
theorem u8900_2230 {v0 : Value} {v1 : Value} {v2 : Value} {v3 : Value} {v4 : Value} {v5 : Value} {v6 : Value} {v7 : Value} {v8 : Value} : am_g d X am_m8900 2230 [v0, v1, v2, v3, v4, v5, v6, v7, v8] sk st Q = am_g d X am_m8900 2231 [v0, v1, v2, v3, v4, v5, v6, v7, v8] (.int (am_i 0) :: sk) st Q := am_gu.trans rfl
set_option maxRecDepth 100000 in
theorem u8900_2231 {v0 : Value} {v1 : Value} {v2 : Value} {v3 : Value} {v4 : Value} {v5 : Value} {v6 : Value} {v7 : Value} {v8 : Value} {x : Int32} : am_g d X am_m8900 2231 [v0, v1, v2, v3, v4, v5, v6, v7, v8] [.int x] st Q = ((x = 0 ∨ x = 1) ∧ Q (.inl (some (.int x))) st) := am_gu.trans rfl
set_option maxRecDepth 100000 in
theorem u8900_2232 {v0 : Value} {v2 : Value} {v3 : Value} {v4 : Value} {v5 : Value} {v6 : Value} {v7 : Value} {v8 : Value} {x : Nat} : am_g d X am_m8900 2232 [v0, .ref x, v2, v3, v4, v5, v6, v7, v8] sk st Q = am_g d X am_m8900 2233 [v0, .ref x, v2, v3, v4, v5, v6, v7, v8] (.ref x :: sk) st Q := am_gu.trans rfl
set_option maxRecDepth 100000 in
theorem u8900_2233 {v1 : Value} {v2 : Value} {v3 : Value} {v4 : Value} {v5 : Value} {v6 : Value} {v7 : Value} {v8 : Value} : am_g d X am_m8900 2233 [.retAddr 0, v1, v2, v3, v4, v5, v6, v7, v8] sk st Q = am_g d X am_m8900 2234 [.retAddr 0, v1, v2, v3, v4, v5, v6, v7, v8] (.retAddr 0 :: sk) st Q := am_gu.trans rfl
set_option maxRecDepth 100000 in
theorem u8900_2234 {v0 : Value} {v1 : Value} {v2 : Value} {v3 : Value} {v5 : Value} {v6 : Value} {v7 : Value} {v8 : Value} {x : Int32} : am_g d X am_m8900 2234 [v0, v1, v2, v3, .int x, v5, v6, v7, v8] sk st Q = am_g d X am_m8900 2236 [v0, v1, v2, v3, .int x, v5, v6, v7, v8] (.int x :: sk) st Q := am_gu.trans rfl
set_option maxRecDepth 100000 in
theorem u8900_2236 {v0 : Value} {v1 : Value} {v2 : Value} {v3 : Value} {v4 : Value} {v5 : Value} {v6 : Value} {v7 : Value} {v8 : Value} : am_g d X am_m8900 2236 [v0, v1, v2, v3, v4, v5, v6, v7, v8] sk st Q = am_g d X am_m8900 2237 [v0, v1, v2, v3, v4, v5, v6, v7, v8] (.int (am_i 1) :: sk) st Q := am_gu.trans rfl
set_option maxRecDepth 100000 in
theorem u8900_2237 {v0 : Value} {v1 : Value} {v2 : Value} {v3 : Value} {v4 : Value} {v5 : Value} {v6 : Value} {v7 : Value} {v8 : Value} {x : Int32} {y : Int32} : am_g d X am_m8900 2237 [v0, v1, v2, v3, v4, v5, v6, v7, v8] (.int y :: .int x :: sk) st Q = am_g d X am_m8900 2238 [v0, v1, v2, v3, v4, v5, v6, v7, v8] (.int (x + y) :: sk) st Q := am_gu.trans rfl
set_option maxRecDepth 100000 in
theorem u8900_2238 {v0 : Value} {v1 : Value} {v2 : Value} {v3 : Value} {v4 : Value} {v5 : Value} {v6 : Value} {v7 : Value} {v8 : Value} : am_g d X am_m8900 2238 [v0, v1, v2, v3, v4, v5, v6, v7, v8] sk st Q = am_xl (X.1, X.2.1, d) am_m8900 2239 [v0, v1, v2, v3, v4, v5, v6, v7, v8] sk st (fun pc lc sk st => am_g d X am_m8900 pc lc sk st Q) := am_gu.trans rfl
set_option maxRecDepth 100000 in
theorem u8900_2239 {v1 : Value} {v2 : Value} {v3 : Value} {v4 : Value} {v5 : Value} {v6 : Value} {v7 : Value} {v8 : Value} : am_g d X am_m8900 2239 [.retAddr 0, v1, v2, v3, v4, v5, v6, v7, v8] sk st Q = am_g d X am_m8900 2240 [.retAddr 0, v1, v2, v3, v4, v5, v6, v7, v8] (.retAddr 0 :: sk) st Q := am_gu.trans rfl
set_option maxRecDepth 100000 in
theorem u8900_2240 {v0 : Value} {v1 : Value} {v2 : Value} {v3 : Value} {v5 : Value} {v6 : Value} {v7 : Value} {v8 : Value} {x : Int32} : am_g d X am_m8900 2240 [v0, v1, v2, v3, .int x, v5, v6, v7, v8] sk st Q = am_g d X am_m8900 2242 [v0, v1, v2, v3, .int x, v5, v6, v7, v8] (.int x :: sk) st Q := am_gu.trans rfl
set_option maxRecDepth 100000 in
theorem u8900_2242 {v0 : Value} {v1 : Value} {v2 : Value} {v3 : Value} {v4 : Value} {v5 : Value} {v6 : Value} {v7 : Value} {v8 : Value} : am_g d X am_m8900 2242 [v0, v1, v2, v3, v4, v5, v6, v7, v8] sk st Q = am_g d X am_m8900 2243 [v0, v1, v2, v3, v4, v5, v6, v7, v8] (.int (am_i 2) :: sk) st Q := am_gu.trans rfl
set_option maxRecDepth 100000 in
theorem u8900_2243 {v0 : Value} {v1 : Value} {v2 : Value} {v3 : Value} {v4 : Value} {v5 : Value} {v6 : Value} {v7 : Value} {v8 : Value} {x : Int32} {y : Int32} : am_g d X am_m8900 2243 [v0, v1, v2, v3, v4, v5, v6, v7, v8] (.int y :: .int x :: sk) st Q = am_g d X am_m8900 2244 [v0, v1, v2, v3, v4, v5, v6, v7, v8] (.int (x + y) :: sk) st Q := am_gu.trans rfl
set_option maxRecDepth 100000 in
theorem u8900_2244 {v0 : Value} {v1 : Value} {v2 : Value} {v3 : Value} {v4 : Value} {v5 : Value} {v6 : Value} {v7 : Value} {v8 : Value} : am_g d X am_m8900 2244 [v0, v1, v2, v3, v4, v5, v6, v7, v8] sk st Q = am_xl (X.1, X.2.1, d) am_m8900 2245 [v0, v1, v2, v3, v4, v5, v6, v7, v8] sk st (fun pc lc sk st => am_g d X am_m8900 pc lc sk st Q) := am_gu.trans rfl
set_option maxRecDepth 100000 in
theorem u8900_2245 {v0 : Value} {v1 : Value} {v2 : Value} {v4 : Value} {v5 : Value} {v6 : Value} {v7 : Value} {v8 : Value} {x : Nat} : am_g d X am_m8900 2245 [v0, v1, v2, .ref x, v4, v5, v6, v7, v8] sk st Q = am_g d X am_m8900 2246 [v0, v1, v2, .ref x, v4, v5, v6, v7, v8] (.ref x :: sk) st Q := am_gu.trans rfl
set_option maxRecDepth 100000 in
theorem u8900_2246 {a0 : Value} {a1 : Value} {a2 : Value} {a3 : Value} {v0 : Value} {v1 : Value} {v2 : Value} {v3 : Value} {v4 : Value} {v5 : Value} {v6 : Value} {v7 : Value} {v8 : Value} : am_g d X am_m8900 2246 [v0, v1, v2, v3, v4, v5, v6, v7, v8] (a3 :: a2 :: a1 :: a0 :: sk) st Q = (sk.length ≤ 4 ∧ am_Ca X d 8029 [a0, a1, a2, a3] st (am_af am_m8900 2246 [v0, v1, v2, v3, v4, v5, v6, v7, v8] sk (fun pc lc sk st => am_g d X am_m8900 pc lc sk st Q) Q)) := am_gu.trans (propext ⟨fun h => ⟨h.1.2, h.2⟩, fun h => ⟨⟨Nat.le_add_left _ _, h.1⟩, h.2⟩⟩)
set_option maxRecDepth 100000 in
theorem u8900_2249 {v0 : Value} {v1 : Value} {v2 : Value} {v3 : Value} {v4 : Value} {v5 : Value} {v6 : Value} {v7 : Value} {v8 : Value} {x : Int32} : am_g d X am_m8900 2249 [v0, v1, v2, v3, v4, v5, v6, v7, v8] (.int x :: sk) st Q = am_g d X am_m8900 2251 [v0, v1, v2, v3, am_kc v4, .int x, v6, v7, v8] sk st Q := am_gu.trans (congrArg (fun l => am_g d X am_m8900 2251 (List.set l 5 (.int x)) sk st Q) (kl_5 (l := [v5, v6, v7, v8])))
set_option maxRecDepth 100000 in
theorem u8900_2251 {v0 : Value} {v1 : Value} {v3 : Value} {v4 : Value} {v5 : Value} {v6 : Value} {v7 : Value} {v8 : Value} {x : Nat} : am_g d X am_m8900 2251 [v0, v1, .ref x, v3, v4, v5, v6, v7, v8] sk st Q = am_g d X am_m8900 2252 [v0, v1, .ref x, v3, v4, v5, v6, v7, v8] (.ref x :: sk) st Q := am_gu.trans rfl
set_option maxRecDepth 100000 in
theorem u8900_2252 {v1 : Value} {v2 : Value} {v3 : Value} {v4 : Value} {v5 : Value} {v6 : Value} {v7 : Value} {v8 : Value} : am_g d X am_m8900 2252 [.retAddr 0, v1, v2, v3, v4, v5, v6, v7, v8] sk st Q = am_g d X am_m8900 2253 [.retAddr 0, v1, v2, v3, v4, v5, v6, v7, v8] (.retAddr 0 :: sk) st Q := am_gu.trans rfl
set_option maxRecDepth 100000 in
theorem u8900_2253 {v0 : Value} {v1 : Value} {v2 : Value} {v3 : Value} {v5 : Value} {v6 : Value} {v7 : Value} {v8 : Value} {x : Int32} : am_g d X am_m8900 2253 [v0, v1, v2, v3, .int x, v5, v6, v7, v8] sk st Q = am_g d X am_m8900 2255 [v0, v1, v2, v3, .int x, v5, v6, v7, v8] (.int x :: sk) st Q := am_gu.trans rfl
set_option maxRecDepth 100000 in
theorem u8900_2255 {v0 : Value} {v1 : Value} {v2 : Value} {v3 : Value} {v4 : Value} {v5 : Value} {v6 : Value} {v7 : Value} {v8 : Value} : am_g d X am_m8900 2255 [v0, v1, v2, v3, v4, v5, v6, v7, v8] sk st Q = am_g d X am_m8900 2256 [v0, v1, v2, v3, v4, v5, v6, v7, v8] (.int (am_i 1) :: sk) st Q := am_gu.trans rfl
set_option maxRecDepth 100000 in
theorem u8900_2256 {v0 : Value} {v1 : Value} {v2 : Value} {v3 : Value} {v4 : Value} {v5 : Value} {v6 : Value} {v7 : Value} {v8 : Value} {x : Int32} {y : Int32} : am_g d X am_m8900 2256 [v0, v1, v2, v3, v4, v5, v6, v7, v8] (.int y :: .int x :: sk) st Q = am_g d X am_m8900 2257 [v0, v1, v2, v3, v4, v5, v6, v7, v8] (.int (x + y) :: sk) st Q := am_gu.trans rfl
set_option maxRecDepth 100000 in
theorem u8900_2257 {v0 : Value} {v1 : Value} {v2 : Value} {v3 : Value} {v4 : Value} {v5 : Value} {v6 : Value} {v7 : Value} {v8 : Value} : am_g d X am_m8900 2257 [v0, v1, v2, v3, v4, v5, v6, v7, v8] sk st Q = am_xl (X.1, X.2.1, d) am_m8900 2258 [v0, v1, v2, v3, v4, v5, v6, v7, v8] sk st (fun pc lc sk st => am_g d X am_m8900 pc lc sk st Q) := am_gu.trans rfl
set_option maxRecDepth 100000 in
theorem u8900_2258 {v1 : Value} {v2 : Value} {v3 : Value} {v4 : Value} {v5 : Value} {v6 : Value} {v7 : Value} {v8 : Value} : am_g d X am_m8900 2258 [.retAddr 0, v1, v2, v3, v4, v5, v6, v7, v8] sk st Q = am_g d X am_m8900 2259 [.retAddr 0, v1, v2, v3, v4, v5, v6, v7, v8] (.retAddr 0 :: sk) st Q := am_gu.trans rfl
set_option maxRecDepth 100000 in
theorem u8900_2259 {v0 : Value} {v1 : Value} {v2 : Value} {v3 : Value} {v5 : Value} {v6 : Value} {v7 : Value} {v8 : Value} {x : Int32} : am_g d X am_m8900 2259 [v0, v1, v2, v3, .int x, v5, v6, v7, v8] sk st Q = am_g d X am_m8900 2261 [v0, v1, v2, v3, .int x, v5, v6, v7, v8] (.int x :: sk) st Q := am_gu.trans rfl
set_option maxRecDepth 100000 in
theorem u8900_2261 {v0 : Value} {v1 : Value} {v2 : Value} {v3 : Value} {v4 : Value} {v5 : Value} {v6 : Value} {v7 : Value} {v8 : Value} : am_g d X am_m8900 2261 [v0, v1, v2, v3, v4, v5, v6, v7, v8] sk st Q = am_g d X am_m8900 2262 [v0, v1, v2, v3, v4, v5, v6, v7, v8] (.int (am_i 2) :: sk) st Q := am_gu.trans rfl
set_option maxRecDepth 100000 in
theorem u8900_2262 {v0 : Value} {v1 : Value} {v2 : Value} {v3 : Value} {v4 : Value} {v5 : Value} {v6 : Value} {v7 : Value} {v8 : Value} {x : Int32} {y : Int32} : am_g d X am_m8900 2262 [v0, v1, v2, v3, v4, v5, v6, v7, v8] (.int y :: .int x :: sk) st Q = am_g d X am_m8900 2263 [v0, v1, v2, v3, v4, v5, v6, v7, v8] (.int (x + y) :: sk) st Q := am_gu.trans rfl
set_option maxRecDepth 100000 in
theorem u8900_2263 {v0 : Value} {v1 : Value} {v2 : Value} {v3 : Value} {v4 : Value} {v5 : Value} {v6 : Value} {v7 : Value} {v8 : Value} : am_g d X am_m8900 2263 [v0, v1, v2, v3, v4, v5, v6, v7, v8] sk st Q = am_xl (X.1, X.2.1, d) am_m8900 2264 [v0, v1, v2, v3, v4, v5, v6, v7, v8] sk st (fun pc lc sk st => am_g d X am_m8900 pc lc sk st Q) := am_gu.trans rfl
set_option maxRecDepth 100000 in
theorem u8900_2264 {a0 : Value} {a1 : Value} {v0 : Value} {v1 : Value} {v2 : Value} {v3 : Value} {v4 : Value} {v5 : Value} {v6 : Value} {v7 : Value} {v8 : Value} : am_g d X am_m8900 2264 [v0, v1, v2, v3, v4, v5, v6, v7, v8] (a1 :: a0 :: .ref o :: sk) st Q = ((am_ob st o 7 ∧ sk.length ≤ 4) ∧ am_Ca X d 7110 [.ref o, a0, a1] st (am_af am_m8900 2264 [v0, v1, v2, v3, v4, v5, v6, v7, v8] sk (fun pc lc sk st => am_g d X am_m8900 pc lc sk st Q) Q)) := am_gu.trans rfl
set_option maxRecDepth 100000 in
theorem u8900_2267 {v0 : Value} {v1 : Value} {v2 : Value} {v3 : Value} {v4 : Value} {v5 : Value} {v6 : Value} {v7 : Value} {v8 : Value} {x : Int32} : am_g d X am_m8900 2267 [v0, v1, v2, v3, v4, v5, v6, v7, v8] (.int x :: sk) st Q = am_g d X am_m8900 2269 [v0, v1, v2, v3, v4, am_kc v5, .int x, v7, v8] sk st Q := am_gu.trans (congrArg (fun l => am_g d X am_m8900 2269 (List.set l 6 (.int x)) sk st Q) (kl_6 (l := [v6, v7, v8])))
set_option maxRecDepth 100000 in
theorem u8900_2269 {v0 : Value} {v1 : Value} {v3 : Value} {v4 : Value} {v5 : Value} {v6 : Value} {v7 : Value} {v8 : Value} {x : Nat} : am_g d X am_m8900 2269 [v0, v1, .ref x, v3, v4, v5, v6, v7, v8] sk st Q = am_g d X am_m8900 2270 [v0, v1, .ref x, v3, v4, v5, v6, v7, v8] (.ref x :: sk) st Q := am_gu.trans rfl
set_option maxRecDepth 100000 in
theorem u8900_2270 {v0 : Value} {v1 : Value} {v2 : Value} {v3 : Value} {v4 : Value} {v5 : Value} {v6 : Value} {v7 : Value} {v8 : Value} : am_g d X am_m8900 2270 [v0, v1, v2, v3, v4, v5, v6, v7, v8] (.ref o :: sk) st Q = ((am_ob st o 7 ∧ sk.length ≤ 4) ∧ am_Ca X d 7002 [.ref o] st (am_af am_m8900 2270 [v0, v1, v2, v3, v4, v5, v6, v7, v8] sk (fun pc lc sk st => am_g d X am_m8900 pc lc sk st Q) Q)) := am_gu.trans rfl
set_option maxRecDepth 100000 in
theorem u8900_2273 {v0 : Value} {v1 : Value} {v2 : Value} {v3 : Value} {v4 : Value} {v6 : Value} {v7 : Value} {v8 : Value} {x : Int32} : am_g d X am_m8900 2273 [v0, v1, v2, v3, v4, .int x, v6, v7, v8] sk st Q = am_g d X am_m8900 2275 [v0, v1, v2, v3, v4, .int x, v6, v7, v8] (.int x :: sk) st Q := am_gu.trans rfl
set_option maxRecDepth 100000 in
theorem u8900_2275 {v0 : Value} {v1 : Value} {v2 : Value} {v3 : Value} {v4 : Value} {v5 : Value} {v6 : Value} {v7 : Value} {v8 : Value} {x : Int32} {y : Int32} : am_g d X am_m8900 2275 [v0, v1, v2, v3, v4, v5, v6, v7, v8] (.int y :: .int x :: sk) st Q = (if decide (x = y) = true then am_g d X am_m8900 2280 [v0, v1, v2, v3, v4, v5, v6, v7, v8] sk st Q else am_g d X am_m8900 2278 [v0, v1, v2, v3, v4, v5, v6, v7, v8] sk st Q) := am_gu.trans rfl
set_option maxRecDepth 100000 in
theorem u8900_2278 {v0 : Value} {v1 : Value} {v2 : Value} {v3 : Value} {v4 : Value} {v5 : Value} {v6 : Value} {v7 : Value} {v8 : Value} : am_g d X am_m8900 2278 [v0, v1, v2, v3, v4, v5, v6, v7, v8] sk st Q = am_g d X am_m8900 2279 [v0, v1, v2, v3, v4, v5, v6, v7, v8] (.int (am_i 0) :: sk) st Q := am_gu.trans rfl
set_option maxRecDepth 100000 in
theorem u8900_2279 {v0 : Value} {v1 : Value} {v2 : Value} {v3 : Value} {v4 : Value} {v5 : Value} {v6 : Value} {v7 : Value} {v8 : Value} {x : Int32} : am_g d X am_m8900 2279 [v0, v1, v2, v3, v4, v5, v6, v7, v8] [.int x] st Q = ((x = 0 ∨ x = 1) ∧ Q (.inl (some (.int x))) st) := am_gu.trans rfl
set_option maxRecDepth 100000 in
theorem u8900_2280 {v0 : Value} {v1 : Value} {v2 : Value} {v3 : Value} {v4 : Value} {v6 : Value} {v7 : Value} {v8 : Value} {x : Int32} : am_g d X am_m8900 2280 [v0, v1, v2, v3, v4, .int x, v6, v7, v8] sk st Q = am_g d X am_m8900 2282 [v0, v1, v2, v3, v4, .int x, v6, v7, v8] (.int x :: sk) st Q := am_gu.trans rfl
set_option maxRecDepth 100000 in
theorem u8900_2282 {v0 : Value} {v1 : Value} {v2 : Value} {v3 : Value} {v4 : Value} {v5 : Value} {v6 : Value} {v7 : Value} {v8 : Value} {x : Int32} : am_g d X am_m8900 2282 [v0, v1, v2, v3, v4, v5, v6, v7, v8] (.int x :: sk) st Q = (if decide (¬ x = 0) = true then am_g d X am_m8900 2304 [v0, v1, v2, v3, v4, v5, v6, v7, v8] sk st Q else am_g d X am_m8900 2285 [v0, v1, v2, v3, v4, v5, v6, v7, v8] sk st Q) := am_gu.trans rfl
set_option maxRecDepth 100000 in
theorem u8900_2285 {v0 : Value} {v1 : Value} {v2 : Value} {v4 : Value} {v5 : Value} {v6 : Value} {v7 : Value} {v8 : Value} {x : Nat} : am_g d X am_m8900 2285 [v0, v1, v2, .ref x, v4, v5, v6, v7, v8] sk st Q = am_g d X am_m8900 2286 [v0, v1, v2, .ref x, v4, v5, v6, v7, v8] (.ref x :: sk) st Q := am_gu.trans rfl
set_option maxRecDepth 100000 in
theorem u8900_2286 {v0 : Value} {v1 : Value} {v2 : Value} {v3 : Value} {v4 : Value} {v5 : Value} {v6 : Value} {v7 : Value} {v8 : Value} : am_g d X am_m8900 2286 [v0, v1, v2, v3, v4, v5, v6, v7, v8] sk st Q = am_g d X am_m8900 2287 [v0, v1, v2, v3, v4, v5, v6, v7, v8] (.int (am_i 0) :: sk) st Q := am_gu.trans rfl
set_option maxRecDepth 100000 in
theorem u8900_2287 {v0 : Value} {v1 : Value} {v2 : Value} {v3 : Value} {v4 : Value} {v5 : Value} {v6 : Value} {v7 : Value} {v8 : Value} : am_g d X am_m8900 2287 [v0, v1, v2, v3, v4, v5, v6, v7, v8] sk st Q = am_jl 2288 [v0, v1, v2, v3, v4, v5, v6, v7, v8] sk st (fun pc lc sk st => am_g d X am_m8900 pc lc sk st Q) := am_gu.trans rfl
set_option maxRecDepth 100000 in
theorem u8900_2288 {v0 : Value} {v1 : Value} {v2 : Value} {v3 : Value} {v4 : Value} {v5 : Value} {v7 : Value} {v8 : Value} {x : Int32} : am_g d X am_m8900 2288 [v0, v1, v2, v3, v4, v5, .int x, v7, v8] sk st Q = am_g d X am_m8900 2290 [v0, v1, v2, v3, v4, v5, .int x, v7, v8] (.int x :: sk) st Q := am_gu.trans rfl
set_option maxRecDepth 100000 in
theorem u8900_2290 {v0 : Value} {v1 : Value} {v2 : Value} {v3 : Value} {v4 : Value} {v5 : Value} {v6 : Value} {v7 : Value} {v8 : Value} {x : Int32} : am_g d X am_m8900 2290 [v0, v1, v2, v3, v4, v5, v6, v7, v8] (.int x :: sk) st Q = (if decide (x = 0) = true then am_g d X am_m8900 2297 [v0, v1, v2, v3, v4, v5, v6, v7, v8] sk st Q else am_g d X am_m8900 2293 [v0, v1, v2, v3, v4, v5, v6, v7, v8] sk st Q) := am_gu.trans rfl
set_option maxRecDepth 100000 in
theorem u8900_2293 {v0 : Value} {v1 : Value} {v2 : Value} {v3 : Value} {v4 : Value} {v5 : Value} {v6 : Value} {v7 : Value} {v8 : Value} : am_g d X am_m8900 2293 [v0, v1, v2, v3, v4, v5, v6, v7, v8] sk st Q = am_g d X am_m8900 2294 [v0, v1, v2, v3, v4, v5, v6, v7, v8] (.long 1 :: sk) st Q := am_gu.trans rfl
set_option maxRecDepth 100000 in
theorem u8900_2294 {v0 : Value} {v1 : Value} {v2 : Value} {v3 : Value} {v4 : Value} {v5 : Value} {v6 : Value} {v7 : Value} {v8 : Value} : am_g d X am_m8900 2294 [v0, v1, v2, v3, v4, v5, v6, v7, v8] sk st Q = am_g d X am_m8900 2298 [v0, v1, v2, v3, v4, v5, v6, v7, v8] sk st Q := am_gu.trans rfl
set_option maxRecDepth 100000 in
theorem u8900_2297 {v0 : Value} {v1 : Value} {v2 : Value} {v3 : Value} {v4 : Value} {v5 : Value} {v6 : Value} {v7 : Value} {v8 : Value} : am_g d X am_m8900 2297 [v0, v1, v2, v3, v4, v5, v6, v7, v8] sk st Q = am_g d X am_m8900 2298 [v0, v1, v2, v3, v4, v5, v6, v7, v8] (.long 0 :: sk) st Q := am_gu.trans rfl
set_option maxRecDepth 100000 in
theorem u8900_2298 {v0 : Value} {v1 : Value} {v2 : Value} {v3 : Value} {v4 : Value} {v5 : Value} {v6 : Value} {v7 : Value} {v8 : Value} {x : Int64} {y : Int64} : am_g d X am_m8900 2298 [v0, v1, v2, v3, v4, v5, v6, v7, v8] (.long y :: .long x :: sk) st Q = am_g d X am_m8900 2299 [v0, v1, v2, v3, v4, v5, v6, v7, v8] (.int (lg_cmp x y) :: sk) st Q := am_gu.trans rfl
set_option maxRecDepth 100000 in
theorem u8900_2299 {v0 : Value} {v1 : Value} {v2 : Value} {v3 : Value} {v4 : Value} {v5 : Value} {v6 : Value} {v7 : Value} {v8 : Value} {x : Int32} : am_g d X am_m8900 2299 [v0, v1, v2, v3, v4, v5, v6, v7, v8] (.int x :: sk) st Q = (if decide (x = 0) = true then am_g d X am_m8900 2304 [v0, v1, v2, v3, v4, v5, v6, v7, v8] sk st Q else am_g d X am_m8900 2302 [v0, v1, v2, v3, v4, v5, v6, v7, v8] sk st Q) := am_gu.trans rfl
set_option maxRecDepth 100000 in
theorem u8900_2302 {v0 : Value} {v1 : Value} {v2 : Value} {v3 : Value} {v4 : Value} {v5 : Value} {v6 : Value} {v7 : Value} {v8 : Value} : am_g d X am_m8900 2302 [v0, v1, v2, v3, v4, v5, v6, v7, v8] sk st Q = am_g d X am_m8900 2303 [v0, v1, v2, v3, v4, v5, v6, v7, v8] (.int (am_i 0) :: sk) st Q := am_gu.trans rfl
set_option maxRecDepth 100000 in
theorem u8900_2303 {v0 : Value} {v1 : Value} {v2 : Value} {v3 : Value} {v4 : Value} {v5 : Value} {v6 : Value} {v7 : Value} {v8 : Value} {x : Int32} : am_g d X am_m8900 2303 [v0, v1, v2, v3, v4, v5, v6, v7, v8] [.int x] st Q = ((x = 0 ∨ x = 1) ∧ Q (.inl (some (.int x))) st) := am_gu.trans rfl
set_option maxRecDepth 100000 in
theorem u8900_2304 {v0 : Value} {v1 : Value} {v2 : Value} {v3 : Value} {v4 : Value} {v5 : Value} {v6 : Value} {v7 : Value} {v8 : Value} : am_g d X am_m8900 2304 [v0, v1, v2, v3, v4, v5, v6, v7, v8] sk st Q = am_g d X am_m8900 2998 [v0, v1, v2, v3, v4, v5, v6, v7, v8] sk st Q := am_gu.trans rfl
set_option maxRecDepth 100000 in
theorem u8900_2307 {v0 : Value} {v2 : Value} {v3 : Value} {v4 : Value} {v5 : Value} {v6 : Value} {v7 : Value} {v8 : Value} {x : Nat} : am_g d X am_m8900 2307 [v0, .ref x, v2, v3, v4, v5, v6, v7, v8] sk st Q = am_g d X am_m8900 2308 [v0, .ref x, v2, v3, v4, v5, v6, v7, v8] (.ref x :: sk) st Q := am_gu.trans rfl
set_option maxRecDepth 100000 in
theorem u8900_2308 {v1 : Value} {v2 : Value} {v3 : Value} {v4 : Value} {v5 : Value} {v6 : Value} {v7 : Value} {v8 : Value} : am_g d X am_m8900 2308 [.retAddr 0, v1, v2, v3, v4, v5, v6, v7, v8] sk st Q = am_g d X am_m8900 2309 [.retAddr 0, v1, v2, v3, v4, v5, v6, v7, v8] (.retAddr 0 :: sk) st Q := am_gu.trans rfl
set_option maxRecDepth 100000 in
theorem u8900_2309 {v0 : Value} {v1 : Value} {v2 : Value} {v3 : Value} {v5 : Value} {v6 : Value} {v7 : Value} {v8 : Value} {x : Int32} : am_g d X am_m8900 2309 [v0, v1, v2, v3, .int x, v5, v6, v7, v8] sk st Q = am_g d X am_m8900 2311 [v0, v1, v2, v3, .int x, v5, v6, v7, v8] (.int x :: sk) st Q := am_gu.trans rfl
set_option maxRecDepth 100000 in
theorem u8900_2311 {v0 : Value} {v1 : Value} {v2 : Value} {v3 : Value} {v4 : Value} {v5 : Value} {v6 : Value} {v7 : Value} {v8 : Value} : am_g d X am_m8900 2311 [v0, v1, v2, v3, v4, v5, v6, v7, v8] sk st Q = am_g d X am_m8900 2312 [v0, v1, v2, v3, v4, v5, v6, v7, v8] (.int (am_i 1) :: sk) st Q := am_gu.trans rfl
set_option maxRecDepth 100000 in
theorem u8900_2312 {v0 : Value} {v1 : Value} {v2 : Value} {v3 : Value} {v4 : Value} {v5 : Value} {v6 : Value} {v7 : Value} {v8 : Value} {x : Int32} {y : Int32} : am_g d X am_m8900 2312 [v0, v1, v2, v3, v4, v5, v6, v7, v8] (.int y :: .int x :: sk) st Q = am_g d X am_m8900 2313 [v0, v1, v2, v3, v4, v5, v6, v7, v8] (.int (x + y) :: sk) st Q := am_gu.trans rfl
set_option maxRecDepth 100000 in
theorem u8900_2313 {v0 : Value} {v1 : Value} {v2 : Value} {v3 : Value} {v4 : Value} {v5 : Value} {v6 : Value} {v7 : Value} {v8 : Value} : am_g d X am_m8900 2313 [v0, v1, v2, v3, v4, v5, v6, v7, v8] sk st Q = am_xl (X.1, X.2.1, d) am_m8900 2314 [v0, v1, v2, v3, v4, v5, v6, v7, v8] sk st (fun pc lc sk st => am_g d X am_m8900 pc lc sk st Q) := am_gu.trans rfl
set_option maxRecDepth 100000 in
theorem u8900_2314 {v0 : Value} {v1 : Value} {v2 : Value} {v4 : Value} {v5 : Value} {v6 : Value} {v7 : Value} {v8 : Value} {x : Nat} : am_g d X am_m8900 2314 [v0, v1, v2, .ref x, v4, v5, v6, v7, v8] sk st Q = am_g d X am_m8900 2315 [v0, v1, v2, .ref x, v4, v5, v6, v7, v8] (.ref x :: sk) st Q := am_gu.trans rfl
set_option maxRecDepth 100000 in
theorem u8900_2315 {a0 : Value} {a1 : Value} {a2 : Value} {v0 : Value} {v1 : Value} {v2 : Value} {v3 : Value} {v4 : Value} {v5 : Value} {v6 : Value} {v7 : Value} {v8 : Value} : am_g d X am_m8900 2315 [v0, v1, v2, v3, v4, v5, v6, v7, v8] (a2 :: a1 :: a0 :: sk) st Q = (sk.length ≤ 4 ∧ am_Ca X d 8030 [a0, a1, a2] st (am_af am_m8900 2315 [v0, v1, v2, v3, v4, v5, v6, v7, v8] sk (fun pc lc sk st => am_g d X am_m8900 pc lc sk st Q) Q)) := am_gu.trans (propext ⟨fun h => ⟨h.1.2, h.2⟩, fun h => ⟨⟨Nat.le_add_left _ _, h.1⟩, h.2⟩⟩)
end UU
