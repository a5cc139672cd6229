/-! each instruction as a rewriting row -/
section UU
variable {d o n cl sl : Nat} {X : am_X} {sk : List Value} {st : am_S} {Q : am_Q} {sh : Nat → am_D} {F A : Nat → Nat → Int32} {L : Nat → Nat → Int64}
set_option maxRecDepth 100000 in
set_option maxRecDepth 100000 in
theorem u8900_2318 {v0 : Value} {v1 : Value} {v2 : Value} {v3 : Value} {v4 : Value} {v5 : Value} {v6 : Value} {v7 : Value} {v8 : Value} {x : Int32} : am_g d X am_m8900 2318 [v0, v1, v2, v3, v4, v5, v6, v7, v8] (.int x :: sk) st Q = am_g d X am_m8900 2320 [v0, v1, v2, v3, am_kc v4, .int x, v6, v7, v8] sk st Q := am_gu.trans (congrArg (fun l => am_g d X am_m8900 2320 (List.set l 5 (.int x)) sk st Q) (kl_5 (l := [v5, v6, v7, v8])))
set_option maxRecDepth 100000 in
theorem u8900_2320 {v0 : Value} {v1 : Value} {v3 : Value} {v4 : Value} {v5 : Value} {v6 : Value} {v7 : Value} {v8 : Value} {x : Nat} : am_g d X am_m8900 2320 [v0, v1, .ref x, v3, v4, v5, v6, v7, v8] sk st Q = am_g d X am_m8900 2321 [v0, v1, .ref x, v3, v4, v5, v6, v7, v8] (.ref x :: sk) st Q := am_gu.trans rfl
set_option maxRecDepth 100000 in
theorem u8900_2321 {v1 : Value} {v2 : Value} {v3 : Value} {v4 : Value} {v5 : Value} {v6 : Value} {v7 : Value} {v8 : Value} : am_g d X am_m8900 2321 [.retAddr 0, v1, v2, v3, v4, v5, v6, v7, v8] sk st Q = am_g d X am_m8900 2322 [.retAddr 0, v1, v2, v3, v4, v5, v6, v7, v8] (.retAddr 0 :: sk) st Q := am_gu.trans rfl
set_option maxRecDepth 100000 in
theorem u8900_2322 {v0 : Value} {v1 : Value} {v2 : Value} {v3 : Value} {v5 : Value} {v6 : Value} {v7 : Value} {v8 : Value} {x : Int32} : am_g d X am_m8900 2322 [v0, v1, v2, v3, .int x, v5, v6, v7, v8] sk st Q = am_g d X am_m8900 2324 [v0, v1, v2, v3, .int x, v5, v6, v7, v8] (.int x :: sk) st Q := am_gu.trans rfl
set_option maxRecDepth 100000 in
theorem u8900_2324 {v0 : Value} {v1 : Value} {v2 : Value} {v3 : Value} {v4 : Value} {v5 : Value} {v6 : Value} {v7 : Value} {v8 : Value} : am_g d X am_m8900 2324 [v0, v1, v2, v3, v4, v5, v6, v7, v8] sk st Q = am_g d X am_m8900 2325 [v0, v1, v2, v3, v4, v5, v6, v7, v8] (.int (am_i 1) :: sk) st Q := am_gu.trans rfl
set_option maxRecDepth 100000 in
theorem u8900_2325 {v0 : Value} {v1 : Value} {v2 : Value} {v3 : Value} {v4 : Value} {v5 : Value} {v6 : Value} {v7 : Value} {v8 : Value} {x : Int32} {y : Int32} : am_g d X am_m8900 2325 [v0, v1, v2, v3, v4, v5, v6, v7, v8] (.int y :: .int x :: sk) st Q = am_g d X am_m8900 2326 [v0, v1, v2, v3, v4, v5, v6, v7, v8] (.int (x + y) :: sk) st Q := am_gu.trans rfl
set_option maxRecDepth 100000 in
theorem u8900_2326 {v0 : Value} {v1 : Value} {v2 : Value} {v3 : Value} {v4 : Value} {v5 : Value} {v6 : Value} {v7 : Value} {v8 : Value} : am_g d X am_m8900 2326 [v0, v1, v2, v3, v4, v5, v6, v7, v8] sk st Q = am_xl (X.1, X.2.1, d) am_m8900 2327 [v0, v1, v2, v3, v4, v5, v6, v7, v8] sk st (fun pc lc sk st => am_g d X am_m8900 pc lc sk st Q) := am_gu.trans rfl
set_option maxRecDepth 100000 in
theorem u8900_2327 {a0 : Value} {v0 : Value} {v1 : Value} {v2 : Value} {v3 : Value} {v4 : Value} {v5 : Value} {v6 : Value} {v7 : Value} {v8 : Value} : am_g d X am_m8900 2327 [v0, v1, v2, v3, v4, v5, v6, v7, v8] (a0 :: .ref o :: sk) st Q = ((am_ob st o 7 ∧ sk.length ≤ 4) ∧ am_Ca X d 7111 [.ref o, a0] st (am_af am_m8900 2327 [v0, v1, v2, v3, v4, v5, v6, v7, v8] sk (fun pc lc sk st => am_g d X am_m8900 pc lc sk st Q) Q)) := am_gu.trans rfl
set_option maxRecDepth 100000 in
theorem u8900_2330 {v0 : Value} {v1 : Value} {v2 : Value} {v3 : Value} {v4 : Value} {v5 : Value} {v6 : Value} {v7 : Value} {v8 : Value} {x : Int32} : am_g d X am_m8900 2330 [v0, v1, v2, v3, v4, v5, v6, v7, v8] (.int x :: sk) st Q = am_g d X am_m8900 2332 [v0, v1, v2, v3, v4, am_kc v5, .int x, v7, v8] sk st Q := am_gu.trans (congrArg (fun l => am_g d X am_m8900 2332 (List.set l 6 (.int x)) sk st Q) (kl_6 (l := [v6, v7, v8])))
set_option maxRecDepth 100000 in
theorem u8900_2332 {v0 : Value} {v1 : Value} {v3 : Value} {v4 : Value} {v5 : Value} {v6 : Value} {v7 : Value} {v8 : Value} {x : Nat} : am_g d X am_m8900 2332 [v0, v1, .ref x, v3, v4, v5, v6, v7, v8] sk st Q = am_g d X am_m8900 2333 [v0, v1, .ref x, v3, v4, v5, v6, v7, v8] (.ref x :: sk) st Q := am_gu.trans rfl
set_option maxRecDepth 100000 in
theorem u8900_2333 {v0 : Value} {v1 : Value} {v2 : Value} {v3 : Value} {v4 : Value} {v5 : Value} {v6 : Value} {v7 : Value} {v8 : Value} : am_g d X am_m8900 2333 [v0, v1, v2, v3, v4, v5, v6, v7, v8] (.ref o :: sk) st Q = ((am_ob st o 7 ∧ sk.length ≤ 4) ∧ am_Ca X d 7002 [.ref o] st (am_af am_m8900 2333 [v0, v1, v2, v3, v4, v5, v6, v7, v8] sk (fun pc lc sk st => am_g d X am_m8900 pc lc sk st Q) Q)) := am_gu.trans rfl
set_option maxRecDepth 100000 in
theorem u8900_2336 {v0 : Value} {v1 : Value} {v2 : Value} {v3 : Value} {v4 : Value} {v6 : Value} {v7 : Value} {v8 : Value} {x : Int32} : am_g d X am_m8900 2336 [v0, v1, v2, v3, v4, .int x, v6, v7, v8] sk st Q = am_g d X am_m8900 2338 [v0, v1, v2, v3, v4, .int x, v6, v7, v8] (.int x :: sk) st Q := am_gu.trans rfl
set_option maxRecDepth 100000 in
theorem u8900_2338 {v0 : Value} {v1 : Value} {v2 : Value} {v3 : Value} {v4 : Value} {v5 : Value} {v6 : Value} {v7 : Value} {v8 : Value} {x : Int32} {y : Int32} : am_g d X am_m8900 2338 [v0, v1, v2, v3, v4, v5, v6, v7, v8] (.int y :: .int x :: sk) st Q = (if decide (x = y) = true then am_g d X am_m8900 2343 [v0, v1, v2, v3, v4, v5, v6, v7, v8] sk st Q else am_g d X am_m8900 2341 [v0, v1, v2, v3, v4, v5, v6, v7, v8] sk st Q) := am_gu.trans rfl
set_option maxRecDepth 100000 in
theorem u8900_2341 {v0 : Value} {v1 : Value} {v2 : Value} {v3 : Value} {v4 : Value} {v5 : Value} {v6 : Value} {v7 : Value} {v8 : Value} : am_g d X am_m8900 2341 [v0, v1, v2, v3, v4, v5, v6, v7, v8] sk st Q = am_g d X am_m8900 2342 [v0, v1, v2, v3, v4, v5, v6, v7, v8] (.int (am_i 0) :: sk) st Q := am_gu.trans rfl
set_option maxRecDepth 100000 in
theorem u8900_2342 {v0 : Value} {v1 : Value} {v2 : Value} {v3 : Value} {v4 : Value} {v5 : Value} {v6 : Value} {v7 : Value} {v8 : Value} {x : Int32} : am_g d X am_m8900 2342 [v0, v1, v2, v3, v4, v5, v6, v7, v8] [.int x] st Q = ((x = 0 ∨ x = 1) ∧ Q (.inl (some (.int x))) st) := am_gu.trans rfl
set_option maxRecDepth 100000 in
theorem u8900_2343 {v0 : Value} {v1 : Value} {v2 : Value} {v3 : Value} {v4 : Value} {v6 : Value} {v7 : Value} {v8 : Value} {x : Int32} : am_g d X am_m8900 2343 [v0, v1, v2, v3, v4, .int x, v6, v7, v8] sk st Q = am_g d X am_m8900 2345 [v0, v1, v2, v3, v4, .int x, v6, v7, v8] (.int x :: sk) st Q := am_gu.trans rfl
set_option maxRecDepth 100000 in
theorem u8900_2345 {v0 : Value} {v1 : Value} {v2 : Value} {v3 : Value} {v4 : Value} {v5 : Value} {v6 : Value} {v7 : Value} {v8 : Value} {x : Int32} : am_g d X am_m8900 2345 [v0, v1, v2, v3, v4, v5, v6, v7, v8] (.int x :: sk) st Q = (if decide (¬ x = 0) = true then am_g d X am_m8900 2360 [v0, v1, v2, v3, v4, v5, v6, v7, v8] sk st Q else am_g d X am_m8900 2348 [v0, v1, v2, v3, v4, v5, v6, v7, v8] sk st Q) := am_gu.trans rfl
set_option maxRecDepth 100000 in
theorem u8900_2348 {v0 : Value} {v1 : Value} {v2 : Value} {v4 : Value} {v5 : Value} {v6 : Value} {v7 : Value} {v8 : Value} {x : Nat} : am_g d X am_m8900 2348 [v0, v1, v2, .ref x, v4, v5, v6, v7, v8] sk st Q = am_g d X am_m8900 2349 [v0, v1, v2, .ref x, v4, v5, v6, v7, v8] (.ref x :: sk) st Q := am_gu.trans rfl
set_option maxRecDepth 100000 in
theorem u8900_2349 {v0 : Value} {v1 : Value} {v2 : Value} {v3 : Value} {v4 : Value} {v5 : Value} {v6 : Value} {v7 : Value} {v8 : Value} : am_g d X am_m8900 2349 [v0, v1, v2, v3, v4, v5, v6, v7, v8] sk st Q = am_g d X am_m8900 2350 [v0, v1, v2, v3, v4, v5, v6, v7, v8] (.int (am_i 0) :: sk) st Q := am_gu.trans rfl
set_option maxRecDepth 100000 in
theorem u8900_2350 {v0 : Value} {v1 : Value} {v2 : Value} {v3 : Value} {v4 : Value} {v5 : Value} {v6 : Value} {v7 : Value} {v8 : Value} : am_g d X am_m8900 2350 [v0, v1, v2, v3, v4, v5, v6, v7, v8] sk st Q = am_jl 2351 [v0, v1, v2, v3, v4, v5, v6, v7, v8] sk st (fun pc lc sk st => am_g d X am_m8900 pc lc sk st Q) := am_gu.trans rfl
set_option maxRecDepth 100000 in
theorem u8900_2351 {v0 : Value} {v1 : Value} {v2 : Value} {v3 : Value} {v4 : Value} {v5 : Value} {v7 : Value} {v8 : Value} {x : Int32} : am_g d X am_m8900 2351 [v0, v1, v2, v3, v4, v5, .int x, v7, v8] sk st Q = am_g d X am_m8900 2353 [v0, v1, v2, v3, v4, v5, .int x, v7, v8] (.int x :: sk) st Q := am_gu.trans rfl
set_option maxRecDepth 100000 in
theorem u8900_2353 {v0 : Value} {v1 : Value} {v2 : Value} {v3 : Value} {v4 : Value} {v5 : Value} {v6 : Value} {v7 : Value} {v8 : Value} {x : Int32} : am_g d X am_m8900 2353 [v0, v1, v2, v3, v4, v5, v6, v7, v8] (.int x :: sk) st Q = am_g d X am_m8900 2354 [v0, v1, v2, v3, v4, v5, v6, v7, v8] (.long x.toInt64 :: sk) st Q := am_gu.trans rfl
set_option maxRecDepth 100000 in
theorem u8900_2354 {v0 : Value} {v1 : Value} {v2 : Value} {v3 : Value} {v4 : Value} {v5 : Value} {v6 : Value} {v7 : Value} {v8 : Value} {x : Int64} {y : Int64} : am_g d X am_m8900 2354 [v0, v1, v2, v3, v4, v5, v6, v7, v8] (.long y :: .long x :: sk) st Q = am_g d X am_m8900 2355 [v0, v1, v2, v3, v4, v5, v6, v7, v8] (.int (lg_cmp x y) :: sk) st Q := am_gu.trans rfl
set_option maxRecDepth 100000 in
theorem u8900_2355 {v0 : Value} {v1 : Value} {v2 : Value} {v3 : Value} {v4 : Value} {v5 : Value} {v6 : Value} {v7 : Value} {v8 : Value} {x : Int32} : am_g d X am_m8900 2355 [v0, v1, v2, v3, v4, v5, v6, v7, v8] (.int x :: sk) st Q = (if decide (x = 0) = true then am_g d X am_m8900 2360 [v0, v1, v2, v3, v4, v5, v6, v7, v8] sk st Q else am_g d X am_m8900 2358 [v0, v1, v2, v3, v4, v5, v6, v7, v8] sk st Q) := am_gu.trans rfl
set_option maxRecDepth 100000 in
theorem u8900_2358 {v0 : Value} {v1 : Value} {v2 : Value} {v3 : Value} {v4 : Value} {v5 : Value} {v6 : Value} {v7 : Value} {v8 : Value} : am_g d X am_m8900 2358 [v0, v1, v2, v3, v4, v5, v6, v7, v8] sk st Q = am_g d X am_m8900 2359 [v0, v1, v2, v3, v4, v5, v6, v7, v8] (.int (am_i 0) :: sk) st Q := am_gu.trans rfl
set_option maxRecDepth 100000 in
theorem u8900_2359 {v0 : Value} {v1 : Value} {v2 : Value} {v3 : Value} {v4 : Value} {v5 : Value} {v6 : Value} {v7 : Value} {v8 : Value} {x : Int32} : am_g d X am_m8900 2359 [v0, v1, v2, v3, v4, v5, v6, v7, v8] [.int x] st Q = ((x = 0 ∨ x = 1) ∧ Q (.inl (some (.int x))) st) := am_gu.trans rfl
set_option maxRecDepth 100000 in
theorem u8900_2360 {v0 : Value} {v1 : Value} {v2 : Value} {v3 : Value} {v4 : Value} {v5 : Value} {v6 : Value} {v7 : Value} {v8 : Value} : am_g d X am_m8900 2360 [v0, v1, v2, v3, v4, v5, v6, v7, v8] sk st Q = am_g d X am_m8900 2998 [v0, v1, v2, v3, v4, v5, v6, v7, v8] sk st Q := am_gu.trans rfl
set_option maxRecDepth 100000 in
theorem u8900_2363 {v0 : Value} {v2 : Value} {v3 : Value} {v4 : Value} {v5 : Value} {v6 : Value} {v7 : Value} {v8 : Value} {x : Nat} : am_g d X am_m8900 2363 [v0, .ref x, v2, v3, v4, v5, v6, v7, v8] sk st Q = am_g d X am_m8900 2364 [v0, .ref x, v2, v3, v4, v5, v6, v7, v8] (.ref x :: sk) st Q := am_gu.trans rfl
set_option maxRecDepth 100000 in
theorem u8900_2364 {v1 : Value} {v2 : Value} {v3 : Value} {v4 : Value} {v5 : Value} {v6 : Value} {v7 : Value} {v8 : Value} : am_g d X am_m8900 2364 [.retAddr 0, v1, v2, v3, v4, v5, v6, v7, v8] sk st Q = am_g d X am_m8900 2365 [.retAddr 0, v1, v2, v3, v4, v5, v6, v7, v8] (.retAddr 0 :: sk) st Q := am_gu.trans rfl
set_option maxRecDepth 100000 in
theorem u8900_2365 {v0 : Value} {v1 : Value} {v2 : Value} {v3 : Value} {v5 : Value} {v6 : Value} {v7 : Value} {v8 : Value} {x : Int32} : am_g d X am_m8900 2365 [v0, v1, v2, v3, .int x, v5, v6, v7, v8] sk st Q = am_g d X am_m8900 2367 [v0, v1, v2, v3, .int x, v5, v6, v7, v8] (.int x :: sk) st Q := am_gu.trans rfl
set_option maxRecDepth 100000 in
theorem u8900_2367 {v0 : Value} {v1 : Value} {v2 : Value} {v3 : Value} {v4 : Value} {v5 : Value} {v6 : Value} {v7 : Value} {v8 : Value} : am_g d X am_m8900 2367 [v0, v1, v2, v3, v4, v5, v6, v7, v8] sk st Q = am_g d X am_m8900 2368 [v0, v1, v2, v3, v4, v5, v6, v7, v8] (.int (am_i 1) :: sk) st Q := am_gu.trans rfl
set_option maxRecDepth 100000 in
theorem u8900_2368 {v0 : Value} {v1 : Value} {v2 : Value} {v3 : Value} {v4 : Value} {v5 : Value} {v6 : Value} {v7 : Value} {v8 : Value} {x : Int32} {y : Int32} : am_g d X am_m8900 2368 [v0, v1, v2, v3, v4, v5, v6, v7, v8] (.int y :: .int x :: sk) st Q = am_g d X am_m8900 2369 [v0, v1, v2, v3, v4, v5, v6, v7, v8] (.int (x + y) :: sk) st Q := am_gu.trans rfl
set_option maxRecDepth 100000 in
theorem u8900_2369 {v0 : Value} {v1 : Value} {v2 : Value} {v3 : Value} {v4 : Value} {v5 : Value} {v6 : Value} {v7 : Value} {v8 : Value} : am_g d X am_m8900 2369 [v0, v1, v2, v3, v4, v5, v6, v7, v8] sk st Q = am_xl (X.1, X.2.1, d) am_m8900 2370 [v0, v1, v2, v3, v4, v5, v6, v7, v8] sk st (fun pc lc sk st => am_g d X am_m8900 pc lc sk st Q) := am_gu.trans rfl
set_option maxRecDepth 100000 in
theorem u8900_2370 {v1 : Value} {v2 : Value} {v3 : Value} {v4 : Value} {v5 : Value} {v6 : Value} {v7 : Value} {v8 : Value} : am_g d X am_m8900 2370 [.retAddr 0, v1, v2, v3, v4, v5, v6, v7, v8] sk st Q = am_g d X am_m8900 2371 [.retAddr 0, v1, v2, v3, v4, v5, v6, v7, v8] (.retAddr 0 :: sk) st Q := am_gu.trans rfl
set_option maxRecDepth 100000 in
theorem u8900_2371 {v0 : Value} {v1 : Value} {v2 : Value} {v3 : Value} {v5 : Value} {v6 : Value} {v7 : Value} {v8 : Value} {x : Int32} : am_g d X am_m8900 2371 [v0, v1, v2, v3, .int x, v5, v6, v7, v8] sk st Q = am_g d X am_m8900 2373 [v0, v1, v2, v3, .int x, v5, v6, v7, v8] (.int x :: sk) st Q := am_gu.trans rfl
set_option maxRecDepth 100000 in
theorem u8900_2373 {v0 : Value} {v1 : Value} {v2 : Value} {v3 : Value} {v4 : Value} {v5 : Value} {v6 : Value} {v7 : Value} {v8 : Value} : am_g d X am_m8900 2373 [v0, v1, v2, v3, v4, v5, v6, v7, v8] sk st Q = am_g d X am_m8900 2374 [v0, v1, v2, v3, v4, v5, v6, v7, v8] (.int (am_i 2) :: sk) st Q := am_gu.trans rfl
set_option maxRecDepth 100000 in
theorem u8900_2374 {v0 : Value} {v1 : Value} {v2 : Value} {v3 : Value} {v4 : Value} {v5 : Value} {v6 : Value} {v7 : Value} {v8 : Value} {x : Int32} {y : Int32} : am_g d X am_m8900 2374 [v0, v1, v2, v3, v4, v5, v6, v7, v8] (.int y :: .int x :: sk) st Q = am_g d X am_m8900 2375 [v0, v1, v2, v3, v4, v5, v6, v7, v8] (.int (x + y) :: sk) st Q := am_gu.trans rfl
set_option maxRecDepth 100000 in
theorem u8900_2375 {v0 : Value} {v1 : Value} {v2 : Value} {v3 : Value} {v4 : Value} {v5 : Value} {v6 : Value} {v7 : Value} {v8 : Value} : am_g d X am_m8900 2375 [v0, v1, v2, v3, v4, v5, v6, v7, v8] sk st Q = am_xl (X.1, X.2.1, d) am_m8900 2376 [v0, v1, v2, v3, v4, v5, v6, v7, v8] sk st (fun pc lc sk st => am_g d X am_m8900 pc lc sk st Q) := am_gu.trans rfl
set_option maxRecDepth 100000 in
theorem u8900_2376 {v0 : Value} {v1 : Value} {v2 : Value} {v4 : Value} {v5 : Value} {v6 : Value} {v7 : Value} {v8 : Value} {x : Nat} : am_g d X am_m8900 2376 [v0, v1, v2, .ref x, v4, v5, v6, v7, v8] sk st Q = am_g d X am_m8900 2377 [v0, v1, v2, .ref x, v4, v5, v6, v7, v8] (.ref x :: sk) st Q := am_gu.trans rfl
set_option maxRecDepth 100000 in
theorem u8900_2377 {a0 : Value} {a1 : Value} {a2 : Value} {a3 : Value} {v0 : Value} {v1 : Value} {v2 : Value} {v3 : Value} {v4 : Value} {v5 : Value} {v6 : Value} {v7 : Value} {v8 : Value} : am_g d X am_m8900 2377 [v0, v1, v2, v3, v4, v5, v6, v7, v8] (a3 :: a2 :: a1 :: a0 :: sk) st Q = (sk.length ≤ 4 ∧ am_Ca X d 8031 [a0, a1, a2, a3] st (am_af am_m8900 2377 [v0, v1, v2, v3, v4, v5, v6, v7, v8] sk (fun pc lc sk st => am_g d X am_m8900 pc lc sk st Q) Q)) := am_gu.trans (propext ⟨fun h => ⟨h.1.2, h.2⟩, fun h => ⟨⟨Nat.le_add_left _ _, h.1⟩, h.2⟩⟩)
set_option maxRecDepth 100000 in
theorem u8900_2380 {v0 : Value} {v1 : Value} {v2 : Value} {v3 : Value} {v4 : Value} {v5 : Value} {v6 : Value} {v7 : Value} {v8 : Value} {x : Int32} : am_g d X am_m8900 2380 [v0, v1, v2, v3, v4, v5, v6, v7, v8] (.int x :: sk) st Q = am_g d X am_m8900 2382 [v0, v1, v2, v3, am_kc v4, .int x, v6, v7, v8] sk st Q := am_gu.trans (congrArg (fun l => am_g d X am_m8900 2382 (List.set l 5 (.int x)) sk st Q) (kl_5 (l := [v5, v6, v7, v8])))
set_option maxRecDepth 100000 in
theorem u8900_2382 {v0 : Value} {v1 : Value} {v3 : Value} {v4 : Value} {v5 : Value} {v6 : Value} {v7 : Value} {v8 : Value} {x : Nat} : am_g d X am_m8900 2382 [v0, v1, .ref x, v3, v4, v5, v6, v7, v8] sk st Q = am_g d X am_m8900 2383 [v0, v1, .ref x, v3, v4, v5, v6, v7, v8] (.ref x :: sk) st Q := am_gu.trans rfl
set_option maxRecDepth 100000 in
theorem u8900_2383 {v1 : Value} {v2 : Value} {v3 : Value} {v4 : Value} {v5 : Value} {v6 : Value} {v7 : Value} {v8 : Value} : am_g d X am_m8900 2383 [.retAddr 0, v1, v2, v3, v4, v5, v6, v7, v8] sk st Q = am_g d X am_m8900 2384 [.retAddr 0, v1, v2, v3, v4, v5, v6, v7, v8] (.retAddr 0 :: sk) st Q := am_gu.trans rfl
set_option maxRecDepth 100000 in
theorem u8900_2384 {v0 : Value} {v1 : Value} {v2 : Value} {v3 : Value} {v5 : Value} {v6 : Value} {v7 : Value} {v8 : Value} {x : Int32} : am_g d X am_m8900 2384 [v0, v1, v2, v3, .int x, v5, v6, v7, v8] sk st Q = am_g d X am_m8900 2386 [v0, v1, v2, v3, .int x, v5, v6, v7, v8] (.int x :: sk) st Q := am_gu.trans rfl
set_option maxRecDepth 100000 in
theorem u8900_2386 {v0 : Value} {v1 : Value} {v2 : Value} {v3 : Value} {v4 : Value} {v5 : Value} {v6 : Value} {v7 : Value} {v8 : Value} : am_g d X am_m8900 2386 [v0, v1, v2, v3, v4, v5, v6, v7, v8] sk st Q = am_g d X am_m8900 2387 [v0, v1, v2, v3, v4, v5, v6, v7, v8] (.int (am_i 1) :: sk) st Q := am_gu.trans rfl
set_option maxRecDepth 100000 in
theorem u8900_2387 {v0 : Value} {v1 : Value} {v2 : Value} {v3 : Value} {v4 : Value} {v5 : Value} {v6 : Value} {v7 : Value} {v8 : Value} {x : Int32} {y : Int32} : am_g d X am_m8900 2387 [v0, v1, v2, v3, v4, v5, v6, v7, v8] (.int y :: .int x :: sk) st Q = am_g d X am_m8900 2388 [v0, v1, v2, v3, v4, v5, v6, v7, v8] (.int (x + y) :: sk) st Q := am_gu.trans rfl
set_option maxRecDepth 100000 in
theorem u8900_2388 {v0 : Value} {v1 : Value} {v2 : Value} {v3 : Value} {v4 : Value} {v5 : Value} {v6 : Value} {v7 : Value} {v8 : Value} : am_g d X am_m8900 2388 [v0, v1, v2, v3, v4, v5, v6, v7, v8] sk st Q = am_xl (X.1, X.2.1, d) am_m8900 2389 [v0, v1, v2, v3, v4, v5, v6, v7, v8] sk st (fun pc lc sk st => am_g d X am_m8900 pc lc sk st Q) := am_gu.trans rfl
set_option maxRecDepth 100000 in
theorem u8900_2389 {v1 : Value} {v2 : Value} {v3 : Value} {v4 : Value} {v5 : Value} {v6 : Value} {v7 : Value} {v8 : Value} : am_g d X am_m8900 2389 [.retAddr 0, v1, v2, v3, v4, v5, v6, v7, v8] sk st Q = am_g d X am_m8900 2390 [.retAddr 0, v1, v2, v3, v4, v5, v6, v7, v8] (.retAddr 0 :: sk) st Q := am_gu.trans rfl
set_option maxRecDepth 100000 in
theorem u8900_2390 {v0 : Value} {v1 : Value} {v2 : Value} {v3 : Value} {v5 : Value} {v6 : Value} {v7 : Value} {v8 : Value} {x : Int32} : am_g d X am_m8900 2390 [v0, v1, v2, v3, .int x, v5, v6, v7, v8] sk st Q = am_g d X am_m8900 2392 [v0, v1, v2, v3, .int x, v5, v6, v7, v8] (.int x :: sk) st Q := am_gu.trans rfl
set_option maxRecDepth 100000 in
theorem u8900_2392 {v0 : Value} {v1 : Value} {v2 : Value} {v3 : Value} {v4 : Value} {v5 : Value} {v6 : Value} {v7 : Value} {v8 : Value} : am_g d X am_m8900 2392 [v0, v1, v2, v3, v4, v5, v6, v7, v8] sk st Q = am_g d X am_m8900 2393 [v0, v1, v2, v3, v4, v5, v6, v7, v8] (.int (am_i 2) :: sk) st Q := am_gu.trans rfl
set_option maxRecDepth 100000 in
theorem u8900_2393 {v0 : Value} {v1 : Value} {v2 : Value} {v3 : Value} {v4 : Value} {v5 : Value} {v6 : Value} {v7 : Value} {v8 : Value} {x : Int32} {y : Int32} : am_g d X am_m8900 2393 [v0, v1, v2, v3, v4, v5, v6, v7, v8] (.int y :: .int x :: sk) st Q = am_g d X am_m8900 2394 [v0, v1, v2, v3, v4, v5, v6, v7, v8] (.int (x + y) :: sk) st Q := am_gu.trans rfl
set_option maxRecDepth 100000 in
theorem u8900_2394 {v0 : Value} {v1 : Value} {v2 : Value} {v3 : Value} {v4 : Value} {v5 : Value} {v6 : Value} {v7 : Value} {v8 : Value} : am_g d X am_m8900 2394 [v0, v1, v2, v3, v4, v5, v6, v7, v8] sk st Q = am_xl (X.1, X.2.1, d) am_m8900 2395 [v0, v1, v2, v3, v4, v5, v6, v7, v8] sk st (fun pc lc sk st => am_g d X am_m8900 pc lc sk st Q) := am_gu.trans rfl
set_option maxRecDepth 100000 in
theorem u8900_2395 {a0 : Value} {a1 : Value} {v0 : Value} {v1 : Value} {v2 : Value} {v3 : Value} {v4 : Value} {v5 : Value} {v6 : Value} {v7 : Value} {v8 : Value} : am_g d X am_m8900 2395 [v0, v1, v2, v3, v4, v5, v6, v7, v8] (a1 :: a0 :: .ref o :: sk) st Q = ((am_ob st o 7 ∧ sk.length ≤ 4) ∧ am_Ca X d 7112 [.ref o, a0, a1] st (am_af am_m8900 2395 [v0, v1, v2, v3, v4, v5, v6, v7, v8] sk (fun pc lc sk st => am_g d X am_m8900 pc lc sk st Q) Q)) := am_gu.trans rfl
set_option maxRecDepth 100000 in
theorem u8900_2398 {v0 : Value} {v1 : Value} {v2 : Value} {v3 : Value} {v4 : Value} {v5 : Value} {v6 : Value} {v7 : Value} {v8 : Value} {x : Int32} : am_g d X am_m8900 2398 [v0, v1, v2, v3, v4, v5, v6, v7, v8] (.int x :: sk) st Q = am_g d X am_m8900 2400 [v0, v1, v2, v3, v4, am_kc v5, .int x, v7, v8] sk st Q := am_gu.trans (congrArg (fun l => am_g d X am_m8900 2400 (List.set l 6 (.int x)) sk st Q) (kl_6 (l := [v6, v7, v8])))
set_option maxRecDepth 100000 in
theorem u8900_2400 {v0 : Value} {v1 : Value} {v3 : Value} {v4 : Value} {v5 : Value} {v6 : Value} {v7 : Value} {v8 : Value} {x : Nat} : am_g d X am_m8900 2400 [v0, v1, .ref x, v3, v4, v5, v6, v7, v8] sk st Q = am_g d X am_m8900 2401 [v0, v1, .ref x, v3, v4, v5, v6, v7, v8] (.ref x :: sk) st Q := am_gu.trans rfl
set_option maxRecDepth 100000 in
theorem u8900_2401 {v0 : Value} {v1 : Value} {v2 : Value} {v3 : Value} {v4 : Value} {v5 : Value} {v6 : Value} {v7 : Value} {v8 : Value} : am_g d X am_m8900 2401 [v0, v1, v2, v3, v4, v5, v6, v7, v8] (.ref o :: sk) st Q = ((am_ob st o 7 ∧ sk.length ≤ 4) ∧ am_Ca X d 7002 [.ref o] st (am_af am_m8900 2401 [v0, v1, v2, v3, v4, v5, v6, v7, v8] sk (fun pc lc sk st => am_g d X am_m8900 pc lc sk st Q) Q)) := am_gu.trans rfl
set_option maxRecDepth 100000 in
theorem u8900_2404 {v0 : Value} {v1 : Value} {v2 : Value} {v3 : Value} {v4 : Value} {v6 : Value} {v7 : Value} {v8 : Value} {x : Int32} : am_g d X am_m8900 2404 [v0, v1, v2, v3, v4, .int x, v6, v7, v8] sk st Q = am_g d X am_m8900 2406 [v0, v1, v2, v3, v4, .int x, v6, v7, v8] (.int x :: sk) st Q := am_gu.trans rfl
set_option maxRecDepth 100000 in
theorem u8900_2406 {v0 : Value} {v1 : Value} {v2 : Value} {v3 : Value} {v4 : Value} {v5 : Value} {v6 : Value} {v7 : Value} {v8 : Value} {x : Int32} {y : Int32} : am_g d X am_m8900 2406 [v0, v1, v2, v3, v4, v5, v6, v7, v8] (.int y :: .int x :: sk) st Q = (if decide (x = y) = true then am_g d X am_m8900 2411 [v0, v1, v2, v3, v4, v5, v6, v7, v8] sk st Q else am_g d X am_m8900 2409 [v0, v1, v2, v3, v4, v5, v6, v7, v8] sk st Q) := am_gu.trans rfl
set_option maxRecDepth 100000 in
theorem u8900_2409 {v0 : Value} {v1 : Value} {v2 : Value} {v3 : Value} {v4 : Value} {v5 : Value} {v6 : Value} {v7 : Value} {v8 : Value} : am_g d X am_m8900 2409 [v0, v1, v2, v3, v4, v5, v6, v7, v8] sk st Q = am_g d X am_m8900 2410 [v0, v1, v2, v3, v4, v5, v6, v7, v8] (.int (am_i 0) :: sk) st Q := am_gu.trans rfl
set_option maxRecDepth 100000 in
theorem u8900_2410 {v0 : Value} {v1 : Value} {v2 : Value} {v3 : Value} {v4 : Value} {v5 : Value} {v6 : Value} {v7 : Value} {v8 : Value} {x : Int32} : am_g d X am_m8900 2410 [v0, v1, v2, v3, v4, v5, v6, v7, v8] [.int x] st Q = ((x = 0 ∨ x = 1) ∧ Q (.inl (some (.int x))) st) := am_gu.trans rfl
set_option maxRecDepth 100000 in
theorem u8900_2411 {v0 : Value} {v1 : Value} {v2 : Value} {v3 : Value} {v4 : Value} {v6 : Value} {v7 : Value} {v8 : Value} {x : Int32} : am_g d X am_m8900 2411 [v0, v1, v2, v3, v4, .int x, v6, v7, v8] sk st Q = am_g d X am_m8900 2413 [v0, v1, v2, v3, v4, .int x, v6, v7, v8] (.int x :: sk) st Q := am_gu.trans rfl
set_option maxRecDepth 100000 in
theorem u8900_2413 {v0 : Value} {v1 : Value} {v2 : Value} {v3 : Value} {v4 : Value} {v5 : Value} {v6 : Value} {v7 : Value} {v8 : Value} {x : Int32} : am_g d X am_m8900 2413 [v0, v1, v2, v3, v4, v5, v6, v7, v8] (.int x :: sk) st Q = (if decide (¬ x = 0) = true then am_g d X am_m8900 2428 [v0, v1, v2, v3, v4, v5, v6, v7, v8] sk st Q else am_g d X am_m8900 2416 [v0, v1, v2, v3, v4, v5, v6, v7, v8] sk st Q) := am_gu.trans rfl
set_option maxRecDepth 100000 in
theorem u8900_2416 {v0 : Value} {v1 : Value} {v2 : Value} {v4 : Value} {v5 : Value} {v6 : Value} {v7 : Value} {v8 : Value} {x : Nat} : am_g d X am_m8900 2416 [v0, v1, v2, .ref x, v4, v5, v6, v7, v8] sk st Q = am_g d X am_m8900 2417 [v0, v1, v2, .ref x, v4, v5, v6, v7, v8] (.ref x :: sk) st Q := am_gu.trans rfl
set_option maxRecDepth 100000 in
theorem u8900_2417 {v0 : Value} {v1 : Value} {v2 : Value} {v3 : Value} {v4 : Value} {v5 : Value} {v6 : Value} {v7 : Value} {v8 : Value} : am_g d X am_m8900 2417 [v0, v1, v2, v3, v4, v5, v6, v7, v8] sk st Q = am_g d X am_m8900 2418 [v0, v1, v2, v3, v4, v5, v6, v7, v8] (.int (am_i 0) :: sk) st Q := am_gu.trans rfl
set_option maxRecDepth 100000 in
theorem u8900_2418 {v0 : Value} {v1 : Value} {v2 : Value} {v3 : Value} {v4 : Value} {v5 : Value} {v6 : Value} {v7 : Value} {v8 : Value} : am_g d X am_m8900 2418 [v0, v1, v2, v3, v4, v5, v6, v7, v8] sk st Q = am_jl 2419 [v0, v1, v2, v3, v4, v5, v6, v7, v8] sk st (fun pc lc sk st => am_g d X am_m8900 pc lc sk st Q) := am_gu.trans rfl
set_option maxRecDepth 100000 in
theorem u8900_2419 {v0 : Value} {v1 : Value} {v2 : Value} {v3 : Value} {v4 : Value} {v5 : Value} {v7 : Value} {v8 : Value} {x : Int32} : am_g d X am_m8900 2419 [v0, v1, v2, v3, v4, v5, .int x, v7, v8] sk st Q = am_g d X am_m8900 2421 [v0, v1, v2, v3, v4, v5, .int x, v7, v8] (.int x :: sk) st Q := am_gu.trans rfl
set_option maxRecDepth 100000 in
theorem u8900_2421 {v0 : Value} {v1 : Value} {v2 : Value} {v3 : Value} {v4 : Value} {v5 : Value} {v6 : Value} {v7 : Value} {v8 : Value} {x : Int32} : am_g d X am_m8900 2421 [v0, v1, v2, v3, v4, v5, v6, v7, v8] (.int x :: sk) st Q = am_g d X am_m8900 2422 [v0, v1, v2, v3, v4, v5, v6, v7, v8] (.long x.toInt64 :: sk) st Q := am_gu.trans rfl
set_option maxRecDepth 100000 in
theorem u8900_2422 {v0 : Value} {v1 : Value} {v2 : Value} {v3 : Value} {v4 : Value} {v5 : Value} {v6 : Value} {v7 : Value} {v8 : Value} {x : Int64} {y : Int64} : am_g d X am_m8900 2422 [v0, v1, v2, v3, v4, v5, v6, v7, v8] (.long y :: .long x :: sk) st Q = am_g d X am_m8900 2423 [v0, v1, v2, v3, v4, v5, v6, v7, v8] (.int (lg_cmp x y) :: sk) st Q := am_gu.trans rfl
set_option maxRecDepth 100000 in
theorem u8900_2423 {v0 : Value} {v1 : Value} {v2 : Value} {v3 : Value} {v4 : Value} {v5 : Value} {v6 : Value} {v7 : Value} {v8 : Value} {x : Int32} : am_g d X am_m8900 2423 [v0, v1, v2, v3, v4, v5, v6, v7, v8] (.int x :: sk) st Q = (if decide (x = 0) = true then am_g d X am_m8900 2428 [v0, v1, v2, v3, v4, v5, v6, v7, v8] sk st Q else am_g d X am_m8900 2426 [v0, v1, v2, v3, v4, v5, v6, v7, v8] sk st Q) := am_gu.trans rfl
set_option maxRecDepth 100000 in
theorem u8900_2426 {v0 : Value} {v1 : Value} {v2 : Value} {v3 : Value} {v4 : Value} {v5 : Value} {v6 : Value} {v7 : Value} {v8 : Value} : am_g d X am_m8900 2426 [v0, v1, v2, v3, v4, v5, v6, v7, v8] sk st Q = am_g d X am_m8900 2427 [v0, v1, v2, v3, v4, v5, v6, v7, v8] (.int (am_i 0) :: sk) st Q := am_gu.trans rfl
set_option maxRecDepth 100000 in
theorem u8900_2427 {v0 : Value} {v1 : Value} {v2 : Value} {v3 : Value} {v4 : Value} {v5 : Value} {v6 : Value} {v7 : Value} {v8 : Value} {x : Int32} : am_g d X am_m8900 2427 [v0, v1, v2, v3, v4, v5, v6, v7, v8] [.int x] st Q = ((x = 0 ∨ x = 1) ∧ Q (.inl (some (.int x))) st) := am_gu.trans rfl
set_option maxRecDepth 100000 in
theorem u8900_2428 {v0 : Value} {v1 : Value} {v2 : Value} {v3 : Value} {v4 : Value} {v5 : Value} {v6 : Value} {v7 : Value} {v8 : Value} : am_g d X am_m8900 2428 [v0, v1, v2, v3, v4, v5, v6, v7, v8] sk st Q = am_g d X am_m8900 2998 [v0, v1, v2, v3, v4, v5, v6, v7, v8] sk st Q := am_gu.trans rfl
set_option maxRecDepth 100000 in
theorem u8900_2431 {v0 : Value} {v2 : Value} {v3 : Value} {v4 : Value} {v5 : Value} {v6 : Value} {v7 : Value} {v8 : Value} {x : Nat} : am_g d X am_m8900 2431 [v0, .ref x, v2, v3, v4, v5, v6, v7, v8] sk st Q = am_g d X am_m8900 2432 [v0, .ref x, v2, v3, v4, v5, v6, v7, v8] (.ref x :: sk) st Q := am_gu.trans rfl
set_option maxRecDepth 100000 in
theorem u8900_2432 {v1 : Value} {v2 : Value} {v3 : Value} {v4 : Value} {v5 : Value} {v6 : Value} {v7 : Value} {v8 : Value} : am_g d X am_m8900 2432 [.retAddr 0, v1, v2, v3, v4, v5, v6, v7, v8] sk st Q = am_g d X am_m8900 2433 [.retAddr 0, v1, v2, v3, v4, v5, v6, v7, v8] (.retAddr 0 :: sk) st Q := am_gu.trans rfl
set_option maxRecDepth 100000 in
theorem u8900_2433 {v0 : Value} {v1 : Value} {v2 : Value} {v3 : Value} {v5 : Value} {v6 : Value} {v7 : Value} {v8 : Value} {x : Int32} : am_g d X am_m8900 2433 [v0, v1, v2, v3, .int x, v5, v6, v7, v8] sk st Q = am_g d X am_m8900 2435 [v0, v1, v2, v3, .int x, v5, v6, v7, v8] (.int x :: sk) st Q := am_gu.trans rfl
set_option maxRecDepth 100000 in
theorem u8900_2435 {v0 : Value} {v1 : Value} {v2 : Value} {v3 : Value} {v4 : Value} {v5 : Value} {v6 : Value} {v7 : Value} {v8 : Value} : am_g d X am_m8900 2435 [v0, v1, v2, v3, v4, v5, v6, v7, v8] sk st Q = am_g d X am_m8900 2436 [v0, v1, v2, v3, v4, v5, v6, v7, v8] (.int (am_i 1) :: sk) st Q := am_gu.trans rfl
set_option maxRecDepth 100000 in
theorem u8900_2436 {v0 : Value} {v1 : Value} {v2 : Value} {v3 : Value} {v4 : Value} {v5 : Value} {v6 : Value} {v7 : Value} {v8 : Value} {x : Int32} {y : Int32} : am_g d X am_m8900 2436 [v0, v1, v2, v3, v4, v5, v6, v7, v8] (.int y :: .int x :: sk) st Q = am_g d X am_m8900 2437 [v0, v1, v2, v3, v4, v5, v6, v7, v8] (.int (x + y) :: sk) st Q := am_gu.trans rfl
set_option maxRecDepth 100000 in
theorem u8900_2437 {v0 : Value} {v1 : Value} {v2 : Value} {v3 : Value} {v4 : Value} {v5 : Value} {v6 : Value} {v7 : Value} {v8 : Value} : am_g d X am_m8900 2437 [v0, v1, v2, v3, v4, v5, v6, v7, v8] sk st Q = am_xl (X.1, X.2.1, d) am_m8900 2438 [v0, v1, v2, v3, v4, v5, v6, v7, v8] sk st (fun pc lc sk st => am_g d X am_m8900 pc lc sk st Q) := am_gu.trans rfl
set_option maxRecDepth 100000 in
theorem u8900_2438 {v1 : Value} {v2 : Value} {v3 : Value} {v4 : Value} {v5 : Value} {v6 : Value} {v7 : Value} {v8 : Value} : am_g d X am_m8900 2438 [.retAddr 0, v1, v2, v3, v4, v5, v6, v7, v8] sk st Q = am_g d X am_m8900 2439 [.retAddr 0, v1, v2, v3, v4, v5, v6, v7, v8] (.retAddr 0 :: sk) st Q := am_gu.trans rfl
set_option maxRecDepth 100000 in
theorem u8900_2439 {v0 : Value} {v1 : Value} {v2 : Value} {v3 : Value} {v5 : Value} {v6 : Value} {v7 : Value} {v8 : Value} {x : Int32} : am_g d X am_m8900 2439 [v0, v1, v2, v3, .int x, v5, v6, v7, v8] sk st Q = am_g d X am_m8900 2441 [v0, v1, v2, v3, .int x, v5, v6, v7, v8] (.int x :: sk) st Q := am_gu.trans rfl
set_option maxRecDepth 100000 in
theorem u8900_2441 {v0 : Value} {v1 : Value} {v2 : Value} {v3 : Value} {v4 : Value} {v5 : Value} {v6 : Value} {v7 : Value} {v8 : Value} : am_g d X am_m8900 2441 [v0, v1, v2, v3, v4, v5, v6, v7, v8] sk st Q = am_g d X am_m8900 2442 [v0, v1, v2, v3, v4, v5, v6, v7, v8] (.int (am_i 2) :: sk) st Q := am_gu.trans rfl
set_option maxRecDepth 100000 in
theorem u8900_2442 {v0 : Value} {v1 : Value} {v2 : Value} {v3 : Value} {v4 : Value} {v5 : Value} {v6 : Value} {v7 : Value} {v8 : Value} {x : Int32} {y : Int32} : am_g d X am_m8900 2442 [v0, v1, v2, v3, v4, v5, v6, v7, v8] (.int y :: .int x :: sk) st Q = am_g d X am_m8900 2443 [v0, v1, v2, v3, v4, v5, v6, v7, v8] (.int (x + y) :: sk) st Q := am_gu.trans rfl
set_option maxRecDepth 100000 in
theorem u8900_2443 {v0 : Value} {v1 : Value} {v2 : Value} {v3 : Value} {v4 : Value} {v5 : Value} {v6 : Value} {v7 : Value} {v8 : Value} : am_g d X am_m8900 2443 [v0, v1, v2, v3, v4, v5, v6, v7, v8] sk st Q = am_xl (X.1, X.2.1, d) am_m8900 2444 [v0, v1, v2, v3, v4, v5, v6, v7, v8] sk st (fun pc lc sk st => am_g d X am_m8900 pc lc sk st Q) := am_gu.trans rfl
set_option maxRecDepth 100000 in
theorem u8900_2444 {v0 : Value} {v1 : Value} {v2 : Value} {v4 : Value} {v5 : Value} {v6 : Value} {v7 : Value} {v8 : Value} {x : Nat} : am_g d X am_m8900 2444 [v0, v1, v2, .ref x, v4, v5, v6, v7, v8] sk st Q = am_g d X am_m8900 2445 [v0, v1, v2, .ref x, v4, v5, v6, v7, v8] (.ref x :: sk) st Q := am_gu.trans rfl
set_option maxRecDepth 100000 in
theorem u8900_2445 {a0 : Value} {a1 : Value} {a2 : Value} {a3 : Value} {v0 : Value} {v1 : Value} {v2 : Value} {v3 : Value} {v4 : Value} {v5 : Value} {v6 : Value} {v7 : Value} {v8 : Value} : am_g d X am_m8900 2445 [v0, v1, v2, v3, v4, v5, v6, v7, v8] (a3 :: a2 :: a1 :: a0 :: sk) st Q = (sk.length ≤ 4 ∧ am_Ca X d 8032 [a0, a1, a2, a3] st (am_af am_m8900 2445 [v0, v1, v2, v3, v4, v5, v6, v7, v8] sk (fun pc lc sk st => am_g d X am_m8900 pc lc sk st Q) Q)) := am_gu.trans (propext ⟨fun h => ⟨h.1.2, h.2⟩, fun h => ⟨⟨Nat.le_add_left _ _, h.1⟩, h.2⟩⟩)
set_option maxRecDepth 100000 in
theorem u8900_2448 {v0 : Value} {v1 : Value} {v2 : Value} {v3 : Value} {v4 : Value} {v5 : Value} {v6 : Value} {v7 : Value} {v8 : Value} {x : Int32} : am_g d X am_m8900 2448 [v0, v1, v2, v3, v4, v5, v6, v7, v8] (.int x :: sk) st Q = am_g d X am_m8900 2450 [v0, v1, v2, v3, am_kc v4, .int x, v6, v7, v8] sk st Q := am_gu.trans (congrArg (fun l => am_g d X am_m8900 2450 (List.set l 5 (.int x)) sk st Q) (kl_5 (l := [v5, v6, v7, v8])))
set_option maxRecDepth 100000 in
theorem u8900_2450 {v0 : Value} {v1 : Value} {v3 : Value} {v4 : Value} {v5 : Value} {v6 : Value} {v7 : Value} {v8 : Value} {x : Nat} : am_g d X am_m8900 2450 [v0, v1, .ref x, v3, v4, v5, v6, v7, v8] sk st Q = am_g d X am_m8900 2451 [v0, v1, .ref x, v3, v4, v5, v6, v7, v8] (.ref x :: sk) st Q := am_gu.trans rfl
set_option maxRecDepth 100000 in
theorem u8900_2451 {v1 : Value} {v2 : Value} {v3 : Value} {v4 : Value} {v5 : Value} {v6 : Value} {v7 : Value} {v8 : Value} : am_g d X am_m8900 2451 [.retAddr 0, v1, v2, v3, v4, v5, v6, v7, v8] sk st Q = am_g d X am_m8900 2452 [.retAddr 0, v1, v2, v3, v4, v5, v6, v7, v8] (.retAddr 0 :: sk) st Q := am_gu.trans rfl
set_option maxRecDepth 100000 in
theorem u8900_2452 {v0 : Value} {v1 : Value} {v2 : Value} {v3 : Value} {v5 : Value} {v6 : Value} {v7 : Value} {v8 : Value} {x : Int32} : am_g d X am_m8900 2452 [v0, v1, v2, v3, .int x, v5, v6, v7, v8] sk st Q = am_g d X am_m8900 2454 [v0, v1, v2, v3, .int x, v5, v6, v7, v8] (.int x :: sk) st Q := am_gu.trans rfl
set_option maxRecDepth 100000 in
theorem u8900_2454 {v0 : Value} {v1 : Value} {v2 : Value} {v3 : Value} {v4 : Value} {v5 : Value} {v6 : Value} {v7 : Value} {v8 : Value} : am_g d X am_m8900 2454 [v0, v1, v2, v3, v4, v5, v6, v7, v8] sk st Q = am_g d X am_m8900 2455 [v0, v1, v2, v3, v4, v5, v6, v7, v8] (.int (am_i 1) :: sk) st Q := am_gu.trans rfl
set_option maxRecDepth 100000 in
theorem u8900_2455 {v0 : Value} {v1 : Value} {v2 : Value} {v3 : Value} {v4 : Value} {v5 : Value} {v6 : Value} {v7 : Value} {v8 : Value} {x : Int32} {y : Int32} : am_g d X am_m8900 2455 [v0, v1, v2, v3, v4, v5, v6, v7, v8] (.int y :: .int x :: sk) st Q = am_g d X am_m8900 2456 [v0, v1, v2, v3, v4, v5, v6, v7, v8] (.int (x + y) :: sk) st Q := am_gu.trans rfl
set_option maxRecDepth 100000 in
theorem u8900_2456 {v0 : Value} {v1 : Value} {v2 : Value} {v3 : Value} {v4 : Value} {v5 : Value} {v6 : Value} {v7 : Value} {v8 : Value} : am_g d X am_m8900 2456 [v0, v1, v2, v3, v4, v5, v6, v7, v8] sk st Q = am_xl (X.1, X.2.1, d) am_m8900 2457 [v0, v1, v2, v3, v4, v5, v6, v7, v8] sk st (fun pc lc sk st => am_g d X am_m8900 pc lc sk st Q) := am_gu.trans rfl
set_option maxRecDepth 100000 in
theorem u8900_2457 {v1 : Value} {v2 : Value} {v3 : Value} {v4 : Value} {v5 : Value} {v6 : Value} {v7 : Value} {v8 : Value} : am_g d X am_m8900 2457 [.retAddr 0, v1, v2, v3, v4, v5, v6, v7, v8] sk st Q = am_g d X am_m8900 2458 [.retAddr 0, v1, v2, v3, v4, v5, v6, v7, v8] (.retAddr 0 :: sk) st Q := am_gu.trans rfl
set_option maxRecDepth 100000 in
theorem u8900_2458 {v0 : Value} {v1 : Value} {v2 : Value} {v3 : Value} {v5 : Value} {v6 : Value} {v7 : Value} {v8 : Value} {x : Int32} : am_g d X am_m8900 2458 [v0, v1, v2, v3, .int x, v5, v6, v7, v8] sk st Q = am_g d X am_m8900 2460 [v0, v1, v2, v3, .int x, v5, v6, v7, v8] (.int x :: sk) st Q := am_gu.trans rfl
set_option maxRecDepth 100000 in
theorem u8900_2460 {v0 : Value} {v1 : Value} {v2 : Value} {v3 : Value} {v4 : Value} {v5 : Value} {v6 : Value} {v7 : Value} {v8 : Value} : am_g d X am_m8900 2460 [v0, v1, v2, v3, v4, v5, v6, v7, v8] sk st Q = am_g d X am_m8900 2461 [v0, v1, v2, v3, v4, v5, v6, v7, v8] (.int (am_i 2) :: sk) st Q := am_gu.trans rfl
set_option maxRecDepth 100000 in
theorem u8900_2461 {v0 : Value} {v1 : Value} {v2 : Value} {v3 : Value} {v4 : Value} {v5 : Value} {v6 : Value} {v7 : Value} {v8 : Value} {x : Int32} {y : Int32} : am_g d X am_m8900 2461 [v0, v1, v2, v3, v4, v5, v6, v7, v8] (.int y :: .int x :: sk) st Q = am_g d X am_m8900 2462 [v0, v1, v2, v3, v4, v5, v6, v7, v8] (.int (x + y) :: sk) st Q := am_gu.trans rfl
set_option maxRecDepth 100000 in
theorem u8900_2462 {v0 : Value} {v1 : Value} {v2 : Value} {v3 : Value} {v4 : Value} {v5 : Value} {v6 : Value} {v7 : Value} {v8 : Value} : am_g d X am_m8900 2462 [v0, v1, v2, v3, v4, v5, v6, v7, v8] sk st Q = am_xl (X.1, X.2.1, d) am_m8900 2463 [v0, v1, v2, v3, v4, v5, v6, v7, v8] sk st (fun pc lc sk st => am_g d X am_m8900 pc lc sk st Q) := am_gu.trans rfl
set_option maxRecDepth 100000 in
theorem u8900_2463 {a0 : Value} {a1 : Value} {v0 : Value} {v1 : Value} {v2 : Value} {v3 : Value} {v4 : Value} {v5 : Value} {v6 : Value} {v7 : Value} {v8 : Value} : am_g d X am_m8900 2463 [v0, v1, v2, v3, v4, v5, v6, v7, v8] (a1 :: a0 :: .ref o :: sk) st Q = ((am_ob st o 7 ∧ sk.length ≤ 4) ∧ am_Ca X d 7114 [.ref o, a0, a1] st (am_af am_m8900 2463 [v0, v1, v2, v3, v4, v5, v6, v7, v8] sk (fun pc lc sk st => am_g d X am_m8900 pc lc sk st Q) Q)) := am_gu.trans rfl
set_option maxRecDepth 100000 in
theorem u8900_2466 {v0 : Value} {v1 : Value} {v2 : Value} {v3 : Value} {v4 : Value} {v5 : Value} {v6 : Value} {v7 : Value} {v8 : Value} {x : Int32} : am_g d X am_m8900 2466 [v0, v1, v2, v3, v4, v5, v6, v7, v8] (.int x :: sk) st Q = am_g d X am_m8900 2468 [v0, v1, v2, v3, v4, am_kc v5, .int x, v7, v8] sk st Q := am_gu.trans (congrArg (fun l => am_g d X am_m8900 2468 (List.set l 6 (.int x)) sk st Q) (kl_6 (l := [v6, v7, v8])))
set_option maxRecDepth 100000 in
theorem u8900_2468 {v0 : Value} {v1 : Value} {v3 : Value} {v4 : Value} {v5 : Value} {v6 : Value} {v7 : Value} {v8 : Value} {x : Nat} : am_g d X am_m8900 2468 [v0, v1, .ref x, v3, v4, v5, v6, v7, v8] sk st Q = am_g d X am_m8900 2469 [v0, v1, .ref x, v3, v4, v5, v6, v7, v8] (.ref x :: sk) st Q := am_gu.trans rfl
set_option maxRecDepth 100000 in
theorem u8900_2469 {v0 : Value} {v1 : Value} {v2 : Value} {v3 : Value} {v4 : Value} {v5 : Value} {v6 : Value} {v7 : Value} {v8 : Value} : am_g d X am_m8900 2469 [v0, v1, v2, v3, v4, v5, v6, v7, v8] (.ref o :: sk) st Q = ((am_ob st o 7 ∧ sk.length ≤ 4) ∧ am_Ca X d 7002 [.ref o] st (am_af am_m8900 2469 [v0, v1, v2, v3, v4, v5, v6, v7, v8] sk (fun pc lc sk st => am_g d X am_m8900 pc lc sk st Q) Q)) := am_gu.trans rfl
set_option maxRecDepth 100000 in
theorem u8900_2472 {v0 : Value} {v1 : Value} {v2 : Value} {v3 : Value} {v4 : Value} {v6 : Value} {v7 : Value} {v8 : Value} {x : Int32} : am_g d X am_m8900 2472 [v0, v1, v2, v3, v4, .int x, v6, v7, v8] sk st Q = am_g d X am_m8900 2474 [v0, v1, v2, v3, v4, .int x, v6, v7, v8] (.int x :: sk) st Q := am_gu.trans rfl
set_option maxRecDepth 100000 in
theorem u8900_2474 {v0 : Value} {v1 : Value} {v2 : Value} {v3 : Value} {v4 : Value} {v5 : Value} {v6 : Value} {v7 : Value} {v8 : Value} {x : Int32} {y : Int32} : am_g d X am_m8900 2474 [v0, v1, v2, v3, v4, v5, v6, v7, v8] (.int y :: .int x :: sk) st Q = (if decide (x = y) = true then am_g d X am_m8900 2479 [v0, v1, v2, v3, v4, v5, v6, v7, v8] sk st Q else am_g d X am_m8900 2477 [v0, v1, v2, v3, v4, v5, v6, v7, v8] sk st Q) := am_gu.trans rfl
set_option maxRecDepth 100000 in
theorem u8900_2477 {v0 : Value} {v1 : Value} {v2 : Value} {v3 : Value} {v4 : Value} {v5 : Value} {v6 : Value} {v7 : Value} {v8 : Value} : am_g d X am_m8900 2477 [v0, v1, v2, v3, v4, v5, v6, v7, v8] sk st Q = am_g d X am_m8900 2478 [v0, v1, v2, v3, v4, v5, v6, v7, v8] (.int (am_i 0) :: sk) st Q := am_gu.trans rfl
set_option maxRecDepth 100000 in
theorem u8900_2478 {v0 : Value} {v1 : Value} {v2 : Value} {v3 : Value} {v4 : Value} {v5 : Value} {v6 : Value} {v7 : Value} {v8 : Value} {x : Int32} : am_g d X am_m8900 2478 [v0, v1, v2, v3, v4, v5, v6, v7, v8] [.int x] st Q = ((x = 0 ∨ x = 1) ∧ Q (.inl (some (.int x))) st) := am_gu.trans rfl
set_option maxRecDepth 100000 in
theorem u8900_2479 {v0 : Value} {v1 : Value} {v2 : Value} {v3 : Value} {v4 : Value} {v6 : Value} {v7 : Value} {v8 : Value} {x : Int32} : am_g d X am_m8900 2479 [v0, v1, v2, v3, v4, .int x, v6, v7, v8] sk st Q = am_g d X am_m8900 2481 [v0, v1, v2, v3, v4, .int x, v6, v7, v8] (.int x :: sk) st Q := am_gu.trans rfl
set_option maxRecDepth 100000 in
theorem u8900_2481 {v0 : Value} {v1 : Value} {v2 : Value} {v3 : Value} {v4 : Value} {v5 : Value} {v6 : Value} {v7 : Value} {v8 : Value} {x : Int32} : am_g d X am_m8900 2481 [v0, v1, v2, v3, v4, v5, v6, v7, v8] (.int x :: sk) st Q = (if decide (¬ x = 0) = true then am_g d X am_m8900 2496 [v0, v1, v2, v3, v4, v5, v6, v7, v8] sk st Q else am_g d X am_m8900 2484 [v0, v1, v2, v3, v4, v5, v6, v7, v8] sk st Q) := am_gu.trans rfl
set_option maxRecDepth 100000 in
theorem u8900_2484 {v0 : Value} {v1 : Value} {v2 : Value} {v4 : Value} {v5 : Value} {v6 : Value} {v7 : Value} {v8 : Value} {x : Nat} : am_g d X am_m8900 2484 [v0, v1, v2, .ref x, v4, v5, v6, v7, v8] sk st Q = am_g d X am_m8900 2485 [v0, v1, v2, .ref x, v4, v5, v6, v7, v8] (.ref x :: sk) st Q := am_gu.trans rfl
set_option maxRecDepth 100000 in
theorem u8900_2485 {v0 : Value} {v1 : Value} {v2 : Value} {v3 : Value} {v4 : Value} {v5 : Value} {v6 : Value} {v7 : Value} {v8 : Value} : am_g d X am_m8900 2485 [v0, v1, v2, v3, v4, v5, v6, v7, v8] sk st Q = am_g d X am_m8900 2486 [v0, v1, v2, v3, v4, v5, v6, v7, v8] (.int (am_i 0) :: sk) st Q := am_gu.trans rfl
set_option maxRecDepth 100000 in
theorem u8900_2486 {v0 : Value} {v1 : Value} {v2 : Value} {v3 : Value} {v4 : Value} {v5 : Value} {v6 : Value} {v7 : Value} {v8 : Value} : am_g d X am_m8900 2486 [v0, v1, v2, v3, v4, v5, v6, v7, v8] sk st Q = am_jl 2487 [v0, v1, v2, v3, v4, v5, v6, v7, v8] sk st (fun pc lc sk st => am_g d X am_m8900 pc lc sk st Q) := am_gu.trans rfl
set_option maxRecDepth 100000 in
theorem u8900_2487 {v0 : Value} {v1 : Value} {v2 : Value} {v3 : Value} {v4 : Value} {v5 : Value} {v7 : Value} {v8 : Value} {x : Int32} : am_g d X am_m8900 2487 [v0, v1, v2, v3, v4, v5, .int x, v7, v8] sk st Q = am_g d X am_m8900 2489 [v0, v1, v2, v3, v4, v5, .int x, v7, v8] (.int x :: sk) st Q := am_gu.trans rfl
set_option maxRecDepth 100000 in
theorem u8900_2489 {v0 : Value} {v1 : Value} {v2 : Value} {v3 : Value} {v4 : Value} {v5 : Value} {v6 : Value} {v7 : Value} {v8 : Value} {x : Int32} : am_g d X am_m8900 2489 [v0, v1, v2, v3, v4, v5, v6, v7, v8] (.int x :: sk) st Q = am_g d X am_m8900 2490 [v0, v1, v2, v3, v4, v5, v6, v7, v8] (.long x.toInt64 :: sk) st Q := am_gu.trans rfl
set_option maxRecDepth 100000 in
theorem u8900_2490 {v0 : Value} {v1 : Value} {v2 : Value} {v3 : Value} {v4 : Value} {v5 : Value} {v6 : Value} {v7 : Value} {v8 : Value} {x : Int64} {y : Int64} : am_g d X am_m8900 2490 [v0, v1, v2, v3, v4, v5, v6, v7, v8] (.long y :: .long x :: sk) st Q = am_g d X am_m8900 2491 [v0, v1, v2, v3, v4, v5, v6, v7, v8] (.int (lg_cmp x y) :: sk) st Q := am_gu.trans rfl
set_option maxRecDepth 100000 in
theorem u8900_2491 {v0 : Value} {v1 : Value} {v2 : Value} {v3 : Value} {v4 : Value} {v5 : Value} {v6 : Value} {v7 : Value} {v8 : Value} {x : Int32} : am_g d X am_m8900 2491 [v0, v1, v2, v3, v4, v5, v6, v7, v8] (.int x :: sk) st Q = (if decide (x = 0) = true then am_g d X am_m8900 2496 [v0, v1, v2, v3, v4, v5, v6, v7, v8] sk st Q else am_g d X am_m8900 2494 [v0, v1, v2, v3, v4, v5, v6, v7, v8] sk st Q) := am_gu.trans rfl
set_option maxRecDepth 100000 in
theorem u8900_2494 {v0 : Value} {v1 : Value} {v2 : Value} {v3 : Value} {v4 : Value} {v5 : Value} {v6 : Value} {v7 : Value} {v8 : Value} : am_g d X am_m8900 2494 [v0, v1, v2, v3, v4, v5, v6, v7, v8] sk st Q = am_g d X am_m8900 2495 [v0, v1, v2, v3, v4, v5, v6, v7, v8] (.int (am_i 0) :: sk) st Q := am_gu.trans rfl
set_option maxRecDepth 100000 in
theorem u8900_2495 {v0 : Value} {v1 : Value} {v2 : Value} {v3 : Value} {v4 : Value} {v5 : Value} {v6 : Value} {v7 : Value} {v8 : Value} {x : Int32} : am_g d X am_m8900 2495 [v0, v1, v2, v3, v4, v5, v6, v7, v8] [.int x] st Q = ((x = 0 ∨ x = 1) ∧ Q (.inl (some (.int x))) st) := am_gu.trans rfl
set_option maxRecDepth 100000 in
theorem u8900_2496 {v0 : Value} {v1 : Value} {v2 : Value} {v3 : Value} {v4 : Value} {v5 : Value} {v6 : Value} {v7 : Value} {v8 : Value} : am_g d X am_m8900 2496 [v0, v1, v2, v3, v4, v5, v6, v7, v8] sk st Q = am_g d X am_m8900 2998 [v0, v1, v2, v3, v4, v5, v6, v7, v8] sk st Q := am_gu.trans rfl
set_option maxRecDepth 100000 in
theorem u8900_2499 {v0 : Value} {v2 : Value} {v3 : Value} {v4 : Value} {v5 : Value} {v6 : Value} {v7 : Value} {v8 : Value} {x : Nat} : am_g d X am_m8900 2499 [v0, .ref x, v2, v3, v4, v5, v6, v7, v8] sk st Q = am_g d X am_m8900 2500 [v0, .ref x, v2, v3, v4, v5, v6, v7, v8] (.ref x :: sk) st Q := am_gu.trans rfl
set_option maxRecDepth 100000 in
theorem u8900_2500 {v1 : Value} {v2 : Value} {v3 : Value} {v4 : Value} {v5 : Value} {v6 : Value} {v7 : Value} {v8 : Value} : am_g d X am_m8900 2500 [.retAddr 0, v1, v2, v3, v4, v5, v6, v7, v8] sk st Q = am_g d X am_m8900 2501 [.retAddr 0, v1, v2, v3, v4, v5, v6, v7, v8] (.retAddr 0 :: sk) st Q := am_gu.trans rfl
set_option maxRecDepth 100000 in
theorem u8900_2501 {v0 : Value} {v1 : Value} {v2 : Value} {v3 : Value} {v5 : Value} {v6 : Value} {v7 : Value} {v8 : Value} {x : Int32} : am_g d X am_m8900 2501 [v0, v1, v2, v3, .int x, v5, v6, v7, v8] sk st Q = am_g d X am_m8900 2503 [v0, v1, v2, v3, .int x, v5, v6, v7, v8] (.int x :: sk) st Q := am_gu.trans rfl
set_option maxRecDepth 100000 in
theorem u8900_2503 {v0 : Value} {v1 : Value} {v2 : Value} {v3 : Value} {v4 : Value} {v5 : Value} {v6 : Value} {v7 : Value} {v8 : Value} : am_g d X am_m8900 2503 [v0, v1, v2, v3, v4, v5, v6, v7, v8] sk st Q = am_g d X am_m8900 2504 [v0, v1, v2, v3, v4, v5, v6, v7, v8] (.int (am_i 1) :: sk) st Q := am_gu.trans rfl
set_option maxRecDepth 100000 in
theorem u8900_2504 {v0 : Value} {v1 : Value} {v2 : Value} {v3 : Value} {v4 : Value} {v5 : Value} {v6 : Value} {v7 : Value} {v8 : Value} {x : Int32} {y : Int32} : am_g d X am_m8900 2504 [v0, v1, v2, v3, v4, v5, v6, v7, v8] (.int y :: .int x :: sk) st Q = am_g d X am_m8900 2505 [v0, v1, v2, v3, v4, v5, v6, v7, v8] (.int (x + y) :: sk) st Q := am_gu.trans rfl
set_option maxRecDepth 100000 in
theorem u8900_2505 {v0 : Value} {v1 : Value} {v2 : Value} {v3 : Value} {v4 : Value} {v5 : Value} {v6 : Value} {v7 : Value} {v8 : Value} : am_g d X am_m8900 2505 [v0, v1, v2, v3, v4, v5, v6, v7, v8] sk st Q = am_xl (X.1, X.2.1, d) am_m8900 2506 [v0, v1, v2, v3, v4, v5, v6, v7, v8] sk st (fun pc lc sk st => am_g d X am_m8900 pc lc sk st Q) := am_gu.trans rfl
set_option maxRecDepth 100000 in
theorem u8900_2506 {v0 : Value} {v1 : Value} {v2 : Value} {v4 : Value} {v5 : Value} {v6 : Value} {v7 : Value} {v8 : Value} {x : Nat} : am_g d X am_m8900 2506 [v0, v1, v2, .ref x, v4, v5, v6, v7, v8] sk st Q = am_g d X am_m8900 2507 [v0, v1, v2, .ref x, v4, v5, v6, v7, v8] (.ref x :: sk) st Q := am_gu.trans rfl
set_option maxRecDepth 100000 in
theorem u8900_2507 {a0 : Value} {a1 : Value} {a2 : Value} {v0 : Value} {v1 : Value} {v2 : Value} {v3 : Value} {v4 : Value} {v5 : Value} {v6 : Value} {v7 : Value} {v8 : Value} : am_g d X am_m8900 2507 [v0, v1, v2, v3, v4, v5, v6, v7, v8] (a2 :: a1 :: a0 :: sk) st Q = (sk.length ≤ 4 ∧ am_Ca X d 8033 [a0, a1, a2] st (am_af am_m8900 2507 [v0, v1, v2, v3, v4, v5, v6, v7, v8] sk (fun pc lc sk st => am_g d X am_m8900 pc lc sk st Q) Q)) := am_gu.trans (propext ⟨fun h => ⟨h.1.2, h.2⟩, fun h => ⟨⟨Nat.le_add_left _ _, h.1⟩, h.2⟩⟩)
set_option maxRecDepth 100000 in
theorem u8900_2510 {v0 : Value} {v1 : Value} {v2 : Value} {v3 : Value} {v4 : Value} {v5 : Value} {v6 : Value} {v7 : Value} {v8 : Value} {x : Int32} : am_g d X am_m8900 2510 [v0, v1, v2, v3, v4, v5, v6, v7, v8] (.int x :: sk) st Q = am_g d X am_m8900 2512 [v0, v1, v2, v3, am_kc v4, .int x, v6, v7, v8] sk st Q := am_gu.trans (congrArg (fun l => am_g d X am_m8900 2512 (List.set l 5 (.int x)) sk st Q) (kl_5 (l := [v5, v6, v7, v8])))
set_option maxRecDepth 100000 in
theorem u8900_2512 {v0 : Value} {v1 : Value} {v3 : Value} {v4 : Value} {v5 : Value} {v6 : Value} {v7 : Value} {v8 : Value} {x : Nat} : am_g d X am_m8900 2512 [v0, v1, .ref x, v3, v4, v5, v6, v7, v8] sk st Q = am_g d X am_m8900 2513 [v0, v1, .ref x, v3, v4, v5, v6, v7, v8] (.ref x :: sk) st Q := am_gu.trans rfl
set_option maxRecDepth 100000 in
theorem u8900_2513 {v1 : Value} {v2 : Value} {v3 : Value} {v4 : Value} {v5 : Value} {v6 : Value} {v7 : Value} {v8 : Value} : am_g d X am_m8900 2513 [.retAddr 0, v1, v2, v3, v4, v5, v6, v7, v8] sk st Q = am_g d X am_m8900 2514 [.retAddr 0, v1, v2, v3, v4, v5, v6, v7, v8] (.retAddr 0 :: sk) st Q := am_gu.trans rfl
set_option maxRecDepth 100000 in
theorem u8900_2514 {v0 : Value} {v1 : Value} {v2 : Value} {v3 : Value} {v5 : Value} {v6 : Value} {v7 : Value} {v8 : Value} {x : Int32} : am_g d X am_m8900 2514 [v0, v1, v2, v3, .int x, v5, v6, v7, v8] sk st Q = am_g d X am_m8900 2516 [v0, v1, v2, v3, .int x, v5, v6, v7, v8] (.int x :: sk) st Q := am_gu.trans rfl
set_option maxRecDepth 100000 in
theorem u8900_2516 {v0 : Value} {v1 : Value} {v2 : Value} {v3 : Value} {v4 : Value} {v5 : Value} {v6 : Value} {v7 : Value} {v8 : Value} : am_g d X am_m8900 2516 [v0, v1, v2, v3, v4, v5, v6, v7, v8] sk st Q = am_g d X am_m8900 2517 [v0, v1, v2, v3, v4, v5, v6, v7, v8] (.int (am_i 1) :: sk) st Q := am_gu.trans rfl
set_option maxRecDepth 100000 in
theorem u8900_2517 {v0 : Value} {v1 : Value} {v2 : Value} {v3 : Value} {v4 : Value} {v5 : Value} {v6 : Value} {v7 : Value} {v8 : Value} {x : Int32} {y : Int32} : am_g d X am_m8900 2517 [v0, v1, v2, v3, v4, v5, v6, v7, v8] (.int y :: .int x :: sk) st Q = am_g d X am_m8900 2518 [v0, v1, v2, v3, v4, v5, v6, v7, v8] (.int (x + y) :: sk) st Q := am_gu.trans rfl
set_option maxRecDepth 100000 in
theorem u8900_2518 {v0 : Value} {v1 : Value} {v2 : Value} {v3 : Value} {v4 : Value} {v5 : Value} {v6 : Value} {v7 : Value} {v8 : Value} : am_g d X am_m8900 2518 [v0, v1, v2, v3, v4, v5, v6, v7, v8] sk st Q = am_xl (X.1, X.2.1, d) am_m8900 2519 [v0, v1, v2, v3, v4, v5, v6, v7, v8] sk st (fun pc lc sk st => am_g d X am_m8900 pc lc sk st Q) := am_gu.trans rfl
set_option maxRecDepth 100000 in
theorem u8900_2519 {a0 : Value} {v0 : Value} {v1 : Value} {v2 : Value} {v3 : Value} {v4 : Value} {v5 : Value} {v6 : Value} {v7 : Value} {v8 : Value} : am_g d X am_m8900 2519 [v0, v1, v2, v3, v4, v5, v6, v7, v8] (a0 :: .ref o :: sk) st Q = ((am_ob st o 7 ∧ sk.length ≤ 4) ∧ am_Ca X d 7115 [.ref o, a0] st (am_af am_m8900 2519 [v0, v1, v2, v3, v4, v5, v6, v7, v8] sk (fun pc lc sk st => am_g d X am_m8900 pc lc sk st Q) Q)) := am_gu.trans rfl
set_option maxRecDepth 100000 in
theorem u8900_2522 {v0 : Value} {v1 : Value} {v2 : Value} {v3 : Value} {v4 : Value} {v5 : Value} {v6 : Value} {v7 : Value} {v8 : Value} {x : Int32} : am_g d X am_m8900 2522 [v0, v1, v2, v3, v4, v5, v6, v7, v8] (.int x :: sk) st Q = am_g d X am_m8900 2524 [v0, v1, v2, v3, v4, am_kc v5, .int x, v7, v8] sk st Q := am_gu.trans (congrArg (fun l => am_g d X am_m8900 2524 (List.set l 6 (.int x)) sk st Q) (kl_6 (l := [v6, v7, v8])))
set_option maxRecDepth 100000 in
theorem u8900_2524 {v0 : Value} {v1 : Value} {v3 : Value} {v4 : Value} {v5 : Value} {v6 : Value} {v7 : Value} {v8 : Value} {x : Nat} : am_g d X am_m8900 2524 [v0, v1, .ref x, v3, v4, v5, v6, v7, v8] sk st Q = am_g d X am_m8900 2525 [v0, v1, .ref x, v3, v4, v5, v6, v7, v8] (.ref x :: sk) st Q := am_gu.trans rfl
set_option maxRecDepth 100000 in
theorem u8900_2525 {v0 : Value} {v1 : Value} {v2 : Value} {v3 : Value} {v4 : Value} {v5 : Value} {v6 : Value} {v7 : Value} {v8 : Value} : am_g d X am_m8900 2525 [v0, v1, v2, v3, v4, v5, v6, v7, v8] (.ref o :: sk) st Q = ((am_ob st o 7 ∧ sk.length ≤ 4) ∧ am_Ca X d 7002 [.ref o] st (am_af am_m8900 2525 [v0, v1, v2, v3, v4, v5, v6, v7, v8] sk (fun pc lc sk st => am_g d X am_m8900 pc lc sk st Q) Q)) := am_gu.trans rfl
set_option maxRecDepth 100000 in
theorem u8900_2528 {v0 : Value} {v1 : Value} {v2 : Value} {v3 : Value} {v4 : Value} {v6 : Value} {v7 : Value} {v8 : Value} {x : Int32} : am_g d X am_m8900 2528 [v0, v1, v2, v3, v4, .int x, v6, v7, v8] sk st Q = am_g d X am_m8900 2530 [v0, v1, v2, v3, v4, .int x, v6, v7, v8] (.int x :: sk) st Q := am_gu.trans rfl
set_option maxRecDepth 100000 in
theorem u8900_2530 {v0 : Value} {v1 : Value} {v2 : Value} {v3 : Value} {v4 : Value} {v5 : Value} {v6 : Value} {v7 : Value} {v8 : Value} {x : Int32} {y : Int32} : am_g d X am_m8900 2530 [v0, v1, v2, v3, v4, v5, v6, v7, v8] (.int y :: .int x :: sk) st Q = (if decide (x = y) = true then am_g d X am_m8900 2535 [v0, v1, v2, v3, v4, v5, v6, v7, v8] sk st Q else am_g d X am_m8900 2533 [v0, v1, v2, v3, v4, v5, v6, v7, v8] sk st Q) := am_gu.trans rfl
set_option maxRecDepth 100000 in
theorem u8900_2533 {v0 : Value} {v1 : Value} {v2 : Value} {v3 : Value} {v4 : Value} {v5 : Value} {v6 : Value} {v7 : Value} {v8 : Value} : am_g d X am_m8900 2533 [v0, v1, v2, v3, v4, v5, v6, v7, v8] sk st Q = am_g d X am_m8900 2534 [v0, v1, v2, v3, v4, v5, v6, v7, v8] (.int (am_i 0) :: sk) st Q := am_gu.trans rfl
set_option maxRecDepth 100000 in
theorem u8900_2534 {v0 : Value} {v1 : Value} {v2 : Value} {v3 : Value} {v4 : Value} {v5 : Value} {v6 : Value} {v7 : Value} {v8 : Value} {x : Int32} : am_g d X am_m8900 2534 [v0, v1, v2, v3, v4, v5, v6, v7, v8] [.int x] st Q = ((x = 0 ∨ x = 1) ∧ Q (.inl (some (.int x))) st) := am_gu.trans rfl
set_option maxRecDepth 100000 in
theorem u8900_2535 {v0 : Value} {v1 : Value} {v2 : Value} {v3 : Value} {v4 : Value} {v6 : Value} {v7 : Value} {v8 : Value} {x : Int32} : am_g d X am_m8900 2535 [v0, v1, v2, v3, v4, .int x, v6, v7, v8] sk st Q = am_g d X am_m8900 2537 [v0, v1, v2, v3, v4, .int x, v6, v7, v8] (.int x :: sk) st Q := am_gu.trans rfl
set_option maxRecDepth 100000 in
theorem u8900_2537 {v0 : Value} {v1 : Value} {v2 : Value} {v3 : Value} {v4 : Value} {v5 : Value} {v6 : Value} {v7 : Value} {v8 : Value} {x : Int32} : am_g d X am_m8900 2537 [v0, v1, v2, v3, v4, v5, v6, v7, v8] (.int x :: sk) st Q = (if decide (¬ x = 0) = true then am_g d X am_m8900 2552 [v0, v1, v2, v3, v4, v5, v6, v7, v8] sk st Q else am_g d X am_m8900 2540 [v0, v1, v2, v3, v4, v5, v6, v7, v8] sk st Q) := am_gu.trans rfl
set_option maxRecDepth 100000 in
theorem u8900_2540 {v0 : Value} {v1 : Value} {v2 : Value} {v4 : Value} {v5 : Value} {v6 : Value} {v7 : Value} {v8 : Value} {x : Nat} : am_g d X am_m8900 2540 [v0, v1, v2, .ref x, v4, v5, v6, v7, v8] sk st Q = am_g d X am_m8900 2541 [v0, v1, v2, .ref x, v4, v5, v6, v7, v8] (.ref x :: sk) st Q := am_gu.trans rfl
set_option maxRecDepth 100000 in
theorem u8900_2541 {v0 : Value} {v1 : Value} {v2 : Value} {v3 : Value} {v4 : Value} {v5 : Value} {v6 : Value} {v7 : Value} {v8 : Value} : am_g d X am_m8900 2541 [v0, v1, v2, v3, v4, v5, v6, v7, v8] sk st Q = am_g d X am_m8900 2542 [v0, v1, v2, v3, v4, v5, v6, v7, v8] (.int (am_i 0) :: sk) st Q := am_gu.trans rfl
set_option maxRecDepth 100000 in
theorem u8900_2542 {v0 : Value} {v1 : Value} {v2 : Value} {v3 : Value} {v4 : Value} {v5 : Value} {v6 : Value} {v7 : Value} {v8 : Value} : am_g d X am_m8900 2542 [v0, v1, v2, v3, v4, v5, v6, v7, v8] sk st Q = am_jl 2543 [v0, v1, v2, v3, v4, v5, v6, v7, v8] sk st (fun pc lc sk st => am_g d X am_m8900 pc lc sk st Q) := am_gu.trans rfl
set_option maxRecDepth 100000 in
theorem u8900_2543 {v0 : Value} {v1 : Value} {v2 : Value} {v3 : Value} {v4 : Value} {v5 : Value} {v7 : Value} {v8 : Value} {x : Int32} : am_g d X am_m8900 2543 [v0, v1, v2, v3, v4, v5, .int x, v7, v8] sk st Q = am_g d X am_m8900 2545 [v0, v1, v2, v3, v4, v5, .int x, v7, v8] (.int x :: sk) st Q := am_gu.trans rfl
set_option maxRecDepth 100000 in
theorem u8900_2545 {v0 : Value} {v1 : Value} {v2 : Value} {v3 : Value} {v4 : Value} {v5 : Value} {v6 : Value} {v7 : Value} {v8 : Value} {x : Int32} : am_g d X am_m8900 2545 [v0, v1, v2, v3, v4, v5, v6, v7, v8] (.int x :: sk) st Q = am_g d X am_m8900 2546 [v0, v1, v2, v3, v4, v5, v6, v7, v8] (.long x.toInt64 :: sk) st Q := am_gu.trans rfl
set_option maxRecDepth 100000 in
theorem u8900_2546 {v0 : Value} {v1 : Value} {v2 : Value} {v3 : Value} {v4 : Value} {v5 : Value} {v6 : Value} {v7 : Value} {v8 : Value} {x : Int64} {y : Int64} : am_g d X am_m8900 2546 [v0, v1, v2, v3, v4, v5, v6, v7, v8] (.long y :: .long x :: sk) st Q = am_g d X am_m8900 2547 [v0, v1, v2, v3, v4, v5, v6, v7, v8] (.int (lg_cmp x y) :: sk) st Q := am_gu.trans rfl
set_option maxRecDepth 100000 in
theorem u8900_2547 {v0 : Value} {v1 : Value} {v2 : Value} {v3 : Value} {v4 : Value} {v5 : Value} {v6 : Value} {v7 : Value} {v8 : Value} {x : Int32} : am_g d X am_m8900 2547 [v0, v1, v2, v3, v4, v5, v6, v7, v8] (.int x :: sk) st Q = (if decide (x = 0) = true then am_g d X am_m8900 2552 [v0, v1, v2, v3, v4, v5, v6, v7, v8] sk st Q else am_g d X am_m8900 2550 [v0, v1, v2, v3, v4, v5, v6, v7, v8] sk st Q) := am_gu.trans rfl
set_option maxRecDepth 100000 in
theorem u8900_2550 {v0 : Value} {v1 : Value} {v2 : Value} {v3 : Value} {v4 : Value} {v5 : Value} {v6 : Value} {v7 : Value} {v8 : Value} : am_g d X am_m8900 2550 [v0, v1, v2, v3, v4, v5, v6, v7, v8] sk st Q = am_g d X am_m8900 2551 [v0, v1, v2, v3, v4, v5, v6, v7, v8] (.int (am_i 0) :: sk) st Q := am_gu.trans rfl
set_option maxRecDepth 100000 in
theorem u8900_2551 {v0 : Value} {v1 : Value} {v2 : Value} {v3 : Value} {v4 : Value} {v5 : Value} {v6 : Value} {v7 : Value} {v8 : Value} {x : Int32} : am_g d X am_m8900 2551 [v0, v1, v2, v3, v4, v5, v6, v7, v8] [.int x] st Q = ((x = 0 ∨ x = 1) ∧ Q (.inl (some (.int x))) st) := am_gu.trans rfl
set_option maxRecDepth 100000 in
theorem u8900_2552 {v0 : Value} {v1 : Value} {v2 : Value} {v3 : Value} {v4 : Value} {v5 : Value} {v6 : Value} {v7 : Value} {v8 : Value} : am_g d X am_m8900 2552 [v0, v1, v2, v3, v4, v5, v6, v7, v8] sk st Q = am_g d X am_m8900 2998 [v0, v1, v2, v3, v4, v5, v6, v7, v8] sk st Q := am_gu.trans rfl
set_option maxRecDepth 100000 in
theorem u8900_2555 {v0 : Value} {v2 : Value} {v3 : Value} {v4 : Value} {v5 : Value} {v6 : Value} {v7 : Value} {v8 : Value} {x : Nat} : am_g d X am_m8900 2555 [v0, .ref x, v2, v3, v4, v5, v6, v7, v8] sk st Q = am_g d X am_m8900 2556 [v0, .ref x, v2, v3, v4, v5, v6, v7, v8] (.ref x :: sk) st Q := am_gu.trans rfl
set_option maxRecDepth 100000 in
theorem u8900_2556 {v1 : Value} {v2 : Value} {v3 : Value} {v4 : Value} {v5 : Value} {v6 : Value} {v7 : Value} {v8 : Value} : am_g d X am_m8900 2556 [.retAddr 0, v1, v2, v3, v4, v5, v6, v7, v8] sk st Q = am_g d X am_m8900 2557 [.retAddr 0, v1, v2, v3, v4, v5, v6, v7, v8] (.retAddr 0 :: sk) st Q := am_gu.trans rfl
set_option maxRecDepth 100000 in
theorem u8900_2557 {v0 : Value} {v1 : Value} {v2 : Value} {v3 : Value} {v5 : Value} {v6 : Value} {v7 : Value} {v8 : Value} {x : Int32} : am_g d X am_m8900 2557 [v0, v1, v2, v3, .int x, v5, v6, v7, v8] sk st Q = am_g d X am_m8900 2559 [v0, v1, v2, v3, .int x, v5, v6, v7, v8] (.int x :: sk) st Q := am_gu.trans rfl
set_option maxRecDepth 100000 in
theorem u8900_2559 {v0 : Value} {v1 : Value} {v2 : Value} {v3 : Value} {v4 : Value} {v5 : Value} {v6 : Value} {v7 : Value} {v8 : Value} : am_g d X am_m8900 2559 [v0, v1, v2, v3, v4, v5, v6, v7, v8] sk st Q = am_g d X am_m8900 2560 [v0, v1, v2, v3, v4, v5, v6, v7, v8] (.int (am_i 1) :: sk) st Q := am_gu.trans rfl
set_option maxRecDepth 100000 in
theorem u8900_2560 {v0 : Value} {v1 : Value} {v2 : Value} {v3 : Value} {v4 : Value} {v5 : Value} {v6 : Value} {v7 : Value} {v8 : Value} {x : Int32} {y : Int32} : am_g d X am_m8900 2560 [v0, v1, v2, v3, v4, v5, v6, v7, v8] (.int y :: .int x :: sk) st Q = am_g d X am_m8900 2561 [v0, v1, v2, v3, v4, v5, v6, v7, v8] (.int (x + y) :: sk) st Q := am_gu.trans rfl
set_option maxRecDepth 100000 in
theorem u8900_2561 {v0 : Value} {v1 : Value} {v2 : Value} {v3 : Value} {v4 : Value} {v5 : Value} {v6 : Value} {v7 : Value} {v8 : Value} : am_g d X am_m8900 2561 [v0, v1, v2, v3, v4, v5, v6, v7, v8] sk st Q = am_xl (X.1, X.2.1, d) am_m8900 2562 [v0, v1, v2, v3, v4, v5, v6, v7, v8] sk st (fun pc lc sk st => am_g d X am_m8900 pc lc sk st Q) := am_gu.trans rfl
set_option maxRecDepth 100000 in
theorem u8900_2562 {v1 : Value} {v2 : Value} {v3 : Value} {v4 : Value} {v5 : Value} {v6 : Value} {v7 : Value} {v8 : Value} : am_g d X am_m8900 2562 [.retAddr 0, v1, v2, v3, v4, v5, v6, v7, v8] sk st Q = am_g d X am_m8900 2563 [.retAddr 0, v1, v2, v3, v4, v5, v6, v7, v8] (.retAddr 0 :: sk) st Q := am_gu.trans rfl
set_option maxRecDepth 100000 in
theorem u8900_2563 {v0 : Value} {v1 : Value} {v2 : Value} {v3 : Value} {v5 : Value} {v6 : Value} {v7 : Value} {v8 : Value} {x : Int32} : am_g d X am_m8900 2563 [v0, v1, v2, v3, .int x, v5, v6, v7, v8] sk st Q = am_g d X am_m8900 2565 [v0, v1, v2, v3, .int x, v5, v6, v7, v8] (.int x :: sk) st Q := am_gu.trans rfl
set_option maxRecDepth 100000 in
theorem u8900_2565 {v0 : Value} {v1 : Value} {v2 : Value} {v3 : Value} {v4 : Value} {v5 : Value} {v6 : Value} {v7 : Value} {v8 : Value} : am_g d X am_m8900 2565 [v0, v1, v2, v3, v4, v5, v6, v7, v8] sk st Q = am_g d X am_m8900 2566 [v0, v1, v2, v3, v4, v5, v6, v7, v8] (.int (am_i 2) :: sk) st Q := am_gu.trans rfl
set_option maxRecDepth 100000 in
theorem u8900_2566 {v0 : Value} {v1 : Value} {v2 : Value} {v3 : Value} {v4 : Value} {v5 : Value} {v6 : Value} {v7 : Value} {v8 : Value} {x : Int32} {y : Int32} : am_g d X am_m8900 2566 [v0, v1, v2, v3, v4, v5, v6, v7, v8] (.int y :: .int x :: sk) st Q = am_g d X am_m8900 2567 [v0, v1, v2, v3, v4, v5, v6, v7, v8] (.int (x + y) :: sk) st Q := am_gu.trans rfl
set_option maxRecDepth 100000 in
theorem u8900_2567 {v0 : Value} {v1 : Value} {v2 : Value} {v3 : Value} {v4 : Value} {v5 : Value} {v6 : Value} {v7 : Value} {v8 : Value} : am_g d X am_m8900 2567 [v0, v1, v2, v3, v4, v5, v6, v7, v8] sk st Q = am_xl (X.1, X.2.1, d) am_m8900 2568 [v0, v1, v2, v3, v4, v5, v6, v7, v8] sk st (fun pc lc sk st => am_g d X am_m8900 pc lc sk st Q) := am_gu.trans rfl
set_option maxRecDepth 100000 in
theorem u8900_2568 {v0 : Value} {v1 : Value} {v2 : Value} {v4 : Value} {v5 : Value} {v6 : Value} {v7 : Value} {v8 : Value} {x : Nat} : am_g d X am_m8900 2568 [v0, v1, v2, .ref x, v4, v5, v6, v7, v8] sk st Q = am_g d X am_m8900 2569 [v0, v1, v2, .ref x, v4, v5, v6, v7, v8] (.ref x :: sk) st Q := am_gu.trans rfl
set_option maxRecDepth 100000 in
theorem u8900_2569 {a0 : Value} {a1 : Value} {a2 : Value} {a3 : Value} {v0 : Value} {v1 : Value} {v2 : Value} {v3 : Value} {v4 : Value} {v5 : Value} {v6 : Value} {v7 : Value} {v8 : Value} : am_g d X am_m8900 2569 [v0, v1, v2, v3, v4, v5, v6, v7, v8] (a3 :: a2 :: a1 :: a0 :: sk) st Q = (sk.length ≤ 4 ∧ am_Ca X d 8034 [a0, a1, a2, a3] st (am_af am_m8900 2569 [v0, v1, v2, v3, v4, v5, v6, v7, v8] sk (fun pc lc sk st => am_g d X am_m8900 pc lc sk st Q) Q)) := am_gu.trans (propext ⟨fun h => ⟨h.1.2, h.2⟩, fun h => ⟨⟨Nat.le_add_left _ _, h.1⟩, h.2⟩⟩)
set_option maxRecDepth 100000 in
theorem u8900_2572 {v0 : Value} {v1 : Value} {v2 : Value} {v3 : Value} {v4 : Value} {v5 : Value} {v6 : Value} {v7 : Value} {v8 : Value} {x : Int32} : am_g d X am_m8900 2572 [v0, v1, v2, v3, v4, v5, v6, v7, v8] (.int x :: sk) st Q = am_g d X am_m8900 2574 [v0, v1, v2, v3, am_kc v4, .int x, v6, v7, v8] sk st Q := am_gu.trans (congrArg (fun l => am_g d X am_m8900 2574 (List.set l 5 (.int x)) sk st Q) (kl_5 (l := [v5, v6, v7, v8])))
set_option maxRecDepth 100000 in
theorem u8900_2574 {v0 : Value} {v1 : Value} {v3 : Value} {v4 : Value} {v5 : Value} {v6 : Value} {v7 : Value} {v8 : Value} {x : Nat} : am_g d X am_m8900 2574 [v0, v1, .ref x, v3, v4, v5, v6, v7, v8] sk st Q = am_g d X am_m8900 2575 [v0, v1, .ref x, v3, v4, v5, v6, v7, v8] (.ref x :: sk) st Q := am_gu.trans rfl
set_option maxRecDepth 100000 in
theorem u8900_2575 {v1 : Value} {v2 : Value} {v3 : Value} {v4 : Value} {v5 : Value} {v6 : Value} {v7 : Value} {v8 : Value} : am_g d X am_m8900 2575 [.retAddr 0, v1, v2, v3, v4, v5, v6, v7, v8] sk st Q = am_g d X am_m8900 2576 [.retAddr 0, v1, v2, v3, v4, v5, v6, v7, v8] (.retAddr 0 :: sk) st Q := am_gu.trans rfl
set_option maxRecDepth 100000 in
theorem u8900_2576 {v0 : Value} {v1 : Value} {v2 : Value} {v3 : Value} {v5 : Value} {v6 : Value} {v7 : Value} {v8 : Value} {x : Int32} : am_g d X am_m8900 2576 [v0, v1, v2, v3, .int x, v5, v6, v7, v8] sk st Q = am_g d X am_m8900 2578 [v0, v1, v2, v3, .int x, v5, v6, v7, v8] (.int x :: sk) st Q := am_gu.trans rfl
set_option maxRecDepth 100000 in
theorem u8900_2578 {v0 : Value} {v1 : Value} {v2 : Value} {v3 : Value} {v4 : Value} {v5 : Value} {v6 : Value} {v7 : Value} {v8 : Value} : am_g d X am_m8900 2578 [v0, v1, v2, v3, v4, v5, v6, v7, v8] sk st Q = am_g d X am_m8900 2579 [v0, v1, v2, v3, v4, v5, v6, v7, v8] (.int (am_i 1) :: sk) st Q := am_gu.trans rfl
set_option maxRecDepth 100000 in
theorem u8900_2579 {v0 : Value} {v1 : Value} {v2 : Value} {v3 : Value} {v4 : Value} {v5 : Value} {v6 : Value} {v7 : Value} {v8 : Value} {x : Int32} {y : Int32} : am_g d X am_m8900 2579 [v0, v1, v2, v3, v4, v5, v6, v7, v8] (.int y :: .int x :: sk) st Q = am_g d X am_m8900 2580 [v0, v1, v2, v3, v4, v5, v6, v7, v8] (.int (x + y) :: sk) st Q := am_gu.trans rfl
set_option maxRecDepth 100000 in
theorem u8900_2580 {v0 : Value} {v1 : Value} {v2 : Value} {v3 : Value} {v4 : Value} {v5 : Value} {v6 : Value} {v7 : Value} {v8 : Value} : am_g d X am_m8900 2580 [v0, v1, v2, v3, v4, v5, v6, v7, v8] sk st Q = am_xl (X.1, X.2.1, d) am_m8900 2581 [v0, v1, v2, v3, v4, v5, v6, v7, v8] sk st (fun pc lc sk st => am_g d X am_m8900 pc lc sk st Q) := am_gu.trans rfl
set_option maxRecDepth 100000 in
theorem u8900_2581 {v1 : Value} {v2 : Value} {v3 : Value} {v4 : Value} {v5 : Value} {v6 : Value} {v7 : Value} {v8 : Value} : am_g d X am_m8900 2581 [.retAddr 0, v1, v2, v3, v4, v5, v6, v7, v8] sk st Q = am_g d X am_m8900 2582 [.retAddr 0, v1, v2, v3, v4, v5, v6, v7, v8] (.retAddr 0 :: sk) st Q := am_gu.trans rfl
set_option maxRecDepth 100000 in
theorem u8900_2582 {v0 : Value} {v1 : Value} {v2 : Value} {v3 : Value} {v5 : Value} {v6 : Value} {v7 : Value} {v8 : Value} {x : Int32} : am_g d X am_m8900 2582 [v0, v1, v2, v3, .int x, v5, v6, v7, v8] sk st Q = am_g d X am_m8900 2584 [v0, v1, v2, v3, .int x, v5, v6, v7, v8] (.int x :: sk) st Q := am_gu.trans rfl
set_option maxRecDepth 100000 in
theorem u8900_2584 {v0 : Value} {v1 : Value} {v2 : Value} {v3 : Value} {v4 : Value} {v5 : Value} {v6 : Value} {v7 : Value} {v8 : Value} : am_g d X am_m8900 2584 [v0, v1, v2, v3, v4, v5, v6, v7, v8] sk st Q = am_g d X am_m8900 2585 [v0, v1, v2, v3, v4, v5, v6, v7, v8] (.int (am_i 2) :: sk) st Q := am_gu.trans rfl
set_option maxRecDepth 100000 in
theorem u8900_2585 {v0 : Value} {v1 : Value} {v2 : Value} {v3 : Value} {v4 : Value} {v5 : Value} {v6 : Value} {v7 : Value} {v8 : Value} {x : Int32} {y : Int32} : am_g d X am_m8900 2585 [v0, v1, v2, v3, v4, v5, v6, v7, v8] (.int y :: .int x :: sk) st Q = am_g d X am_m8900 2586 [v0, v1, v2, v3, v4, v5, v6, v7, v8] (.int (x + y) :: sk) st Q := am_gu.trans rfl
set_option maxRecDepth 100000 in
theorem u8900_2586 {v0 : Value} {v1 : Value} {v2 : Value} {v3 : Value} {v4 : Value} {v5 : Value} {v6 : Value} {v7 : Value} {v8 : Value} : am_g d X am_m8900 2586 [v0, v1, v2, v3, v4, v5, v6, v7, v8] sk st Q = am_xl (X.1, X.2.1, d) am_m8900 2587 [v0, v1, v2, v3, v4, v5, v6, v7, v8] sk st (fun pc lc sk st => am_g d X am_m8900 pc lc sk st Q) := am_gu.trans rfl
set_option maxRecDepth 100000 in
theorem u8900_2587 {a0 : Value} {a1 : Value} {v0 : Value} {v1 : Value} {v2 : Value} {v3 : Value} {v4 : Value} {v5 : Value} {v6 : Value} {v7 : Value} {v8 : Value} : am_g d X am_m8900 2587 [v0, v1, v2, v3, v4, v5, v6, v7, v8] (a1 :: a0 :: .ref o :: sk) st Q = ((am_ob st o 7 ∧ sk.length ≤ 4) ∧ am_Ca X d 7116 [.ref o, a0, a1] st (am_af am_m8900 2587 [v0, v1, v2, v3, v4, v5, v6, v7, v8] sk (fun pc lc sk st => am_g d X am_m8900 pc lc sk st Q) Q)) := am_gu.trans rfl
set_option maxRecDepth 100000 in
theorem u8900_2590 {v0 : Value} {v1 : Value} {v2 : Value} {v3 : Value} {v4 : Value} {v5 : Value} {v6 : Value} {v7 : Value} {v8 : Value} {x : Int32} : am_g d X am_m8900 2590 [v0, v1, v2, v3, v4, v5, v6, v7, v8] (.int x :: sk) st Q = am_g d X am_m8900 2592 [v0, v1, v2, v3, v4, am_kc v5, .int x, v7, v8] sk st Q := am_gu.trans (congrArg (fun l => am_g d X am_m8900 2592 (List.set l 6 (.int x)) sk st Q) (kl_6 (l := [v6, v7, v8])))
set_option maxRecDepth 100000 in
theorem u8900_2592 {v0 : Value} {v1 : Value} {v3 : Value} {v4 : Value} {v5 : Value} {v6 : Value} {v7 : Value} {v8 : Value} {x : Nat} : am_g d X am_m8900 2592 [v0, v1, .ref x, v3, v4, v5, v6, v7, v8] sk st Q = am_g d X am_m8900 2593 [v0, v1, .ref x, v3, v4, v5, v6, v7, v8] (.ref x :: sk) st Q := am_gu.trans rfl
set_option maxRecDepth 100000 in
theorem u8900_2593 {v0 : Value} {v1 : Value} {v2 : Value} {v3 : Value} {v4 : Value} {v5 : Value} {v6 : Value} {v7 : Value} {v8 : Value} : am_g d X am_m8900 2593 [v0, v1, v2, v3, v4, v5, v6, v7, v8] (.ref o :: sk) st Q = ((am_ob st o 7 ∧ sk.length ≤ 4) ∧ am_Ca X d 7002 [.ref o] st (am_af am_m8900 2593 [v0, v1, v2, v3, v4, v5, v6, v7, v8] sk (fun pc lc sk st => am_g d X am_m8900 pc lc sk st Q) Q)) := am_gu.trans rfl
set_option maxRecDepth 100000 in
theorem u8900_2596 {v0 : Value} {v1 : Value} {v2 : Value} {v3 : Value} {v4 : Value} {v6 : Value} {v7 : Value} {v8 : Value} {x : Int32} : am_g d X am_m8900 2596 [v0, v1, v2, v3, v4, .int x, v6, v7, v8] sk st Q = am_g d X am_m8900 2598 [v0, v1, v2, v3, v4, .int x, v6, v7, v8] (.int x :: sk) st Q := am_gu.trans rfl
set_option maxRecDepth 100000 in
theorem u8900_2598 {v0 : Value} {v1 : Value} {v2 : Value} {v3 : Value} {v4 : Value} {v5 : Value} {v6 : Value} {v7 : Value} {v8 : Value} {x : Int32} {y : Int32} : am_g d X am_m8900 2598 [v0, v1, v2, v3, v4, v5, v6, v7, v8] (.int y :: .int x :: sk) st Q = (if decide (x = y) = true then am_g d X am_m8900 2603 [v0, v1, v2, v3, v4, v5, v6, v7, v8] sk st Q else am_g d X am_m8900 2601 [v0, v1, v2, v3, v4, v5, v6, v7, v8] sk st Q) := am_gu.trans rfl
set_option maxRecDepth 100000 in
theorem u8900_2601 {v0 : Value} {v1 : Value} {v2 : Value} {v3 : Value} {v4 : Value} {v5 : Value} {v6 : Value} {v7 : Value} {v8 : Value} : am_g d X am_m8900 2601 [v0, v1, v2, v3, v4, v5, v6, v7, v8] sk st Q = am_g d X am_m8900 2602 [v0, v1, v2, v3, v4, v5, v6, v7, v8] (.int (am_i 0) :: sk) st Q := am_gu.trans rfl
set_option maxRecDepth 100000 in
theorem u8900_2602 {v0 : Value} {v1 : Value} {v2 : Value} {v3 : Value} {v4 : Value} {v5 : Value} {v6 : Value} {v7 : Value} {v8 : Value} {x : Int32} : am_g d X am_m8900 2602 [v0, v1, v2, v3, v4, v5, v6, v7, v8] [.int x] st Q = ((x = 0 ∨ x = 1) ∧ Q (.inl (some (.int x))) st) := am_gu.trans rfl
set_option maxRecDepth 100000 in
theorem u8900_2603 {v0 : Value} {v1 : Value} {v2 : Value} {v3 : Value} {v4 : Value} {v6 : Value} {v7 : Value} {v8 : Value} {x : Int32} : am_g d X am_m8900 2603 [v0, v1, v2, v3, v4, .int x, v6, v7, v8] sk st Q = am_g d X am_m8900 2605 [v0, v1, v2, v3, v4, .int x, v6, v7, v8] (.int x :: sk) st Q := am_gu.trans rfl
set_option maxRecDepth 100000 in
theorem u8900_2605 {v0 : Value} {v1 : Value} {v2 : Value} {v3 : Value} {v4 : Value} {v5 : Value} {v6 : Value} {v7 : Value} {v8 : Value} {x : Int32} : am_g d X am_m8900 2605 [v0, v1, v2, v3, v4, v5, v6, v7, v8] (.int x :: sk) st Q = (if decide (¬ x = 0) = true then am_g d X am_m8900 2620 [v0, v1, v2, v3, v4, v5, v6, v7, v8] sk st Q else am_g d X am_m8900 2608 [v0, v1, v2, v3, v4, v5, v6, v7, v8] sk st Q) := am_gu.trans rfl
set_option maxRecDepth 100000 in
theorem u8900_2608 {v0 : Value} {v1 : Value} {v2 : Value} {v4 : Value} {v5 : Value} {v6 : Value} {v7 : Value} {v8 : Value} {x : Nat} : am_g d X am_m8900 2608 [v0, v1, v2, .ref x, v4, v5, v6, v7, v8] sk st Q = am_g d X am_m8900 2609 [v0, v1, v2, .ref x, v4, v5, v6, v7, v8] (.ref x :: sk) st Q := am_gu.trans rfl
set_option maxRecDepth 100000 in
theorem u8900_2609 {v0 : Value} {v1 : Value} {v2 : Value} {v3 : Value} {v4 : Value} {v5 : Value} {v6 : Value} {v7 : Value} {v8 : Value} : am_g d X am_m8900 2609 [v0, v1, v2, v3, v4, v5, v6, v7, v8] sk st Q = am_g d X am_m8900 2610 [v0, v1, v2, v3, v4, v5, v6, v7, v8] (.int (am_i 0) :: sk) st Q := am_gu.trans rfl
set_option maxRecDepth 100000 in
theorem u8900_2610 {v0 : Value} {v1 : Value} {v2 : Value} {v3 : Value} {v4 : Value} {v5 : Value} {v6 : Value} {v7 : Value} {v8 : Value} : am_g d X am_m8900 2610 [v0, v1, v2, v3, v4, v5, v6, v7, v8] sk st Q = am_jl 2611 [v0, v1, v2, v3, v4, v5, v6, v7, v8] sk st (fun pc lc sk st => am_g d X am_m8900 pc lc sk st Q) := am_gu.trans rfl
set_option maxRecDepth 100000 in
theorem u8900_2611 {v0 : Value} {v1 : Value} {v2 : Value} {v3 : Value} {v4 : Value} {v5 : Value} {v7 : Value} {v8 : Value} {x : Int32} : am_g d X am_m8900 2611 [v0, v1, v2, v3, v4, v5, .int x, v7, v8] sk st Q = am_g d X am_m8900 2613 [v0, v1, v2, v3, v4, v5, .int x, v7, v8] (.int x :: sk) st Q := am_gu.trans rfl
set_option maxRecDepth 100000 in
theorem u8900_2613 {v0 : Value} {v1 : Value} {v2 : Value} {v3 : Value} {v4 : Value} {v5 : Value} {v6 : Value} {v7 : Value} {v8 : Value} {x : Int32} : am_g d X am_m8900 2613 [v0, v1, v2, v3, v4, v5, v6, v7, v8] (.int x :: sk) st Q = am_g d X am_m8900 2614 [v0, v1, v2, v3, v4, v5, v6, v7, v8] (.long x.toInt64 :: sk) st Q := am_gu.trans rfl
set_option maxRecDepth 100000 in
theorem u8900_2614 {v0 : Value} {v1 : Value} {v2 : Value} {v3 : Value} {v4 : Value} {v5 : Value} {v6 : Value} {v7 : Value} {v8 : Value} {x : Int64} {y : Int64} : am_g d X am_m8900 2614 [v0, v1, v2, v3, v4, v5, v6, v7, v8] (.long y :: .long x :: sk) st Q = am_g d X am_m8900 2615 [v0, v1, v2, v3, v4, v5, v6, v7, v8] (.int (lg_cmp x y) :: sk) st Q := am_gu.trans rfl
set_option maxRecDepth 100000 in
theorem u8900_2615 {v0 : Value} {v1 : Value} {v2 : Value} {v3 : Value} {v4 : Value} {v5 : Value} {v6 : Value} {v7 : Value} {v8 : Value} {x : Int32} : am_g d X am_m8900 2615 [v0, v1, v2, v3, v4, v5, v6, v7, v8] (.int x :: sk) st Q = (if decide (x = 0) = true then am_g d X am_m8900 2620 [v0, v1, v2, v3, v4, v5, v6, v7, v8] sk st Q else am_g d X am_m8900 2618 [v0, v1, v2, v3, v4, v5, v6, v7, v8] sk st Q) := am_gu.trans rfl
set_option maxRecDepth 100000 in
theorem u8900_2618 {v0 : Value} {v1 : Value} {v2 : Value} {v3 : Value} {v4 : Value} {v5 : Value} {v6 : Value} {v7 : Value} {v8 : Value} : am_g d X am_m8900 2618 [v0, v1, v2, v3, v4, v5, v6, v7, v8] sk st Q = am_g d X am_m8900 2619 [v0, v1, v2, v3, v4, v5, v6, v7, v8] (.int (am_i 0) :: sk) st Q := am_gu.trans rfl
set_option maxRecDepth 100000 in
theorem u8900_2619 {v0 : Value} {v1 : Value} {v2 : Value} {v3 : Value} {v4 : Value} {v5 : Value} {v6 : Value} {v7 : Value} {v8 : Value} {x : Int32} : am_g d X am_m8900 2619 [v0, v1, v2, v3, v4, v5, v6, v7, v8] [.int x] st Q = ((x = 0 ∨ x = 1) ∧ Q (.inl (some (.int x))) st) := am_gu.trans rfl
set_option maxRecDepth 100000 in
theorem u8900_2620 {v0 : Value} {v1 : Value} {v2 : Value} {v3 : Value} {v4 : Value} {v5 : Value} {v6 : Value} {v7 : Value} {v8 : Value} : am_g d X am_m8900 2620 [v0, v1, v2, v3, v4, v5, v6, v7, v8] sk st Q = am_g d X am_m8900 2998 [v0, v1, v2, v3, v4, v5, v6, v7, v8] sk st Q := am_gu.trans rfl
set_option maxRecDepth 100000 in
theorem u8900_2623 {v0 : Value} {v2 : Value} {v3 : Value} {v4 : Value} {v5 : Value} {v6 : Value} {v7 : Value} {v8 : Value} {x : Nat} : am_g d X am_m8900 2623 [v0, .ref x, v2, v3, v4, v5, v6, v7, v8] sk st Q = am_g d X am_m8900 2624 [v0, .ref x, v2, v3, v4, v5, v6, v7, v8] (.ref x :: sk) st Q := am_gu.trans rfl
set_option maxRecDepth 100000 in
theorem u8900_2624 {v1 : Value} {v2 : Value} {v3 : Value} {v4 : Value} {v5 : Value} {v6 : Value} {v7 : Value} {v8 : Value} : am_g d X am_m8900 2624 [.retAddr 0, v1, v2, v3, v4, v5, v6, v7, v8] sk st Q = am_g d X am_m8900 2625 [.retAddr 0, v1, v2, v3, v4, v5, v6, v7, v8] (.retAddr 0 :: sk) st Q := am_gu.trans rfl
set_option maxRecDepth 100000 in
theorem u8900_2625 {v0 : Value} {v1 : Value} {v2 : Value} {v3 : Value} {v5 : Value} {v6 : Value} {v7 : Value} {v8 : Value} {x : Int32} : am_g d X am_m8900 2625 [v0, v1, v2, v3, .int x, v5, v6, v7, v8] sk st Q = am_g d X am_m8900 2627 [v0, v1, v2, v3, .int x, v5, v6, v7, v8] (.int x :: sk) st Q := am_gu.trans rfl
set_option maxRecDepth 100000 in
theorem u8900_2627 {v0 : Value} {v1 : Value} {v2 : Value} {v3 : Value} {v4 : Value} {v5 : Value} {v6 : Value} {v7 : Value} {v8 : Value} : am_g d X am_m8900 2627 [v0, v1, v2, v3, v4, v5, v6, v7, v8] sk st Q = am_g d X am_m8900 2628 [v0, v1, v2, v3, v4, v5, v6, v7, v8] (.int (am_i 1) :: sk) st Q := am_gu.trans rfl
set_option maxRecDepth 100000 in
theorem u8900_2628 {v0 : Value} {v1 : Value} {v2 : Value} {v3 : Value} {v4 : Value} {v5 : Value} {v6 : Value} {v7 : Value} {v8 : Value} {x : Int32} {y : Int32} : am_g d X am_m8900 2628 [v0, v1, v2, v3, v4, v5, v6, v7, v8] (.int y :: .int x :: sk) st Q = am_g d X am_m8900 2629 [v0, v1, v2, v3, v4, v5, v6, v7, v8] (.int (x + y) :: sk) st Q := am_gu.trans rfl
set_option maxRecDepth 100000 in
theorem u8900_2629 {v0 : Value} {v1 : Value} {v2 : Value} {v3 : Value} {v4 : Value} {v5 : Value} {v6 : Value} {v7 : Value} {v8 : Value} : am_g d X am_m8900 2629 [v0, v1, v2, v3, v4, v5, v6, v7, v8] sk st Q = am_xl (X.1, X.2.1, d) am_m8900 2630 [v0, v1, v2, v3, v4, v5, v6, v7, v8] sk st (fun pc lc sk st => am_g d X am_m8900 pc lc sk st Q) := am_gu.trans rfl
set_option maxRecDepth 100000 in
theorem u8900_2630 {v1 : Value} {v2 : Value} {v3 : Value} {v4 : Value} {v5 : Value} {v6 : Value} {v7 : Value} {v8 : Value} : am_g d X am_m8900 2630 [.retAddr 0, v1, v2, v3, v4, v5, v6, v7, v8] sk st Q = am_g d X am_m8900 2631 [.retAddr 0, v1, v2, v3, v4, v5, v6, v7, v8] (.retAddr 0 :: sk) st Q := am_gu.trans rfl
set_option maxRecDepth 100000 in
theorem u8900_2631 {v0 : Value} {v1 : Value} {v2 : Value} {v3 : Value} {v5 : Value} {v6 : Value} {v7 : Value} {v8 : Value} {x : Int32} : am_g d X am_m8900 2631 [v0, v1, v2, v3, .int x, v5, v6, v7, v8] sk st Q = am_g d X am_m8900 2633 [v0, v1, v2, v3, .int x, v5, v6, v7, v8] (.int x :: sk) st Q := am_gu.trans rfl
set_option maxRecDepth 100000 in
theorem u8900_2633 {v0 : Value} {v1 : Value} {v2 : Value} {v3 : Value} {v4 : Value} {v5 : Value} {v6 : Value} {v7 : Value} {v8 : Value} : am_g d X am_m8900 2633 [v0, v1, v2, v3, v4, v5, v6, v7, v8] sk st Q = am_g d X am_m8900 2634 [v0, v1, v2, v3, v4, v5, v6, v7, v8] (.int (am_i 2) :: sk) st Q := am_gu.trans rfl
set_option maxRecDepth 100000 in
theorem u8900_2634 {v0 : Value} {v1 : Value} {v2 : Value} {v3 : Value} {v4 : Value} {v5 : Value} {v6 : Value} {v7 : Value} {v8 : Value} {x : Int32} {y : Int32} : am_g d X am_m8900 2634 [v0, v1, v2, v3, v4, v5, v6, v7, v8] (.int y :: .int x :: sk) st Q = am_g d X am_m8900 2635 [v0, v1, v2, v3, v4, v5, v6, v7, v8] (.int (x + y) :: sk) st Q := am_gu.trans rfl
set_option maxRecDepth 100000 in
theorem u8900_2635 {v0 : Value} {v1 : Value} {v2 : Value} {v3 : Value} {v4 : Value} {v5 : Value} {v6 : Value} {v7 : Value} {v8 : Value} : am_g d X am_m8900 2635 [v0, v1, v2, v3, v4, v5, v6, v7, v8] sk st Q = am_xl (X.1, X.2.1, d) am_m8900 2636 [v0, v1, v2, v3, v4, v5, v6, v7, v8] sk st (fun pc lc sk st => am_g d X am_m8900 pc lc sk st Q) := am_gu.trans rfl
set_option maxRecDepth 100000 in
theorem u8900_2636 {v0 : Value} {v1 : Value} {v2 : Value} {v4 : Value} {v5 : Value} {v6 : Value} {v7 : Value} {v8 : Value} {x : Nat} : am_g d X am_m8900 2636 [v0, v1, v2, .ref x, v4, v5, v6, v7, v8] sk st Q = am_g d X am_m8900 2637 [v0, v1, v2, .ref x, v4, v5, v6, v7, v8] (.ref x :: sk) st Q := am_gu.trans rfl
set_option maxRecDepth 100000 in
theorem u8900_2637 {a0 : Value} {a1 : Value} {a2 : Value} {a3 : Value} {v0 : Value} {v1 : Value} {v2 : Value} {v3 : Value} {v4 : Value} {v5 : Value} {v6 : Value} {v7 : Value} {v8 : Value} : am_g d X am_m8900 2637 [v0, v1, v2, v3, v4, v5, v6, v7, v8] (a3 :: a2 :: a1 :: a0 :: sk) st Q = (sk.length ≤ 4 ∧ am_Ca X d 8035 [a0, a1, a2, a3] st (am_af am_m8900 2637 [v0, v1, v2, v3, v4, v5, v6, v7, v8] sk (fun pc lc sk st => am_g d X am_m8900 pc lc sk st Q) Q)) := am_gu.trans (propext ⟨fun h => ⟨h.1.2, h.2⟩, fun h => ⟨⟨Nat.le_add_left _ _, h.1⟩, h.2⟩⟩)
set_option maxRecDepth 100000 in
theorem u8900_2640 {v0 : Value} {v1 : Value} {v2 : Value} {v3 : Value} {v4 : Value} {v5 : Value} {v6 : Value} {v7 : Value} {v8 : Value} {x : Int32} : am_g d X am_m8900 2640 [v0, v1, v2, v3, v4, v5, v6, v7, v8] (.int x :: sk) st Q = am_g d X am_m8900 2642 [v0, v1, v2, v3, am_kc v4, .int x, v6, v7, v8] sk st Q := am_gu.trans (congrArg (fun l => am_g d X am_m8900 2642 (List.set l 5 (.int x)) sk st Q) (kl_5 (l := [v5, v6, v7, v8])))
set_option maxRecDepth 100000 in
theorem u8900_2642 {v0 : Value} {v1 : Value} {v3 : Value} {v4 : Value} {v5 : Value} {v6 : Value} {v7 : Value} {v8 : Value} {x : Nat} : am_g d X am_m8900 2642 [v0, v1, .ref x, v3, v4, v5, v6, v7, v8] sk st Q = am_g d X am_m8900 2643 [v0, v1, .ref x, v3, v4, v5, v6, v7, v8] (.ref x :: sk) st Q := am_gu.trans rfl
set_option maxRecDepth 100000 in
theorem u8900_2643 {v1 : Value} {v2 : Value} {v3 : Value} {v4 : Value} {v5 : Value} {v6 : Value} {v7 : Value} {v8 : Value} : am_g d X am_m8900 2643 [.retAddr 0, v1, v2, v3, v4, v5, v6, v7, v8] sk st Q = am_g d X am_m8900 2644 [.retAddr 0, v1, v2, v3, v4, v5, v6, v7, v8] (.retAddr 0 :: sk) st Q := am_gu.trans rfl
set_option maxRecDepth 100000 in
theorem u8900_2644 {v0 : Value} {v1 : Value} {v2 : Value} {v3 : Value} {v5 : Value} {v6 : Value} {v7 : Value} {v8 : Value} {x : Int32} : am_g d X am_m8900 2644 [v0, v1, v2, v3, .int x, v5, v6, v7, v8] sk st Q = am_g d X am_m8900 2646 [v0, v1, v2, v3, .int x, v5, v6, v7, v8] (.int x :: sk) st Q := am_gu.trans rfl
set_option maxRecDepth 100000 in
theorem u8900_2646 {v0 : Value} {v1 : Value} {v2 : Value} {v3 : Value} {v4 : Value} {v5 : Value} {v6 : Value} {v7 : Value} {v8 : Value} : am_g d X am_m8900 2646 [v0, v1, v2, v3, v4, v5, v6, v7, v8] sk st Q = am_g d X am_m8900 2647 [v0, v1, v2, v3, v4, v5, v6, v7, v8] (.int (am_i 1) :: sk) st Q := am_gu.trans rfl
set_option maxRecDepth 100000 in
theorem u8900_2647 {v0 : Value} {v1 : Value} {v2 : Value} {v3 : Value} {v4 : Value} {v5 : Value} {v6 : Value} {v7 : Value} {v8 : Value} {x : Int32} {y : Int32} : am_g d X am_m8900 2647 [v0, v1, v2, v3, v4, v5, v6, v7, v8] (.int y :: .int x :: sk) st Q = am_g d X am_m8900 2648 [v0, v1, v2, v3, v4, v5, v6, v7, v8] (.int (x + y) :: sk) st Q := am_gu.trans rfl
set_option maxRecDepth 100000 in
theorem u8900_2648 {v0 : Value} {v1 : Value} {v2 : Value} {v3 : Value} {v4 : Value} {v5 : Value} {v6 : Value} {v7 : Value} {v8 : Value} : am_g d X am_m8900 2648 [v0, v1, v2, v3, v4, v5, v6, v7, v8] sk st Q = am_xl (X.1, X.2.1, d) am_m8900 2649 [v0, v1, v2, v3, v4, v5, v6, v7, v8] sk st (fun pc lc sk st => am_g d X am_m8900 pc lc sk st Q) := am_gu.trans rfl
set_option maxRecDepth 100000 in
theorem u8900_2649 {v1 : Value} {v2 : Value} {v3 : Value} {v4 : Value} {v5 : Value} {v6 : Value} {v7 : Value} {v8 : Value} : am_g d X am_m8900 2649 [.retAddr 0, v1, v2, v3, v4, v5, v6, v7, v8] sk st Q = am_g d X am_m8900 2650 [.retAddr 0, v1, v2, v3, v4, v5, v6, v7, v8] (.retAddr 0 :: sk) st Q := am_gu.trans rfl
set_option maxRecDepth 100000 in
theorem u8900_2650 {v0 : Value} {v1 : Value} {v2 : Value} {v3 : Value} {v5 : Value} {v6 : Value} {v7 : Value} {v8 : Value} {x : Int32} : am_g d X am_m8900 2650 [v0, v1, v2, v3, .int x, v5, v6, v7, v8] sk st Q = am_g d X am_m8900 2652 [v0, v1, v2, v3, .int x, v5, v6, v7, v8] (.int x :: sk) st Q := am_gu.trans rfl
set_option maxRecDepth 100000 in
theorem u8900_2652 {v0 : Value} {v1 : Value} {v2 : Value} {v3 : Value} {v4 : Value} {v5 : Value} {v6 : Value} {v7 : Value} {v8 : Value} : am_g d X am_m8900 2652 [v0, v1, v2, v3, v4, v5, v6, v7, v8] sk st Q = am_g d X am_m8900 2653 [v0, v1, v2, v3, v4, v5, v6, v7, v8] (.int (am_i 2) :: sk) st Q := am_gu.trans rfl
set_option maxRecDepth 100000 in
theorem u8900_2653 {v0 : Value} {v1 : Value} {v2 : Value} {v3 : Value} {v4 : Value} {v5 : Value} {v6 : Value} {v7 : Value} {v8 : Value} {x : Int32} {y : Int32} : am_g d X am_m8900 2653 [v0, v1, v2, v3, v4, v5, v6, v7, v8] (.int y :: .int x :: sk) st Q = am_g d X am_m8900 2654 [v0, v1, v2, v3, v4, v5, v6, v7, v8] (.int (x + y) :: sk) st Q := am_gu.trans rfl
set_option maxRecDepth 100000 in
theorem u8900_2654 {v0 : Value} {v1 : Value} {v2 : Value} {v3 : Value} {v4 : Value} {v5 : Value} {v6 : Value} {v7 : Value} {v8 : Value} : am_g d X am_m8900 2654 [v0, v1, v2, v3, v4, v5, v6, v7, v8] sk st Q = am_xl (X.1, X.2.1, d) am_m8900 2655 [v0, v1, v2, v3, v4, v5, v6, v7, v8] sk st (fun pc lc sk st => am_g d X am_m8900 pc lc sk st Q) := am_gu.trans rfl
set_option maxRecDepth 100000 in
theorem u8900_2655 {a0 : Value} {a1 : Value} {v0 : Value} {v1 : Value} {v2 : Value} {v3 : Value} {v4 : Value} {v5 : Value} {v6 : Value} {v7 : Value} {v8 : Value} : am_g d X am_m8900 2655 [v0, v1, v2, v3, v4, v5, v6, v7, v8] (a1 :: a0 :: .ref o :: sk) st Q = ((am_ob st o 7 ∧ sk.length ≤ 4) ∧ am_Ca X d 7117 [.ref o, a0, a1] st (am_af am_m8900 2655 [v0, v1, v2, v3, v4, v5, v6, v7, v8] sk (fun pc lc sk st => am_g d X am_m8900 pc lc sk st Q) Q)) := am_gu.trans rfl
set_option maxRecDepth 100000 in
theorem u8900_2658 {v0 : Value} {v1 : Value} {v2 : Value} {v3 : Value} {v4 : Value} {v5 : Value} {v6 : Value} {v7 : Value} {v8 : Value} {x : Int32} : am_g d X am_m8900 2658 [v0, v1, v2, v3, v4, v5, v6, v7, v8] (.int x :: sk) st Q = am_g d X am_m8900 2660 [v0, v1, v2, v3, v4, am_kc v5, .int x, v7, v8] sk st Q := am_gu.trans (congrArg (fun l => am_g d X am_m8900 2660 (List.set l 6 (.int x)) sk st Q) (kl_6 (l := [v6, v7, v8])))
set_option maxRecDepth 100000 in
theorem u8900_2660 {v0 : Value} {v1 : Value} {v3 : Value} {v4 : Value} {v5 : Value} {v6 : Value} {v7 : Value} {v8 : Value} {x : Nat} : am_g d X am_m8900 2660 [v0, v1, .ref x, v3, v4, v5, v6, v7, v8] sk st Q = am_g d X am_m8900 2661 [v0, v1, .ref x, v3, v4, v5, v6, v7, v8] (.ref x :: sk) st Q := am_gu.trans rfl
set_option maxRecDepth 100000 in
theorem u8900_2661 {v0 : Value} {v1 : Value} {v2 : Value} {v3 : Value} {v4 : Value} {v5 : Value} {v6 : Value} {v7 : Value} {v8 : Value} : am_g d X am_m8900 2661 [v0, v1, v2, v3, v4, v5, v6, v7, v8] (.ref o :: sk) st Q = ((am_ob st o 7 ∧ sk.length ≤ 4) ∧ am_Ca X d 7002 [.ref o] st (am_af am_m8900 2661 [v0, v1, v2, v3, v4, v5, v6, v7, v8] sk (fun pc lc sk st => am_g d X am_m8900 pc lc sk st Q) Q)) := am_gu.trans rfl
set_option maxRecDepth 100000 in
theorem u8900_2664 {v0 : Value} {v1 : Value} {v2 : Value} {v3 : Value} {v4 : Value} {v6 : Value} {v7 : Value} {v8 : Value} {x : Int32} : am_g d X am_m8900 2664 [v0, v1, v2, v3, v4, .int x, v6, v7, v8] sk st Q = am_g d X am_m8900 2666 [v0, v1, v2, v3, v4, .int x, v6, v7, v8] (.int x :: sk) st Q := am_gu.trans rfl
set_option maxRecDepth 100000 in
theorem u8900_2666 {v0 : Value} {v1 : Value} {v2 : Value} {v3 : Value} {v4 : Value} {v5 : Value} {v6 : Value} {v7 : Value} {v8 : Value} {x : Int32} {y : Int32} : am_g d X am_m8900 2666 [v0, v1, v2, v3, v4, v5, v6, v7, v8] (.int y :: .int x :: sk) st Q = (if decide (x = y) = true then am_g d X am_m8900 2671 [v0, v1, v2, v3, v4, v5, v6, v7, v8] sk st Q else am_g d X am_m8900 2669 [v0, v1, v2, v3, v4, v5, v6, v7, v8] sk st Q) := am_gu.trans rfl
set_option maxRecDepth 100000 in
theorem u8900_2669 {v0 : Value} {v1 : Value} {v2 : Value} {v3 : Value} {v4 : Value} {v5 : Value} {v6 : Value} {v7 : Value} {v8 : Value} : am_g d X am_m8900 2669 [v0, v1, v2, v3, v4, v5, v6, v7, v8] sk st Q = am_g d X am_m8900 2670 [v0, v1, v2, v3, v4, v5, v6, v7, v8] (.int (am_i 0) :: sk) st Q := am_gu.trans rfl
set_option maxRecDepth 100000 in
theorem u8900_2670 {v0 : Value} {v1 : Value} {v2 : Value} {v3 : Value} {v4 : Value} {v5 : Value} {v6 : Value} {v7 : Value} {v8 : Value} {x : Int32} : am_g d X am_m8900 2670 [v0, v1, v2, v3, v4, v5, v6, v7, v8] [.int x] st Q = ((x = 0 ∨ x = 1) ∧ Q (.inl (some (.int x))) st) := am_gu.trans rfl
set_option maxRecDepth 100000 in
theorem u8900_2671 {v0 : Value} {v1 : Value} {v2 : Value} {v3 : Value} {v4 : Value} {v6 : Value} {v7 : Value} {v8 : Value} {x : Int32} : am_g d X am_m8900 2671 [v0, v1, v2, v3, v4, .int x, v6, v7, v8] sk st Q = am_g d X am_m8900 2673 [v0, v1, v2, v3, v4, .int x, v6, v7, v8] (.int x :: sk) st Q := am_gu.trans rfl
set_option maxRecDepth 100000 in
theorem u8900_2673 {v0 : Value} {v1 : Value} {v2 : Value} {v3 : Value} {v4 : Value} {v5 : Value} {v6 : Value} {v7 : Value} {v8 : Value} {x : Int32} : am_g d X am_m8900 2673 [v0, v1, v2, v3, v4, v5, v6, v7, v8] (.int x :: sk) st Q = (if decide (¬ x = 0) = true then am_g d X am_m8900 2688 [v0, v1, v2, v3, v4, v5, v6, v7, v8] sk st Q else am_g d X am_m8900 2676 [v0, v1, v2, v3, v4, v5, v6, v7, v8] sk st Q) := am_gu.trans rfl
set_option maxRecDepth 100000 in
theorem u8900_2676 {v0 : Value} {v1 : Value} {v2 : Value} {v4 : Value} {v5 : Value} {v6 : Value} {v7 : Value} {v8 : Value} {x : Nat} : am_g d X am_m8900 2676 [v0, v1, v2, .ref x, v4, v5, v6, v7, v8] sk st Q = am_g d X am_m8900 2677 [v0, v1, v2, .ref x, v4, v5, v6, v7, v8] (.ref x :: sk) st Q := am_gu.trans rfl
set_option maxRecDepth 100000 in
theorem u8900_2677 {v0 : Value} {v1 : Value} {v2 : Value} {v3 : Value} {v4 : Value} {v5 : Value} {v6 : Value} {v7 : Value} {v8 : Value} : am_g d X am_m8900 2677 [v0, v1, v2, v3, v4, v5, v6, v7, v8] sk st Q = am_g d X am_m8900 2678 [v0, v1, v2, v3, v4, v5, v6, v7, v8] (.int (am_i 0) :: sk) st Q := am_gu.trans rfl
set_option maxRecDepth 100000 in
theorem u8900_2678 {v0 : Value} {v1 : Value} {v2 : Value} {v3 : Value} {v4 : Value} {v5 : Value} {v6 : Value} {v7 : Value} {v8 : Value} : am_g d X am_m8900 2678 [v0, v1, v2, v3, v4, v5, v6, v7, v8] sk st Q = am_jl 2679 [v0, v1, v2, v3, v4, v5, v6, v7, v8] sk st (fun pc lc sk st => am_g d X am_m8900 pc lc sk st Q) := am_gu.trans rfl
set_option maxRecDepth 100000 in
theorem u8900_2679 {v0 : Value} {v1 : Value} {v2 : Value} {v3 : Value} {v4 : Value} {v5 : Value} {v7 : Value} {v8 : Value} {x : Int32} : am_g d X am_m8900 2679 [v0, v1, v2, v3, v4, v5, .int x, v7, v8] sk st Q = am_g d X am_m8900 2681 [v0, v1, v2, v3, v4, v5, .int x, v7, v8] (.int x :: sk) st Q := am_gu.trans rfl
set_option maxRecDepth 100000 in
theorem u8900_2681 {v0 : Value} {v1 : Value} {v2 : Value} {v3 : Value} {v4 : Value} {v5 : Value} {v6 : Value} {v7 : Value} {v8 : Value} {x : Int32} : am_g d X am_m8900 2681 [v0, v1, v2, v3, v4, v5, v6, v7, v8] (.int x :: sk) st Q = am_g d X am_m8900 2682 [v0, v1, v2, v3, v4, v5, v6, v7, v8] (.long x.toInt64 :: sk) st Q := am_gu.trans rfl
set_option maxRecDepth 100000 in
theorem u8900_2682 {v0 : Value} {v1 : Value} {v2 : Value} {v3 : Value} {v4 : Value} {v5 : Value} {v6 : Value} {v7 : Value} {v8 : Value} {x : Int64} {y : Int64} : am_g d X am_m8900 2682 [v0, v1, v2, v3, v4, v5, v6, v7, v8] (.long y :: .long x :: sk) st Q = am_g d X am_m8900 2683 [v0, v1, v2, v3, v4, v5, v6, v7, v8] (.int (lg_cmp x y) :: sk) st Q := am_gu.trans rfl
set_option maxRecDepth 100000 in
theorem u8900_2683 {v0 : Value} {v1 : Value} {v2 : Value} {v3 : Value} {v4 : Value} {v5 : Value} {v6 : Value} {v7 : Value} {v8 : Value} {x : Int32} : am_g d X am_m8900 2683 [v0, v1, v2, v3, v4, v5, v6, v7, v8] (.int x :: sk) st Q = (if decide (x = 0) = true then am_g d X am_m8900 2688 [v0, v1, v2, v3, v4, v5, v6, v7, v8] sk st Q else am_g d X am_m8900 2686 [v0, v1, v2, v3, v4, v5, v6, v7, v8] sk st Q) := am_gu.trans rfl
set_option maxRecDepth 100000 in
theorem u8900_2686 {v0 : Value} {v1 : Value} {v2 : Value} {v3 : Value} {v4 : Value} {v5 : Value} {v6 : Value} {v7 : Value} {v8 : Value} : am_g d X am_m8900 2686 [v0, v1, v2, v3, v4, v5, v6, v7, v8] sk st Q = am_g d X am_m8900 2687 [v0, v1, v2, v3, v4, v5, v6, v7, v8] (.int (am_i 0) :: sk) st Q := am_gu.trans rfl
set_option maxRecDepth 100000 in
theorem u8900_2687 {v0 : Value} {v1 : Value} {v2 : Value} {v3 : Value} {v4 : Value} {v5 : Value} {v6 : Value} {v7 : Value} {v8 : Value} {x : Int32} : am_g d X am_m8900 2687 [v0, v1, v2, v3, v4, v5, v6, v7, v8] [.int x] st Q = ((x = 0 ∨ x = 1) ∧ Q (.inl (some (.int x))) st) := am_gu.trans rfl
set_option maxRecDepth 100000 in
theorem u8900_2688 {v0 : Value} {v1 : Value} {v2 : Value} {v3 : Value} {v4 : Value} {v5 : Value} {v6 : Value} {v7 : Value} {v8 : Value} : am_g d X am_m8900 2688 [v0, v1, v2, v3, v4, v5, v6, v7, v8] sk st Q = am_g d X am_m8900 2998 [v0, v1, v2, v3, v4, v5, v6, v7, v8] sk st Q := am_gu.trans rfl
set_option maxRecDepth 100000 in
theorem u8900_2691 {v0 : Value} {v2 : Value} {v3 : Value} {v4 : Value} {v5 : Value} {v6 : Value} {v7 : Value} {v8 : Value} {x : Nat} : am_g d X am_m8900 2691 [v0, .ref x, v2, v3, v4, v5, v6, v7, v8] sk st Q = am_g d X am_m8900 2692 [v0, .ref x, v2, v3, v4, v5, v6, v7, v8] (.ref x :: sk) st Q := am_gu.trans rfl
set_option maxRecDepth 100000 in
theorem u8900_2692 {v1 : Value} {v2 : Value} {v3 : Value} {v4 : Value} {v5 : Value} {v6 : Value} {v7 : Value} {v8 : Value} : am_g d X am_m8900 2692 [.retAddr 0, v1, v2, v3, v4, v5, v6, v7, v8] sk st Q = am_g d X am_m8900 2693 [.retAddr 0, v1, v2, v3, v4, v5, v6, v7, v8] (.retAddr 0 :: sk) st Q := am_gu.trans rfl
set_option maxRecDepth 100000 in
theorem u8900_2693 {v0 : Value} {v1 : Value} {v2 : Value} {v3 : Value} {v5 : Value} {v6 : Value} {v7 : Value} {v8 : Value} {x : Int32} : am_g d X am_m8900 2693 [v0, v1, v2, v3, .int x, v5, v6, v7, v8] sk st Q = am_g d X am_m8900 2695 [v0, v1, v2, v3, .int x, v5, v6, v7, v8] (.int x :: sk) st Q := am_gu.trans rfl
set_option maxRecDepth 100000 in
theorem u8900_2695 {v0 : Value} {v1 : Value} {v2 : Value} {v3 : Value} {v4 : Value} {v5 : Value} {v6 : Value} {v7 : Value} {v8 : Value} : am_g d X am_m8900 2695 [v0, v1, v2, v3, v4, v5, v6, v7, v8] sk st Q = am_g d X am_m8900 2696 [v0, v1, v2, v3, v4, v5, v6, v7, v8] (.int (am_i 1) :: sk) st Q := am_gu.trans rfl
set_option maxRecDepth 100000 in
theorem u8900_2696 {v0 : Value} {v1 : Value} {v2 : Value} {v3 : Value} {v4 : Value} {v5 : Value} {v6 : Value} {v7 : Value} {v8 : Value} {x : Int32} {y : Int32} : am_g d X am_m8900 2696 [v0, v1, v2, v3, v4, v5, v6, v7, v8] (.int y :: .int x :: sk) st Q = am_g d X am_m8900 2697 [v0, v1, v2, v3, v4, v5, v6, v7, v8] (.int (x + y) :: sk) st Q := am_gu.trans rfl
set_option maxRecDepth 100000 in
theorem u8900_2697 {v0 : Value} {v1 : Value} {v2 : Value} {v3 : Value} {v4 : Value} {v5 : Value} {v6 : Value} {v7 : Value} {v8 : Value} : am_g d X am_m8900 2697 [v0, v1, v2, v3, v4, v5, v6, v7, v8] sk st Q = am_xl (X.1, X.2.1, d) am_m8900 2698 [v0, v1, v2, v3, v4, v5, v6, v7, v8] sk st (fun pc lc sk st => am_g d X am_m8900 pc lc sk st Q) := am_gu.trans rfl
set_option maxRecDepth 100000 in
theorem u8900_2698 {v1 : Value} {v2 : Value} {v3 : Value} {v4 : Value} {v5 : Value} {v6 : Value} {v7 : Value} {v8 : Value} : am_g d X am_m8900 2698 [.retAddr 0, v1, v2, v3, v4, v5, v6, v7, v8] sk st Q = am_g d X am_m8900 2699 [.retAddr 0, v1, v2, v3, v4, v5, v6, v7, v8] (.retAddr 0 :: sk) st Q := am_gu.trans rfl
set_option maxRecDepth 100000 in
theorem u8900_2699 {v0 : Value} {v1 : Value} {v2 : Value} {v3 : Value} {v5 : Value} {v6 : Value} {v7 : Value} {v8 : Value} {x : Int32} : am_g d X am_m8900 2699 [v0, v1, v2, v3, .int x, v5, v6, v7, v8] sk st Q = am_g d X am_m8900 2701 [v0, v1, v2, v3, .int x, v5, v6, v7, v8] (.int x :: sk) st Q := am_gu.trans rfl
set_option maxRecDepth 100000 in
theorem u8900_2701 {v0 : Value} {v1 : Value} {v2 : Value} {v3 : Value} {v4 : Value} {v5 : Value} {v6 : Value} {v7 : Value} {v8 : Value} : am_g d X am_m8900 2701 [v0, v1, v2, v3, v4, v5, v6, v7, v8] sk st Q = am_g d X am_m8900 2702 [v0, v1, v2, v3, v4, v5, v6, v7, v8] (.int (am_i 2) :: sk) st Q := am_gu.trans rfl
set_option maxRecDepth 100000 in
theorem u8900_2702 {v0 : Value} {v1 : Value} {v2 : Value} {v3 : Value} {v4 : Value} {v5 : Value} {v6 : Value} {v7 : Value} {v8 : Value} {x : Int32} {y : Int32} : am_g d X am_m8900 2702 [v0, v1, v2, v3, v4, v5, v6, v7, v8] (.int y :: .int x :: sk) st Q = am_g d X am_m8900 2703 [v0, v1, v2, v3, v4, v5, v6, v7, v8] (.int (x + y) :: sk) st Q := am_gu.trans rfl
set_option maxRecDepth 100000 in
theorem u8900_2703 {v0 : Value} {v1 : Value} {v2 : Value} {v3 : Value} {v4 : Value} {v5 : Value} {v6 : Value} {v7 : Value} {v8 : Value} : am_g d X am_m8900 2703 [v0, v1, v2, v3, v4, v5, v6, v7, v8] sk st Q = am_xl (X.1, X.2.1, d) am_m8900 2704 [v0, v1, v2, v3, v4, v5, v6, v7, v8] sk st (fun pc lc sk st => am_g d X am_m8900 pc lc sk st Q) := am_gu.trans rfl
set_option maxRecDepth 100000 in
theorem u8900_2704 {v0 : Value} {v1 : Value} {v2 : Value} {v4 : Value} {v5 : Value} {v6 : Value} {v7 : Value} {v8 : Value} {x : Nat} : am_g d X am_m8900 2704 [v0, v1, v2, .ref x, v4, v5, v6, v7, v8] sk st Q = am_g d X am_m8900 2705 [v0, v1, v2, .ref x, v4, v5, v6, v7, v8] (.ref x :: sk) st Q := am_gu.trans rfl
set_option maxRecDepth 100000 in
theorem u8900_2705 {a0 : Value} {a1 : Value} {a2 : Value} {a3 : Value} {v0 : Value} {v1 : Value} {v2 : Value} {v3 : Value} {v4 : Value} {v5 : Value} {v6 : Value} {v7 : Value} {v8 : Value} : am_g d X am_m8900 2705 [v0, v1, v2, v3, v4, v5, v6, v7, v8] (a3 :: a2 :: a1 :: a0 :: sk) st Q = (sk.length ≤ 4 ∧ am_Ca X d 8036 [a0, a1, a2, a3] st (am_af am_m8900 2705 [v0, v1, v2, v3, v4, v5, v6, v7, v8] sk (fun pc lc sk st => am_g d X am_m8900 pc lc sk st Q) Q)) := am_gu.trans (propext ⟨fun h => ⟨h.1.2, h.2⟩, fun h => ⟨⟨Nat.le_add_left _ _, h.1⟩, h.2⟩⟩)
set_option maxRecDepth 100000 in
theorem u8900_2708 {v0 : Value} {v1 : Value} {v2 : Value} {v3 : Value} {v4 : Value} {v5 : Value} {v6 : Value} {v7 : Value} {v8 : Value} {x : Int32} : am_g d X am_m8900 2708 [v0, v1, v2, v3, v4, v5, v6, v7, v8] (.int x :: sk) st Q = am_g d X am_m8900 2710 [v0, v1, v2, v3, am_kc v4, .int x, v6, v7, v8] sk st Q := am_gu.trans (congrArg (fun l => am_g d X am_m8900 2710 (List.set l 5 (.int x)) sk st Q) (kl_5 (l := [v5, v6, v7, v8])))
set_option maxRecDepth 100000 in
theorem u8900_2710 {v0 : Value} {v1 : Value} {v3 : Value} {v4 : Value} {v5 : Value} {v6 : Value} {v7 : Value} {v8 : Value} {x : Nat} : am_g d X am_m8900 2710 [v0, v1, .ref x, v3, v4, v5, v6, v7, v8] sk st Q = am_g d X am_m8900 2711 [v0, v1, .ref x, v3, v4, v5, v6, v7, v8] (.ref x :: sk) st Q := am_gu.trans rfl
set_option maxRecDepth 100000 in
theorem u8900_2711 {v1 : Value} {v2 : Value} {v3 : Value} {v4 : Value} {v5 : Value} {v6 : Value} {v7 : Value} {v8 : Value} : am_g d X am_m8900 2711 [.retAddr 0, v1, v2, v3, v4, v5, v6, v7, v8] sk st Q = am_g d X am_m8900 2712 [.retAddr 0, v1, v2, v3, v4, v5, v6, v7, v8] (.retAddr 0 :: sk) st Q := am_gu.trans rfl
set_option maxRecDepth 100000 in
theorem u8900_2712 {v0 : Value} {v1 : Value} {v2 : Value} {v3 : Value} {v5 : Value} {v6 : Value} {v7 : Value} {v8 : Value} {x : Int32} : am_g d X am_m8900 2712 [v0, v1, v2, v3, .int x, v5, v6, v7, v8] sk st Q = am_g d X am_m8900 2714 [v0, v1, v2, v3, .int x, v5, v6, v7, v8] (.int x :: sk) st Q := am_gu.trans rfl
set_option maxRecDepth 100000 in
theorem u8900_2714 {v0 : Value} {v1 : Value} {v2 : Value} {v3 : Value} {v4 : Value} {v5 : Value} {v6 : Value} {v7 : Value} {v8 : Value} : am_g d X am_m8900 2714 [v0, v1, v2, v3, v4, v5, v6, v7, v8] sk st Q = am_g d X am_m8900 2715 [v0, v1, v2, v3, v4, v5, v6, v7, v8] (.int (am_i 1) :: sk) st Q := am_gu.trans rfl
set_option maxRecDepth 100000 in
theorem u8900_2715 {v0 : Value} {v1 : Value} {v2 : Value} {v3 : Value} {v4 : Value} {v5 : Value} {v6 : Value} {v7 : Value} {v8 : Value} {x : Int32} {y : Int32} : am_g d X am_m8900 2715 [v0, v1, v2, v3, v4, v5, v6, v7, v8] (.int y :: .int x :: sk) st Q = am_g d X am_m8900 2716 [v0, v1, v2, v3, v4, v5, v6, v7, v8] (.int (x + y) :: sk) st Q := am_gu.trans rfl
set_option maxRecDepth 100000 in
theorem u8900_2716 {v0 : Value} {v1 : Value} {v2 : Value} {v3 : Value} {v4 : Value} {v5 : Value} {v6 : Value} {v7 : Value} {v8 : Value} : am_g d X am_m8900 2716 [v0, v1, v2, v3, v4, v5, v6, v7, v8] sk st Q = am_xl (X.1, X.2.1, d) am_m8900 2717 [v0, v1, v2, v3, v4, v5, v6, v7, v8] sk st (fun pc lc sk st => am_g d X am_m8900 pc lc sk st Q) := am_gu.trans rfl
set_option maxRecDepth 100000 in
theorem u8900_2717 {v1 : Value} {v2 : Value} {v3 : Value} {v4 : Value} {v5 : Value} {v6 : Value} {v7 : Value} {v8 : Value} : am_g d X am_m8900 2717 [.retAddr 0, v1, v2, v3, v4, v5, v6, v7, v8] sk st Q = am_g d X am_m8900 2718 [.retAddr 0, v1, v2, v3, v4, v5, v6, v7, v8] (.retAddr 0 :: sk) st Q := am_gu.trans rfl
set_option maxRecDepth 100000 in
theorem u8900_2718 {v0 : Value} {v1 : Value} {v2 : Value} {v3 : Value} {v5 : Value} {v6 : Value} {v7 : Value} {v8 : Value} {x : Int32} : am_g d X am_m8900 2718 [v0, v1, v2, v3, .int x, v5, v6, v7, v8] sk st Q = am_g d X am_m8900 2720 [v0, v1, v2, v3, .int x, v5, v6, v7, v8] (.int x :: sk) st Q := am_gu.trans rfl
set_option maxRecDepth 100000 in
theorem u8900_2720 {v0 : Value} {v1 : Value} {v2 : Value} {v3 : Value} {v4 : Value} {v5 : Value} {v6 : Value} {v7 : Value} {v8 : Value} : am_g d X am_m8900 2720 [v0, v1, v2, v3, v4, v5, v6, v7, v8] sk st Q = am_g d X am_m8900 2721 [v0, v1, v2, v3, v4, v5, v6, v7, v8] (.int (am_i 2) :: sk) st Q := am_gu.trans rfl
set_option maxRecDepth 100000 in
theorem u8900_2721 {v0 : Value} {v1 : Value} {v2 : Value} {v3 : Value} {v4 : Value} {v5 : Value} {v6 : Value} {v7 : Value} {v8 : Value} {x : Int32} {y : Int32} : am_g d X am_m8900 2721 [v0, v1, v2, v3, v4, v5, v6, v7, v8] (.int y :: .int x :: sk) st Q = am_g d X am_m8900 2722 [v0, v1, v2, v3, v4, v5, v6, v7, v8] (.int (x + y) :: sk) st Q := am_gu.trans rfl
set_option maxRecDepth 100000 in
theorem u8900_2722 {v0 : Value} {v1 : Value} {v2 : Value} {v3 : Value} {v4 : Value} {v5 : Value} {v6 : Value} {v7 : Value} {v8 : Value} : am_g d X am_m8900 2722 [v0, v1, v2, v3, v4, v5, v6, v7, v8] sk st Q = am_xl (X.1, X.2.1, d) am_m8900 2723 [v0, v1, v2, v3, v4, v5, v6, v7, v8] sk st (fun pc lc sk st => am_g d X am_m8900 pc lc sk st Q) := am_gu.trans rfl
set_option maxRecDepth 100000 in
theorem u8900_2723 {a0 : Value} {a1 : Value} {v0 : Value} {v1 : Value} {v2 : Value} {v3 : Value} {v4 : Value} {v5 : Value} {v6 : Value} {v7 : Value} {v8 : Value} : am_g d X am_m8900 2723 [v0, v1, v2, v3, v4, v5, v6, v7, v8] (a1 :: a0 :: .ref o :: sk) st Q = ((am_ob st o 7 ∧ sk.length ≤ 4) ∧ am_Ca X d 7118 [.ref o, a0, a1] st (am_af am_m8900 2723 [v0, v1, v2, v3, v4, v5, v6, v7, v8] sk (fun pc lc sk st => am_g d X am_m8900 pc lc sk st Q) Q)) := am_gu.trans rfl
set_option maxRecDepth 100000 in
theorem u8900_2726 {v0 : Value} {v1 : Value} {v2 : Value} {v3 : Value} {v4 : Value} {v5 : Value} {v6 : Value} {v7 : Value} {v8 : Value} {x : Int32} : am_g d X am_m8900 2726 [v0, v1, v2, v3, v4, v5, v6, v7, v8] (.int x :: sk) st Q = am_g d X am_m8900 2728 [v0, v1, v2, v3, v4, am_kc v5, .int x, v7, v8] sk st Q := am_gu.trans (congrArg (fun l => am_g d X am_m8900 2728 (List.set l 6 (.int x)) sk st Q) (kl_6 (l := [v6, v7, v8])))
set_option maxRecDepth 100000 in
theorem u8900_2728 {v0 : Value} {v1 : Value} {v3 : Value} {v4 : Value} {v5 : Value} {v6 : Value} {v7 : Value} {v8 : Value} {x : Nat} : am_g d X am_m8900 2728 [v0, v1, .ref x, v3, v4, v5, v6, v7, v8] sk st Q = am_g d X am_m8900 2729 [v0, v1, .ref x, v3, v4, v5, v6, v7, v8] (.ref x :: sk) st Q := am_gu.trans rfl
set_option maxRecDepth 100000 in
theorem u8900_2729 {v0 : Value} {v1 : Value} {v2 : Value} {v3 : Value} {v4 : Value} {v5 : Value} {v6 : Value} {v7 : Value} {v8 : Value} : am_g d X am_m8900 2729 [v0, v1, v2, v3, v4, v5, v6, v7, v8] (.ref o :: sk) st Q = ((am_ob st o 7 ∧ sk.length ≤ 4) ∧ am_Ca X d 7002 [.ref o] st (am_af am_m8900 2729 [v0, v1, v2, v3, v4, v5, v6, v7, v8] sk (fun pc lc sk st => am_g d X am_m8900 pc lc sk st Q) Q)) := am_gu.trans rfl
set_option maxRecDepth 100000 in
theorem u8900_2732 {v0 : Value} {v1 : Value} {v2 : Value} {v3 : Value} {v4 : Value} {v6 : Value} {v7 : Value} {v8 : Value} {x : Int32} : am_g d X am_m8900 2732 [v0, v1, v2, v3, v4, .int x, v6, v7, v8] sk st Q = am_g d X am_m8900 2734 [v0, v1, v2, v3, v4, .int x, v6, v7, v8] (.int x :: sk) st Q := am_gu.trans rfl
set_option maxRecDepth 100000 in
theorem u8900_2734 {v0 : Value} {v1 : Value} {v2 : Value} {v3 : Value} {v4 : Value} {v5 : Value} {v6 : Value} {v7 : Value} {v8 : Value} {x : Int32} {y : Int32} : am_g d X am_m8900 2734 [v0, v1, v2, v3, v4, v5, v6, v7, v8] (.int y :: .int x :: sk) st Q = (if decide (x = y) = true then am_g d X am_m8900 2739 [v0, v1, v2, v3, v4, v5, v6, v7, v8] sk st Q else am_g d X am_m8900 2737 [v0, v1, v2, v3, v4, v5, v6, v7, v8] sk st Q) := am_gu.trans rfl
set_option maxRecDepth 100000 in
theorem u8900_2737 {v0 : Value} {v1 : Value} {v2 : Value} {v3 : Value} {v4 : Value} {v5 : Value} {v6 : Value} {v7 : Value} {v8 : Value} : am_g d X am_m8900 2737 [v0, v1, v2, v3, v4, v5, v6, v7, v8] sk st Q = am_g d X am_m8900 2738 [v0, v1, v2, v3, v4, v5, v6, v7, v8] (.int (am_i 0) :: sk) st Q := am_gu.trans rfl
set_option maxRecDepth 100000 in
theorem u8900_2738 {v0 : Value} {v1 : Value} {v2 : Value} {v3 : Value} {v4 : Value} {v5 : Value} {v6 : Value} {v7 : Value} {v8 : Value} {x : Int32} : am_g d X am_m8900 2738 [v0, v1, v2, v3, v4, v5, v6, v7, v8] [.int x] st Q = ((x = 0 ∨ x = 1) ∧ Q (.inl (some (.int x))) st) := am_gu.trans rfl
set_option maxRecDepth 100000 in
theorem u8900_2739 {v0 : Value} {v1 : Value} {v2 : Value} {v3 : Value} {v4 : Value} {v6 : Value} {v7 : Value} {v8 : Value} {x : Int32} : am_g d X am_m8900 2739 [v0, v1, v2, v3, v4, .int x, v6, v7, v8] sk st Q = am_g d X am_m8900 2741 [v0, v1, v2, v3, v4, .int x, v6, v7, v8] (.int x :: sk) st Q := am_gu.trans rfl
set_option maxRecDepth 100000 in
theorem u8900_2741 {v0 : Value} {v1 : Value} {v2 : Value} {v3 : Value} {v4 : Value} {v5 : Value} {v6 : Value} {v7 : Value} {v8 : Value} {x : Int32} : am_g d X am_m8900 2741 [v0, v1, v2, v3, v4, v5, v6, v7, v8] (.int x :: sk) st Q = (if decide (¬ x = 0) = true then am_g d X am_m8900 2756 [v0, v1, v2, v3, v4, v5, v6, v7, v8] sk st Q else am_g d X am_m8900 2744 [v0, v1, v2, v3, v4, v5, v6, v7, v8] sk st Q) := am_gu.trans rfl
set_option maxRecDepth 100000 in
theorem u8900_2744 {v0 : Value} {v1 : Value} {v2 : Value} {v4 : Value} {v5 : Value} {v6 : Value} {v7 : Value} {v8 : Value} {x : Nat} : am_g d X am_m8900 2744 [v0, v1, v2, .ref x, v4, v5, v6, v7, v8] sk st Q = am_g d X am_m8900 2745 [v0, v1, v2, .ref x, v4, v5, v6, v7, v8] (.ref x :: sk) st Q := am_gu.trans rfl
set_option maxRecDepth 100000 in
theorem u8900_2745 {v0 : Value} {v1 : Value} {v2 : Value} {v3 : Value} {v4 : Value} {v5 : Value} {v6 : Value} {v7 : Value} {v8 : Value} : am_g d X am_m8900 2745 [v0, v1, v2, v3, v4, v5, v6, v7, v8] sk st Q = am_g d X am_m8900 2746 [v0, v1, v2, v3, v4, v5, v6, v7, v8] (.int (am_i 0) :: sk) st Q := am_gu.trans rfl
set_option maxRecDepth 100000 in
theorem u8900_2746 {v0 : Value} {v1 : Value} {v2 : Value} {v3 : Value} {v4 : Value} {v5 : Value} {v6 : Value} {v7 : Value} {v8 : Value} : am_g d X am_m8900 2746 [v0, v1, v2, v3, v4, v5, v6, v7, v8] sk st Q = am_jl 2747 [v0, v1, v2, v3, v4, v5, v6, v7, v8] sk st (fun pc lc sk st => am_g d X am_m8900 pc lc sk st Q) := am_gu.trans rfl
set_option maxRecDepth 100000 in
theorem u8900_2747 {v0 : Value} {v1 : Value} {v2 : Value} {v3 : Value} {v4 : Value} {v5 : Value} {v7 : Value} {v8 : Value} {x : Int32} : am_g d X am_m8900 2747 [v0, v1, v2, v3, v4, v5, .int x, v7, v8] sk st Q = am_g d X am_m8900 2749 [v0, v1, v2, v3, v4, v5, .int x, v7, v8] (.int x :: sk) st Q := am_gu.trans rfl
set_option maxRecDepth 100000 in
theorem u8900_2749 {v0 : Value} {v1 : Value} {v2 : Value} {v3 : Value} {v4 : Value} {v5 : Value} {v6 : Value} {v7 : Value} {v8 : Value} {x : Int32} : am_g d X am_m8900 2749 [v0, v1, v2, v3, v4, v5, v6, v7, v8] (.int x :: sk) st Q = am_g d X am_m8900 2750 [v0, v1, v2, v3, v4, v5, v6, v7, v8] (.long x.toInt64 :: sk) st Q := am_gu.trans rfl
set_option maxRecDepth 100000 in
theorem u8900_2750 {v0 : Value} {v1 : Value} {v2 : Value} {v3 : Value} {v4 : Value} {v5 : Value} {v6 : Value} {v7 : Value} {v8 : Value} {x : Int64} {y : Int64} : am_g d X am_m8900 2750 [v0, v1, v2, v3, v4, v5, v6, v7, v8] (.long y :: .long x :: sk) st Q = am_g d X am_m8900 2751 [v0, v1, v2, v3, v4, v5, v6, v7, v8] (.int (lg_cmp x y) :: sk) st Q := am_gu.trans rfl
set_option maxRecDepth 100000 in
theorem u8900_2751 {v0 : Value} {v1 : Value} {v2 : Value} {v3 : Value} {v4 : Value} {v5 : Value} {v6 : Value} {v7 : Value} {v8 : Value} {x : Int32} : am_g d X am_m8900 2751 [v0, v1, v2, v3, v4, v5, v6, v7, v8] (.int x :: sk) st Q = (if decide (x = 0) = true then am_g d X am_m8900 2756 [v0, v1, v2, v3, v4, v5, v6, v7, v8] sk st Q else am_g d X am_m8900 2754 [v0, v1, v2, v3, v4, v5, v6, v7, v8] sk st Q) := am_gu.trans rfl
set_option maxRecDepth 100000 in
theorem u8900_2754 {v0 : Value} {v1 : Value} {v2 : Value} {v3 : Value} {v4 : Value} {v5 : Value} {v6 : Value} {v7 : Value} {v8 : Value} : am_g d X am_m8900 2754 [v0, v1, v2, v3, v4, v5, v6, v7, v8] sk st Q = am_g d X am_m8900 2755 [v0, v1, v2, v3, v4, v5, v6, v7, v8] (.int (am_i 0) :: sk) st Q := am_gu.trans rfl
set_option maxRecDepth 100000 in
theorem u8900_2755 {v0 : Value} {v1 : Value} {v2 : Value} {v3 : Value} {v4 : Value} {v5 : Value} {v6 : Value} {v7 : Value} {v8 : Value} {x : Int32} : am_g d X am_m8900 2755 [v0, v1, v2, v3, v4, v5, v6, v7, v8] [.int x] st Q = ((x = 0 ∨ x = 1) ∧ Q (.inl (some (.int x))) st) := am_gu.trans rfl
set_option maxRecDepth 100000 in
theorem u8900_2756 {v0 : Value} {v1 : Value} {v2 : Value} {v3 : Value} {v4 : Value} {v5 : Value} {v6 : Value} {v7 : Value} {v8 : Value} : am_g d X am_m8900 2756 [v0, v1, v2, v3, v4, v5, v6, v7, v8] sk st Q = am_g d X am_m8900 2998 [v0, v1, v2, v3, v4, v5, v6, v7, v8] sk st Q := am_gu.trans rfl
set_option maxRecDepth 100000 in
theorem u8900_2759 {v0 : Value} {v2 : Value} {v3 : Value} {v4 : Value} {v5 : Value} {v6 : Value} {v7 : Value} {v8 : Value} {x : Nat} : am_g d X am_m8900 2759 [v0, .ref x, v2, v3, v4, v5, v6, v7, v8] sk st Q = am_g d X am_m8900 2760 [v0, .ref x, v2, v3, v4, v5, v6, v7, v8] (.ref x :: sk) st Q := am_gu.trans rfl
set_option maxRecDepth 100000 in
theorem u8900_2760 {v1 : Value} {v2 : Value} {v3 : Value} {v4 : Value} {v5 : Value} {v6 : Value} {v7 : Value} {v8 : Value} : am_g d X am_m8900 2760 [.retAddr 0, v1, v2, v3, v4, v5, v6, v7, v8] sk st Q = am_g d X am_m8900 2761 [.retAddr 0, v1, v2, v3, v4, v5, v6, v7, v8] (.retAddr 0 :: sk) st Q := am_gu.trans rfl
set_option maxRecDepth 100000 in
theorem u8900_2761 {v0 : Value} {v1 : Value} {v2 : Value} {v3 : Value} {v5 : Value} {v6 : Value} {v7 : Value} {v8 : Value} {x : Int32} : am_g d X am_m8900 2761 [v0, v1, v2, v3, .int x, v5, v6, v7, v8] sk st Q = am_g d X am_m8900 2763 [v0, v1, v2, v3, .int x, v5, v6, v7, v8] (.int x :: sk) st Q := am_gu.trans rfl
set_option maxRecDepth 100000 in
theorem u8900_2763 {v0 : Value} {v1 : Value} {v2 : Value} {v3 : Value} {v4 : Value} {v5 : Value} {v6 : Value} {v7 : Value} {v8 : Value} : am_g d X am_m8900 2763 [v0, v1, v2, v3, v4, v5, v6, v7, v8] sk st Q = am_g d X am_m8900 2764 [v0, v1, v2, v3, v4, v5, v6, v7, v8] (.int (am_i 1) :: sk) st Q := am_gu.trans rfl
set_option maxRecDepth 100000 in
theorem u8900_2764 {v0 : Value} {v1 : Value} {v2 : Value} {v3 : Value} {v4 : Value} {v5 : Value} {v6 : Value} {v7 : Value} {v8 : Value} {x : Int32} {y : Int32} : am_g d X am_m8900 2764 [v0, v1, v2, v3, v4, v5, v6, v7, v8] (.int y :: .int x :: sk) st Q = am_g d X am_m8900 2765 [v0, v1, v2, v3, v4, v5, v6, v7, v8] (.int (x + y) :: sk) st Q := am_gu.trans rfl
set_option maxRecDepth 100000 in
theorem u8900_2765 {v0 : Value} {v1 : Value} {v2 : Value} {v3 : Value} {v4 : Value} {v5 : Value} {v6 : Value} {v7 : Value} {v8 : Value} : am_g d X am_m8900 2765 [v0, v1, v2, v3, v4, v5, v6, v7, v8] sk st Q = am_xl (X.1, X.2.1, d) am_m8900 2766 [v0, v1, v2, v3, v4, v5, v6, v7, v8] sk st (fun pc lc sk st => am_g d X am_m8900 pc lc sk st Q) := am_gu.trans rfl
set_option maxRecDepth 100000 in
theorem u8900_2766 {v0 : Value} {v1 : Value} {v2 : Value} {v4 : Value} {v5 : Value} {v6 : Value} {v7 : Value} {v8 : Value} {x : Nat} : am_g d X am_m8900 2766 [v0, v1, v2, .ref x, v4, v5, v6, v7, v8] sk st Q = am_g d X am_m8900 2767 [v0, v1, v2, .ref x, v4, v5, v6, v7, v8] (.ref x :: sk) st Q := am_gu.trans rfl
set_option maxRecDepth 100000 in
theorem u8900_2767 {a0 : Value} {a1 : Value} {a2 : Value} {v0 : Value} {v1 : Value} {v2 : Value} {v3 : Value} {v4 : Value} {v5 : Value} {v6 : Value} {v7 : Value} {v8 : Value} : am_g d X am_m8900 2767 [v0, v1, v2, v3, v4, v5, v6, v7, v8] (a2 :: a1 :: a0 :: sk) st Q = (sk.length ≤ 4 ∧ am_Ca X d 8037 [a0, a1, a2] st (am_af am_m8900 2767 [v0, v1, v2, v3, v4, v5, v6, v7, v8] sk (fun pc lc sk st => am_g d X am_m8900 pc lc sk st Q) Q)) := am_gu.trans (propext ⟨fun h => ⟨h.1.2, h.2⟩, fun h => ⟨⟨Nat.le_add_left _ _, h.1⟩, h.2⟩⟩)
set_option maxRecDepth 100000 in
theorem u8900_2770 {v0 : Value} {v1 : Value} {v2 : Value} {v3 : Value} {v4 : Value} {v5 : Value} {v6 : Value} {v7 : Value} {v8 : Value} {x : Int32} : am_g d X am_m8900 2770 [v0, v1, v2, v3, v4, v5, v6, v7, v8] (.int x :: sk) st Q = am_g d X am_m8900 2772 [v0, v1, v2, v3, am_kc v4, .int x, v6, v7, v8] sk st Q := am_gu.trans (congrArg (fun l => am_g d X am_m8900 2772 (List.set l 5 (.int x)) sk st Q) (kl_5 (l := [v5, v6, v7, v8])))
set_option maxRecDepth 100000 in
theorem u8900_2772 {v0 : Value} {v1 : Value} {v3 : Value} {v4 : Value} {v5 : Value} {v6 : Value} {v7 : Value} {v8 : Value} {x : Nat} : am_g d X am_m8900 2772 [v0, v1, .ref x, v3, v4, v5, v6, v7, v8] sk st Q = am_g d X am_m8900 2773 [v0, v1, .ref x, v3, v4, v5, v6, v7, v8] (.ref x :: sk) st Q := am_gu.trans rfl
set_option maxRecDepth 100000 in
theorem u8900_2773 {v1 : Value} {v2 : Value} {v3 : Value} {v4 : Value} {v5 : Value} {v6 : Value} {v7 : Value} {v8 : Value} : am_g d X am_m8900 2773 [.retAddr 0, v1, v2, v3, v4, v5, v6, v7, v8] sk st Q = am_g d X am_m8900 2774 [.retAddr 0, v1, v2, v3, v4, v5, v6, v7, v8] (.retAddr 0 :: sk) st Q := am_gu.trans rfl
set_option maxRecDepth 100000 in
theorem u8900_2774 {v0 : Value} {v1 : Value} {v2 : Value} {v3 : Value} {v5 : Value} {v6 : Value} {v7 : Value} {v8 : Value} {x : Int32} : am_g d X am_m8900 2774 [v0, v1, v2, v3, .int x, v5, v6, v7, v8] sk st Q = am_g d X am_m8900 2776 [v0, v1, v2, v3, .int x, v5, v6, v7, v8] (.int x :: sk) st Q := am_gu.trans rfl
set_option maxRecDepth 100000 in
theorem u8900_2776 {v0 : Value} {v1 : Value} {v2 : Value} {v3 : Value} {v4 : Value} {v5 : Value} {v6 : Value} {v7 : Value} {v8 : Value} : am_g d X am_m8900 2776 [v0, v1, v2, v3, v4, v5, v6, v7, v8] sk st Q = am_g d X am_m8900 2777 [v0, v1, v2, v3, v4, v5, v6, v7, v8] (.int (am_i 1) :: sk) st Q := am_gu.trans rfl
set_option maxRecDepth 100000 in
theorem u8900_2777 {v0 : Value} {v1 : Value} {v2 : Value} {v3 : Value} {v4 : Value} {v5 : Value} {v6 : Value} {v7 : Value} {v8 : Value} {x : Int32} {y : Int32} : am_g d X am_m8900 2777 [v0, v1, v2, v3, v4, v5, v6, v7, v8] (.int y :: .int x :: sk) st Q = am_g d X am_m8900 2778 [v0, v1, v2, v3, v4, v5, v6, v7, v8] (.int (x + y) :: sk) st Q := am_gu.trans rfl
set_option maxRecDepth 100000 in
theorem u8900_2778 {v0 : Value} {v1 : Value} {v2 : Value} {v3 : Value} {v4 : Value} {v5 : Value} {v6 : Value} {v7 : Value} {v8 : Value} : am_g d X am_m8900 2778 [v0, v1, v2, v3, v4, v5, v6, v7, v8] sk st Q = am_xl (X.1, X.2.1, d) am_m8900 2779 [v0, v1, v2, v3, v4, v5, v6, v7, v8] sk st (fun pc lc sk st => am_g d X am_m8900 pc lc sk st Q) := am_gu.trans rfl
set_option maxRecDepth 100000 in
theorem u8900_2779 {a0 : Value} {v0 : Value} {v1 : Value} {v2 : Value} {v3 : Value} {v4 : Value} {v5 : Value} {v6 : Value} {v7 : Value} {v8 : Value} : am_g d X am_m8900 2779 [v0, v1, v2, v3, v4, v5, v6, v7, v8] (a0 :: .ref o :: sk) st Q = ((am_ob st o 7 ∧ sk.length ≤ 4) ∧ am_Ca X d 7120 [.ref o, a0] st (am_af am_m8900 2779 [v0, v1, v2, v3, v4, v5, v6, v7, v8] sk (fun pc lc sk st => am_g d X am_m8900 pc lc sk st Q) Q)) := am_gu.trans rfl
set_option maxRecDepth 100000 in
theorem u8900_2782 {v0 : Value} {v1 : Value} {v2 : Value} {v3 : Value} {v4 : Value} {v5 : Value} {v6 : Value} {v7 : Value} {v8 : Value} {x : Int32} : am_g d X am_m8900 2782 [v0, v1, v2, v3, v4, v5, v6, v7, v8] (.int x :: sk) st Q = am_g d X am_m8900 2784 [v0, v1, v2, v3, v4, am_kc v5, .int x, v7, v8] sk st Q := am_gu.trans (congrArg (fun l => am_g d X am_m8900 2784 (List.set l 6 (.int x)) sk st Q) (kl_6 (l := [v6, v7, v8])))
set_option maxRecDepth 100000 in
theorem u8900_2784 {v0 : Value} {v1 : Value} {v3 : Value} {v4 : Value} {v5 : Value} {v6 : Value} {v7 : Value} {v8 : Value} {x : Nat} : am_g d X am_m8900 2784 [v0, v1, .ref x, v3, v4, v5, v6, v7, v8] sk st Q = am_g d X am_m8900 2785 [v0, v1, .ref x, v3, v4, v5, v6, v7, v8] (.ref x :: sk) st Q := am_gu.trans rfl
set_option maxRecDepth 100000 in
theorem u8900_2785 {v0 : Value} {v1 : Value} {v2 : Value} {v3 : Value} {v4 : Value} {v5 : Value} {v6 : Value} {v7 : Value} {v8 : Value} : am_g d X am_m8900 2785 [v0, v1, v2, v3, v4, v5, v6, v7, v8] (.ref o :: sk) st Q = ((am_ob st o 7 ∧ sk.length ≤ 4) ∧ am_Ca X d 7002 [.ref o] st (am_af am_m8900 2785 [v0, v1, v2, v3, v4, v5, v6, v7, v8] sk (fun pc lc sk st => am_g d X am_m8900 pc lc sk st Q) Q)) := am_gu.trans rfl
set_option maxRecDepth 100000 in
theorem u8900_2788 {v0 : Value} {v1 : Value} {v2 : Value} {v3 : Value} {v4 : Value} {v6 : Value} {v7 : Value} {v8 : Value} {x : Int32} : am_g d X am_m8900 2788 [v0, v1, v2, v3, v4, .int x, v6, v7, v8] sk st Q = am_g d X am_m8900 2790 [v0, v1, v2, v3, v4, .int x, v6, v7, v8] (.int x :: sk) st Q := am_gu.trans rfl
set_option maxRecDepth 100000 in
theorem u8900_2790 {v0 : Value} {v1 : Value} {v2 : Value} {v3 : Value} {v4 : Value} {v5 : Value} {v6 : Value} {v7 : Value} {v8 : Value} {x : Int32} {y : Int32} : am_g d X am_m8900 2790 [v0, v1, v2, v3, v4, v5, v6, v7, v8] (.int y :: .int x :: sk) st Q = (if decide (x = y) = true then am_g d X am_m8900 2795 [v0, v1, v2, v3, v4, v5, v6, v7, v8] sk st Q else am_g d X am_m8900 2793 [v0, v1, v2, v3, v4, v5, v6, v7, v8] sk st Q) := am_gu.trans rfl
set_option maxRecDepth 100000 in
theorem u8900_2793 {v0 : Value} {v1 : Value} {v2 : Value} {v3 : Value} {v4 : Value} {v5 : Value} {v6 : Value} {v7 : Value} {v8 : Value} : am_g d X am_m8900 2793 [v0, v1, v2, v3, v4, v5, v6, v7, v8] sk st Q = am_g d X am_m8900 2794 [v0, v1, v2, v3, v4, v5, v6, v7, v8] (.int (am_i 0) :: sk) st Q := am_gu.trans rfl
set_option maxRecDepth 100000 in
theorem u8900_2794 {v0 : Value} {v1 : Value} {v2 : Value} {v3 : Value} {v4 : Value} {v5 : Value} {v6 : Value} {v7 : Value} {v8 : Value} {x : Int32} : am_g d X am_m8900 2794 [v0, v1, v2, v3, v4, v5, v6, v7, v8] [.int x] st Q = ((x = 0 ∨ x = 1) ∧ Q (.inl (some (.int x))) st) := am_gu.trans rfl
set_option maxRecDepth 100000 in
theorem u8900_2795 {v0 : Value} {v1 : Value} {v2 : Value} {v3 : Value} {v4 : Value} {v6 : Value} {v7 : Value} {v8 : Value} {x : Int32} : am_g d X am_m8900 2795 [v0, v1, v2, v3, v4, .int x, v6, v7, v8] sk st Q = am_g d X am_m8900 2797 [v0, v1, v2, v3, v4, .int x, v6, v7, v8] (.int x :: sk) st Q := am_gu.trans rfl
set_option maxRecDepth 100000 in
theorem u8900_2797 {v0 : Value} {v1 : Value} {v2 : Value} {v3 : Value} {v4 : Value} {v5 : Value} {v6 : Value} {v7 : Value} {v8 : Value} {x : Int32} : am_g d X am_m8900 2797 [v0, v1, v2, v3, v4, v5, v6, v7, v8] (.int x :: sk) st Q = (if decide (¬ x = 0) = true then am_g d X am_m8900 2812 [v0, v1, v2, v3, v4, v5, v6, v7, v8] sk st Q else am_g d X am_m8900 2800 [v0, v1, v2, v3, v4, v5, v6, v7, v8] sk st Q) := am_gu.trans rfl
set_option maxRecDepth 100000 in
theorem u8900_2800 {v0 : Value} {v1 : Value} {v2 : Value} {v4 : Value} {v5 : Value} {v6 : Value} {v7 : Value} {v8 : Value} {x : Nat} : am_g d X am_m8900 2800 [v0, v1, v2, .ref x, v4, v5, v6, v7, v8] sk st Q = am_g d X am_m8900 2801 [v0, v1, v2, .ref x, v4, v5, v6, v7, v8] (.ref x :: sk) st Q := am_gu.trans rfl
set_option maxRecDepth 100000 in
theorem u8900_2801 {v0 : Value} {v1 : Value} {v2 : Value} {v3 : Value} {v4 : Value} {v5 : Value} {v6 : Value} {v7 : Value} {v8 : Value} : am_g d X am_m8900 2801 [v0, v1, v2, v3, v4, v5, v6, v7, v8] sk st Q = am_g d X am_m8900 2802 [v0, v1, v2, v3, v4, v5, v6, v7, v8] (.int (am_i 0) :: sk) st Q := am_gu.trans rfl
set_option maxRecDepth 100000 in
theorem u8900_2802 {v0 : Value} {v1 : Value} {v2 : Value} {v3 : Value} {v4 : Value} {v5 : Value} {v6 : Value} {v7 : Value} {v8 : Value} : am_g d X am_m8900 2802 [v0, v1, v2, v3, v4, v5, v6, v7, v8] sk st Q = am_jl 2803 [v0, v1, v2, v3, v4, v5, v6, v7, v8] sk st (fun pc lc sk st => am_g d X am_m8900 pc lc sk st Q) := am_gu.trans rfl
set_option maxRecDepth 100000 in
theorem u8900_2803 {v0 : Value} {v1 : Value} {v2 : Value} {v3 : Value} {v4 : Value} {v5 : Value} {v7 : Value} {v8 : Value} {x : Int32} : am_g d X am_m8900 2803 [v0, v1, v2, v3, v4, v5, .int x, v7, v8] sk st Q = am_g d X am_m8900 2805 [v0, v1, v2, v3, v4, v5, .int x, v7, v8] (.int x :: sk) st Q := am_gu.trans rfl
set_option maxRecDepth 100000 in
theorem u8900_2805 {v0 : Value} {v1 : Value} {v2 : Value} {v3 : Value} {v4 : Value} {v5 : Value} {v6 : Value} {v7 : Value} {v8 : Value} {x : Int32} : am_g d X am_m8900 2805 [v0, v1, v2, v3, v4, v5, v6, v7, v8] (.int x :: sk) st Q = am_g d X am_m8900 2806 [v0, v1, v2, v3, v4, v5, v6, v7, v8] (.long x.toInt64 :: sk) st Q := am_gu.trans rfl
set_option maxRecDepth 100000 in
theorem u8900_2806 {v0 : Value} {v1 : Value} {v2 : Value} {v3 : Value} {v4 : Value} {v5 : Value} {v6 : Value} {v7 : Value} {v8 : Value} {x : Int64} {y : Int64} : am_g d X am_m8900 2806 [v0, v1, v2, v3, v4, v5, v6, v7, v8] (.long y :: .long x :: sk) st Q = am_g d X am_m8900 2807 [v0, v1, v2, v3, v4, v5, v6, v7, v8] (.int (lg_cmp x y) :: sk) st Q := am_gu.trans rfl
set_option maxRecDepth 100000 in
theorem u8900_2807 {v0 : Value} {v1 : Value} {v2 : Value} {v3 : Value} {v4 : Value} {v5 : Value} {v6 : Value} {v7 : Value} {v8 : Value} {x : Int32} : am_g d X am_m8900 2807 [v0, v1, v2, v3, v4, v5, v6, v7, v8] (.int x :: sk) st Q = (if decide (x = 0) = true then am_g d X am_m8900 2812 [v0, v1, v2, v3, v4, v5, v6, v7, v8] sk st Q else am_g d X am_m8900 2810 [v0, v1, v2, v3, v4, v5, v6, v7, v8] sk st Q) := am_gu.trans rfl
set_option maxRecDepth 100000 in
theorem u8900_2810 {v0 : Value} {v1 : Value} {v2 : Value} {v3 : Value} {v4 : Value} {v5 : Value} {v6 : Value} {v7 : Value} {v8 : Value} : am_g d X am_m8900 2810 [v0, v1, v2, v3, v4, v5, v6, v7, v8] sk st Q = am_g d X am_m8900 2811 [v0, v1, v2, v3, v4, v5, v6, v7, v8] (.int (am_i 0) :: sk) st Q := am_gu.trans rfl
set_option maxRecDepth 100000 in
theorem u8900_2811 {v0 : Value} {v1 : Value} {v2 : Value} {v3 : Value} {v4 : Value} {v5 : Value} {v6 : Value} {v7 : Value} {v8 : Value} {x : Int32} : am_g d X am_m8900 2811 [v0, v1, v2, v3, v4, v5, v6, v7, v8] [.int x] st Q = ((x = 0 ∨ x = 1) ∧ Q (.inl (some (.int x))) st) := am_gu.trans rfl
set_option maxRecDepth 100000 in
theorem u8900_2812 {v0 : Value} {v1 : Value} {v2 : Value} {v3 : Value} {v4 : Value} {v5 : Value} {v6 : Value} {v7 : Value} {v8 : Value} : am_g d X am_m8900 2812 [v0, v1, v2, v3, v4, v5, v6, v7, v8] sk st Q = am_g d X am_m8900 2998 [v0, v1, v2, v3, v4, v5, v6, v7, v8] sk st Q := am_gu.trans rfl
set_option maxRecDepth 100000 in
theorem u8900_2815 {v0 : Value} {v2 : Value} {v3 : Value} {v4 : Value} {v5 : Value} {v6 : Value} {v7 : Value} {v8 : Value} {x : Nat} : am_g d X am_m8900 2815 [v0, .ref x, v2, v3, v4, v5, v6, v7, v8] sk st Q = am_g d X am_m8900 2816 [v0, .ref x, v2, v3, v4, v5, v6, v7, v8] (.ref x :: sk) st Q := am_gu.trans rfl
set_option maxRecDepth 100000 in
theorem u8900_2816 {v1 : Value} {v2 : Value} {v3 : Value} {v4 : Value} {v5 : Value} {v6 : Value} {v7 : Value} {v8 : Value} : am_g d X am_m8900 2816 [.retAddr 0, v1, v2, v3, v4, v5, v6, v7, v8] sk st Q = am_g d X am_m8900 2817 [.retAddr 0, v1, v2, v3, v4, v5, v6, v7, v8] (.retAddr 0 :: sk) st Q := am_gu.trans rfl
set_option maxRecDepth 100000 in
theorem u8900_2817 {v0 : Value} {v1 : Value} {v2 : Value} {v3 : Value} {v5 : Value} {v6 : Value} {v7 : Value} {v8 : Value} {x : Int32} : am_g d X am_m8900 2817 [v0, v1, v2, v3, .int x, v5, v6, v7, v8] sk st Q = am_g d X am_m8900 2819 [v0, v1, v2, v3, .int x, v5, v6, v7, v8] (.int x :: sk) st Q := am_gu.trans rfl
set_option maxRecDepth 100000 in
theorem u8900_2819 {v0 : Value} {v1 : Value} {v2 : Value} {v3 : Value} {v4 : Value} {v5 : Value} {v6 : Value} {v7 : Value} {v8 : Value} : am_g d X am_m8900 2819 [v0, v1, v2, v3, v4, v5, v6, v7, v8] sk st Q = am_g d X am_m8900 2820 [v0, v1, v2, v3, v4, v5, v6, v7, v8] (.int (am_i 1) :: sk) st Q := am_gu.trans rfl
set_option maxRecDepth 100000 in
theorem u8900_2820 {v0 : Value} {v1 : Value} {v2 : Value} {v3 : Value} {v4 : Value} {v5 : Value} {v6 : Value} {v7 : Value} {v8 : Value} {x : Int32} {y : Int32} : am_g d X am_m8900 2820 [v0, v1, v2, v3, v4, v5, v6, v7, v8] (.int y :: .int x :: sk) st Q = am_g d X am_m8900 2821 [v0, v1, v2, v3, v4, v5, v6, v7, v8] (.int (x + y) :: sk) st Q := am_gu.trans rfl
set_option maxRecDepth 100000 in
theorem u8900_2821 {v0 : Value} {v1 : Value} {v2 : Value} {v3 : Value} {v4 : Value} {v5 : Value} {v6 : Value} {v7 : Value} {v8 : Value} : am_g d X am_m8900 2821 [v0, v1, v2, v3, v4, v5, v6, v7, v8] sk st Q = am_xl (X.1, X.2.1, d) am_m8900 2822 [v0, v1, v2, v3, v4, v5, v6, v7, v8] sk st (fun pc lc sk st => am_g d X am_m8900 pc lc sk st Q) := am_gu.trans rfl
set_option maxRecDepth 100000 in
theorem u8900_2822 {v0 : Value} {v1 : Value} {v2 : Value} {v4 : Value} {v5 : Value} {v6 : Value} {v7 : Value} {v8 : Value} {x : Nat} : am_g d X am_m8900 2822 [v0, v1, v2, .ref x, v4, v5, v6, v7, v8] sk st Q = am_g d X am_m8900 2823 [v0, v1, v2, .ref x, v4, v5, v6, v7, v8] (.ref x :: sk) st Q := am_gu.trans rfl
set_option maxRecDepth 100000 in
theorem u8900_2823 {a0 : Value} {a1 : Value} {a2 : Value} {v0 : Value} {v1 : Value} {v2 : Value} {v3 : Value} {v4 : Value} {v5 : Value} {v6 : Value} {v7 : Value} {v8 : Value} : am_g d X am_m8900 2823 [v0, v1, v2, v3, v4, v5, v6, v7, v8] (a2 :: a1 :: a0 :: sk) st Q = (sk.length ≤ 4 ∧ am_Ca X d 8038 [a0, a1, a2] st (am_af am_m8900 2823 [v0, v1, v2, v3, v4, v5, v6, v7, v8] sk (fun pc lc sk st => am_g d X am_m8900 pc lc sk st Q) Q)) := am_gu.trans (propext ⟨fun h => ⟨h.1.2, h.2⟩, fun h => ⟨⟨Nat.le_add_left _ _, h.1⟩, h.2⟩⟩)
set_option maxRecDepth 100000 in
theorem u8900_2826 {v0 : Value} {v1 : Value} {v2 : Value} {v3 : Value} {v4 : Value} {v5 : Value} {v6 : Value} {v7 : Value} {v8 : Value} {x : Int32} : am_g d X am_m8900 2826 [v0, v1, v2, v3, v4, v5, v6, v7, v8] (.int x :: sk) st Q = am_g d X am_m8900 2828 [v0, v1, v2, v3, am_kc v4, .int x, v6, v7, v8] sk st Q := am_gu.trans (congrArg (fun l => am_g d X am_m8900 2828 (List.set l 5 (.int x)) sk st Q) (kl_5 (l := [v5, v6, v7, v8])))
set_option maxRecDepth 100000 in
theorem u8900_2828 {v0 : Value} {v1 : Value} {v3 : Value} {v4 : Value} {v5 : Value} {v6 : Value} {v7 : Value} {v8 : Value} {x : Nat} : am_g d X am_m8900 2828 [v0, v1, .ref x, v3, v4, v5, v6, v7, v8] sk st Q = am_g d X am_m8900 2829 [v0, v1, .ref x, v3, v4, v5, v6, v7, v8] (.ref x :: sk) st Q := am_gu.trans rfl
set_option maxRecDepth 100000 in
theorem u8900_2829 {v1 : Value} {v2 : Value} {v3 : Value} {v4 : Value} {v5 : Value} {v6 : Value} {v7 : Value} {v8 : Value} : am_g d X am_m8900 2829 [.retAddr 0, v1, v2, v3, v4, v5, v6, v7, v8] sk st Q = am_g d X am_m8900 2830 [.retAddr 0, v1, v2, v3, v4, v5, v6, v7, v8] (.retAddr 0 :: sk) st Q := am_gu.trans rfl
set_option maxRecDepth 100000 in
theorem u8900_2830 {v0 : Value} {v1 : Value} {v2 : Value} {v3 : Value} {v5 : Value} {v6 : Value} {v7 : Value} {v8 : Value} {x : Int32} : am_g d X am_m8900 2830 [v0, v1, v2, v3, .int x, v5, v6, v7, v8] sk st Q = am_g d X am_m8900 2832 [v0, v1, v2, v3, .int x, v5, v6, v7, v8] (.int x :: sk) st Q := am_gu.trans rfl
set_option maxRecDepth 100000 in
theorem u8900_2832 {v0 : Value} {v1 : Value} {v2 : Value} {v3 : Value} {v4 : Value} {v5 : Value} {v6 : Value} {v7 : Value} {v8 : Value} : am_g d X am_m8900 2832 [v0, v1, v2, v3, v4, v5, v6, v7, v8] sk st Q = am_g d X am_m8900 2833 [v0, v1, v2, v3, v4, v5, v6, v7, v8] (.int (am_i 1) :: sk) st Q := am_gu.trans rfl
set_option maxRecDepth 100000 in
theorem u8900_2833 {v0 : Value} {v1 : Value} {v2 : Value} {v3 : Value} {v4 : Value} {v5 : Value} {v6 : Value} {v7 : Value} {v8 : Value} {x : Int32} {y : Int32} : am_g d X am_m8900 2833 [v0, v1, v2, v3, v4, v5, v6, v7, v8] (.int y :: .int x :: sk) st Q = am_g d X am_m8900 2834 [v0, v1, v2, v3, v4, v5, v6, v7, v8] (.int (x + y) :: sk) st Q := am_gu.trans rfl
set_option maxRecDepth 100000 in
theorem u8900_2834 {v0 : Value} {v1 : Value} {v2 : Value} {v3 : Value} {v4 : Value} {v5 : Value} {v6 : Value} {v7 : Value} {v8 : Value} : am_g d X am_m8900 2834 [v0, v1, v2, v3, v4, v5, v6, v7, v8] sk st Q = am_xl (X.1, X.2.1, d) am_m8900 2835 [v0, v1, v2, v3, v4, v5, v6, v7, v8] sk st (fun pc lc sk st => am_g d X am_m8900 pc lc sk st Q) := am_gu.trans rfl
set_option maxRecDepth 100000 in
theorem u8900_2835 {a0 : Value} {v0 : Value} {v1 : Value} {v2 : Value} {v3 : Value} {v4 : Value} {v5 : Value} {v6 : Value} {v7 : Value} {v8 : Value} : am_g d X am_m8900 2835 [v0, v1, v2, v3, v4, v5, v6, v7, v8] (a0 :: .ref o :: sk) st Q = ((am_ob st o 7 ∧ sk.length ≤ 4) ∧ am_Ca X d 7121 [.ref o, a0] st (am_af am_m8900 2835 [v0, v1, v2, v3, v4, v5, v6, v7, v8] sk (fun pc lc sk st => am_g d X am_m8900 pc lc sk st Q) Q)) := am_gu.trans rfl
set_option maxRecDepth 100000 in
theorem u8900_2838 {v0 : Value} {v1 : Value} {v2 : Value} {v3 : Value} {v4 : Value} {v5 : Value} {v6 : Value} {v7 : Value} {v8 : Value} {x : Int32} : am_g d X am_m8900 2838 [v0, v1, v2, v3, v4, v5, v6, v7, v8] (.int x :: sk) st Q = am_g d X am_m8900 2840 [v0, v1, v2, v3, v4, am_kc v5, .int x, v7, v8] sk st Q := am_gu.trans (congrArg (fun l => am_g d X am_m8900 2840 (List.set l 6 (.int x)) sk st Q) (kl_6 (l := [v6, v7, v8])))
set_option maxRecDepth 100000 in
theorem u8900_2840 {v0 : Value} {v1 : Value} {v3 : Value} {v4 : Value} {v5 : Value} {v6 : Value} {v7 : Value} {v8 : Value} {x : Nat} : am_g d X am_m8900 2840 [v0, v1, .ref x, v3, v4, v5, v6, v7, v8] sk st Q = am_g d X am_m8900 2841 [v0, v1, .ref x, v3, v4, v5, v6, v7, v8] (.ref x :: sk) st Q := am_gu.trans rfl
set_option maxRecDepth 100000 in
theorem u8900_2841 {v0 : Value} {v1 : Value} {v2 : Value} {v3 : Value} {v4 : Value} {v5 : Value} {v6 : Value} {v7 : Value} {v8 : Value} : am_g d X am_m8900 2841 [v0, v1, v2, v3, v4, v5, v6, v7, v8] (.ref o :: sk) st Q = ((am_ob st o 7 ∧ sk.length ≤ 4) ∧ am_Ca X d 7002 [.ref o] st (am_af am_m8900 2841 [v0, v1, v2, v3, v4, v5, v6, v7, v8] sk (fun pc lc sk st => am_g d X am_m8900 pc lc sk st Q) Q)) := am_gu.trans rfl
set_option maxRecDepth 100000 in
theorem u8900_2844 {v0 : Value} {v1 : Value} {v2 : Value} {v3 : Value} {v4 : Value} {v6 : Value} {v7 : Value} {v8 : Value} {x : Int32} : am_g d X am_m8900 2844 [v0, v1, v2, v3, v4, .int x, v6, v7, v8] sk st Q = am_g d X am_m8900 2846 [v0, v1, v2, v3, v4, .int x, v6, v7, v8] (.int x :: sk) st Q := am_gu.trans rfl
set_option maxRecDepth 100000 in
theorem u8900_2846 {v0 : Value} {v1 : Value} {v2 : Value} {v3 : Value} {v4 : Value} {v5 : Value} {v6 : Value} {v7 : Value} {v8 : Value} {x : Int32} {y : Int32} : am_g d X am_m8900 2846 [v0, v1, v2, v3, v4, v5, v6, v7, v8] (.int y :: .int x :: sk) st Q = (if decide (x = y) = true then am_g d X am_m8900 2851 [v0, v1, v2, v3, v4, v5, v6, v7, v8] sk st Q else am_g d X am_m8900 2849 [v0, v1, v2, v3, v4, v5, v6, v7, v8] sk st Q) := am_gu.trans rfl
set_option maxRecDepth 100000 in
theorem u8900_2849 {v0 : Value} {v1 : Value} {v2 : Value} {v3 : Value} {v4 : Value} {v5 : Value} {v6 : Value} {v7 : Value} {v8 : Value} : am_g d X am_m8900 2849 [v0, v1, v2, v3, v4, v5, v6, v7, v8] sk st Q = am_g d X am_m8900 2850 [v0, v1, v2, v3, v4, v5, v6, v7, v8] (.int (am_i 0) :: sk) st Q := am_gu.trans rfl
set_option maxRecDepth 100000 in
theorem u8900_2850 {v0 : Value} {v1 : Value} {v2 : Value} {v3 : Value} {v4 : Value} {v5 : Value} {v6 : Value} {v7 : Value} {v8 : Value} {x : Int32} : am_g d X am_m8900 2850 [v0, v1, v2, v3, v4, v5, v6, v7, v8] [.int x] st Q = ((x = 0 ∨ x = 1) ∧ Q (.inl (some (.int x))) st) := am_gu.trans rfl
set_option maxRecDepth 100000 in
theorem u8900_2851 {v0 : Value} {v1 : Value} {v2 : Value} {v3 : Value} {v4 : Value} {v6 : Value} {v7 : Value} {v8 : Value} {x : Int32} : am_g d X am_m8900 2851 [v0, v1, v2, v3, v4, .int x, v6, v7, v8] sk st Q = am_g d X am_m8900 2853 [v0, v1, v2, v3, v4, .int x, v6, v7, v8] (.int x :: sk) st Q := am_gu.trans rfl
set_option maxRecDepth 100000 in
theorem u8900_2853 {v0 : Value} {v1 : Value} {v2 : Value} {v3 : Value} {v4 : Value} {v5 : Value} {v6 : Value} {v7 : Value} {v8 : Value} {x : Int32} : am_g d X am_m8900 2853 [v0, v1, v2, v3, v4, v5, v6, v7, v8] (.int x :: sk) st Q = (if decide (¬ x = 0) = true then am_g d X am_m8900 2868 [v0, v1, v2, v3, v4, v5, v6, v7, v8] sk st Q else am_g d X am_m8900 2856 [v0, v1, v2, v3, v4, v5, v6, v7, v8] sk st Q) := am_gu.trans rfl
set_option maxRecDepth 100000 in
theorem u8900_2856 {v0 : Value} {v1 : Value} {v2 : Value} {v4 : Value} {v5 : Value} {v6 : Value} {v7 : Value} {v8 : Value} {x : Nat} : am_g d X am_m8900 2856 [v0, v1, v2, .ref x, v4, v5, v6, v7, v8] sk st Q = am_g d X am_m8900 2857 [v0, v1, v2, .ref x, v4, v5, v6, v7, v8] (.ref x :: sk) st Q := am_gu.trans rfl
set_option maxRecDepth 100000 in
theorem u8900_2857 {v0 : Value} {v1 : Value} {v2 : Value} {v3 : Value} {v4 : Value} {v5 : Value} {v6 : Value} {v7 : Value} {v8 : Value} : am_g d X am_m8900 2857 [v0, v1, v2, v3, v4, v5, v6, v7, v8] sk st Q = am_g d X am_m8900 2858 [v0, v1, v2, v3, v4, v5, v6, v7, v8] (.int (am_i 0) :: sk) st Q := am_gu.trans rfl
set_option maxRecDepth 100000 in
theorem u8900_2858 {v0 : Value} {v1 : Value} {v2 : Value} {v3 : Value} {v4 : Value} {v5 : Value} {v6 : Value} {v7 : Value} {v8 : Value} : am_g d X am_m8900 2858 [v0, v1, v2, v3, v4, v5, v6, v7, v8] sk st Q = am_jl 2859 [v0, v1, v2, v3, v4, v5, v6, v7, v8] sk st (fun pc lc sk st => am_g d X am_m8900 pc lc sk st Q) := am_gu.trans rfl
set_option maxRecDepth 100000 in
theorem u8900_2859 {v0 : Value} {v1 : Value} {v2 : Value} {v3 : Value} {v4 : Value} {v5 : Value} {v7 : Value} {v8 : Value} {x : Int32} : am_g d X am_m8900 2859 [v0, v1, v2, v3, v4, v5, .int x, v7, v8] sk st Q = am_g d X am_m8900 2861 [v0, v1, v2, v3, v4, v5, .int x, v7, v8] (.int x :: sk) st Q := am_gu.trans rfl
set_option maxRecDepth 100000 in
theorem u8900_2861 {v0 : Value} {v1 : Value} {v2 : Value} {v3 : Value} {v4 : Value} {v5 : Value} {v6 : Value} {v7 : Value} {v8 : Value} {x : Int32} : am_g d X am_m8900 2861 [v0, v1, v2, v3, v4, v5, v6, v7, v8] (.int x :: sk) st Q = am_g d X am_m8900 2862 [v0, v1, v2, v3, v4, v5, v6, v7, v8] (.long x.toInt64 :: sk) st Q := am_gu.trans rfl
set_option maxRecDepth 100000 in
theorem u8900_2862 {v0 : Value} {v1 : Value} {v2 : Value} {v3 : Value} {v4 : Value} {v5 : Value} {v6 : Value} {v7 : Value} {v8 : Value} {x : Int64} {y : Int64} : am_g d X am_m8900 2862 [v0, v1, v2, v3, v4, v5, v6, v7, v8] (.long y :: .long x :: sk) st Q = am_g d X am_m8900 2863 [v0, v1, v2, v3, v4, v5, v6, v7, v8] (.int (lg_cmp x y) :: sk) st Q := am_gu.trans rfl
set_option maxRecDepth 100000 in
theorem u8900_2863 {v0 : Value} {v1 : Value} {v2 : Value} {v3 : Value} {v4 : Value} {v5 : Value} {v6 : Value} {v7 : Value} {v8 : Value} {x : Int32} : am_g d X am_m8900 2863 [v0, v1, v2, v3, v4, v5, v6, v7, v8] (.int x :: sk) st Q = (if decide (x = 0) = true then am_g d X am_m8900 2868 [v0, v1, v2, v3, v4, v5, v6, v7, v8] sk st Q else am_g d X am_m8900 2866 [v0, v1, v2, v3, v4, v5, v6, v7, v8] sk st Q) := am_gu.trans rfl
set_option maxRecDepth 100000 in
theorem u8900_2866 {v0 : Value} {v1 : Value} {v2 : Value} {v3 : Value} {v4 : Value} {v5 : Value} {v6 : Value} {v7 : Value} {v8 : Value} : am_g d X am_m8900 2866 [v0, v1, v2, v3, v4, v5, v6, v7, v8] sk st Q = am_g d X am_m8900 2867 [v0, v1, v2, v3, v4, v5, v6, v7, v8] (.int (am_i 0) :: sk) st Q := am_gu.trans rfl
set_option maxRecDepth 100000 in
theorem u8900_2867 {v0 : Value} {v1 : Value} {v2 : Value} {v3 : Value} {v4 : Value} {v5 : Value} {v6 : Value} {v7 : Value} {v8 : Value} {x : Int32} : am_g d X am_m8900 2867 [v0, v1, v2, v3, v4, v5, v6, v7, v8] [.int x] st Q = ((x = 0 ∨ x = 1) ∧ Q (.inl (some (.int x))) st) := am_gu.trans rfl
set_option maxRecDepth 100000 in
theorem u8900_2868 {v0 : Value} {v1 : Value} {v2 : Value} {v3 : Value} {v4 : Value} {v5 : Value} {v6 : Value} {v7 : Value} {v8 : Value} : am_g d X am_m8900 2868 [v0, v1, v2, v3, v4, v5, v6, v7, v8] sk st Q = am_g d X am_m8900 2998 [v0, v1, v2, v3, v4, v5, v6, v7, v8] sk st Q := am_gu.trans rfl
set_option maxRecDepth 100000 in
theorem u8900_2871 {v0 : Value} {v2 : Value} {v3 : Value} {v4 : Value} {v5 : Value} {v6 : Value} {v7 : Value} {v8 : Value} {x : Nat} : am_g d X am_m8900 2871 [v0, .ref x, v2, v3, v4, v5, v6, v7, v8] sk st Q = am_g d X am_m8900 2872 [v0, .ref x, v2, v3, v4, v5, v6, v7, v8] (.ref x :: sk) st Q := am_gu.trans rfl
set_option maxRecDepth 100000 in
theorem u8900_2872 {v0 : Value} {v1 : Value} {v2 : Value} {v3 : Value} {v4 : Value} {v5 : Value} {v6 : Value} {v7 : Value} {v8 : Value} : am_g d X am_m8900 2872 [v0, v1, v2, v3, v4, v5, v6, v7, v8] (.ref o :: sk) st Q = ((am_ob st o 6 ∧ sk.length ≤ 4) ∧ am_Ca X d 6055 [.ref o] st (am_af am_m8900 2872 [v0, v1, v2, v3, v4, v5, v6, v7, v8] sk (fun pc lc sk st => am_g d X am_m8900 pc lc sk st Q) Q)) := am_gu.trans rfl
set_option maxRecDepth 100000 in
theorem u8900_2875 {v0 : Value} {v1 : Value} {v3 : Value} {v4 : Value} {v5 : Value} {v6 : Value} {v7 : Value} {v8 : Value} {x : Nat} : am_g d X am_m8900 2875 [v0, v1, .ref x, v3, v4, v5, v6, v7, v8] sk st Q = am_g d X am_m8900 2876 [v0, v1, .ref x, v3, v4, v5, v6, v7, v8] (.ref x :: sk) st Q := am_gu.trans rfl
set_option maxRecDepth 100000 in
theorem u8900_2876 {v0 : Value} {v1 : Value} {v2 : Value} {v3 : Value} {v4 : Value} {v5 : Value} {v6 : Value} {v7 : Value} {v8 : Value} : am_g d X am_m8900 2876 [v0, v1, v2, v3, v4, v5, v6, v7, v8] (.ref o :: sk) st Q = ((am_ob st o 7 ∧ sk.length ≤ 4) ∧ am_Ca X d 7122 [.ref o] st (am_af am_m8900 2876 [v0, v1, v2, v3, v4, v5, v6, v7, v8] sk (fun pc lc sk st => am_g d X am_m8900 pc lc sk st Q) Q)) := am_gu.trans rfl
set_option maxRecDepth 100000 in
theorem u8900_2879 {v0 : Value} {v1 : Value} {v2 : Value} {v3 : Value} {v4 : Value} {v5 : Value} {v6 : Value} {v7 : Value} {v8 : Value} {x : Int32} {y : Int32} : am_g d X am_m8900 2879 [v0, v1, v2, v3, v4, v5, v6, v7, v8] (.int y :: .int x :: sk) st Q = (if decide (x = y) = true then am_g d X am_m8900 2998 [v0, v1, v2, v3, v4, v5, v6, v7, v8] sk st Q else am_g d X am_m8900 2882 [v0, v1, v2, v3, v4, v5, v6, v7, v8] sk st Q) := am_gu.trans rfl
set_option maxRecDepth 100000 in
theorem u8900_2882 {v0 : Value} {v1 : Value} {v2 : Value} {v3 : Value} {v4 : Value} {v5 : Value} {v6 : Value} {v7 : Value} {v8 : Value} : am_g d X am_m8900 2882 [v0, v1, v2, v3, v4, v5, v6, v7, v8] sk st Q = am_g d X am_m8900 2883 [v0, v1, v2, v3, v4, v5, v6, v7, v8] (.int (am_i 0) :: sk) st Q := am_gu.trans rfl
set_option maxRecDepth 100000 in
theorem u8900_2883 {v0 : Value} {v1 : Value} {v2 : Value} {v3 : Value} {v4 : Value} {v5 : Value} {v6 : Value} {v7 : Value} {v8 : Value} {x : Int32} : am_g d X am_m8900 2883 [v0, v1, v2, v3, v4, v5, v6, v7, v8] [.int x] st Q = ((x = 0 ∨ x = 1) ∧ Q (.inl (some (.int x))) st) := am_gu.trans rfl
set_option maxRecDepth 100000 in
theorem u8900_2884 {v0 : Value} {v2 : Value} {v3 : Value} {v4 : Value} {v5 : Value} {v6 : Value} {v7 : Value} {v8 : Value} {x : Nat} : am_g d X am_m8900 2884 [v0, .ref x, v2, v3, v4, v5, v6, v7, v8] sk st Q = am_g d X am_m8900 2885 [v0, .ref x, v2, v3, v4, v5, v6, v7, v8] (.ref x :: sk) st Q := am_gu.trans rfl
set_option maxRecDepth 100000 in
theorem u8900_2885 {v0 : Value} {v1 : Value} {v2 : Value} {v3 : Value} {v4 : Value} {v5 : Value} {v6 : Value} {v7 : Value} {v8 : Value} : am_g d X am_m8900 2885 [v0, v1, v2, v3, v4, v5, v6, v7, v8] (.ref o :: sk) st Q = ((am_ob st o 6 ∧ sk.length ≤ 4) ∧ am_Ca X d 6056 [.ref o] st (am_af am_m8900 2885 [v0, v1, v2, v3, v4, v5, v6, v7, v8] sk (fun pc lc sk st => am_g d X am_m8900 pc lc sk st Q) Q)) := am_gu.trans rfl
set_option maxRecDepth 100000 in
theorem u8900_2888 {v0 : Value} {v1 : Value} {v3 : Value} {v4 : Value} {v5 : Value} {v6 : Value} {v7 : Value} {v8 : Value} {x : Nat} : am_g d X am_m8900 2888 [v0, v1, .ref x, v3, v4, v5, v6, v7, v8] sk st Q = am_g d X am_m8900 2889 [v0, v1, .ref x, v3, v4, v5, v6, v7, v8] (.ref x :: sk) st Q := am_gu.trans rfl
set_option maxRecDepth 100000 in
theorem u8900_2889 {v0 : Value} {v1 : Value} {v2 : Value} {v3 : Value} {v4 : Value} {v5 : Value} {v6 : Value} {v7 : Value} {v8 : Value} : am_g d X am_m8900 2889 [v0, v1, v2, v3, v4, v5, v6, v7, v8] (.ref o :: sk) st Q = ((am_ob st o 7 ∧ sk.length ≤ 4) ∧ am_Ca X d 7123 [.ref o] st (am_af am_m8900 2889 [v0, v1, v2, v3, v4, v5, v6, v7, v8] sk (fun pc lc sk st => am_g d X am_m8900 pc lc sk st Q) Q)) := am_gu.trans rfl
set_option maxRecDepth 100000 in
theorem u8900_2892 {v0 : Value} {v1 : Value} {v2 : Value} {v3 : Value} {v4 : Value} {v5 : Value} {v6 : Value} {v7 : Value} {v8 : Value} {x : Int32} {y : Int32} : am_g d X am_m8900 2892 [v0, v1, v2, v3, v4, v5, v6, v7, v8] (.int y :: .int x :: sk) st Q = (if decide (x = y) = true then am_g d X am_m8900 2998 [v0, v1, v2, v3, v4, v5, v6, v7, v8] sk st Q else am_g d X am_m8900 2895 [v0, v1, v2, v3, v4, v5, v6, v7, v8] sk st Q) := am_gu.trans rfl
set_option maxRecDepth 100000 in
theorem u8900_2895 {v0 : Value} {v1 : Value} {v2 : Value} {v3 : Value} {v4 : Value} {v5 : Value} {v6 : Value} {v7 : Value} {v8 : Value} : am_g d X am_m8900 2895 [v0, v1, v2, v3, v4, v5, v6, v7, v8] sk st Q = am_g d X am_m8900 2896 [v0, v1, v2, v3, v4, v5, v6, v7, v8] (.int (am_i 0) :: sk) st Q := am_gu.trans rfl
set_option maxRecDepth 100000 in
theorem u8900_2896 {v0 : Value} {v1 : Value} {v2 : Value} {v3 : Value} {v4 : Value} {v5 : Value} {v6 : Value} {v7 : Value} {v8 : Value} {x : Int32} : am_g d X am_m8900 2896 [v0, v1, v2, v3, v4, v5, v6, v7, v8] [.int x] st Q = ((x = 0 ∨ x = 1) ∧ Q (.inl (some (.int x))) st) := am_gu.trans rfl
set_option maxRecDepth 100000 in
theorem u8900_2897 {v0 : Value} {v2 : Value} {v3 : Value} {v4 : Value} {v5 : Value} {v6 : Value} {v7 : Value} {v8 : Value} {x : Nat} : am_g d X am_m8900 2897 [v0, .ref x, v2, v3, v4, v5, v6, v7, v8] sk st Q = am_g d X am_m8900 2898 [v0, .ref x, v2, v3, v4, v5, v6, v7, v8] (.ref x :: sk) st Q := am_gu.trans rfl
set_option maxRecDepth 100000 in
theorem u8900_2898 {v0 : Value} {v1 : Value} {v2 : Value} {v3 : Value} {v4 : Value} {v5 : Value} {v6 : Value} {v7 : Value} {v8 : Value} : am_g d X am_m8900 2898 [v0, v1, v2, v3, v4, v5, v6, v7, v8] (.ref o :: sk) st Q = ((am_ob st o 6 ∧ sk.length ≤ 4) ∧ am_Ca X d 6057 [.ref o] st (am_af am_m8900 2898 [v0, v1, v2, v3, v4, v5, v6, v7, v8] sk (fun pc lc sk st => am_g d X am_m8900 pc lc sk st Q) Q)) := am_gu.trans rfl
set_option maxRecDepth 100000 in
theorem u8900_2901 {v0 : Value} {v1 : Value} {v3 : Value} {v4 : Value} {v5 : Value} {v6 : Value} {v7 : Value} {v8 : Value} {x : Nat} : am_g d X am_m8900 2901 [v0, v1, .ref x, v3, v4, v5, v6, v7, v8] sk st Q = am_g d X am_m8900 2902 [v0, v1, .ref x, v3, v4, v5, v6, v7, v8] (.ref x :: sk) st Q := am_gu.trans rfl
set_option maxRecDepth 100000 in
theorem u8900_2902 {v0 : Value} {v1 : Value} {v2 : Value} {v3 : Value} {v4 : Value} {v5 : Value} {v6 : Value} {v7 : Value} {v8 : Value} : am_g d X am_m8900 2902 [v0, v1, v2, v3, v4, v5, v6, v7, v8] (.ref o :: sk) st Q = ((am_ob st o 7 ∧ sk.length ≤ 4) ∧ am_Ca X d 7067 [.ref o] st (am_af am_m8900 2902 [v0, v1, v2, v3, v4, v5, v6, v7, v8] sk (fun pc lc sk st => am_g d X am_m8900 pc lc sk st Q) Q)) := am_gu.trans rfl
set_option maxRecDepth 100000 in
theorem u8900_2905 {v0 : Value} {v1 : Value} {v2 : Value} {v3 : Value} {v4 : Value} {v5 : Value} {v6 : Value} {v7 : Value} {v8 : Value} {x : Int32} {y : Int32} : am_g d X am_m8900 2905 [v0, v1, v2, v3, v4, v5, v6, v7, v8] (.int y :: .int x :: sk) st Q = (if decide (x = y) = true then am_g d X am_m8900 2998 [v0, v1, v2, v3, v4, v5, v6, v7, v8] sk st Q else am_g d X am_m8900 2908 [v0, v1, v2, v3, v4, v5, v6, v7, v8] sk st Q) := am_gu.trans rfl
set_option maxRecDepth 100000 in
theorem u8900_2908 {v0 : Value} {v1 : Value} {v2 : Value} {v3 : Value} {v4 : Value} {v5 : Value} {v6 : Value} {v7 : Value} {v8 : Value} : am_g d X am_m8900 2908 [v0, v1, v2, v3, v4, v5, v6, v7, v8] sk st Q = am_g d X am_m8900 2909 [v0, v1, v2, v3, v4, v5, v6, v7, v8] (.int (am_i 0) :: sk) st Q := am_gu.trans rfl
set_option maxRecDepth 100000 in
theorem u8900_2909 {v0 : Value} {v1 : Value} {v2 : Value} {v3 : Value} {v4 : Value} {v5 : Value} {v6 : Value} {v7 : Value} {v8 : Value} {x : Int32} : am_g d X am_m8900 2909 [v0, v1, v2, v3, v4, v5, v6, v7, v8] [.int x] st Q = ((x = 0 ∨ x = 1) ∧ Q (.inl (some (.int x))) st) := am_gu.trans rfl
set_option maxRecDepth 100000 in
theorem u8900_2910 {v0 : Value} {v2 : Value} {v3 : Value} {v4 : Value} {v5 : Value} {v6 : Value} {v7 : Value} {v8 : Value} {x : Nat} : am_g d X am_m8900 2910 [v0, .ref x, v2, v3, v4, v5, v6, v7, v8] sk st Q = am_g d X am_m8900 2911 [v0, .ref x, v2, v3, v4, v5, v6, v7, v8] (.ref x :: sk) st Q := am_gu.trans rfl
set_option maxRecDepth 100000 in
theorem u8900_2911 {v0 : Value} {v1 : Value} {v2 : Value} {v4 : Value} {v5 : Value} {v6 : Value} {v7 : Value} {v8 : Value} {x : Nat} : am_g d X am_m8900 2911 [v0, v1, v2, .ref x, v4, v5, v6, v7, v8] sk st Q = am_g d X am_m8900 2912 [v0, v1, v2, .ref x, v4, v5, v6, v7, v8] (.ref x :: sk) st Q := am_gu.trans rfl
set_option maxRecDepth 100000 in
theorem u8900_2912 {a0 : Value} {a1 : Value} {v0 : Value} {v1 : Value} {v2 : Value} {v3 : Value} {v4 : Value} {v5 : Value} {v6 : Value} {v7 : Value} {v8 : Value} : am_g d X am_m8900 2912 [v0, v1, v2, v3, v4, v5, v6, v7, v8] (a1 :: a0 :: sk) st Q = (sk.length ≤ 4 ∧ am_Ca X d 8039 [a0, a1] st (am_af am_m8900 2912 [v0, v1, v2, v3, v4, v5, v6, v7, v8] sk (fun pc lc sk st => am_g d X am_m8900 pc lc sk st Q) Q)) := am_gu.trans (propext ⟨fun h => ⟨h.1.2, h.2⟩, fun h => ⟨⟨Nat.le_add_left _ _, h.1⟩, h.2⟩⟩)
set_option maxRecDepth 100000 in
theorem u8900_2915 {v0 : Value} {v1 : Value} {v2 : Value} {v3 : Value} {v4 : Value} {v5 : Value} {v6 : Value} {v7 : Value} {v8 : Value} {x : Int32} : am_g d X am_m8900 2915 [v0, v1, v2, v3, v4, v5, v6, v7, v8] (.int x :: sk) st Q = am_g d X am_m8900 2917 [v0, v1, v2, v3, am_kc v4, .int x, v6, v7, v8] sk st Q := am_gu.trans (congrArg (fun l => am_g d X am_m8900 2917 (List.set l 5 (.int x)) sk st Q) (kl_5 (l := [v5, v6, v7, v8])))
set_option maxRecDepth 100000 in
theorem u8900_2917 {v0 : Value} {v1 : Value} {v3 : Value} {v4 : Value} {v5 : Value} {v6 : Value} {v7 : Value} {v8 : Value} {x : Nat} : am_g d X am_m8900 2917 [v0, v1, .ref x, v3, v4, v5, v6, v7, v8] sk st Q = am_g d X am_m8900 2918 [v0, v1, .ref x, v3, v4, v5, v6, v7, v8] (.ref x :: sk) st Q := am_gu.trans rfl
set_option maxRecDepth 100000 in
theorem u8900_2918 {v0 : Value} {v1 : Value} {v2 : Value} {v3 : Value} {v4 : Value} {v5 : Value} {v6 : Value} {v7 : Value} {v8 : Value} : am_g d X am_m8900 2918 [v0, v1, v2, v3, v4, v5, v6, v7, v8] (.ref o :: sk) st Q = ((am_ob st o 7 ∧ sk.length ≤ 4) ∧ am_Ca X d 7068 [.ref o] st (am_af am_m8900 2918 [v0, v1, v2, v3, v4, v5, v6, v7, v8] sk (fun pc lc sk st => am_g d X am_m8900 pc lc sk st Q) Q)) := am_gu.trans rfl
set_option maxRecDepth 100000 in
theorem u8900_2921 {v0 : Value} {v1 : Value} {v2 : Value} {v3 : Value} {v4 : Value} {v5 : Value} {v6 : Value} {v7 : Value} {v8 : Value} {x : Int32} : am_g d X am_m8900 2921 [v0, v1, v2, v3, v4, v5, v6, v7, v8] (.int x :: sk) st Q = am_g d X am_m8900 2923 [v0, v1, v2, v3, v4, am_kc v5, .int x, v7, v8] sk st Q := am_gu.trans (congrArg (fun l => am_g d X am_m8900 2923 (List.set l 6 (.int x)) sk st Q) (kl_6 (l := [v6, v7, v8])))
set_option maxRecDepth 100000 in
theorem u8900_2923 {v0 : Value} {v1 : Value} {v3 : Value} {v4 : Value} {v5 : Value} {v6 : Value} {v7 : Value} {v8 : Value} {x : Nat} : am_g d X am_m8900 2923 [v0, v1, .ref x, v3, v4, v5, v6, v7, v8] sk st Q = am_g d X am_m8900 2924 [v0, v1, .ref x, v3, v4, v5, v6, v7, v8] (.ref x :: sk) st Q := am_gu.trans rfl
set_option maxRecDepth 100000 in
theorem u8900_2924 {v0 : Value} {v1 : Value} {v2 : Value} {v3 : Value} {v4 : Value} {v5 : Value} {v6 : Value} {v7 : Value} {v8 : Value} : am_g d X am_m8900 2924 [v0, v1, v2, v3, v4, v5, v6, v7, v8] (.ref o :: sk) st Q = ((am_ob st o 7 ∧ sk.length ≤ 4) ∧ am_Ca X d 7002 [.ref o] st (am_af am_m8900 2924 [v0, v1, v2, v3, v4, v5, v6, v7, v8] sk (fun pc lc sk st => am_g d X am_m8900 pc lc sk st Q) Q)) := am_gu.trans rfl
set_option maxRecDepth 100000 in
theorem u8900_2927 {v0 : Value} {v1 : Value} {v2 : Value} {v3 : Value} {v4 : Value} {v6 : Value} {v7 : Value} {v8 : Value} {x : Int32} : am_g d X am_m8900 2927 [v0, v1, v2, v3, v4, .int x, v6, v7, v8] sk st Q = am_g d X am_m8900 2929 [v0, v1, v2, v3, v4, .int x, v6, v7, v8] (.int x :: sk) st Q := am_gu.trans rfl
set_option maxRecDepth 100000 in
theorem u8900_2929 {v0 : Value} {v1 : Value} {v2 : Value} {v3 : Value} {v4 : Value} {v5 : Value} {v6 : Value} {v7 : Value} {v8 : Value} {x : Int32} {y : Int32} : am_g d X am_m8900 2929 [v0, v1, v2, v3, v4, v5, v6, v7, v8] (.int y :: .int x :: sk) st Q = (if decide (x = y) = true then am_g d X am_m8900 2934 [v0, v1, v2, v3, v4, v5, v6, v7, v8] sk st Q else am_g d X am_m8900 2932 [v0, v1, v2, v3, v4, v5, v6, v7, v8] sk st Q) := am_gu.trans rfl
set_option maxRecDepth 100000 in
theorem u8900_2932 {v0 : Value} {v1 : Value} {v2 : Value} {v3 : Value} {v4 : Value} {v5 : Value} {v6 : Value} {v7 : Value} {v8 : Value} : am_g d X am_m8900 2932 [v0, v1, v2, v3, v4, v5, v6, v7, v8] sk st Q = am_g d X am_m8900 2933 [v0, v1, v2, v3, v4, v5, v6, v7, v8] (.int (am_i 0) :: sk) st Q := am_gu.trans rfl
set_option maxRecDepth 100000 in
theorem u8900_2933 {v0 : Value} {v1 : Value} {v2 : Value} {v3 : Value} {v4 : Value} {v5 : Value} {v6 : Value} {v7 : Value} {v8 : Value} {x : Int32} : am_g d X am_m8900 2933 [v0, v1, v2, v3, v4, v5, v6, v7, v8] [.int x] st Q = ((x = 0 ∨ x = 1) ∧ Q (.inl (some (.int x))) st) := am_gu.trans rfl
set_option maxRecDepth 100000 in
theorem u8900_2934 {v0 : Value} {v1 : Value} {v2 : Value} {v3 : Value} {v4 : Value} {v6 : Value} {v7 : Value} {v8 : Value} {x : Int32} : am_g d X am_m8900 2934 [v0, v1, v2, v3, v4, .int x, v6, v7, v8] sk st Q = am_g d X am_m8900 2936 [v0, v1, v2, v3, v4, .int x, v6, v7, v8] (.int x :: sk) st Q := am_gu.trans rfl
set_option maxRecDepth 100000 in
theorem u8900_2936 {v0 : Value} {v1 : Value} {v2 : Value} {v3 : Value} {v4 : Value} {v5 : Value} {v6 : Value} {v7 : Value} {v8 : Value} {x : Int32} : am_g d X am_m8900 2936 [v0, v1, v2, v3, v4, v5, v6, v7, v8] (.int x :: sk) st Q = (if decide (¬ x = 0) = true then am_g d X am_m8900 2951 [v0, v1, v2, v3, v4, v5, v6, v7, v8] sk st Q else am_g d X am_m8900 2939 [v0, v1, v2, v3, v4, v5, v6, v7, v8] sk st Q) := am_gu.trans rfl
set_option maxRecDepth 100000 in
theorem u8900_2939 {v0 : Value} {v1 : Value} {v2 : Value} {v4 : Value} {v5 : Value} {v6 : Value} {v7 : Value} {v8 : Value} {x : Nat} : am_g d X am_m8900 2939 [v0, v1, v2, .ref x, v4, v5, v6, v7, v8] sk st Q = am_g d X am_m8900 2940 [v0, v1, v2, .ref x, v4, v5, v6, v7, v8] (.ref x :: sk) st Q := am_gu.trans rfl
set_option maxRecDepth 100000 in
theorem u8900_2940 {v0 : Value} {v1 : Value} {v2 : Value} {v3 : Value} {v4 : Value} {v5 : Value} {v6 : Value} {v7 : Value} {v8 : Value} : am_g d X am_m8900 2940 [v0, v1, v2, v3, v4, v5, v6, v7, v8] sk st Q = am_g d X am_m8900 2941 [v0, v1, v2, v3, v4, v5, v6, v7, v8] (.int (am_i 0) :: sk) st Q := am_gu.trans rfl
set_option maxRecDepth 100000 in
theorem u8900_2941 {v0 : Value} {v1 : Value} {v2 : Value} {v3 : Value} {v4 : Value} {v5 : Value} {v6 : Value} {v7 : Value} {v8 : Value} : am_g d X am_m8900 2941 [v0, v1, v2, v3, v4, v5, v6, v7, v8] sk st Q = am_jl 2942 [v0, v1, v2, v3, v4, v5, v6, v7, v8] sk st (fun pc lc sk st => am_g d X am_m8900 pc lc sk st Q) := am_gu.trans rfl
set_option maxRecDepth 100000 in
theorem u8900_2942 {v0 : Value} {v1 : Value} {v2 : Value} {v3 : Value} {v4 : Value} {v5 : Value} {v7 : Value} {v8 : Value} {x : Int32} : am_g d X am_m8900 2942 [v0, v1, v2, v3, v4, v5, .int x, v7, v8] sk st Q = am_g d X am_m8900 2944 [v0, v1, v2, v3, v4, v5, .int x, v7, v8] (.int x :: sk) st Q := am_gu.trans rfl
set_option maxRecDepth 100000 in
theorem u8900_2944 {v0 : Value} {v1 : Value} {v2 : Value} {v3 : Value} {v4 : Value} {v5 : Value} {v6 : Value} {v7 : Value} {v8 : Value} {x : Int32} : am_g d X am_m8900 2944 [v0, v1, v2, v3, v4, v5, v6, v7, v8] (.int x :: sk) st Q = am_g d X am_m8900 2945 [v0, v1, v2, v3, v4, v5, v6, v7, v8] (.long x.toInt64 :: sk) st Q := am_gu.trans rfl
set_option maxRecDepth 100000 in
theorem u8900_2945 {v0 : Value} {v1 : Value} {v2 : Value} {v3 : Value} {v4 : Value} {v5 : Value} {v6 : Value} {v7 : Value} {v8 : Value} {x : Int64} {y : Int64} : am_g d X am_m8900 2945 [v0, v1, v2, v3, v4, v5, v6, v7, v8] (.long y :: .long x :: sk) st Q = am_g d X am_m8900 2946 [v0, v1, v2, v3, v4, v5, v6, v7, v8] (.int (lg_cmp x y) :: sk) st Q := am_gu.trans rfl
set_option maxRecDepth 100000 in
theorem u8900_2946 {v0 : Value} {v1 : Value} {v2 : Value} {v3 : Value} {v4 : Value} {v5 : Value} {v6 : Value} {v7 : Value} {v8 : Value} {x : Int32} : am_g d X am_m8900 2946 [v0, v1, v2, v3, v4, v5, v6, v7, v8] (.int x :: sk) st Q = (if decide (x = 0) = true then am_g d X am_m8900 2951 [v0, v1, v2, v3, v4, v5, v6, v7, v8] sk st Q else am_g d X am_m8900 2949 [v0, v1, v2, v3, v4, v5, v6, v7, v8] sk st Q) := am_gu.trans rfl
set_option maxRecDepth 100000 in
theorem u8900_2949 {v0 : Value} {v1 : Value} {v2 : Value} {v3 : Value} {v4 : Value} {v5 : Value} {v6 : Value} {v7 : Value} {v8 : Value} : am_g d X am_m8900 2949 [v0, v1, v2, v3, v4, v5, v6, v7, v8] sk st Q = am_g d X am_m8900 2950 [v0, v1, v2, v3, v4, v5, v6, v7, v8] (.int (am_i 0) :: sk) st Q := am_gu.trans rfl
set_option maxRecDepth 100000 in
theorem u8900_2950 {v0 : Value} {v1 : Value} {v2 : Value} {v3 : Value} {v4 : Value} {v5 : Value} {v6 : Value} {v7 : Value} {v8 : Value} {x : Int32} : am_g d X am_m8900 2950 [v0, v1, v2, v3, v4, v5, v6, v7, v8] [.int x] st Q = ((x = 0 ∨ x = 1) ∧ Q (.inl (some (.int x))) st) := am_gu.trans rfl
set_option maxRecDepth 100000 in
theorem u8900_2951 {v0 : Value} {v1 : Value} {v2 : Value} {v3 : Value} {v4 : Value} {v5 : Value} {v6 : Value} {v7 : Value} {v8 : Value} : am_g d X am_m8900 2951 [v0, v1, v2, v3, v4, v5, v6, v7, v8] sk st Q = am_g d X am_m8900 2998 [v0, v1, v2, v3, v4, v5, v6, v7, v8] sk st Q := am_gu.trans rfl
set_option maxRecDepth 100000 in
theorem u8900_2954 {v0 : Value} {v2 : Value} {v3 : Value} {v4 : Value} {v5 : Value} {v6 : Value} {v7 : Value} {v8 : Value} {x : Nat} : am_g d X am_m8900 2954 [v0, .ref x, v2, v3, v4, v5, v6, v7, v8] sk st Q = am_g d X am_m8900 2955 [v0, .ref x, v2, v3, v4, v5, v6, v7, v8] (.ref x :: sk) st Q := am_gu.trans rfl
set_option maxRecDepth 100000 in
theorem u8900_2955 {v0 : Value} {v1 : Value} {v2 : Value} {v4 : Value} {v5 : Value} {v6 : Value} {v7 : Value} {v8 : Value} {x : Nat} : am_g d X am_m8900 2955 [v0, v1, v2, .ref x, v4, v5, v6, v7, v8] sk st Q = am_g d X am_m8900 2956 [v0, v1, v2, .ref x, v4, v5, v6, v7, v8] (.ref x :: sk) st Q := am_gu.trans rfl
set_option maxRecDepth 100000 in
theorem u8900_2956 {a0 : Value} {a1 : Value} {v0 : Value} {v1 : Value} {v2 : Value} {v3 : Value} {v4 : Value} {v5 : Value} {v6 : Value} {v7 : Value} {v8 : Value} : am_g d X am_m8900 2956 [v0, v1, v2, v3, v4, v5, v6, v7, v8] (a1 :: a0 :: sk) st Q = (sk.length ≤ 4 ∧ am_Ca X d 8040 [a0, a1] st (am_af am_m8900 2956 [v0, v1, v2, v3, v4, v5, v6, v7, v8] sk (fun pc lc sk st => am_g d X am_m8900 pc lc sk st Q) Q)) := am_gu.trans (propext ⟨fun h => ⟨h.1.2, h.2⟩, fun h => ⟨⟨Nat.le_add_left _ _, h.1⟩, h.2⟩⟩)
set_option maxRecDepth 100000 in
theorem u8900_2959 {v0 : Value} {v1 : Value} {v2 : Value} {v3 : Value} {v4 : Value} {v5 : Value} {v6 : Value} {v7 : Value} {v8 : Value} {x : Int32} : am_g d X am_m8900 2959 [v0, v1, v2, v3, v4, v5, v6, v7, v8] (.int x :: sk) st Q = am_g d X am_m8900 2961 [v0, v1, v2, v3, am_kc v4, .int x, v6, v7, v8] sk st Q := am_gu.trans (congrArg (fun l => am_g d X am_m8900 2961 (List.set l 5 (.int x)) sk st Q) (kl_5 (l := [v5, v6, v7, v8])))
set_option maxRecDepth 100000 in
theorem u8900_2961 {v0 : Value} {v1 : Value} {v3 : Value} {v4 : Value} {v5 : Value} {v6 : Value} {v7 : Value} {v8 : Value} {x : Nat} : am_g d X am_m8900 2961 [v0, v1, .ref x, v3, v4, v5, v6, v7, v8] sk st Q = am_g d X am_m8900 2962 [v0, v1, .ref x, v3, v4, v5, v6, v7, v8] (.ref x :: sk) st Q := am_gu.trans rfl
set_option maxRecDepth 100000 in
theorem u8900_2962 {v0 : Value} {v1 : Value} {v2 : Value} {v3 : Value} {v4 : Value} {v5 : Value} {v6 : Value} {v7 : Value} {v8 : Value} : am_g d X am_m8900 2962 [v0, v1, v2, v3, v4, v5, v6, v7, v8] (.ref o :: sk) st Q = ((am_ob st o 7 ∧ sk.length ≤ 4) ∧ am_Ca X d 7069 [.ref o] st (am_af am_m8900 2962 [v0, v1, v2, v3, v4, v5, v6, v7, v8] sk (fun pc lc sk st => am_g d X am_m8900 pc lc sk st Q) Q)) := am_gu.trans rfl
set_option maxRecDepth 100000 in
theorem u8900_2965 {v0 : Value} {v1 : Value} {v2 : Value} {v3 : Value} {v4 : Value} {v5 : Value} {v6 : Value} {v7 : Value} {v8 : Value} {x : Int32} : am_g d X am_m8900 2965 [v0, v1, v2, v3, v4, v5, v6, v7, v8] (.int x :: sk) st Q = am_g d X am_m8900 2967 [v0, v1, v2, v3, v4, am_kc v5, .int x, v7, v8] sk st Q := am_gu.trans (congrArg (fun l => am_g d X am_m8900 2967 (List.set l 6 (.int x)) sk st Q) (kl_6 (l := [v6, v7, v8])))
set_option maxRecDepth 100000 in
theorem u8900_2967 {v0 : Value} {v1 : Value} {v3 : Value} {v4 : Value} {v5 : Value} {v6 : Value} {v7 : Value} {v8 : Value} {x : Nat} : am_g d X am_m8900 2967 [v0, v1, .ref x, v3, v4, v5, v6, v7, v8] sk st Q = am_g d X am_m8900 2968 [v0, v1, .ref x, v3, v4, v5, v6, v7, v8] (.ref x :: sk) st Q := am_gu.trans rfl
set_option maxRecDepth 100000 in
theorem u8900_2968 {v0 : Value} {v1 : Value} {v2 : Value} {v3 : Value} {v4 : Value} {v5 : Value} {v6 : Value} {v7 : Value} {v8 : Value} : am_g d X am_m8900 2968 [v0, v1, v2, v3, v4, v5, v6, v7, v8] (.ref o :: sk) st Q = ((am_ob st o 7 ∧ sk.length ≤ 4) ∧ am_Ca X d 7002 [.ref o] st (am_af am_m8900 2968 [v0, v1, v2, v3, v4, v5, v6, v7, v8] sk (fun pc lc sk st => am_g d X am_m8900 pc lc sk st Q) Q)) := am_gu.trans rfl
set_option maxRecDepth 100000 in
theorem u8900_2971 {v0 : Value} {v1 : Value} {v2 : Value} {v3 : Value} {v4 : Value} {v6 : Value} {v7 : Value} {v8 : Value} {x : Int32} : am_g d X am_m8900 2971 [v0, v1, v2, v3, v4, .int x, v6, v7, v8] sk st Q = am_g d X am_m8900 2973 [v0, v1, v2, v3, v4, .int x, v6, v7, v8] (.int x :: sk) st Q := am_gu.trans rfl
set_option maxRecDepth 100000 in
theorem u8900_2973 {v0 : Value} {v1 : Value} {v2 : Value} {v3 : Value} {v4 : Value} {v5 : Value} {v6 : Value} {v7 : Value} {v8 : Value} {x : Int32} {y : Int32} : am_g d X am_m8900 2973 [v0, v1, v2, v3, v4, v5, v6, v7, v8] (.int y :: .int x :: sk) st Q = (if decide (x = y) = true then am_g d X am_m8900 2978 [v0, v1, v2, v3, v4, v5, v6, v7, v8] sk st Q else am_g d X am_m8900 2976 [v0, v1, v2, v3, v4, v5, v6, v7, v8] sk st Q) := am_gu.trans rfl
set_option maxRecDepth 100000 in
theorem u8900_2976 {v0 : Value} {v1 : Value} {v2 : Value} {v3 : Value} {v4 : Value} {v5 : Value} {v6 : Value} {v7 : Value} {v8 : Value} : am_g d X am_m8900 2976 [v0, v1, v2, v3, v4, v5, v6, v7, v8] sk st Q = am_g d X am_m8900 2977 [v0, v1, v2, v3, v4, v5, v6, v7, v8] (.int (am_i 0) :: sk) st Q := am_gu.trans rfl
set_option maxRecDepth 100000 in
theorem u8900_2977 {v0 : Value} {v1 : Value} {v2 : Value} {v3 : Value} {v4 : Value} {v5 : Value} {v6 : Value} {v7 : Value} {v8 : Value} {x : Int32} : am_g d X am_m8900 2977 [v0, v1, v2, v3, v4, v5, v6, v7, v8] [.int x] st Q = ((x = 0 ∨ x = 1) ∧ Q (.inl (some (.int x))) st) := am_gu.trans rfl
set_option maxRecDepth 100000 in
theorem u8900_2978 {v0 : Value} {v1 : Value} {v2 : Value} {v3 : Value} {v4 : Value} {v6 : Value} {v7 : Value} {v8 : Value} {x : Int32} : am_g d X am_m8900 2978 [v0, v1, v2, v3, v4, .int x, v6, v7, v8] sk st Q = am_g d X am_m8900 2980 [v0, v1, v2, v3, v4, .int x, v6, v7, v8] (.int x :: sk) st Q := am_gu.trans rfl
set_option maxRecDepth 100000 in
theorem u8900_2980 {v0 : Value} {v1 : Value} {v2 : Value} {v3 : Value} {v4 : Value} {v5 : Value} {v6 : Value} {v7 : Value} {v8 : Value} {x : Int32} : am_g d X am_m8900 2980 [v0, v1, v2, v3, v4, v5, v6, v7, v8] (.int x :: sk) st Q = (if decide (¬ x = 0) = true then am_g d X am_m8900 2995 [v0, v1, v2, v3, v4, v5, v6, v7, v8] sk st Q else am_g d X am_m8900 2983 [v0, v1, v2, v3, v4, v5, v6, v7, v8] sk st Q) := am_gu.trans rfl
set_option maxRecDepth 100000 in
theorem u8900_2983 {v0 : Value} {v1 : Value} {v2 : Value} {v4 : Value} {v5 : Value} {v6 : Value} {v7 : Value} {v8 : Value} {x : Nat} : am_g d X am_m8900 2983 [v0, v1, v2, .ref x, v4, v5, v6, v7, v8] sk st Q = am_g d X am_m8900 2984 [v0, v1, v2, .ref x, v4, v5, v6, v7, v8] (.ref x :: sk) st Q := am_gu.trans rfl
set_option maxRecDepth 100000 in
theorem u8900_2984 {v0 : Value} {v1 : Value} {v2 : Value} {v3 : Value} {v4 : Value} {v5 : Value} {v6 : Value} {v7 : Value} {v8 : Value} : am_g d X am_m8900 2984 [v0, v1, v2, v3, v4, v5, v6, v7, v8] sk st Q = am_g d X am_m8900 2985 [v0, v1, v2, v3, v4, v5, v6, v7, v8] (.int (am_i 0) :: sk) st Q := am_gu.trans rfl
set_option maxRecDepth 100000 in
theorem u8900_2985 {v0 : Value} {v1 : Value} {v2 : Value} {v3 : Value} {v4 : Value} {v5 : Value} {v6 : Value} {v7 : Value} {v8 : Value} : am_g d X am_m8900 2985 [v0, v1, v2, v3, v4, v5, v6, v7, v8] sk st Q = am_jl 2986 [v0, v1, v2, v3, v4, v5, v6, v7, v8] sk st (fun pc lc sk st => am_g d X am_m8900 pc lc sk st Q) := am_gu.trans rfl
set_option maxRecDepth 100000 in
theorem u8900_2986 {v0 : Value} {v1 : Value} {v2 : Value} {v3 : Value} {v4 : Value} {v5 : Value} {v7 : Value} {v8 : Value} {x : Int32} : am_g d X am_m8900 2986 [v0, v1, v2, v3, v4, v5, .int x, v7, v8] sk st Q = am_g d X am_m8900 2988 [v0, v1, v2, v3, v4, v5, .int x, v7, v8] (.int x :: sk) st Q := am_gu.trans rfl
set_option maxRecDepth 100000 in
theorem u8900_2988 {v0 : Value} {v1 : Value} {v2 : Value} {v3 : Value} {v4 : Value} {v5 : Value} {v6 : Value} {v7 : Value} {v8 : Value} {x : Int32} : am_g d X am_m8900 2988 [v0, v1, v2, v3, v4, v5, v6, v7, v8] (.int x :: sk) st Q = am_g d X am_m8900 2989 [v0, v1, v2, v3, v4, v5, v6, v7, v8] (.long x.toInt64 :: sk) st Q := am_gu.trans rfl
set_option maxRecDepth 100000 in
theorem u8900_2989 {v0 : Value} {v1 : Value} {v2 : Value} {v3 : Value} {v4 : Value} {v5 : Value} {v6 : Value} {v7 : Value} {v8 : Value} {x : Int64} {y : Int64} : am_g d X am_m8900 2989 [v0, v1, v2, v3, v4, v5, v6, v7, v8] (.long y :: .long x :: sk) st Q = am_g d X am_m8900 2990 [v0, v1, v2, v3, v4, v5, v6, v7, v8] (.int (lg_cmp x y) :: sk) st Q := am_gu.trans rfl
set_option maxRecDepth 100000 in
theorem u8900_2990 {v0 : Value} {v1 : Value} {v2 : Value} {v3 : Value} {v4 : Value} {v5 : Value} {v6 : Value} {v7 : Value} {v8 : Value} {x : Int32} : am_g d X am_m8900 2990 [v0, v1, v2, v3, v4, v5, v6, v7, v8] (.int x :: sk) st Q = (if decide (x = 0) = true then am_g d X am_m8900 2995 [v0, v1, v2, v3, v4, v5, v6, v7, v8] sk st Q else am_g d X am_m8900 2993 [v0, v1, v2, v3, v4, v5, v6, v7, v8] sk st Q) := am_gu.trans rfl
set_option maxRecDepth 100000 in
theorem u8900_2993 {v0 : Value} {v1 : Value} {v2 : Value} {v3 : Value} {v4 : Value} {v5 : Value} {v6 : Value} {v7 : Value} {v8 : Value} : am_g d X am_m8900 2993 [v0, v1, v2, v3, v4, v5, v6, v7, v8] sk st Q = am_g d X am_m8900 2994 [v0, v1, v2, v3, v4, v5, v6, v7, v8] (.int (am_i 0) :: sk) st Q := am_gu.trans rfl
set_option maxRecDepth 100000 in
theorem u8900_2994 {v0 : Value} {v1 : Value} {v2 : Value} {v3 : Value} {v4 : Value} {v5 : Value} {v6 : Value} {v7 : Value} {v8 : Value} {x : Int32} : am_g d X am_m8900 2994 [v0, v1, v2, v3, v4, v5, v6, v7, v8] [.int x] st Q = ((x = 0 ∨ x = 1) ∧ Q (.inl (some (.int x))) st) := am_gu.trans rfl
set_option maxRecDepth 100000 in
theorem u8900_2995 {v0 : Value} {v1 : Value} {v2 : Value} {v3 : Value} {v4 : Value} {v5 : Value} {v6 : Value} {v7 : Value} {v8 : Value} : am_g d X am_m8900 2995 [v0, v1, v2, v3, v4, v5, v6, v7, v8] sk st Q = am_g d X am_m8900 2998 [v0, v1, v2, v3, v4, v5, v6, v7, v8] sk st Q := am_gu.trans rfl
set_option maxRecDepth 100000 in
theorem u8900_2998 {v0 : Value} {v1 : Value} {v2 : Value} {v3 : Value} {v5 : Value} {v6 : Value} {v7 : Value} {v8 : Value} {x : Int32} : am_g d X am_m8900 2998 [v0, v1, v2, v3, .int x, v5, v6, v7, v8] sk st Q = am_g d X am_m8900 3001 [v0, v1, v2, am_kc v3, .int (x + am_i 5), v5, v6, v7, v8] sk st Q := am_gu.trans (congrArg (fun l => am_g d X am_m8900 3001 (List.set l 4 (.int (x + am_i 5))) sk st Q) (kl_4 (l := [.int x, v5, v6, v7, v8])))
set_option maxRecDepth 100000 in
theorem u8900_3001 {v0 : Value} {v1 : Value} {v2 : Value} {v3 : Value} {v4 : Value} {v5 : Value} {v6 : Value} {v7 : Value} {v8 : Value} : am_g d X am_m8900 3001 [v0, v1, v2, v3, v4, v5, v6, v7, v8] sk st Q = am_g d X am_m8900 23 [v0, v1, v2, v3, v4, v5, v6, v7, v8] sk st Q := am_gu.trans rfl
set_option maxRecDepth 100000 in
theorem u8900_3004 {v0 : Value} {v1 : Value} {v2 : Value} {v3 : Value} {v4 : Value} {v5 : Value} {v6 : Value} {v7 : Value} {v8 : Value} : am_g d X am_m8900 3004 [v0, v1, v2, v3, v4, v5, v6, v7, v8] sk st Q = am_g d X am_m8900 3005 [v0, v1, v2, v3, v4, v5, v6, v7, v8] (.int (am_i 1) :: sk) st Q := am_gu.trans rfl
set_option maxRecDepth 100000 in
theorem u8900_3005 {v0 : Value} {v1 : Value} {v2 : Value} {v3 : Value} {v4 : Value} {v5 : Value} {v6 : Value} {v7 : Value} {v8 : Value} {x : Int32} : am_g d X am_m8900 3005 [v0, v1, v2, v3, v4, v5, v6, v7, v8] [.int x] st Q = ((x = 0 ∨ x = 1) ∧ Q (.inl (some (.int x))) st) := am_gu.trans rfl
end UU
