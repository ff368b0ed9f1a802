theorem z_text {args : Array Value} {s : State} {N0 : Nat} {t : Term} {n : Nat} {f : Nat → Int32} (hn : n < 2 ^ 31) (hex : (Cond.exactly t "java/lang/String").before args s = true) (hco : (Cond.eq (.field t "java/lang/String" "coder" "B") (.int 0)).before args s = true) (har : (Cond.arrayOf (.field t "java/lang/String" "value" "[B") .byte).before args s = true) (hle : (Cond.eq (.length (.field t "java/lang/String" "value" "[B")) (.int (Int32.ofNat n))).before args s = true)
    (hel : ∀ j, j < n → (Cond.eq (.elem (.field t "java/lang/String" "value" "[B") (.int (Int32.ofNat j))) (.int (f j))).before args s = true) (hf : ∀ j, j < n → fits .byte (.int (f j)) = true) (hA : ∀ a : Nat, a < s.heap.size → ¬ N0 ≤ a) : ∃ a v, t.eval args s none [] s = some (.ref a) ∧ zs a v n (fun q => N0 ≤ q) s s.heap := by
  obtain ⟨a, c, cA, kA, q1, q2, q3, q4, q5, q6, -⟩ := Cond.exactly_spec (args := args) (first := s) (o := none) (s := s) (idx := []) (t := t) (cls := "java/lang/String") hex
  obtain ⟨v, hv, hT⟩ := va_Tof (f := fun j => .int (f j)) (A := fun q => N0 ≤ q) hn har (va_eqt hle) (fun j hj => va_eqt (hel j hj)) hA
  exact ⟨a, v, q1, ⟨cA, q3, q5, by rw [q6]; exact q2, hA a (Array.getElem?_eq_some_iff.mp q3).1⟩, vk_OFof q1 (va_eqt hco) hA, vk_OFof q1 hv hA, f, hT, hf⟩
set_option maxRecDepth 100000 in
set_option maxHeartbeats 8000000 in
/-- what the Statement gives of a start: what lies below the floor -/
theorem z_start {b : Nat} {s : State} (hts : ∀ w ∈ zz_tbl, w.before #[Value.ref b] s = true) (hfl : ∀ c ∈ flatC (Jvm.Cond.and given_1 narrow_1), c.before #[Value.ref b] s = true) : ∃ e : zE, zG s.heap.size e s s.heap := by
  have hA : ∀ a : Nat, a < s.heap.size → ¬ s.heap.size ≤ a := fun a h => Nat.not_le.mpr h
  obtain ⟨a0, v0, ht0, hz0⟩ := z_text (N0 := s.heap.size) (t := .string "JoinrowModel" 32) (n := 0) (f := fun j => ([] : List Int32).getD j 0) (by decide) (hfl _ (List.mem_of_getElem? (i := 670) (by decide +kernel))) (hfl _ (List.mem_of_getElem? (i := 671) (by decide +kernel))) (hfl _ (List.mem_of_getElem? (i := 672) (by decide +kernel))) (hfl _ (List.mem_of_getElem? (i := 673) (by decide +kernel))) (fun j hj => absurd hj (Nat.not_lt_zero j)) (fun j hj => absurd hj (Nat.not_lt_zero j)) hA
  obtain ⟨a1, v1, ht1, hz1⟩ := z_text (N0 := s.heap.size) (t := .string "Joinrow" 240) (n := 1) (f := fun j => ([44] : List Int32).getD j 0) (by decide) (hfl _ (List.mem_of_getElem? (i := 325) (by decide +kernel))) (hfl _ (List.mem_of_getElem? (i := 326) (by decide +kernel))) (hfl _ (List.mem_of_getElem? (i := 327) (by decide +kernel))) (hfl _ (List.mem_of_getElem? (i := 328) (by decide +kernel))) (fun j hj => match j, hj with | 0, _ => (hfl _ (List.mem_of_getElem? (i := 329) (by decide +kernel)))) (fun j hj => match j, hj with | 0, _ => rfl) hA
  obtain ⟨a2, v2, ht2, hz2⟩ := z_text (N0 := s.heap.size) (t := .string "Joinrow" 248) (n := 1) (f := fun j => ([91] : List Int32).getD j 0) (by decide) (hfl _ (List.mem_of_getElem? (i := 347) (by decide +kernel))) (hfl _ (List.mem_of_getElem? (i := 348) (by decide +kernel))) (hfl _ (List.mem_of_getElem? (i := 349) (by decide +kernel))) (hfl _ (List.mem_of_getElem? (i := 350) (by decide +kernel))) (fun j hj => match j, hj with | 0, _ => (hfl _ (List.mem_of_getElem? (i := 351) (by decide +kernel)))) (fun j hj => match j, hj with | 0, _ => rfl) hA
  obtain ⟨a3, v3, ht3, hz3⟩ := z_text (N0 := s.heap.size) (t := .string "Joinrow" 250) (n := 1) (f := fun j => ([93] : List Int32).getD j 0) (by decide) (hfl _ (List.mem_of_getElem? (i := 352) (by decide +kernel))) (hfl _ (List.mem_of_getElem? (i := 353) (by decide +kernel))) (hfl _ (List.mem_of_getElem? (i := 354) (by decide +kernel))) (hfl _ (List.mem_of_getElem? (i := 355) (by decide +kernel))) (fun j hj => match j, hj with | 0, _ => (hfl _ (List.mem_of_getElem? (i := 356) (by decide +kernel)))) (fun j hj => match j, hj with | 0, _ => rfl) hA
  obtain ⟨a4, v4, ht4, hz4⟩ := z_text (N0 := s.heap.size) (t := .string "Joinrow" 242) (n := 2) (f := fun j => ([44, 32] : List Int32).getD j 0) (by decide) (hfl _ (List.mem_of_getElem? (i := 330) (by decide +kernel))) (hfl _ (List.mem_of_getElem? (i := 331) (by decide +kernel))) (hfl _ (List.mem_of_getElem? (i := 332) (by decide +kernel))) (hfl _ (List.mem_of_getElem? (i := 333) (by decide +kernel))) (fun j hj => match j, hj with | 0, _ => (hfl _ (List.mem_of_getElem? (i := 334) (by decide +kernel))) | 1, _ => (hfl _ (List.mem_of_getElem? (i := 335) (by decide +kernel)))) (fun j hj => match j, hj with | 0, _ => rfl | 1, _ => rfl) hA
  obtain ⟨a5, v5, ht5, hz5⟩ := z_text (N0 := s.heap.size) (t := .string "Joinrow" 244) (n := 1) (f := fun j => ([45] : List Int32).getD j 0) (by decide) (hfl _ (List.mem_of_getElem? (i := 336) (by decide +kernel))) (hfl _ (List.mem_of_getElem? (i := 337) (by decide +kernel))) (hfl _ (List.mem_of_getElem? (i := 338) (by decide +kernel))) (hfl _ (List.mem_of_getElem? (i := 339) (by decide +kernel))) (fun j hj => match j, hj with | 0, _ => (hfl _ (List.mem_of_getElem? (i := 340) (by decide +kernel)))) (fun j hj => match j, hj with | 0, _ => rfl) hA
  obtain ⟨a6, v6, ht6, hz6⟩ := z_text (N0 := s.heap.size) (t := .string "Joinrow" 246) (n := 2) (f := fun j => ([58, 58] : List Int32).getD j 0) (by decide) (hfl _ (List.mem_of_getElem? (i := 341) (by decide +kernel))) (hfl _ (List.mem_of_getElem? (i := 342) (by decide +kernel))) (hfl _ (List.mem_of_getElem? (i := 343) (by decide +kernel))) (hfl _ (List.mem_of_getElem? (i := 344) (by decide +kernel))) (fun j hj => match j, hj with | 0, _ => (hfl _ (List.mem_of_getElem? (i := 345) (by decide +kernel))) | 1, _ => (hfl _ (List.mem_of_getElem? (i := 346) (by decide +kernel)))) (fun j hj => match j, hj with | 0, _ => rfl | 1, _ => rfl) hA
  obtain ⟨a7, v7, ht7, hz7⟩ := z_text (N0 := s.heap.size) (t := .string "Joinrow" 252) (n := 1) (f := fun j => ([40] : List Int32).getD j 0) (by decide) (hfl _ (List.mem_of_getElem? (i := 357) (by decide +kernel))) (hfl _ (List.mem_of_getElem? (i := 358) (by decide +kernel))) (hfl _ (List.mem_of_getElem? (i := 359) (by decide +kernel))) (hfl _ (List.mem_of_getElem? (i := 360) (by decide +kernel))) (fun j hj => match j, hj with | 0, _ => (hfl _ (List.mem_of_getElem? (i := 361) (by decide +kernel)))) (fun j hj => match j, hj with | 0, _ => rfl) hA
  obtain ⟨a8, v8, ht8, hz8⟩ := z_text (N0 := s.heap.size) (t := .string "Joinrow" 254) (n := 1) (f := fun j => ([41] : List Int32).getD j 0) (by decide) (hfl _ (List.mem_of_getElem? (i := 362) (by decide +kernel))) (hfl _ (List.mem_of_getElem? (i := 363) (by decide +kernel))) (hfl _ (List.mem_of_getElem? (i := 364) (by decide +kernel))) (hfl _ (List.mem_of_getElem? (i := 365) (by decide +kernel))) (fun j hj => match j, hj with | 0, _ => (hfl _ (List.mem_of_getElem? (i := 366) (by decide +kernel)))) (fun j hj => match j, hj with | 0, _ => rfl) hA
  obtain ⟨a9, v9, ht9, hz9⟩ := z_text (N0 := s.heap.size) (t := .string "Joinrow" 256) (n := 2) (f := fun j => ([123, 125] : List Int32).getD j 0) (by decide) (hfl _ (List.mem_of_getElem? (i := 367) (by decide +kernel))) (hfl _ (List.mem_of_getElem? (i := 368) (by decide +kernel))) (hfl _ (List.mem_of_getElem? (i := 369) (by decide +kernel))) (hfl _ (List.mem_of_getElem? (i := 370) (by decide +kernel))) (fun j hj => match j, hj with | 0, _ => (hfl _ (List.mem_of_getElem? (i := 371) (by decide +kernel))) | 1, _ => (hfl _ (List.mem_of_getElem? (i := 372) (by decide +kernel)))) (fun j hj => match j, hj with | 0, _ => rfl | 1, _ => rfl) hA
  obtain ⟨a10, v10, ht10, hz10⟩ := z_text (N0 := s.heap.size) (t := .string "Joinrow" 258) (n := 4) (f := fun j => ([110, 117, 108, 108] : List Int32).getD j 0) (by decide) (hfl _ (List.mem_of_getElem? (i := 373) (by decide +kernel))) (hfl _ (List.mem_of_getElem? (i := 374) (by decide +kernel))) (hfl _ (List.mem_of_getElem? (i := 375) (by decide +kernel))) (hfl _ (List.mem_of_getElem? (i := 376) (by decide +kernel))) (fun j hj => match j, hj with | 0, _ => (hfl _ (List.mem_of_getElem? (i := 377) (by decide +kernel))) | 1, _ => (hfl _ (List.mem_of_getElem? (i := 378) (by decide +kernel))) | 2, _ => (hfl _ (List.mem_of_getElem? (i := 379) (by decide +kernel))) | 3, _ => (hfl _ (List.mem_of_getElem? (i := 380) (by decide +kernel)))) (fun j hj => match j, hj with | 0, _ => rfl | 1, _ => rfl | 2, _ => rfl | 3, _ => rfl) hA
  obtain ⟨ed, hed, hTd⟩ := va_Tof (tm := .static "java/util/ArrayList" "DEFAULTCAPACITY_EMPTY_ELEMENTDATA" "[Ljava/lang/Object;") (ty := .object "java/lang/Object") (N := 0) (f := fun _ => .null) (A := fun q => s.heap.size ≤ q) (by decide) (hfl _ (List.mem_of_getElem? (i := 218) (by decide +kernel))) (va_eqt (hfl _ (List.mem_of_getElem? (i := 220) (by decide +kernel)))) (fun j hj => absurd hj (Nat.not_lt_zero j)) hA
  obtain ⟨mi, hmi⟩ := va_Mi.of (C := "[Ljava/lang/Object;") (hfl _ (List.mem_of_getElem? (i := 324) (by decide +kernel)))
  refine ⟨(ed, 0, (fun k => if k = 100 then mi else [a0, a1, a2, a3, a4, a5, a6, a7, a8, a9, a10].getD k 0), (fun k => [v0, v1, v2, v3, v4, v5, v6, v7, v8, v9, v10].getD k 0)), ?_, ?_, hTd, ?_, ?_, ?_, ?_, hmi, ?_, ?_, ?_⟩
  · exact va_Zof (hts (.laysStatic "java/lang/String" "COMPACT_STRINGS" "Z") (List.mem_of_getElem? (i := 117) (by decide +kernel))) (hts (.initialized "java/lang/String") (List.mem_of_getElem? (i := 35) (by decide +kernel))) (va_eqi (hfl _ (List.mem_of_getElem? (i := 4) (by decide +kernel)))) hA
  · exact va_Zof (hts (.laysStatic "java/util/ArrayList" "DEFAULTCAPACITY_EMPTY_ELEMENTDATA" "[Ljava/lang/Object;") (List.mem_of_getElem? (i := 947) (by decide +kernel))) (hts (.initialized "java/util/ArrayList") (List.mem_of_getElem? (i := 44) (by decide +kernel))) hed hA
  · exact va_Zqof (hts (.laysStatic "jdk/internal/util/Preconditions" "SIOOBE_FORMATTER" "Ljava/util/function/BiFunction;") (List.mem_of_getElem? (i := 133) (by decide +kernel))) (hts (.initialized "jdk/internal/util/Preconditions") (List.mem_of_getElem? (i := 37) (by decide +kernel))) (hfl _ (List.mem_of_getElem? (i := 5) (by decide +kernel))) hA
  · intro k hk
    match k, hk with
    | 0, _ => exact hz0
    | 1, _ => exact hz1
    | 2, _ => exact hz2
    | 3, _ => exact hz3
    | 4, _ => exact hz4
    | 5, _ => exact hz5
    | 6, _ => exact hz6
    | 7, _ => exact hz7
    | 8, _ => exact hz8
    | 9, _ => exact hz9
    | 10, _ => exact hz10
  · intro q hq
    simp only [zRefs, List.mem_cons, List.not_mem_nil, or_false] at hq
    rcases hq with rfl | rfl | rfl | rfl | rfl | rfl | rfl | rfl | rfl | rfl | rfl | rfl | rfl | rfl | rfl | rfl | rfl | rfl
    · exact vk_R.of (A := #[Value.ref b]) (hts (.stringRef "JoinrowModel" 32 "") (List.mem_of_getElem? (i := 1017) (by decide +kernel))) ht0
    · exact vk_R.of (A := #[Value.ref b]) (hts (.stringRef "JoinrowModel$Joiner" 36 "") (List.mem_of_getElem? (i := 1062) (by decide +kernel))) (va_eqR (hfl _ (List.mem_of_getElem? (i := 682) (by decide +kernel))) ht0)
    · exact vk_R.of (A := #[Value.ref b]) (hts (.stringRef "JoinrowModel" 15 ",") (List.mem_of_getElem? (i := 924) (by decide +kernel))) (va_eqR (hfl _ (List.mem_of_getElem? (i := 636) (by decide +kernel))) ht1)
    · exact vk_R.of (A := #[Value.ref b]) (hts (.stringRef "JoinrowModel$Joiner" 7 ",") (List.mem_of_getElem? (i := 931) (by decide +kernel))) (va_eqR (hfl _ (List.mem_of_getElem? (i := 654) (by decide +kernel))) ht1)
    · exact vk_R.of (A := #[Value.ref b]) (hts (.stringRef "JoinrowModel" 17 "[") (List.mem_of_getElem? (i := 925) (by decide +kernel))) (va_eqR (hfl _ (List.mem_of_getElem? (i := 642) (by decide +kernel))) ht2)
    · exact vk_R.of (A := #[Value.ref b]) (hts (.stringRef "JoinrowModel$Joiner" 15 "[") (List.mem_of_getElem? (i := 932) (by decide +kernel))) (va_eqR (hfl _ (List.mem_of_getElem? (i := 661) (by decide +kernel))) ht2)
    · exact vk_R.of (A := #[Value.ref b]) (hts (.stringRef "JoinrowModel" 19 "]") (List.mem_of_getElem? (i := 926) (by decide +kernel))) (va_eqR (hfl _ (List.mem_of_getElem? (i := 648) (by decide +kernel))) ht3)
    · exact vk_R.of (A := #[Value.ref b]) (hts (.stringRef "JoinrowModel$Joiner" 20 "]") (List.mem_of_getElem? (i := 933) (by decide +kernel))) (va_eqR (hfl _ (List.mem_of_getElem? (i := 668) (by decide +kernel))) ht3)
    · exact vk_R.of (A := #[Value.ref b]) (hts (.stringRef "Joinrow" 240 ",") (List.mem_of_getElem? (i := 94) (by decide +kernel))) ht1
    · exact vk_R.of (A := #[Value.ref b]) (hts (.stringRef "Joinrow" 242 ", ") (List.mem_of_getElem? (i := 95) (by decide +kernel))) ht4
    · exact vk_R.of (A := #[Value.ref b]) (hts (.stringRef "Joinrow" 244 "-") (List.mem_of_getElem? (i := 96) (by decide +kernel))) ht5
    · exact vk_R.of (A := #[Value.ref b]) (hts (.stringRef "Joinrow" 246 "::") (List.mem_of_getElem? (i := 97) (by decide +kernel))) ht6
    · exact vk_R.of (A := #[Value.ref b]) (hts (.stringRef "Joinrow" 248 "[") (List.mem_of_getElem? (i := 98) (by decide +kernel))) ht2
    · exact vk_R.of (A := #[Value.ref b]) (hts (.stringRef "Joinrow" 250 "]") (List.mem_of_getElem? (i := 99) (by decide +kernel))) ht3
    · exact vk_R.of (A := #[Value.ref b]) (hts (.stringRef "Joinrow" 252 "(") (List.mem_of_getElem? (i := 100) (by decide +kernel))) ht7
    · exact vk_R.of (A := #[Value.ref b]) (hts (.stringRef "Joinrow" 254 ")") (List.mem_of_getElem? (i := 101) (by decide +kernel))) ht8
    · exact vk_R.of (A := #[Value.ref b]) (hts (.stringRef "Joinrow" 256 "{}") (List.mem_of_getElem? (i := 102) (by decide +kernel))) ht9
    · exact vk_R.of (A := #[Value.ref b]) (hts (.stringRef "Joinrow" 258 "null") (List.mem_of_getElem? (i := 103) (by decide +kernel))) ht10
  · intro q hq
    simp only [zObjs, List.mem_cons, List.not_mem_nil, or_false] at hq
    rcases hq with rfl | rfl | rfl | rfl
    · exact va_AO.of (A := #[Value.ref b]) (hts (.arrayOver (.object "java/lang/Object")) (List.mem_of_getElem? (i := 1136) (by decide +kernel)))
    · exact va_AO.of (A := #[Value.ref b]) (hts (.arrayOver (.object "Joinrow$Signs")) (List.mem_of_getElem? (i := 70) (by decide +kernel)))
    · exact va_AO.of (A := #[Value.ref b]) (hts (.arrayOver (.object "Joinrow$Joiner")) (List.mem_of_getElem? (i := 72) (by decide +kernel)))
    · exact va_AO.of (A := #[Value.ref b]) (hts (.arrayOver (.object "JoinrowModel$Joiner")) (List.mem_of_getElem? (i := 922) (by decide +kernel)))
  · intro q hq
    simp only [zNests, List.mem_cons, List.not_mem_nil, or_false] at hq
    rcases hq with rfl | rfl | rfl
    · exact va_Nw.of rfl (hts (.fieldLinkNest "Joinrow$Joiner" 40 "Joinrow$Signs" "count" "I" "Joinrow") (List.mem_of_getElem? (i := 80) (by decide +kernel)))
    · exact va_Nw.of rfl (hts (.fieldLinkNest "Joinrow" 139 "Joinrow$Signs" "count" "I" "Joinrow") (List.mem_of_getElem? (i := 81) (by decide +kernel)))
    · exact va_Nw.of rfl (hts (.fieldLinkNest "JoinrowLaw" 13 "JoinrowLaw$Out" "n" "J" "JoinrowLaw") (List.mem_of_getElem? (i := 477) (by decide +kernel)))
  · exact va_Nw.of rfl (hts (.castable "java/lang/String" "java/lang/Object") (List.mem_of_getElem? (i := 1300) (by decide +kernel)))
  · exact va_Dc.of (A := #[Value.ref b]) (hts (.declares ⟨"java/lang/Object", "getClass", "()Ljava/lang/Class;"⟩) (List.mem_of_getElem? (i := 1312) (by decide +kernel)))
set_option maxRecDepth 100000 in
set_option maxHeartbeats 8000000 in
/-- the classes, by their numbers -/
theorem z_classes {args : Array Value} {s : State} (hts : ∀ w ∈ zz_tbl, w.before args s = true) : ∃ D : va_G, va_K D vwCl [] s := by
  obtain ⟨c0, i0, h0⟩ := u_known (C := RJ0) (T := TJ0) (N := 4) (n := 4) hts (by decide +kernel) (hts (.instantiable RJ0 4) (List.mem_of_getElem? (i := 665) (by decide +kernel)))
  obtain ⟨c1, i1, h1⟩ := u_known (C := RJ4) (T := TJ4) (N := 4) (n := 4) hts (by decide +kernel) (hts (.instantiable RJ4 4) (List.mem_of_getElem? (i := 555) (by decide +kernel)))
  obtain ⟨c2, i2, h2⟩ := u_known (C := RJx4a65c) (T := TJx4a65c) (N := 3) (n := 3) hts (by decide +kernel) (hts (.instantiable RJx4a65c 3) (List.mem_of_getElem? (i := 935) (by decide +kernel)))
  obtain ⟨c3, i3, h3⟩ := u_known (C := RX0) (T := TX0) (N := 7) (n := 7) hts (by decide +kernel) (hts (.instantiable RX0 7) (List.mem_of_getElem? (i := 161) (by decide +kernel)))
  obtain ⟨c4, i4, h4⟩ := u_known (C := RX1) (T := TX1) (N := 2) (n := 2) hts (by decide +kernel) (hts (.instantiable RX1 2) (List.mem_of_getElem? (i := 73) (by decide +kernel)))
  obtain ⟨c5, i5, h5⟩ := u_known (C := RX2) (T := TX2) (N := 11) (n := 11) hts (by decide +kernel) (hts (.instantiable RX2 11) (List.mem_of_getElem? (i := 62) (by decide +kernel)))
  obtain ⟨c6, i6, h6⟩ := u_known (C := RX3) (T := TX3) (N := 2) (n := 2) hts (by decide +kernel) (hts (.instantiable RX3 2) (List.mem_of_getElem? (i := 472) (by decide +kernel)))
  obtain ⟨c7, i7, h7⟩ := u_known (C := RX4) (T := TX4) (N := 5) (n := 5) hts (by decide +kernel) (hts (.instantiable RX4 5) (List.mem_of_getElem? (i := 923) (by decide +kernel)))
  obtain ⟨c8, i8, h8⟩ := u_known (C := RX5) (T := TX5) (N := 4) (n := 4) hts (by decide +kernel) (hts (.instantiable RX5 4) (List.mem_of_getElem? (i := 916) (by decide +kernel)))
  refine ⟨(fun k => [c0, c1, c2, c3, c4, c5, c6, c7, c8].getD k 0, fun k => [i0, i1, i2, i3, i4, i5, i6, i7, i8].getD k (fun _ => 0)), ?_, fun k q h => by simp at h⟩
  intro k q hq
  match k, hq with
  | 0, hq => cases hq; exact h0
  | 1, hq => cases hq; exact h1
  | 2, hq => cases hq; exact h2
  | 3, hq => cases hq; exact h3
  | 4, hq => cases hq; exact h4
  | 5, hq => cases hq; exact h5
  | 6, hq => cases hq; exact h6
  | 7, hq => cases hq; exact h7
  | 8, hq => cases hq; exact h8
  | k + 9, hq => simp [vwCl] at hq
