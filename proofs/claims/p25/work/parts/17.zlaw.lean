/-- a private method of a superclass is selected, whatever the receiver's class -/
theorem z_selects {C : String} {y0 y : MethodName} {s : State} {args : Array Value} (hcl : y0.cls = y.cls) (hy : y.cls ≠ "java/lang/invoke/MethodHandle" ∧ y.cls ≠ "java/lang/invoke/VarHandle") (h0 : (Cond.selects C y0 y0).before args s = true) (hpriv : (Cond.privateMethod y).before args s = true) (hinst : (Cond.instanceMethod y).before args s = true) : (Cond.selects C y y).before args s = true := by
  obtain ⟨mk, methM, hnamed, hmethM, -, -⟩ := Cond.instanceMethod_spec hinst
  have hfound : s.methodFound? y.cls y.name y.desc = some mk := State.methodFound?_of_named hnamed hy
  have hsel : selectMethod {} s.vm mk.cls mk = .method mk := selectMethod_private hmethM (Cond.privateMethod_at hpriv mk methM hnamed hmethM)
  simp only [Cond.before, Cond.holds, Cond.value] at h0 ⊢
  cases hc : s.vm.findClass C with
  | none => simp [hc] at h0
  | some c =>
    have hselc : selectMethod {} s.vm c mk = .method mk := selectMethod_private hmethM (Cond.privateMethod_at hpriv mk methM hnamed hmethM)
    cases hf0 : s.methodFound? y0.cls y0.name y0.desc with
    | none => simp [hc, hf0] at h0
    | some r0 =>
      cases hn0 : s.methodNamed? y0 with
      | none => simp [hc, hf0, hn0] at h0
      | some m0 =>
        have h1 := findClass_of_methodNamed hn0
        have h2 := findClass_of_methodNamed hnamed
        rw [hcl] at h1
        have h3 : m0.cls = mk.cls := Option.some.inj (h1.symm.trans h2)
        simp only [hc, hf0, hn0] at h0
        simp only [hfound, hnamed, hselc]
        cases hs : selectMethod {} s.vm c r0 <;> simp [hs] at h0
        rw [h3] at h0
        simp [h0.2]
def zz_sels : List Cond := [.selects "java/lang/StringBuilder" ⟨"java/lang/AbstractStringBuilder", "appendNull", "()Ljava/lang/AbstractStringBuilder;"⟩ ⟨"java/lang/AbstractStringBuilder", "appendNull", "()Ljava/lang/AbstractStringBuilder;"⟩, .selects "java/lang/StringBuilder" ⟨"java/lang/AbstractStringBuilder", "ensureCapacityInternal", "(I)V"⟩ ⟨"java/lang/AbstractStringBuilder", "ensureCapacityInternal", "(I)V"⟩, .selects "java/lang/StringBuilder" ⟨"java/lang/AbstractStringBuilder", "newCapacity", "(I)I"⟩ ⟨"java/lang/AbstractStringBuilder", "newCapacity", "(I)I"⟩, .selects "java/lang/StringBuilder" ⟨"java/lang/AbstractStringBuilder", "putStringAt", "(ILjava/lang/String;)V"⟩ ⟨"java/lang/AbstractStringBuilder", "putStringAt", "(ILjava/lang/String;)V"⟩, .selects "java/lang/StringBuilder" ⟨"java/lang/AbstractStringBuilder", "inflateIfNeededFor", "(Ljava/lang/String;)V"⟩ ⟨"java/lang/AbstractStringBuilder", "inflateIfNeededFor", "(Ljava/lang/String;)V"⟩, .selects "java/lang/StringBuilder" ⟨"java/lang/AbstractStringBuilder", "inflate", "()V"⟩ ⟨"java/lang/AbstractStringBuilder", "inflate", "()V"⟩]
def zz_tbl : List Cond := zz_sels ++ lw_tbl
set_option maxRecDepth 100000 in
set_option maxHeartbeats 4000000 in
theorem zz_hts {args : Array Value} {s : State} (hts : ∀ w ∈ lw_tbl, w.before args s = true) : ∀ w ∈ zz_tbl, w.before args s = true := by
  intro w hw
  rcases List.mem_append.mp hw with hw | hw
  · have h0 : (Cond.selects "java/lang/StringBuilder" ⟨"java/lang/AbstractStringBuilder", "getValue", "()[B"⟩ ⟨"java/lang/AbstractStringBuilder", "getValue", "()[B"⟩).before args s = true := hts _ (by decide +kernel)
    have key : ∀ y : MethodName, y.cls = "java/lang/AbstractStringBuilder" → Cond.privateMethod y ∈ lw_tbl → Cond.instanceMethod y ∈ lw_tbl → (Cond.selects "java/lang/StringBuilder" y y).before args s = true := fun y hy h1 h2 => z_selects hy.symm (by rw [hy]; exact ⟨by decide, by decide⟩) h0 (hts _ h1) (hts _ h2)
    simp only [zz_sels, List.mem_cons, List.not_mem_nil, or_false] at hw
    rcases hw with rfl | rfl | rfl | rfl | rfl | rfl
    · exact key _ rfl (by decide +kernel) (by decide +kernel)
    · exact key _ rfl (by decide +kernel) (by decide +kernel)
    · exact key _ rfl (by decide +kernel) (by decide +kernel)
    · exact key _ rfl (by decide +kernel) (by decide +kernel)
    · exact key _ rfl (by decide +kernel) (by decide +kernel)
    · exact key _ rfl (by decide +kernel) (by decide +kernel)
  · exact hts w hw
set_option maxRecDepth 100000 in
theorem wz_x0 : ∀ w ∈ (vx_atS RX2 150 "java/lang/IndexOutOfBoundsException" ["java/lang/RuntimeException", "java/lang/Exception"]).filter goodWord, w ∈ zz_tbl := by decide +kernel
set_option maxRecDepth 100000 in
theorem wz_x1 : ∀ w ∈ (vx_atS RX2 80 "java/lang/IllegalArgumentException" ["java/lang/RuntimeException", "java/lang/Exception"]).filter goodWord, w ∈ zz_tbl := by decide +kernel
set_option maxRecDepth 100000 in
theorem wz_x2 : ∀ w ∈ (vx_atS RX2 264 "java/lang/IllegalStateException" ["java/lang/RuntimeException", "java/lang/Exception"]).filter goodWord, w ∈ zz_tbl := by decide +kernel
set_option maxRecDepth 100000 in
set_option maxHeartbeats 4000000 in
theorem gz_X5_thrown : GoodIn zz_tbl wsX5_thrown := goodIn_r _ [997, 981, 985, 987, 989, 991] (by decide +kernel) (by decide +kernel)
set_option maxRecDepth 100000 in
set_option maxHeartbeats 4000000 in
theorem gz_X2_init : GoodIn zz_tbl wsX2_init := goodIn_r _ [65, 66, 67, 68, 69, 196, 71, 197, 198, 199, 73, 34, 200, 201, 202, 161, 39, 203, 204, 205, 206, 74, 75, 76, 77, 79, 87, 78, 88, 89, 33, 90, 91, 92, 93, 104, 105, 106, 107, 108, 109, 110, 35, 111, 762, 112, 113, 114, 115, 116, 763, 118, 119, 120, 121, 122, 123, 124, 125, 126, 127, 36, 128, 129, 130, 131, 132, 134, 135, 37, 136, 137, 138, 38, 139, 140, 141, 142, 143, 144, 145, 146, 147, 148, 149, 150, 152, 154, 156, 157, 158, 159, 160, 162, 163, 164, 165, 177, 179, 166, 168, 170, 171, 173, 175, 167, 207, 209, 211, 213, 215, 217, 219, 221, 223, 225, 227, 82, 84, 180, 182, 184, 186, 188, 190, 192, 764, 766, 768, 770] (by decide +kernel) (by decide +kernel)
set_option maxRecDepth 100000 in
set_option maxHeartbeats 4000000 in
theorem gz_X3_init : GoodIn zz_tbl wsX3_init := goodIn_r _ [475, 476, 67, 68] (by decide +kernel) (by decide +kernel)
set_option maxRecDepth 100000 in
set_option maxHeartbeats 4000000 in
theorem gz_X5_init : GoodIn zz_tbl wsX5_init := goodIn_r _ [919, 920, 67, 68, 921, 982, 923, 41, 927, 928, 929, 930, 960, 962, 964, 934, 935, 44, 966, 936, 937, 938, 946, 948, 939, 940, 43, 941, 950, 942, 943, 42, 944, 945, 985, 987, 989, 991, 970, 972, 974, 976, 978, 957, 953, 955] (by decide +kernel) (by decide +kernel)
set_option maxRecDepth 100000 in
set_option maxHeartbeats 4000000 in
theorem gz_L_begin : GoodIn zz_tbl wsL_begin := goodIn_ca (goodIn_ca (goodIn_r _ [486, 487, 488, 489, 490, 491, 33, 492, 414, 416, 17, 417, 418, 49, 197, 277, 279, 9, 280, 281, 50, 196, 265, 266, 267, 39, 268, 170, 173, 168, 175, 250, 251, 252, 253, 177, 179, 348, 349, 350, 351, 171, 246, 247, 248, 34, 249, 79, 479, 481, 207, 209, 211, 213, 215, 217, 219, 221, 223, 225, 227, 180, 182, 184, 186, 188, 190, 192, 82, 84] (by decide +kernel) (by decide +kernel)) (goodIn_sub wz_x0 (by decide +kernel))) (goodIn_sub wz_x1 (by decide +kernel))
set_option maxRecDepth 100000 in
set_option maxHeartbeats 4000000 in
theorem gz_X5_begin : GoodIn zz_tbl wsX5_begin := goodIn_r _ [1001, 1002, 1003, 40, 1004, 1005, 1006, 1007, 1008, 1010, 19, 1011, 981, 1012, 1013, 1014, 1015, 1018, 555, 52, 1019, 557, 558, 559, 560, 51, 561, 562, 67, 68, 563, 195, 571, 572, 564, 565, 38, 566, 567, 568, 569, 570, 1020, 702, 703, 704, 705, 1291, 583, 706, 707, 574, 708, 1292, 0, 710, 711, 594, 1289, 1, 596, 597, 598, 1290, 2, 600, 601, 612, 602, 603, 53, 604, 605, 606, 54, 607, 608, 609, 610, 611, 613, 614, 55, 615, 616, 617, 618, 619, 620, 622, 623, 624, 625, 626, 264, 263, 56, 627, 629, 630, 628, 631, 712, 713, 714, 150, 642, 643, 644, 143, 144, 145, 645, 646, 35, 647, 132, 648, 649, 37, 650, 655, 656, 657, 152, 154, 715, 109, 110, 111, 762, 112, 113, 114, 115, 116, 763, 716, 1293, 3, 718, 719, 720, 1294, 4, 722, 723, 724, 725, 1295, 5, 727, 728, 729, 730, 36, 731, 732, 733, 734, 735, 736, 737, 738, 739, 740, 741, 742, 743, 744, 745, 746, 747, 748, 749, 1021, 1022, 1023, 1024, 1025, 1296, 1026, 1027, 1028, 1029, 1030, 1031, 1032, 1033, 140, 141, 142, 146, 130, 131, 134, 135, 136, 1034, 661, 662, 663, 664, 665, 666, 667, 668, 669, 670, 671, 672, 573, 673, 675, 676, 674, 677, 678, 680, 679, 681, 682, 683, 684, 679, 685, 686, 687, 688, 689, 690, 691, 692, 693, 694, 695, 697, 752, 753, 754, 755, 756, 757, 147, 148, 149, 758, 759, 760, 761, 1035, 1037, 20, 1038, 982, 921, 923, 41, 1039, 1041, 21, 1042, 1043, 1044, 1045, 1046, 968, 1055, 962, 964, 1047, 1048, 1049, 1050, 966, 1051, 1052, 1053, 44, 1054, 949, 1056, 1057, 1058, 1059, 1060, 1061, 960, 1075, 1063, 1064, 1065, 1066, 1067, 1068, 59, 1069, 1070, 1071, 1072, 1073, 1074, 948, 1076, 1077, 927, 928, 929, 930, 934, 935, 936, 937, 938, 946, 939, 940, 43, 941, 950, 942, 943, 42, 944, 945, 985, 987, 989, 991, 575, 577, 579, 581, 764, 766, 768, 770, 970, 972, 974, 976, 978, 957, 953, 955] (by decide +kernel) (by decide +kernel)
set_option maxRecDepth 100000 in
set_option maxHeartbeats 4000000 in
theorem gz_L_add : GoodIn zz_tbl wsL_add := goodIn_ca (goodIn_ca (goodIn_ca (goodIn_r _ [522, 487, 488, 523, 524, 525, 526, 33, 527, 414, 416, 17, 417, 418, 49, 197, 277, 279, 9, 280, 281, 50, 196, 528, 529, 530, 531, 60, 466, 467, 468, 39, 469, 177, 171, 173, 168, 175, 352, 353, 354, 355, 254, 255, 256, 34, 257, 79, 258, 259, 260, 261, 78, 262, 264, 263, 56, 356, 265, 266, 267, 268, 170, 250, 251, 252, 253, 179, 479, 481, 207, 209, 211, 213, 215, 217, 219, 221, 223, 225, 227, 82, 84, 180, 182, 184, 186, 188, 190, 192] (by decide +kernel) (by decide +kernel)) (goodIn_sub wz_x0 (by decide +kernel))) (goodIn_sub wz_x1 (by decide +kernel))) (goodIn_sub wz_x2 (by decide +kernel))
set_option maxRecDepth 100000 in
set_option maxHeartbeats 4000000 in
theorem gz_X5_add : GoodIn zz_tbl wsX5_add := goodIn_r _ [1143, 1002, 1003, 40, 1004, 1005, 1006, 1007, 1008, 1010, 19, 1011, 981, 1012, 1013, 1014, 1015, 1018, 555, 52, 1019, 557, 558, 559, 560, 51, 561, 562, 67, 68, 563, 195, 571, 572, 564, 565, 38, 566, 567, 568, 569, 570, 1020, 702, 703, 704, 705, 1291, 583, 706, 707, 574, 708, 1292, 0, 710, 711, 594, 1289, 1, 596, 597, 598, 1290, 2, 600, 601, 612, 602, 603, 53, 604, 605, 606, 54, 607, 608, 609, 610, 611, 613, 614, 55, 615, 616, 617, 618, 619, 620, 622, 623, 624, 625, 626, 264, 263, 56, 627, 629, 630, 628, 631, 712, 713, 714, 150, 642, 643, 644, 143, 144, 145, 645, 646, 35, 647, 132, 648, 649, 37, 650, 655, 656, 657, 152, 154, 715, 109, 110, 111, 762, 112, 113, 114, 115, 116, 763, 716, 1293, 3, 718, 719, 720, 1294, 4, 722, 723, 724, 725, 1295, 5, 727, 728, 729, 730, 36, 731, 732, 733, 734, 735, 736, 737, 738, 739, 740, 741, 742, 743, 744, 745, 746, 747, 748, 749, 1021, 1022, 1023, 1024, 1025, 1296, 1026, 1027, 1028, 1029, 1030, 1031, 1032, 1033, 140, 141, 142, 146, 130, 131, 134, 135, 136, 1034, 661, 662, 663, 664, 665, 666, 667, 668, 669, 670, 671, 672, 573, 673, 675, 676, 674, 677, 678, 680, 679, 681, 682, 683, 684, 679, 685, 686, 687, 688, 689, 690, 691, 692, 693, 694, 695, 697, 752, 753, 754, 755, 756, 757, 147, 148, 149, 758, 759, 760, 761, 1144, 1146, 26, 1147, 982, 967, 1148, 1149, 1150, 41, 1151, 962, 960, 964, 1152, 1058, 1059, 1060, 1061, 966, 1055, 1075, 1051, 1052, 1053, 44, 1054, 949, 1056, 1057, 1063, 1064, 1065, 1066, 1067, 1068, 59, 1069, 1070, 1071, 1072, 1073, 1074, 948, 1076, 1047, 1048, 1049, 1050, 1096, 1097, 1098, 1099, 951, 952, 1100, 1102, 23, 1103, 1104, 1106, 24, 1107, 1108, 1110, 25, 1111, 946, 1138, 1139, 1112, 1113, 1114, 1115, 1116, 1311, 1117, 1131, 1132, 1133, 1134, 1135, 1137, 1039, 1041, 21, 1042, 1043, 1044, 1045, 1046, 968, 1077, 985, 987, 989, 991, 575, 577, 579, 581, 764, 766, 768, 770, 970, 972, 974, 976, 978, 957, 953, 955] (by decide +kernel) (by decide +kernel)
set_option maxRecDepth 100000 in
set_option maxHeartbeats 4000000 in
theorem gq_X5_thrown : GoodIn zz_tbl (wsV RL 192 RX5 yX5_thrown wsX5_thrown) := goodIn_app (goodIn_of _ (by decide +kernel)) gz_X5_thrown
set_option maxRecDepth 100000 in
set_option maxHeartbeats 4000000 in
theorem gq_L_begin : GoodIn zz_tbl (va_wsS RL 113 yL_begin wsL_begin) := goodIn_app (goodIn_of _ (by decide +kernel)) gz_L_begin
set_option maxRecDepth 100000 in
set_option maxHeartbeats 4000000 in
theorem gq_X5_begin : GoodIn zz_tbl (wsV RL 118 RX5 yX5_begin wsX5_begin) := goodIn_app (goodIn_of _ (by decide +kernel)) gz_X5_begin
set_option maxRecDepth 100000 in
set_option maxHeartbeats 4000000 in
theorem gq_L_add : GoodIn zz_tbl (va_wsS RL 129 yL_add wsL_add) := goodIn_app (goodIn_of _ (by decide +kernel)) gz_L_add
set_option maxRecDepth 100000 in
set_option maxHeartbeats 4000000 in
theorem gq_X5_add : GoodIn zz_tbl (wsV RL 131 RX5 yX5_add wsX5_add) := goodIn_app (goodIn_of _ (by decide +kernel)) gz_X5_add
/-- a body of a method with an exception table, from its entry -/
theorem z_metW {l : Launch} {y : MethodName} {ws ws' : List Cond} {rm : Room} {av : List Value} {N0 : Nat} {e : zE} {D : va_G} {tys : List (ClassId × FieldType)} {wc : va_W} {sz mz : Nat} {L : List (Nat × Nat × Nat)} {Qc : (Nat → Prop) → Array Value → State → Outcome → State → Prop} {mc ms : Nat} {cc : ByteArray} {maxL : Nat} {ret : Option FieldType} {hh : List (Nat × Nat × Nat × Nat)}
    (own : String) (hR : y.cls = own) (hy : plainName y.cls = true) (hw : ws = Cond.codeWith y cc maxL ret hh :: ws') (hav : (lg_sl av).length ≤ maxL)
    (body : ∀ (p : Program) (ev : Env) (s : State) (m : MethodId) (below : List Frame) (meth : Method) (c : Code) (ls : Array Slot) (A : Nat → Prop), p.tables.exec = Jvm.exec → c.code = cc → meth.sig.returnType = ret → c.maxLocals = maxL → s.vm.findClass own = some m.cls → (∀ w ∈ ws, w.before av.toArray s = true) → meth.locks = false → meth.name = y.name →
      s.heap.size = sz → zw s.heap = mz → N0 ≤ sz → va_A wc sz = A → (∀ q, s.heap.size ≤ q → A q) → (∀ q, A q → N0 ≤ q) → va_S A s.heap s.heap [] → va_P D vwCl wc s.heap → va_K D vwCl tys s → va_D A wc → zG N0 e s s.heap → (∀ q ∈ L, zs q.1 q.2.1 q.2.2 A s s.heap) → lv_has ls maxL (lv_args 0 av) →
      W p l ev rm s m av.toArray below meth c s.heap [] 0 0 (MQ below (Qc A) av.toArray s mc ms A) (F0 m 0 ls [])) :
    Met l y ws rm (va_Pc av (zP N0 e D tys wc sz mz L)) (Qc (va_A wc sz)) mc ms (va_A wc sz) := by
  refine va_MetW (cc := cc) (maxL := maxL) (ret := ret) (hh := hh) hy hw ?_
  intro p ev s m args below meth c s₁ B hml hv
  obtain ⟨rfl, hsz, hmz, hP, hK, hD0, hN, hG, hL⟩ := hv
  have hl := lv_entry av (n := maxL) hav
  rw [lg_entry_eq]
  have hA : ∀ q : Nat, s.heap.size ≤ q → va_A wc sz q := fun q h => Or.inr (by rw [← hsz]; exact h)
  have hF : ∀ q, va_A wc sz q → N0 ≤ q := by
    intro q hq
    rcases hq with ⟨k, e0, hk⟩ | hq
    · exact hD0.2 k _ hk
    · exact Nat.le_trans hN hq
  have hts : ∀ w ∈ ws, w.before av.toArray s = true := atoms_spec (ws := ws) B.pre
  exact body p ev s m below meth c _ _ B.exec B.bytes B.returns hml (by rw [← hR]; exact findClass_of_methodNamed B.named) hts B.notSynchronized (name_of_methodNamed B.named B.method).1
    hsz hmz hN rfl hA hF va_S.rf hP hK (hD0.self (sz := sz)) hG hL hl
set_option maxRecDepth 100000 in
set_option maxHeartbeats 4000000 in
/-- the law's begin(x, 0, 0, out): 0 -/
theorem c_Lbegin (l : Launch) (D : va_G) (N0 : Nat) (e : zE) (sz mz : Nat) (x : Nat) (wa : Nat) (ja : Nat) (kn : Nat) (rf : Nat) (xs1 : Nat) (xs2 : Nat) (xs3 : Nat) (xs4 : Nat) (xs5 : Nat) (xs6 : Nat) (xs7 : Nat) (cS : ClassId) (fW : Nat → Option Nat) (cJ : ClassId) (gJ : Nat → Option Nat) (w : Nat) (j : Nat) (ins : Nat) (em : Nat) (bw : Nat) (pf : Nat) (sf : Nat) (ri : Nat) (rp : Nat) (rs : Nat) (cp : Nat) (cs : Nat) (out : Nat) (ln : Int64) (hgj : gJ 0 = some j) (hfw : fW 0 = some w) : Met l yL_begin wsL_begin ({ frames := 3, cells := 0, slots := 0, locals := 68 }) (va_Pc [.ref x, .int (nI 0), .int (nI 0), .ref out] (zP N0 e D [(cS, .object "Joinrow$Signs"), (cJ, .object "Joinrow$Joiner")] [(x, .inr (5, [.ref wa, .ref ja, .int (nI kn), .int (nI rf), .ref xs1, .ref xs2, .ref xs3, .ref xs4, .ref xs5, .ref xs6, .ref xs7])), (wa, .inl (cS, 70, .inr (.inr (.inr (.inr fW))))), (ja, .inl (cJ, 6, .inr (.inr (.inr (.inr gJ))))), (j, .inr (3, [.ref ins, .ref em, .ref bw, .ref pf, .ref sf, .int (nI 0), .int (nI 0)])), (ins, .inr (4, [.ref ri, .int (nI 0)])), (pf, .inr (4, [.ref rp, .int (nI cp)])), (sf, .inr (4, [.ref rs, .int (nI cs)])), (out, .inr (6, [.long (ln), .null]))] sz mz [])) (zQi (fun (r : Int32) (_ : Unit) => r = (nI 0)) D (fun (_ : Unit) => ([(x, .inr (5, [.ref wa, .ref ja, .int (nI kn), .int (nI rf), .ref xs1, .ref xs2, .ref xs3, .ref xs4, .ref xs5, .ref xs6, .ref xs7])), (wa, .inl (cS, 70, .inr (.inr (.inr (.inr fW))))), (ja, .inl (cJ, 6, .inr (.inr (.inr (.inr gJ))))), (j, .inr (3, [.ref ins, .ref em, .ref w, .ref w, .ref w, .int (nI 0), .int (nI 0)])), (ins, .inr (4, [.ref ri, .int (nI 0)])), (pf, .inr (4, [.ref rp, .int (nI cp)])), (sf, .inr (4, [.ref rs, .int (nI cs)])), (out, .inr (6, [.long ((nI (cp + 0 + cs)).toInt64), .null]))] : va_W)) (fun (_ : Unit) => ([] : List (ClassId × FieldType))) sz (0) mz (0) (fun (_ : Unit) (t : State) => True) (va_A [(x, .inr (5, [.ref wa, .ref ja, .int (nI kn), .int (nI rf), .ref xs1, .ref xs2, .ref xs3, .ref xs4, .ref xs5, .ref xs6, .ref xs7])), (wa, .inl (cS, 70, .inr (.inr (.inr (.inr fW))))), (ja, .inl (cJ, 6, .inr (.inr (.inr (.inr gJ))))), (j, .inr (3, [.ref ins, .ref em, .ref bw, .ref pf, .ref sf, .int (nI 0), .int (nI 0)])), (ins, .inr (4, [.ref ri, .int (nI 0)])), (pf, .inr (4, [.ref rp, .int (nI cp)])), (sf, .inr (4, [.ref rs, .int (nI cs)])), (out, .inr (6, [.long (ln), .null]))] sz)) (0) (0) (va_A [(x, .inr (5, [.ref wa, .ref ja, .int (nI kn), .int (nI rf), .ref xs1, .ref xs2, .ref xs3, .ref xs4, .ref xs5, .ref xs6, .ref xs7])), (wa, .inl (cS, 70, .inr (.inr (.inr (.inr fW))))), (ja, .inl (cJ, 6, .inr (.inr (.inr (.inr gJ))))), (j, .inr (3, [.ref ins, .ref em, .ref bw, .ref pf, .ref sf, .int (nI 0), .int (nI 0)])), (ins, .inr (4, [.ref ri, .int (nI 0)])), (pf, .inr (4, [.ref rp, .int (nI cp)])), (sf, .inr (4, [.ref rs, .int (nI cs)])), (out, .inr (6, [.long (ln), .null]))] sz) := by
  refine z_metW (Qc := fun A => zQi (fun (r : Int32) (_ : Unit) => r = (nI 0)) D (fun (_ : Unit) => ([(x, .inr (5, [.ref wa, .ref ja, .int (nI kn), .int (nI rf), .ref xs1, .ref xs2, .ref xs3, .ref xs4, .ref xs5, .ref xs6, .ref xs7])), (wa, .inl (cS, 70, .inr (.inr (.inr (.inr fW))))), (ja, .inl (cJ, 6, .inr (.inr (.inr (.inr gJ))))), (j, .inr (3, [.ref ins, .ref em, .ref w, .ref w, .ref w, .int (nI 0), .int (nI 0)])), (ins, .inr (4, [.ref ri, .int (nI 0)])), (pf, .inr (4, [.ref rp, .int (nI cp)])), (sf, .inr (4, [.ref rs, .int (nI cs)])), (out, .inr (6, [.long ((nI (cp + 0 + cs)).toInt64), .null]))] : va_W)) (fun (_ : Unit) => ([] : List (ClassId × FieldType))) sz (0) mz (0) (fun (_ : Unit) (t : State) => True) A) (cc := cL_begin) (maxL := 5) (ret := (some .int)) RL rfl (by decide) rfl (Nat.le_of_ble_eq_true rfl) ?_
  intro p ev s m below meth c ls A hx hb hr hml hown hts hlocks hnm hsz hmz hN hAe hA hAN hS hP hK hD hG hL hl
  subst hsz
  subst hmz
  have hl : lv_has ls 5 [(0, .ref x), (1, .int (nI 0)), (2, .int (nI 0)), (3, .ref out)] := hl
  refine lv_aload_n hx hb dL_begin_0 rfl (lv_at hl 3 rfl) ?_
  refine lv_aload_n hx hb dL_begin_1 rfl (lv_at hl 0 rfl) ?_
  refine lv_iload_n hx hb dL_begin_2 rfl (lv_at hl 1 rfl) ?_
  refine lv_iload_n hx hb dL_begin_3 rfl (lv_at hl 2 rfl) ?_
  have hFc := va_free (wc := [(x, .inr (5, [.ref wa, .ref ja, .int (nI kn), .int (nI rf), .ref xs1, .ref xs2, .ref xs3, .ref xs4, .ref xs5, .ref xs6, .ref xs7])), (wa, .inl (cS, 70, .inr (.inr (.inr (.inr fW))))), (ja, .inl (cJ, 6, .inr (.inr (.inr (.inr gJ))))), (j, .inr (3, [.ref ins, .ref em, .ref bw, .ref pf, .ref sf, .int (nI 0), .int (nI 0)])), (ins, .inr (4, [.ref ri, .int (nI 0)])), (pf, .inr (4, [.ref rp, .int (nI cp)])), (sf, .inr (4, [.ref rs, .int (nI cs)]))]) hD hS hA [0, 1, 2, 3, 4, 5, 6] rfl
  have kc1 : 0 + (0) ≤ 0 := by omega
  have ks2 : 0 + (0) ≤ 0 := by omega
  refine z_calli (wr := [(out, .inr (6, [.long (ln), .null]))]) (va_runV (As := [.int (nI 0), .int (nI 0)]) (rest := [.ref out]) ⟨hx, hb, hml, hown, hts⟩ (c_xbegin l D N0 e s.heap.size (zw s.heap) x wa ja kn rf xs1 xs2 xs3 xs4 xs5 xs6 xs7 cS fW cJ gJ w j ins em bw pf sf ri rp rs cp cs hgj hfw) (cwV 2 hts gL_begin_X2_begin rfl rfl rfl (by decide +kernel) ⟨Nat.le_of_ble_eq_true rfl, Nat.le_of_ble_eq_true rfl⟩) ⟨zP.blind, (va_recv hK hP (ci := 5) (q0 := 0) rfl rfl), (z_pre hK hP hD hS hAN hN hG [0, 1, 2, 3, 4, 5, 6] (by decide) rfl [0, 1] rfl (fun q hq => absurd hq List.not_mem_nil))⟩ rfl rfl hl.1 rfl (lv_room (Nat.le_of_ble_eq_true rfl)) dL_begin_4 ⟨kc1, ks2⟩) hK hP hD hS hA [0, 1, 2, 3, 4, 5, 6] rfl [7] rfl (by decide) (by decide) (fun r4 u t H locs ht hvm hw_c3 hY_c3 hz_c3 hm_c3 hk_c3 hK hP hD hS => ?_)
  have hP : va_P D vwCl [(out, .inr (6, [.long (ln), .null])), (x, .inr (5, [.ref wa, .ref ja, .int (nI kn), .int (nI rf), .ref xs1, .ref xs2, .ref xs3, .ref xs4, .ref xs5, .ref xs6, .ref xs7])), (wa, .inl (cS, 70, .inr (.inr (.inr (.inr fW))))), (ja, .inl (cJ, 6, .inr (.inr (.inr (.inr gJ))))), (j, .inr (3, [.ref ins, .ref em, .ref w, .ref w, .ref w, .int (nI 0), .int (nI 0)])), (ins, .inr (4, [.ref ri, .int (nI 0)])), (pf, .inr (4, [.ref rp, .int (nI cp)])), (sf, .inr (4, [.ref rs, .int (nI cs)]))] H := hP
  have hD : va_D A [(out, .inr (6, [.long (ln), .null])), (x, .inr (5, [.ref wa, .ref ja, .int (nI kn), .int (nI rf), .ref xs1, .ref xs2, .ref xs3, .ref xs4, .ref xs5, .ref xs6, .ref xs7])), (wa, .inl (cS, 70, .inr (.inr (.inr (.inr fW))))), (ja, .inl (cJ, 6, .inr (.inr (.inr (.inr gJ))))), (j, .inr (3, [.ref ins, .ref em, .ref w, .ref w, .ref w, .int (nI 0), .int (nI 0)])), (ins, .inr (4, [.ref ri, .int (nI 0)])), (pf, .inr (4, [.ref rp, .int (nI cp)])), (sf, .inr (4, [.ref rs, .int (nI cs)]))] := hD
  have hK : va_K D vwCl [(cS, .object "Joinrow$Signs"), (cJ, .object "Joinrow$Joiner")] s := hK
  have hs5 := hS.1
  refine W.widen (k := 0) (n := 0) (by omega) (by omega) ?_
  subst hw_c3
  refine lv_i2l (v := (nI (cp + 0 + cs)).toInt64) hx hb dL_begin_7 rfl ?_
  refine va_putN (D := D) (ci := 6) (v := .long ((nI (cp + 0 + cs)).toInt64)) (ty := .long) (C := RX3) (T := TX3) (N := 2) hx hb hts (by decide +kernel) tyX3 tyX3_ok nmX3 hown hK hP hD hS 0 rfl rfl 0 (by decide) (hG.nest ("JoinrowLaw", 13, "JoinrowLaw$Out", "n", "J", "JoinrowLaw") (by simp)) (fun _ h9 => h9) rfl (by decide +kernel) rfl rfl (Nat.le_of_ble_eq_true rfl) dL_begin_8 (fun H locs hP hD hS => ?_)
  have hP : va_P D vwCl [(out, .inr (6, [.long ((nI (cp + 0 + cs)).toInt64), .null])), (x, .inr (5, [.ref wa, .ref ja, .int (nI kn), .int (nI rf), .ref xs1, .ref xs2, .ref xs3, .ref xs4, .ref xs5, .ref xs6, .ref xs7])), (wa, .inl (cS, 70, .inr (.inr (.inr (.inr fW))))), (ja, .inl (cJ, 6, .inr (.inr (.inr (.inr gJ))))), (j, .inr (3, [.ref ins, .ref em, .ref w, .ref w, .ref w, .int (nI 0), .int (nI 0)])), (ins, .inr (4, [.ref ri, .int (nI 0)])), (pf, .inr (4, [.ref rp, .int (nI cp)])), (sf, .inr (4, [.ref rs, .int (nI cs)]))] H := hP
  have hD : va_D A [(out, .inr (6, [.long ((nI (cp + 0 + cs)).toInt64), .null])), (x, .inr (5, [.ref wa, .ref ja, .int (nI kn), .int (nI rf), .ref xs1, .ref xs2, .ref xs3, .ref xs4, .ref xs5, .ref xs6, .ref xs7])), (wa, .inl (cS, 70, .inr (.inr (.inr (.inr fW))))), (ja, .inl (cJ, 6, .inr (.inr (.inr (.inr gJ))))), (j, .inr (3, [.ref ins, .ref em, .ref w, .ref w, .ref w, .int (nI 0), .int (nI 0)])), (ins, .inr (4, [.ref ri, .int (nI 0)])), (pf, .inr (4, [.ref rp, .int (nI cp)])), (sf, .inr (4, [.ref rs, .int (nI cs)]))] := hD
  have hs6 := hS.1
  refine lv_goto (tgt := 22) hx hb dL_begin_11 (by decide) ?_
  refine lv_iconst (v := (nI 0)) hx hb dL_begin_22 (by decide) ?_
  have hz0 := hS.1
  refine z_keepW (fun hkp => ?_)
  exact z_reti (v := (nI 0)) () hx hb hr (by first | rfl | decide) hlocks rfl hK [] rfl hP hD hS [1, 2, 3, 4, 5, 6, 7, 0] (by decide) rfl (by omega) (zw_keep hkp) (fun _ _ _ => trivial) dL_begin_23
set_option maxRecDepth 100000 in
set_option maxHeartbeats 4000000 in
/-- the law's add(x, 0, 0, out): 0 -/
theorem c_Ladd0 (l : Launch) (D : va_G) (N0 : Nat) (e : zE) (sz mz : Nat) (x : Nat) (wa : Nat) (ja : Nat) (kn : Nat) (rf : Nat) (xs1 : Nat) (xs2 : Nat) (xs3 : Nat) (xs4 : Nat) (xs5 : Nat) (xs6 : Nat) (xs7 : Nat) (cS : ClassId) (fW : Nat → Option Nat) (cJ : ClassId) (gJ : Nat → Option Nat) (j : Nat) (ins : Nat) (em : Nat) (w : Nat) (g : Nat) (ri : Nat) (rw : Nat) (cI : ClassId) (cW : ClassId) (fi : Nat → Int32) (fw : Nat → Int32) (room : Nat) (out : Nat) (ln : Int64) (hgj : gJ 0 = some j) (hfw : fW 0 = some w) (hroom : room ≤ 1000) : Met l yL_add wsL_add ({ frames := 5, cells := 0, slots := 0, locals := 148 }) (va_Pc [.ref x, .int (nI 0), .int (nI 0), .ref out] (zP N0 e D [(cS, .object "Joinrow$Signs"), (cJ, .object "Joinrow$Joiner"), (cI, .char), (cW, .char)] [(x, .inr (5, [.ref wa, .ref ja, .int (nI kn), .int (nI rf), .ref xs1, .ref xs2, .ref xs3, .ref xs4, .ref xs5, .ref xs6, .ref xs7])), (wa, .inl (cS, 70, .inr (.inr (.inr (.inr fW))))), (ja, .inl (cJ, 6, .inr (.inr (.inr (.inr gJ))))), (j, .inr (3, [.ref ins, .ref em, .ref w, .ref w, .ref w, .int (nI 0), .int (nI g)])), (ins, .inr (4, [.ref ri, .int (nI 0)])), (w, .inr (4, [.ref rw, .int (nI 0)])), (ri, .inl (cI, room, .inl fi)), (rw, .inl (cW, 4, .inl fw)), (out, .inr (6, [.long (ln), .null]))] sz mz [])) (zQi (fun (r : Int32) (f3 : Nat → Int32) => r = (nI 0)) D (fun (f3 : Nat → Int32) => ([(x, .inr (5, [.ref wa, .ref ja, .int (nI kn), .int (nI rf), .ref xs1, .ref xs2, .ref xs3, .ref xs4, .ref xs5, .ref xs6, .ref xs7])), (wa, .inl (cS, 70, .inr (.inr (.inr (.inr fW))))), (ja, .inl (cJ, 6, .inr (.inr (.inr (.inr gJ))))), (j, .inr (3, [.ref ins, .ref em, .ref w, .ref w, .ref w, .int (nI 1), .int (nI g)])), (ins, .inr (4, [.ref ri, .int (nI 0)])), (w, .inr (4, [.ref rw, .int (nI 0)])), (ri, .inl (cI, room, .inl f3)), (rw, .inl (cW, 4, .inl fw)), (out, .inr (6, [.long ((nI 0).toInt64), .null]))] : va_W)) (fun (f3 : Nat → Int32) => ([] : List (ClassId × FieldType))) sz (0) mz (0) (fun (f3 : Nat → Int32) (t : State) => True) (va_A [(x, .inr (5, [.ref wa, .ref ja, .int (nI kn), .int (nI rf), .ref xs1, .ref xs2, .ref xs3, .ref xs4, .ref xs5, .ref xs6, .ref xs7])), (wa, .inl (cS, 70, .inr (.inr (.inr (.inr fW))))), (ja, .inl (cJ, 6, .inr (.inr (.inr (.inr gJ))))), (j, .inr (3, [.ref ins, .ref em, .ref w, .ref w, .ref w, .int (nI 0), .int (nI g)])), (ins, .inr (4, [.ref ri, .int (nI 0)])), (w, .inr (4, [.ref rw, .int (nI 0)])), (ri, .inl (cI, room, .inl fi)), (rw, .inl (cW, 4, .inl fw)), (out, .inr (6, [.long (ln), .null]))] sz)) (0) (0) (va_A [(x, .inr (5, [.ref wa, .ref ja, .int (nI kn), .int (nI rf), .ref xs1, .ref xs2, .ref xs3, .ref xs4, .ref xs5, .ref xs6, .ref xs7])), (wa, .inl (cS, 70, .inr (.inr (.inr (.inr fW))))), (ja, .inl (cJ, 6, .inr (.inr (.inr (.inr gJ))))), (j, .inr (3, [.ref ins, .ref em, .ref w, .ref w, .ref w, .int (nI 0), .int (nI g)])), (ins, .inr (4, [.ref ri, .int (nI 0)])), (w, .inr (4, [.ref rw, .int (nI 0)])), (ri, .inl (cI, room, .inl fi)), (rw, .inl (cW, 4, .inl fw)), (out, .inr (6, [.long (ln), .null]))] sz) := by
  refine z_metW (Qc := fun A => zQi (fun (r : Int32) (f3 : Nat → Int32) => r = (nI 0)) D (fun (f3 : Nat → Int32) => ([(x, .inr (5, [.ref wa, .ref ja, .int (nI kn), .int (nI rf), .ref xs1, .ref xs2, .ref xs3, .ref xs4, .ref xs5, .ref xs6, .ref xs7])), (wa, .inl (cS, 70, .inr (.inr (.inr (.inr fW))))), (ja, .inl (cJ, 6, .inr (.inr (.inr (.inr gJ))))), (j, .inr (3, [.ref ins, .ref em, .ref w, .ref w, .ref w, .int (nI 1), .int (nI g)])), (ins, .inr (4, [.ref ri, .int (nI 0)])), (w, .inr (4, [.ref rw, .int (nI 0)])), (ri, .inl (cI, room, .inl f3)), (rw, .inl (cW, 4, .inl fw)), (out, .inr (6, [.long ((nI 0).toInt64), .null]))] : va_W)) (fun (f3 : Nat → Int32) => ([] : List (ClassId × FieldType))) sz (0) mz (0) (fun (f3 : Nat → Int32) (t : State) => True) A) (cc := cL_add) (maxL := 5) (ret := (some .int)) RL rfl (by decide) rfl (Nat.le_of_ble_eq_true rfl) ?_
  intro p ev s m below meth c ls A hx hb hr hml hown hts hlocks hnm hsz hmz hN hAe hA hAN hS hP hK hD hG hL hl
  subst hsz
  subst hmz
  have hl : lv_has ls 5 [(0, .ref x), (1, .int (nI 0)), (2, .int (nI 0)), (3, .ref out)] := hl
  refine lv_aload_n hx hb dL_add_0 rfl (lv_at hl 3 rfl) ?_
  refine lv_aload_n hx hb dL_add_1 rfl (lv_at hl 0 rfl) ?_
  refine lv_iload_n hx hb dL_add_2 rfl (lv_at hl 1 rfl) ?_
  refine lv_iload_n hx hb dL_add_3 rfl (lv_at hl 2 rfl) ?_
  have hFc := va_free (wc := [(x, .inr (5, [.ref wa, .ref ja, .int (nI kn), .int (nI rf), .ref xs1, .ref xs2, .ref xs3, .ref xs4, .ref xs5, .ref xs6, .ref xs7])), (wa, .inl (cS, 70, .inr (.inr (.inr (.inr fW))))), (ja, .inl (cJ, 6, .inr (.inr (.inr (.inr gJ))))), (j, .inr (3, [.ref ins, .ref em, .ref w, .ref w, .ref w, .int (nI 0), .int (nI g)])), (ins, .inr (4, [.ref ri, .int (nI 0)])), (w, .inr (4, [.ref rw, .int (nI 0)])), (ri, .inl (cI, room, .inl fi)), (rw, .inl (cW, 4, .inl fw))]) hD hS hA [0, 1, 2, 3, 4, 5, 6, 7] rfl
  have kc1 : 0 + (0) ≤ 0 := by omega
  have ks2 : 0 + (0) ≤ 0 := by omega
  refine z_calli (wr := [(out, .inr (6, [.long (ln), .null]))]) (va_runV (As := [.int (nI 0), .int (nI 0)]) (rest := [.ref out]) ⟨hx, hb, hml, hown, hts⟩ (c_xadd0 l D N0 e s.heap.size (zw s.heap) x wa ja kn rf xs1 xs2 xs3 xs4 xs5 xs6 xs7 cS fW cJ gJ j ins em w g ri rw cI cW fi fw room hgj hfw hroom) (cwV 2 hts gL_add_X2_add rfl rfl rfl (by decide +kernel) ⟨Nat.le_of_ble_eq_true rfl, Nat.le_of_ble_eq_true rfl⟩) ⟨zP.blind, (va_recv hK hP (ci := 5) (q0 := 0) rfl rfl), (z_pre hK hP hD hS hAN hN hG [0, 1, 2, 3, 4, 5, 6, 7] (by decide) rfl [0, 1, 2, 3] rfl (fun q hq => absurd hq List.not_mem_nil))⟩ rfl rfl hl.1 rfl (lv_room (Nat.le_of_ble_eq_true rfl)) dL_add_4 ⟨kc1, ks2⟩) hK hP hD hS hA [0, 1, 2, 3, 4, 5, 6, 7] rfl [8] rfl (by decide) (by decide) (fun r4 u t H locs ht hvm hw_c3 hY_c3 hz_c3 hm_c3 hk_c3 hK hP hD hS => ?_)
  obtain ⟨f2, rfl⟩ : ∃ z, z = u := ⟨_, rfl⟩
  try dsimp only at hw_c3 hY_c3
  have hP : va_P D vwCl [(out, .inr (6, [.long (ln), .null])), (x, .inr (5, [.ref wa, .ref ja, .int (nI kn), .int (nI rf), .ref xs1, .ref xs2, .ref xs3, .ref xs4, .ref xs5, .ref xs6, .ref xs7])), (wa, .inl (cS, 70, .inr (.inr (.inr (.inr fW))))), (ja, .inl (cJ, 6, .inr (.inr (.inr (.inr gJ))))), (j, .inr (3, [.ref ins, .ref em, .ref w, .ref w, .ref w, .int (nI 1), .int (nI g)])), (ins, .inr (4, [.ref ri, .int (nI 0)])), (w, .inr (4, [.ref rw, .int (nI 0)])), (ri, .inl (cI, room, .inl f2)), (rw, .inl (cW, 4, .inl fw))] H := hP
  have hD : va_D A [(out, .inr (6, [.long (ln), .null])), (x, .inr (5, [.ref wa, .ref ja, .int (nI kn), .int (nI rf), .ref xs1, .ref xs2, .ref xs3, .ref xs4, .ref xs5, .ref xs6, .ref xs7])), (wa, .inl (cS, 70, .inr (.inr (.inr (.inr fW))))), (ja, .inl (cJ, 6, .inr (.inr (.inr (.inr gJ))))), (j, .inr (3, [.ref ins, .ref em, .ref w, .ref w, .ref w, .int (nI 1), .int (nI g)])), (ins, .inr (4, [.ref ri, .int (nI 0)])), (w, .inr (4, [.ref rw, .int (nI 0)])), (ri, .inl (cI, room, .inl f2)), (rw, .inl (cW, 4, .inl fw))] := hD
  have hK : va_K D vwCl [(cS, .object "Joinrow$Signs"), (cJ, .object "Joinrow$Joiner"), (cI, .char), (cW, .char)] s := hK
  have hs5 := hS.1
  refine W.widen (k := 0) (n := 0) (by omega) (by omega) ?_
  subst hw_c3
  refine lv_i2l (v := (nI 0).toInt64) hx hb dL_add_7 rfl ?_
  refine va_putN (D := D) (ci := 6) (v := .long ((nI 0).toInt64)) (ty := .long) (C := RX3) (T := TX3) (N := 2) hx hb hts (by decide +kernel) tyX3 tyX3_ok nmX3 hown hK hP hD hS 0 rfl rfl 0 (by decide) (hG.nest ("JoinrowLaw", 13, "JoinrowLaw$Out", "n", "J", "JoinrowLaw") (by simp)) (fun _ h9 => h9) rfl (by decide +kernel) rfl rfl (Nat.le_of_ble_eq_true rfl) dL_add_8 (fun H locs hP hD hS => ?_)
  have hP : va_P D vwCl [(out, .inr (6, [.long ((nI 0).toInt64), .null])), (x, .inr (5, [.ref wa, .ref ja, .int (nI kn), .int (nI rf), .ref xs1, .ref xs2, .ref xs3, .ref xs4, .ref xs5, .ref xs6, .ref xs7])), (wa, .inl (cS, 70, .inr (.inr (.inr (.inr fW))))), (ja, .inl (cJ, 6, .inr (.inr (.inr (.inr gJ))))), (j, .inr (3, [.ref ins, .ref em, .ref w, .ref w, .ref w, .int (nI 1), .int (nI g)])), (ins, .inr (4, [.ref ri, .int (nI 0)])), (w, .inr (4, [.ref rw, .int (nI 0)])), (ri, .inl (cI, room, .inl f2)), (rw, .inl (cW, 4, .inl fw))] H := hP
  have hD : va_D A [(out, .inr (6, [.long ((nI 0).toInt64), .null])), (x, .inr (5, [.ref wa, .ref ja, .int (nI kn), .int (nI rf), .ref xs1, .ref xs2, .ref xs3, .ref xs4, .ref xs5, .ref xs6, .ref xs7])), (wa, .inl (cS, 70, .inr (.inr (.inr (.inr fW))))), (ja, .inl (cJ, 6, .inr (.inr (.inr (.inr gJ))))), (j, .inr (3, [.ref ins, .ref em, .ref w, .ref w, .ref w, .int (nI 1), .int (nI g)])), (ins, .inr (4, [.ref ri, .int (nI 0)])), (w, .inr (4, [.ref rw, .int (nI 0)])), (ri, .inl (cI, room, .inl f2)), (rw, .inl (cW, 4, .inl fw))] := hD
  have hs6 := hS.1
  refine lv_goto (tgt := 26) hx hb dL_add_11 (by decide) ?_
  refine lv_iconst (v := (nI 0)) hx hb dL_add_26 (by decide) ?_
  have hz0 := hS.1
  refine z_keepW (fun hkp => ?_)
  exact z_reti (v := (nI 0)) (f2) hx hb hr (by first | rfl | decide) hlocks (show (nI 0) = (nI 0) from rfl) hK [] rfl hP hD hS [1, 2, 3, 4, 5, 6, 7, 8, 0] (by decide) rfl (by omega) (zw_keep hkp) (fun _ _ _ => trivial) dL_add_27
set_option maxRecDepth 100000 in
set_option maxHeartbeats 4000000 in
/-- the law's add(x, 0, 0, out): 0 -/
theorem c_Ladd1 (l : Launch) (D : va_G) (N0 : Nat) (e : zE) (sz mz : Nat) (x : Nat) (wa : Nat) (ja : Nat) (kn : Nat) (rf : Nat) (xs1 : Nat) (xs2 : Nat) (xs3 : Nat) (xs4 : Nat) (xs5 : Nat) (xs6 : Nat) (xs7 : Nat) (cS : ClassId) (fW : Nat → Option Nat) (cJ : ClassId) (gJ : Nat → Option Nat) (j : Nat) (ins : Nat) (em : Nat) (w : Nat) (g : Nat) (ri : Nat) (rw : Nat) (cI : ClassId) (cW : ClassId) (fi : Nat → Int32) (fw : Nat → Int32) (room : Nat) (out : Nat) (ln : Int64) (hgj : gJ 0 = some j) (hfw : fW 0 = some w) (hroom : room ≤ 1000) : Met l yL_add wsL_add ({ frames := 6, cells := 0, slots := 0, locals := 169 }) (va_Pc [.ref x, .int (nI 0), .int (nI 0), .ref out] (zP N0 e D [(cS, .object "Joinrow$Signs"), (cJ, .object "Joinrow$Joiner"), (cI, .char), (cW, .char)] [(x, .inr (5, [.ref wa, .ref ja, .int (nI kn), .int (nI rf), .ref xs1, .ref xs2, .ref xs3, .ref xs4, .ref xs5, .ref xs6, .ref xs7])), (wa, .inl (cS, 70, .inr (.inr (.inr (.inr fW))))), (ja, .inl (cJ, 6, .inr (.inr (.inr (.inr gJ))))), (j, .inr (3, [.ref ins, .ref em, .ref w, .ref w, .ref w, .int (nI 1), .int (nI g)])), (ins, .inr (4, [.ref ri, .int (nI 0)])), (w, .inr (4, [.ref rw, .int (nI 0)])), (ri, .inl (cI, room, .inl fi)), (rw, .inl (cW, 4, .inl fw)), (out, .inr (6, [.long (ln), .null]))] sz mz [])) (zQi (fun (r : Int32) (f3 : Nat → Int32) => r = (nI 0)) D (fun (f3 : Nat → Int32) => ([(x, .inr (5, [.ref wa, .ref ja, .int (nI kn), .int (nI rf), .ref xs1, .ref xs2, .ref xs3, .ref xs4, .ref xs5, .ref xs6, .ref xs7])), (wa, .inl (cS, 70, .inr (.inr (.inr (.inr fW))))), (ja, .inl (cJ, 6, .inr (.inr (.inr (.inr gJ))))), (j, .inr (3, [.ref ins, .ref em, .ref w, .ref w, .ref w, .int (nI 1), .int (nI g)])), (ins, .inr (4, [.ref ri, .int (nI 0)])), (w, .inr (4, [.ref rw, .int (nI 0)])), (ri, .inl (cI, room, .inl f3)), (rw, .inl (cW, 4, .inl fw)), (out, .inr (6, [.long ((nI 0).toInt64), .null]))] : va_W)) (fun (f3 : Nat → Int32) => ([] : List (ClassId × FieldType))) sz (0) mz (0) (fun (f3 : Nat → Int32) (t : State) => True) (va_A [(x, .inr (5, [.ref wa, .ref ja, .int (nI kn), .int (nI rf), .ref xs1, .ref xs2, .ref xs3, .ref xs4, .ref xs5, .ref xs6, .ref xs7])), (wa, .inl (cS, 70, .inr (.inr (.inr (.inr fW))))), (ja, .inl (cJ, 6, .inr (.inr (.inr (.inr gJ))))), (j, .inr (3, [.ref ins, .ref em, .ref w, .ref w, .ref w, .int (nI 1), .int (nI g)])), (ins, .inr (4, [.ref ri, .int (nI 0)])), (w, .inr (4, [.ref rw, .int (nI 0)])), (ri, .inl (cI, room, .inl fi)), (rw, .inl (cW, 4, .inl fw)), (out, .inr (6, [.long (ln), .null]))] sz)) (0) (0) (va_A [(x, .inr (5, [.ref wa, .ref ja, .int (nI kn), .int (nI rf), .ref xs1, .ref xs2, .ref xs3, .ref xs4, .ref xs5, .ref xs6, .ref xs7])), (wa, .inl (cS, 70, .inr (.inr (.inr (.inr fW))))), (ja, .inl (cJ, 6, .inr (.inr (.inr (.inr gJ))))), (j, .inr (3, [.ref ins, .ref em, .ref w, .ref w, .ref w, .int (nI 1), .int (nI g)])), (ins, .inr (4, [.ref ri, .int (nI 0)])), (w, .inr (4, [.ref rw, .int (nI 0)])), (ri, .inl (cI, room, .inl fi)), (rw, .inl (cW, 4, .inl fw)), (out, .inr (6, [.long (ln), .null]))] sz) := by
  refine z_metW (Qc := fun A => zQi (fun (r : Int32) (f3 : Nat → Int32) => r = (nI 0)) D (fun (f3 : Nat → Int32) => ([(x, .inr (5, [.ref wa, .ref ja, .int (nI kn), .int (nI rf), .ref xs1, .ref xs2, .ref xs3, .ref xs4, .ref xs5, .ref xs6, .ref xs7])), (wa, .inl (cS, 70, .inr (.inr (.inr (.inr fW))))), (ja, .inl (cJ, 6, .inr (.inr (.inr (.inr gJ))))), (j, .inr (3, [.ref ins, .ref em, .ref w, .ref w, .ref w, .int (nI 1), .int (nI g)])), (ins, .inr (4, [.ref ri, .int (nI 0)])), (w, .inr (4, [.ref rw, .int (nI 0)])), (ri, .inl (cI, room, .inl f3)), (rw, .inl (cW, 4, .inl fw)), (out, .inr (6, [.long ((nI 0).toInt64), .null]))] : va_W)) (fun (f3 : Nat → Int32) => ([] : List (ClassId × FieldType))) sz (0) mz (0) (fun (f3 : Nat → Int32) (t : State) => True) A) (cc := cL_add) (maxL := 5) (ret := (some .int)) RL rfl (by decide) rfl (Nat.le_of_ble_eq_true rfl) ?_
  intro p ev s m below meth c ls A hx hb hr hml hown hts hlocks hnm hsz hmz hN hAe hA hAN hS hP hK hD hG hL hl
  subst hsz
  subst hmz
  have hl : lv_has ls 5 [(0, .ref x), (1, .int (nI 0)), (2, .int (nI 0)), (3, .ref out)] := hl
  refine lv_aload_n hx hb dL_add_0 rfl (lv_at hl 3 rfl) ?_
  refine lv_aload_n hx hb dL_add_1 rfl (lv_at hl 0 rfl) ?_
  refine lv_iload_n hx hb dL_add_2 rfl (lv_at hl 1 rfl) ?_
  refine lv_iload_n hx hb dL_add_3 rfl (lv_at hl 2 rfl) ?_
  have hFc := va_free (wc := [(x, .inr (5, [.ref wa, .ref ja, .int (nI kn), .int (nI rf), .ref xs1, .ref xs2, .ref xs3, .ref xs4, .ref xs5, .ref xs6, .ref xs7])), (wa, .inl (cS, 70, .inr (.inr (.inr (.inr fW))))), (ja, .inl (cJ, 6, .inr (.inr (.inr (.inr gJ))))), (j, .inr (3, [.ref ins, .ref em, .ref w, .ref w, .ref w, .int (nI 1), .int (nI g)])), (ins, .inr (4, [.ref ri, .int (nI 0)])), (w, .inr (4, [.ref rw, .int (nI 0)])), (ri, .inl (cI, room, .inl fi)), (rw, .inl (cW, 4, .inl fw))]) hD hS hA [0, 1, 2, 3, 4, 5, 6, 7] rfl
  have kc1 : 0 + (0) ≤ 0 := by omega
  have ks2 : 0 + (0) ≤ 0 := by omega
  refine z_calli (wr := [(out, .inr (6, [.long (ln), .null]))]) (va_runV (As := [.int (nI 0), .int (nI 0)]) (rest := [.ref out]) ⟨hx, hb, hml, hown, hts⟩ (c_xadd1 l D N0 e s.heap.size (zw s.heap) x wa ja kn rf xs1 xs2 xs3 xs4 xs5 xs6 xs7 cS fW cJ gJ j ins em w g ri rw cI cW fi fw room hgj hfw hroom) (cwV 2 hts gL_add_X2_add rfl rfl rfl (by decide +kernel) ⟨Nat.le_of_ble_eq_true rfl, Nat.le_of_ble_eq_true rfl⟩) ⟨zP.blind, (va_recv hK hP (ci := 5) (q0 := 0) rfl rfl), (z_pre hK hP hD hS hAN hN hG [0, 1, 2, 3, 4, 5, 6, 7] (by decide) rfl [0, 1, 2, 3] rfl (fun q hq => absurd hq List.not_mem_nil))⟩ rfl rfl hl.1 rfl (lv_room (Nat.le_of_ble_eq_true rfl)) dL_add_4 ⟨kc1, ks2⟩) hK hP hD hS hA [0, 1, 2, 3, 4, 5, 6, 7] rfl [8] rfl (by decide) (by decide) (fun r4 u t H locs ht hvm hw_c3 hY_c3 hz_c3 hm_c3 hk_c3 hK hP hD hS => ?_)
  obtain ⟨f2, rfl⟩ : ∃ z, z = u := ⟨_, rfl⟩
  try dsimp only at hw_c3 hY_c3
  have hP : va_P D vwCl [(out, .inr (6, [.long (ln), .null])), (x, .inr (5, [.ref wa, .ref ja, .int (nI kn), .int (nI rf), .ref xs1, .ref xs2, .ref xs3, .ref xs4, .ref xs5, .ref xs6, .ref xs7])), (wa, .inl (cS, 70, .inr (.inr (.inr (.inr fW))))), (ja, .inl (cJ, 6, .inr (.inr (.inr (.inr gJ))))), (j, .inr (3, [.ref ins, .ref em, .ref w, .ref w, .ref w, .int (nI 1), .int (nI g)])), (ins, .inr (4, [.ref ri, .int (nI 0)])), (w, .inr (4, [.ref rw, .int (nI 0)])), (ri, .inl (cI, room, .inl f2)), (rw, .inl (cW, 4, .inl fw))] H := hP
  have hD : va_D A [(out, .inr (6, [.long (ln), .null])), (x, .inr (5, [.ref wa, .ref ja, .int (nI kn), .int (nI rf), .ref xs1, .ref xs2, .ref xs3, .ref xs4, .ref xs5, .ref xs6, .ref xs7])), (wa, .inl (cS, 70, .inr (.inr (.inr (.inr fW))))), (ja, .inl (cJ, 6, .inr (.inr (.inr (.inr gJ))))), (j, .inr (3, [.ref ins, .ref em, .ref w, .ref w, .ref w, .int (nI 1), .int (nI g)])), (ins, .inr (4, [.ref ri, .int (nI 0)])), (w, .inr (4, [.ref rw, .int (nI 0)])), (ri, .inl (cI, room, .inl f2)), (rw, .inl (cW, 4, .inl fw))] := hD
  have hK : va_K D vwCl [(cS, .object "Joinrow$Signs"), (cJ, .object "Joinrow$Joiner"), (cI, .char), (cW, .char)] s := hK
  have hs5 := hS.1
  refine W.widen (k := 0) (n := 0) (by omega) (by omega) ?_
  subst hw_c3
  refine lv_i2l (v := (nI 0).toInt64) hx hb dL_add_7 rfl ?_
  refine va_putN (D := D) (ci := 6) (v := .long ((nI 0).toInt64)) (ty := .long) (C := RX3) (T := TX3) (N := 2) hx hb hts (by decide +kernel) tyX3 tyX3_ok nmX3 hown hK hP hD hS 0 rfl rfl 0 (by decide) (hG.nest ("JoinrowLaw", 13, "JoinrowLaw$Out", "n", "J", "JoinrowLaw") (by simp)) (fun _ h9 => h9) rfl (by decide +kernel) rfl rfl (Nat.le_of_ble_eq_true rfl) dL_add_8 (fun H locs hP hD hS => ?_)
  have hP : va_P D vwCl [(out, .inr (6, [.long ((nI 0).toInt64), .null])), (x, .inr (5, [.ref wa, .ref ja, .int (nI kn), .int (nI rf), .ref xs1, .ref xs2, .ref xs3, .ref xs4, .ref xs5, .ref xs6, .ref xs7])), (wa, .inl (cS, 70, .inr (.inr (.inr (.inr fW))))), (ja, .inl (cJ, 6, .inr (.inr (.inr (.inr gJ))))), (j, .inr (3, [.ref ins, .ref em, .ref w, .ref w, .ref w, .int (nI 1), .int (nI g)])), (ins, .inr (4, [.ref ri, .int (nI 0)])), (w, .inr (4, [.ref rw, .int (nI 0)])), (ri, .inl (cI, room, .inl f2)), (rw, .inl (cW, 4, .inl fw))] H := hP
  have hD : va_D A [(out, .inr (6, [.long ((nI 0).toInt64), .null])), (x, .inr (5, [.ref wa, .ref ja, .int (nI kn), .int (nI rf), .ref xs1, .ref xs2, .ref xs3, .ref xs4, .ref xs5, .ref xs6, .ref xs7])), (wa, .inl (cS, 70, .inr (.inr (.inr (.inr fW))))), (ja, .inl (cJ, 6, .inr (.inr (.inr (.inr gJ))))), (j, .inr (3, [.ref ins, .ref em, .ref w, .ref w, .ref w, .int (nI 1), .int (nI g)])), (ins, .inr (4, [.ref ri, .int (nI 0)])), (w, .inr (4, [.ref rw, .int (nI 0)])), (ri, .inl (cI, room, .inl f2)), (rw, .inl (cW, 4, .inl fw))] := hD
  have hs6 := hS.1
  refine lv_goto (tgt := 26) hx hb dL_add_11 (by decide) ?_
  refine lv_iconst (v := (nI 0)) hx hb dL_add_26 (by decide) ?_
  have hz0 := hS.1
  refine z_keepW (fun hkp => ?_)
  exact z_reti (v := (nI 0)) (f2) hx hb hr (by first | rfl | decide) hlocks (show (nI 0) = (nI 0) from rfl) hK [] rfl hP hD hS [1, 2, 3, 4, 5, 6, 7, 8, 0] (by decide) rfl (by omega) (zw_keep hkp) (fun _ _ _ => trivial) dL_add_27
set_option maxRecDepth 100000 in
set_option maxHeartbeats 4000000 in
/-- Out() -/
theorem c_oini (l : Launch) (D : va_G) (N0 : Nat) (e : zE) (sz mz : Nat) (out : Nat)  : Met l yX3_init wsX3_init ({ frames := 1, cells := 0, slots := 0, locals := 16 }) (va_Pc [.ref out] (zP N0 e D [] [(out, .inr (6, [.long (0), .null]))] sz mz [])) (zQv (fun (_ : Unit) => True) D (fun (_ : Unit) => ([(out, .inr (6, [.long (0), .null]))] : va_W)) (fun (_ : Unit) => ([] : List (ClassId × FieldType))) sz (0) mz (0) (fun (_ : Unit) (t : State) => True) (va_A [(out, .inr (6, [.long (0), .null]))] sz)) (0) (0) (va_A [(out, .inr (6, [.long (0), .null]))] sz) := by
  refine z_met (Qc := fun A => zQv (fun (_ : Unit) => True) D (fun (_ : Unit) => ([(out, .inr (6, [.long (0), .null]))] : va_W)) (fun (_ : Unit) => ([] : List (ClassId × FieldType))) sz (0) mz (0) (fun (_ : Unit) (t : State) => True) A) (cc := cX3_init) (maxL := 1) (ret := none) RX3 rfl (by decide) rfl (Nat.le_of_ble_eq_true rfl) ?_
  intro p ev s m below meth c ls A hx hb hr hml hown hts hlocks hnm hsz hmz hN hAe hA hAN hS hP hK hD hG hL hl
  subst hsz
  subst hmz
  have hl : lv_has ls 1 [(0, .ref out)] := hl
  refine lv_aload_n hx hb dX3_init_0 rfl (lv_at hl 0 rfl) ?_
  refine W.objInit hx hb hown (hts (.methodLink RX3 1 objectInit) (by decide +kernel)) (hts (.instanceMethod objectInit) (by decide +kernel)) (hts (.code objectInit ⟨#[0xb1]⟩ 1 none) (by decide +kernel)) rfl (by rw [hml]; exact hl.1) rfl dX3_init_1 (Nat.le_of_ble_eq_true rfl) (Nat.le_of_ble_eq_true rfl) ?_
  refine W.eq (g2 := F0 m 4 ls []) rfl ?_
  have hz0 := hS.1
  refine z_keepW (fun hkp => ?_)
  exact z_retv () hx hb hr hlocks trivial hK [] rfl hP hD hS [0] (by decide) rfl (by omega) (zw_keep hkp) (fun _ _ _ => trivial) dX3_init_4
