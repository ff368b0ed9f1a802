/-- the room that the run is given here: more than the claim's -/
def zBig : Room := { frames := 2048, cells := 3000000, slots := 20000000, locals := 84000 }
/-- the script: begin(0, 0), then 511 times add(0, 0) -/
def zScr (xs : Nat → Int32) : Prop := ∀ k, k < 512 → xs (5 * k) = (if k = 0 then nI 0 else nI 4) ∧ xs (5 * k + 1) = nI 0 ∧ xs (5 * k + 2) = nI 0
/-- what the new cells behind n adds weigh, at the least -/
def zS (n : Nat) : Nat := 288 * (n * (n + 1))
theorem zS_succ (n : Nat) : zS (n + 1) = zS n + (576 * n + 576) := by
  unfold zS
  rw [show (n + 1) * (n + 1 + 1) = (n + 2) * (n + 1) from Nat.mul_comm _ _, Nat.add_mul]
  omega
theorem zS_511 : zS 511 = 75350016 := by decide
set_option maxRecDepth 100000 in
set_option maxHeartbeats 8000000 in
/-- the law's run over that script, from its entry to its last instruction: new cells that weigh 75350016 at the least -/
theorem z_law {p : Program} {ev : Env} {s : State} {m : MethodId} {below : List Frame} {meth : Method} {c : Code} (l : Launch) {b : Nat} {xs : Nat → Int32} {D : va_G} {e : zE} {Q : State → Prop} (hx : p.tables.exec = Jvm.exec) (hb : c.code = code) (hml : c.maxLocals = 7) (hown : s.vm.findClass RL = some m.cls) (hts : ∀ w ∈ zz_tbl, w.before #[Value.ref b] s = true) (hX : va_X b 2560 xs s s.heap) (hbl : b < s.heap.size) (hscr : zScr xs) (hK : va_K D vwCl [] s) (hG0 : zG s.heap.size e s s.heap) (hend : ∀ (H : Heap) (locs : List Loc) (ls : Array Slot), va_S (fun q => s.heap.size ≤ q) s.heap H locs → zw s.heap + 75350016 ≤ zw H → W p l ev zBig s m #[Value.ref b] below meth c H locs 3000000 20000000 Q (F0 m 1224 ls [.int 1])) (ls : Array Slot) (hl : lv_has ls 7 [(0, .ref b)]) : W p l ev zBig s m #[Value.ref b] below meth c s.heap [] 0 0 Q (F0 m 0 ls []) := by
  obtain ⟨N0, hN0⟩ : ∃ N0, N0 = s.heap.size := ⟨_, rfl⟩
  obtain ⟨A, hAe⟩ : ∃ A : Nat → Prop, A = fun q => s.heap.size ≤ q := ⟨_, rfl⟩
  have hG : zG N0 e s s.heap := by rw [hN0]; exact hG0
  have hN : N0 ≤ s.heap.size := by omega
  have hA : ∀ q, s.heap.size ≤ q → A q := fun q h => by rw [hAe]; exact h
  have hAN : ∀ q, A q → N0 ≤ q := fun q h => by rw [hAe] at h; rw [hN0]; exact h
  have hbA : ¬ A b := by rw [hAe]; exact Nat.not_le.mpr hbl
  have hS : va_S A s.heap s.heap [] := va_S.rf
  have hP : va_P D vwCl [] s.heap := fun k q h => by simp at h
  have hD : va_D A [] := ⟨fun i j p q h => by simp at h, fun k q h => by simp at h⟩
  have kc1 : 0 + 1 ≤ 3000000 := by omega
  have ks2 : 0 + 11 ≤ 20000000 := by omega
  refine z_new (ci := 5) (fs := [.null, .null, .int 0, .int 0, .null, .null, .null, .null, .null, .null, .null]) (C := RX2) (T := TX2) (N := 11) hx hb hts (by decide +kernel) tyX2 tyX2_ok hown (hts (.classLink RL 8 RX2) (List.mem_of_getElem? (i := 61) (by decide +kernel))) (hts (.instantiable RX2 11) (List.mem_of_getElem? (i := 62) (by decide +kernel))) (hts (.initialized RX2) (List.mem_of_getElem? (i := 33) (by decide +kernel))) hK hP hD hS hA rfl (fun j hj => by match j, hj with | 0, _ => rfl | 1, _ => rfl | 2, _ => rfl | 3, _ => rfl | 4, _ => rfl | 5, _ => rfl | 6, _ => rfl | 7, _ => rfl | 8, _ => rfl | 9, _ => rfl | 10, _ => rfl) kc1 ks2 dL_law_0 (fun x H hq_x hz_x hm_x hk_x hP hD hS => ?_)
  have hP : va_P D vwCl [(x, .inr (5, [.null, .null, .int (nI 0), .int (nI 0), .null, .null, .null, .null, .null, .null, .null]))] H := hP
  have hD : va_D A [(x, .inr (5, [.null, .null, .int (nI 0), .int (nI 0), .null, .null, .null, .null, .null, .null, .null]))] := hD
  have hs3 := hS.1
  refine W.widen (k := 1) (n := 11) (by omega) (by omega) ?_
  refine lv_dup hx hb dL_law_3 rfl ?_
  have hFc := va_free (wc := [(x, .inr (5, [.null, .null, .int (nI 0), .int (nI 0), .null, .null, .null, .null, .null, .null, .null]))]) hD hS hA [0] rfl
  have kc4 : 1 + (210) ≤ 3000000 := by omega
  have ks5 : 11 + (11200) ≤ 20000000 := by omega
  refine z_callv (wr := []) (va_runI (As := []) (rest := [.ref x]) ⟨hx, hb, hml, hown, hts⟩ (c_xini l D N0 e H.size (zw H) x ) (cwI 0 hts gz_X2_init rfl rfl rfl (hts (.initialized RX2) (List.mem_of_getElem? (i := 33) (by decide +kernel))) (hts (.methodLink RL 108 yX2_init) (List.mem_of_getElem? (i := 63) (by decide +kernel))) (hts (.instanceMethod yX2_init) (List.mem_of_getElem? (i := 64) (by decide +kernel))) rfl (by decide +kernel) ⟨Nat.le_of_ble_eq_true rfl, Nat.le_of_ble_eq_true rfl⟩) ⟨zP.blind, (z_pre hK hP hD hS hAN hN hG [0] (by decide) rfl [] rfl (fun q hq => absurd hq List.not_mem_nil))⟩ rfl rfl hl.1 rfl (lv_room (Nat.le_of_ble_eq_true rfl)) dL_law_4 ⟨kc4, ks5⟩) hK hP hD hS hA [0] rfl [] rfl (by decide) (by decide) (fun u t H locs ht hvm hw_c6 hY_c6 hz_c6 hm_c6 hk_c6 hK hP hD hS => ?_)
  obtain ⟨xs1, xs2, xs3, xs4, xs5, xs6, xs7, wa, ja, w, rw, j, ins, em, ri, bw, pf, sf, rp, rs, cS, cJ, cW, cI, fw, fi, fW, gJ⟩ := u
  try dsimp only at hw_c6 hY_c6
  have hP : va_P D vwCl [(x, .inr (5, [.ref wa, .ref ja, .int (nI 0), .int (nI 0), .ref xs1, .ref xs2, .ref xs3, .ref xs4, .ref xs5, .ref xs6, .ref xs7])), (wa, .inl (cS, 70, .inr (.inr (.inr (.inr fW))))), (ja, .inl (cJ, 6, .inr (.inr (.inr (.inr gJ))))), (w, .inr (4, [.ref rw, .int (nI 0)])), (rw, .inl (cW, 4, .inl fw)), (j, .inr (3, [.ref ins, .ref em, .ref bw, .ref pf, .ref sf, .int (nI 0), .int (nI 0)])), (ins, .inr (4, [.ref ri, .int (nI 0)])), (ri, .inl (cI, 300, .inl fi)), (pf, .inr (4, [.ref rp, .int (nI 1)])), (sf, .inr (4, [.ref rs, .int (nI 1)]))] H := hP
  have hD : va_D A [(x, .inr (5, [.ref wa, .ref ja, .int (nI 0), .int (nI 0), .ref xs1, .ref xs2, .ref xs3, .ref xs4, .ref xs5, .ref xs6, .ref xs7])), (wa, .inl (cS, 70, .inr (.inr (.inr (.inr fW))))), (ja, .inl (cJ, 6, .inr (.inr (.inr (.inr gJ))))), (w, .inr (4, [.ref rw, .int (nI 0)])), (rw, .inl (cW, 4, .inl fw)), (j, .inr (3, [.ref ins, .ref em, .ref bw, .ref pf, .ref sf, .int (nI 0), .int (nI 0)])), (ins, .inr (4, [.ref ri, .int (nI 0)])), (ri, .inl (cI, 300, .inl fi)), (pf, .inr (4, [.ref rp, .int (nI 1)])), (sf, .inr (4, [.ref rs, .int (nI 1)]))] := hD
  have hK : va_K D vwCl [(cS, .object "Joinrow$Signs"), (cJ, .object "Joinrow$Joiner"), (cW, .char), (cI, .char)] s := hK
  have hs8 := hS.1
  refine W.widen (k := 211) (n := 11211) (by omega) (by omega) ?_
  have hgj := hw_c6.1
  have hfw := hw_c6.2
  refine lv_astore_n (lv' := [(1, .ref x), (0, .ref b)]) hx hb dL_law_7 rfl hl (by decide) rfl (fun ls hl => ?_)
  have kc9 : 211 + 1 ≤ 3000000 := by omega
  have ks10 : 11211 + 4 ≤ 20000000 := by omega
  refine z_new (ci := 8) (fs := [.int 0, .null, .int 0, .int 0]) (C := RX5) (T := TX5) (N := 4) hx hb hts (by decide +kernel) tyX5 tyX5_ok hown (hts (.classLink RL 109 RX5) (List.mem_of_getElem? (i := 915) (by decide +kernel))) (hts (.instantiable RX5 4) (List.mem_of_getElem? (i := 916) (by decide +kernel))) (hts (.initialized RX5) (List.mem_of_getElem? (i := 40) (by decide +kernel))) hK hP hD hS hA rfl (fun j hj => by match j, hj with | 0, _ => rfl | 1, _ => rfl | 2, _ => rfl | 3, _ => rfl) kc9 ks10 dL_law_8 (fun mm H hq_mm hz_mm hm_mm hk_mm hP hD hS => ?_)
  have hP : va_P D vwCl [(x, .inr (5, [.ref wa, .ref ja, .int (nI 0), .int (nI 0), .ref xs1, .ref xs2, .ref xs3, .ref xs4, .ref xs5, .ref xs6, .ref xs7])), (wa, .inl (cS, 70, .inr (.inr (.inr (.inr fW))))), (ja, .inl (cJ, 6, .inr (.inr (.inr (.inr gJ))))), (w, .inr (4, [.ref rw, .int (nI 0)])), (rw, .inl (cW, 4, .inl fw)), (j, .inr (3, [.ref ins, .ref em, .ref bw, .ref pf, .ref sf, .int (nI 0), .int (nI 0)])), (ins, .inr (4, [.ref ri, .int (nI 0)])), (ri, .inl (cI, 300, .inl fi)), (pf, .inr (4, [.ref rp, .int (nI 1)])), (sf, .inr (4, [.ref rs, .int (nI 1)])), (mm, .inr (8, [.int (nI 0), .null, .int (nI 0), .int (nI 0)]))] H := hP
  have hD : va_D A [(x, .inr (5, [.ref wa, .ref ja, .int (nI 0), .int (nI 0), .ref xs1, .ref xs2, .ref xs3, .ref xs4, .ref xs5, .ref xs6, .ref xs7])), (wa, .inl (cS, 70, .inr (.inr (.inr (.inr fW))))), (ja, .inl (cJ, 6, .inr (.inr (.inr (.inr gJ))))), (w, .inr (4, [.ref rw, .int (nI 0)])), (rw, .inl (cW, 4, .inl fw)), (j, .inr (3, [.ref ins, .ref em, .ref bw, .ref pf, .ref sf, .int (nI 0), .int (nI 0)])), (ins, .inr (4, [.ref ri, .int (nI 0)])), (ri, .inl (cI, 300, .inl fi)), (pf, .inr (4, [.ref rp, .int (nI 1)])), (sf, .inr (4, [.ref rs, .int (nI 1)])), (mm, .inr (8, [.int (nI 0), .null, .int (nI 0), .int (nI 0)]))] := hD
  have hs11 := hS.1
  refine W.widen (k := 212) (n := 11215) (by omega) (by omega) ?_
  refine lv_dup hx hb dL_law_11 rfl ?_
  have hFc := va_free (wc := [(mm, .inr (8, [.int (nI 0), .null, .int (nI 0), .int (nI 0)]))]) hD hS hA [10] rfl
  have kc12 : 212 + (13) ≤ 3000000 := by omega
  have ks13 : 11215 + (60) ≤ 20000000 := by omega
  refine z_callv (wr := [(x, .inr (5, [.ref wa, .ref ja, .int (nI 0), .int (nI 0), .ref xs1, .ref xs2, .ref xs3, .ref xs4, .ref xs5, .ref xs6, .ref xs7])), (wa, .inl (cS, 70, .inr (.inr (.inr (.inr fW))))), (ja, .inl (cJ, 6, .inr (.inr (.inr (.inr gJ))))), (w, .inr (4, [.ref rw, .int (nI 0)])), (rw, .inl (cW, 4, .inl fw)), (j, .inr (3, [.ref ins, .ref em, .ref bw, .ref pf, .ref sf, .int (nI 0), .int (nI 0)])), (ins, .inr (4, [.ref ri, .int (nI 0)])), (ri, .inl (cI, 300, .inl fi)), (pf, .inr (4, [.ref rp, .int (nI 1)])), (sf, .inr (4, [.ref rs, .int (nI 1)]))]) (va_runI (As := []) (rest := [.ref mm]) ⟨hx, hb, hml, hown, hts⟩ (c_mini l D N0 e H.size (zw H) mm ) (cwI 0 hts gz_X5_init rfl rfl rfl (hts (.initialized RX5) (List.mem_of_getElem? (i := 40) (by decide +kernel))) (hts (.methodLink RL 111 yX5_init) (List.mem_of_getElem? (i := 917) (by decide +kernel))) (hts (.instanceMethod yX5_init) (List.mem_of_getElem? (i := 918) (by decide +kernel))) rfl (by decide +kernel) ⟨Nat.le_of_ble_eq_true rfl, Nat.le_of_ble_eq_true rfl⟩) ⟨zP.blind, (z_pre hK hP hD hS hAN hN hG [10] (by decide) rfl [] rfl (fun q hq => absurd hq List.not_mem_nil))⟩ rfl rfl hl.1 rfl (lv_room (Nat.le_of_ble_eq_true rfl)) dL_law_12 ⟨kc12, ks13⟩) hK hP hD hS hA [10] rfl [0, 1, 2, 3, 4, 5, 6, 7, 8, 9] rfl (by decide) (by decide) (fun u t H locs ht hvm hw_c14 hY_c14 hz_c14 hm_c14 hk_c14 hK hP hD hS => ?_)
  obtain ⟨aa, jj, al, cA, ga⟩ := u
  try dsimp only at hw_c14 hY_c14
  have hP : va_P D vwCl [(x, .inr (5, [.ref wa, .ref ja, .int (nI 0), .int (nI 0), .ref xs1, .ref xs2, .ref xs3, .ref xs4, .ref xs5, .ref xs6, .ref xs7])), (wa, .inl (cS, 70, .inr (.inr (.inr (.inr fW))))), (ja, .inl (cJ, 6, .inr (.inr (.inr (.inr gJ))))), (w, .inr (4, [.ref rw, .int (nI 0)])), (rw, .inl (cW, 4, .inl fw)), (j, .inr (3, [.ref ins, .ref em, .ref bw, .ref pf, .ref sf, .int (nI 0), .int (nI 0)])), (ins, .inr (4, [.ref ri, .int (nI 0)])), (ri, .inl (cI, 300, .inl fi)), (pf, .inr (4, [.ref rp, .int (nI 1)])), (sf, .inr (4, [.ref rs, .int (nI 1)])), (mm, .inr (8, [.int (nI 0), .ref aa, .int (nI 0), .int (nI 0)])), (aa, .inl (cA, 6, .inr (.inr (.inr (.inr ga))))), (jj, .inr (7, [.ref ((e.2.2.1 1)), .ref ((e.2.2.1 2)), .ref ((e.2.2.1 3)), .ref al, .null])), (al, .inr (2, [.int (nI 0), .ref e.1, .int (nI 0)]))] H := hP
  have hD : va_D A [(x, .inr (5, [.ref wa, .ref ja, .int (nI 0), .int (nI 0), .ref xs1, .ref xs2, .ref xs3, .ref xs4, .ref xs5, .ref xs6, .ref xs7])), (wa, .inl (cS, 70, .inr (.inr (.inr (.inr fW))))), (ja, .inl (cJ, 6, .inr (.inr (.inr (.inr gJ))))), (w, .inr (4, [.ref rw, .int (nI 0)])), (rw, .inl (cW, 4, .inl fw)), (j, .inr (3, [.ref ins, .ref em, .ref bw, .ref pf, .ref sf, .int (nI 0), .int (nI 0)])), (ins, .inr (4, [.ref ri, .int (nI 0)])), (ri, .inl (cI, 300, .inl fi)), (pf, .inr (4, [.ref rp, .int (nI 1)])), (sf, .inr (4, [.ref rs, .int (nI 1)])), (mm, .inr (8, [.int (nI 0), .ref aa, .int (nI 0), .int (nI 0)])), (aa, .inl (cA, 6, .inr (.inr (.inr (.inr ga))))), (jj, .inr (7, [.ref ((e.2.2.1 1)), .ref ((e.2.2.1 2)), .ref ((e.2.2.1 3)), .ref al, .null])), (al, .inr (2, [.int (nI 0), .ref e.1, .int (nI 0)]))] := hD
  have hK : va_K D vwCl [(cS, .object "Joinrow$Signs"), (cJ, .object "Joinrow$Joiner"), (cW, .char), (cI, .char), (cA, .object "JoinrowModel$Joiner")] s := hK
  have hs16 := hS.1
  refine W.widen (k := 225) (n := 11275) (by omega) (by omega) ?_
  have hga := hw_c14
  refine lv_astore_n (lv' := [(2, .ref mm), (1, .ref x), (0, .ref b)]) hx hb dL_law_15 rfl hl (by decide) rfl (fun ls hl => ?_)
  have kc17 : 225 + 1 ≤ 3000000 := by omega
  have ks18 : 11275 + 2 ≤ 20000000 := by omega
  refine z_new (ci := 6) (fs := [.long (0), .null]) (C := RX3) (T := TX3) (N := 2) hx hb hts (by decide +kernel) tyX3 tyX3_ok hown (hts (.classLink RL 14 RX3) (List.mem_of_getElem? (i := 471) (by decide +kernel))) (hts (.instantiable RX3 2) (List.mem_of_getElem? (i := 472) (by decide +kernel))) (hts (.initialized RX3) (List.mem_of_getElem? (i := 45) (by decide +kernel))) hK hP hD hS hA rfl (fun j hj => by match j, hj with | 0, _ => rfl | 1, _ => rfl) kc17 ks18 dL_law_16 (fun out H hq_out hz_out hm_out hk_out hP hD hS => ?_)
  have hP : va_P D vwCl [(x, .inr (5, [.ref wa, .ref ja, .int (nI 0), .int (nI 0), .ref xs1, .ref xs2, .ref xs3, .ref xs4, .ref xs5, .ref xs6, .ref xs7])), (wa, .inl (cS, 70, .inr (.inr (.inr (.inr fW))))), (ja, .inl (cJ, 6, .inr (.inr (.inr (.inr gJ))))), (w, .inr (4, [.ref rw, .int (nI 0)])), (rw, .inl (cW, 4, .inl fw)), (j, .inr (3, [.ref ins, .ref em, .ref bw, .ref pf, .ref sf, .int (nI 0), .int (nI 0)])), (ins, .inr (4, [.ref ri, .int (nI 0)])), (ri, .inl (cI, 300, .inl fi)), (pf, .inr (4, [.ref rp, .int (nI 1)])), (sf, .inr (4, [.ref rs, .int (nI 1)])), (mm, .inr (8, [.int (nI 0), .ref aa, .int (nI 0), .int (nI 0)])), (aa, .inl (cA, 6, .inr (.inr (.inr (.inr ga))))), (jj, .inr (7, [.ref ((e.2.2.1 1)), .ref ((e.2.2.1 2)), .ref ((e.2.2.1 3)), .ref al, .null])), (al, .inr (2, [.int (nI 0), .ref e.1, .int (nI 0)])), (out, .inr (6, [.long (0), .null]))] H := hP
  have hD : va_D A [(x, .inr (5, [.ref wa, .ref ja, .int (nI 0), .int (nI 0), .ref xs1, .ref xs2, .ref xs3, .ref xs4, .ref xs5, .ref xs6, .ref xs7])), (wa, .inl (cS, 70, .inr (.inr (.inr (.inr fW))))), (ja, .inl (cJ, 6, .inr (.inr (.inr (.inr gJ))))), (w, .inr (4, [.ref rw, .int (nI 0)])), (rw, .inl (cW, 4, .inl fw)), (j, .inr (3, [.ref ins, .ref em, .ref bw, .ref pf, .ref sf, .int (nI 0), .int (nI 0)])), (ins, .inr (4, [.ref ri, .int (nI 0)])), (ri, .inl (cI, 300, .inl fi)), (pf, .inr (4, [.ref rp, .int (nI 1)])), (sf, .inr (4, [.ref rs, .int (nI 1)])), (mm, .inr (8, [.int (nI 0), .ref aa, .int (nI 0), .int (nI 0)])), (aa, .inl (cA, 6, .inr (.inr (.inr (.inr ga))))), (jj, .inr (7, [.ref ((e.2.2.1 1)), .ref ((e.2.2.1 2)), .ref ((e.2.2.1 3)), .ref al, .null])), (al, .inr (2, [.int (nI 0), .ref e.1, .int (nI 0)])), (out, .inr (6, [.long (0), .null]))] := hD
  have hs19 := hS.1
  refine W.widen (k := 226) (n := 11277) (by omega) (by omega) ?_
  refine lv_dup hx hb dL_law_19 rfl ?_
  have hFc := va_free (wc := [(out, .inr (6, [.long (0), .null]))]) hD hS hA [14] rfl
  have kc20 : 226 + 0 ≤ 3000000 := by omega
  have ks21 : 11277 + 0 ≤ 20000000 := by omega
  refine z_callv (wr := [(x, .inr (5, [.ref wa, .ref ja, .int (nI 0), .int (nI 0), .ref xs1, .ref xs2, .ref xs3, .ref xs4, .ref xs5, .ref xs6, .ref xs7])), (wa, .inl (cS, 70, .inr (.inr (.inr (.inr fW))))), (ja, .inl (cJ, 6, .inr (.inr (.inr (.inr gJ))))), (w, .inr (4, [.ref rw, .int (nI 0)])), (rw, .inl (cW, 4, .inl fw)), (j, .inr (3, [.ref ins, .ref em, .ref bw, .ref pf, .ref sf, .int (nI 0), .int (nI 0)])), (ins, .inr (4, [.ref ri, .int (nI 0)])), (ri, .inl (cI, 300, .inl fi)), (pf, .inr (4, [.ref rp, .int (nI 1)])), (sf, .inr (4, [.ref rs, .int (nI 1)])), (mm, .inr (8, [.int (nI 0), .ref aa, .int (nI 0), .int (nI 0)])), (aa, .inl (cA, 6, .inr (.inr (.inr (.inr ga))))), (jj, .inr (7, [.ref ((e.2.2.1 1)), .ref ((e.2.2.1 2)), .ref ((e.2.2.1 3)), .ref al, .null])), (al, .inr (2, [.int (nI 0), .ref e.1, .int (nI 0)]))]) (va_runIN (As := []) (rest := [.ref out]) ⟨hx, hb, hml, hown, hts⟩ (c_oini l D N0 e H.size (zw H) out) (va_cnB 0 hts gz_X3_init rfl rfl rfl (va_Nw.of rfl (hts (.methodLinkNest RL 112 yX3_init RL) (List.mem_of_getElem? (i := 473) (by decide +kernel)))) (hts (.initialized RX3) (List.mem_of_getElem? (i := 45) (by decide +kernel))) (by decide +kernel) ⟨Nat.le_of_ble_eq_true rfl, Nat.le_of_ble_eq_true rfl⟩ |> fun h9 => ⟨h9, rfl, (hts (.instanceMethod yX3_init) (List.mem_of_getElem? (i := 474) (by decide +kernel)))⟩) ⟨zP.blind, (z_pre hK hP hD hS hAN hN hG [14] (by decide) rfl [] rfl (fun q hq => absurd hq List.not_mem_nil))⟩ rfl rfl hl.1 rfl (lv_room (Nat.le_of_ble_eq_true rfl)) dL_law_20 ⟨kc20, ks21⟩) hK hP hD hS hA [14] rfl [0, 1, 2, 3, 4, 5, 6, 7, 8, 9, 10, 11, 12, 13] rfl (by decide) (by decide) (fun u t H locs ht hvm hw hY hz hm hk hK hP hD hS => ?_)
  have hP : va_P D vwCl [(x, .inr (5, [.ref wa, .ref ja, .int (nI 0), .int (nI 0), .ref xs1, .ref xs2, .ref xs3, .ref xs4, .ref xs5, .ref xs6, .ref xs7])), (wa, .inl (cS, 70, .inr (.inr (.inr (.inr fW))))), (ja, .inl (cJ, 6, .inr (.inr (.inr (.inr gJ))))), (w, .inr (4, [.ref rw, .int (nI 0)])), (rw, .inl (cW, 4, .inl fw)), (j, .inr (3, [.ref ins, .ref em, .ref bw, .ref pf, .ref sf, .int (nI 0), .int (nI 0)])), (ins, .inr (4, [.ref ri, .int (nI 0)])), (ri, .inl (cI, 300, .inl fi)), (pf, .inr (4, [.ref rp, .int (nI 1)])), (sf, .inr (4, [.ref rs, .int (nI 1)])), (mm, .inr (8, [.int (nI 0), .ref aa, .int (nI 0), .int (nI 0)])), (aa, .inl (cA, 6, .inr (.inr (.inr (.inr ga))))), (jj, .inr (7, [.ref ((e.2.2.1 1)), .ref ((e.2.2.1 2)), .ref ((e.2.2.1 3)), .ref al, .null])), (al, .inr (2, [.int (nI 0), .ref e.1, .int (nI 0)])), (out, .inr (6, [.long (0), .null]))] H := hP
  have hD : va_D A [(x, .inr (5, [.ref wa, .ref ja, .int (nI 0), .int (nI 0), .ref xs1, .ref xs2, .ref xs3, .ref xs4, .ref xs5, .ref xs6, .ref xs7])), (wa, .inl (cS, 70, .inr (.inr (.inr (.inr fW))))), (ja, .inl (cJ, 6, .inr (.inr (.inr (.inr gJ))))), (w, .inr (4, [.ref rw, .int (nI 0)])), (rw, .inl (cW, 4, .inl fw)), (j, .inr (3, [.ref ins, .ref em, .ref bw, .ref pf, .ref sf, .int (nI 0), .int (nI 0)])), (ins, .inr (4, [.ref ri, .int (nI 0)])), (ri, .inl (cI, 300, .inl fi)), (pf, .inr (4, [.ref rp, .int (nI 1)])), (sf, .inr (4, [.ref rs, .int (nI 1)])), (mm, .inr (8, [.int (nI 0), .ref aa, .int (nI 0), .int (nI 0)])), (aa, .inl (cA, 6, .inr (.inr (.inr (.inr ga))))), (jj, .inr (7, [.ref ((e.2.2.1 1)), .ref ((e.2.2.1 2)), .ref ((e.2.2.1 3)), .ref al, .null])), (al, .inr (2, [.int (nI 0), .ref e.1, .int (nI 0)])), (out, .inr (6, [.long (0), .null]))] := hD
  have hK : va_K D vwCl [(cS, .object "Joinrow$Signs"), (cJ, .object "Joinrow$Joiner"), (cW, .char), (cI, .char), (cA, .object "JoinrowModel$Joiner")] s := hK
  have hs22 := hS.1
  refine lv_astore_n (lv' := [(3, .ref out), (2, .ref mm), (1, .ref x), (0, .ref b)]) hx hb dL_law_23 rfl hl (by decide) rfl (fun ls hl => ?_)
  refine lv_iconst (v := (nI 0)) hx hb dL_law_24 (by decide) ?_
  refine lv_istore (lv' := [(4, .int (nI 0)), (3, .ref out), (2, .ref mm), (1, .ref x), (0, .ref b)]) hx hb dL_law_25 hl (by decide) rfl (fun ls hl => ?_)
  refine lv_iload hx hb dL_law_27 (lv_at hl 0 rfl) ?_
  refine lv_aload_n hx hb dL_law_29 rfl (lv_at hl 4 rfl) ?_
  refine va_slen hx hb hX hbl hbA hS dL_law_30 ?_
  refine lv_topi (fun t23 et23 => ?_)
  replace et23 := et23.trans (show (Int32.ofNat 2560) = (nI 2560) from rfl)
  subst et23
  refine lv_iconst (v := (nI 5)) hx hb dL_law_31 (by decide) ?_
  refine lv_isub hx hb dL_law_32 ?_
  refine lv_topi (fun t24 et24 => ?_)
  replace et24 := et24.trans (show ((nI 2560) - (nI 5)) = (nI 2555) from by decide)
  subst et24
  refine lv_icmp_gt (tgt := 1223) hx hb dL_law_33 (by decide) (fun hq => absurd hq (show ¬ ((nI 2555) < (nI 0)) from fun hq => absurd ((nI_ltI (by omega) (by omega)).mp hq) (by omega))) (fun _ => ?_)
  refine lv_aload_n hx hb dL_law_36 rfl (lv_at hl 4 rfl) ?_
  refine lv_iload hx hb dL_law_37 (lv_at hl 0 rfl) ?_
  have vi25 : vp_in (nI 0) 2560 := vp_in_nI (by omega) (by omega)
  refine va_sld hx hb hX hbl hbA hS vi25 dL_law_39 ?_
  refine lv_topi (fun t26 et26 => ?_)
  replace et26 := et26.trans (show (xs (nI 0).toNatClampNeg) = (nI 0) from (by rw [nI_clamp (by omega)]; exact (hscr 0 (by omega)).1))
  subst et26
  refine lv_bipush (v := (nI 31)) hx hb dL_law_40 (by decide) ?_
  refine lv_iand hx hb dL_law_42 ?_
  refine lv_topi (fun t27 et27 => ?_)
  replace et27 := et27.trans (show ((nI 0) &&& (nI 31)) = (nI 0) from by decide)
  subst et27
  refine lv_tableIn (off := 125) (tgt := 168) hx hb dL_law_43 (by decide) (by decide) (by decide) (by decide) ?_
  refine lv_aload_n hx hb dL_law_168 rfl (lv_at hl 3 rfl) ?_
  refine lv_aload_n hx hb dL_law_169 rfl (lv_at hl 4 rfl) ?_
  refine lv_iload hx hb dL_law_170 (lv_at hl 0 rfl) ?_
  refine lv_iconst (v := (nI 1)) hx hb dL_law_172 (by decide) ?_
  refine lv_iadd hx hb dL_law_173 ?_
  refine lv_topi (fun t28 et28 => ?_)
  replace et28 := et28.trans (show ((nI 0) + (nI 1)) = (nI 1) from by decide)
  subst et28
  have vi29 : vp_in (nI 1) 2560 := vp_in_nI (by omega) (by omega)
  refine va_sld hx hb hX hbl hbA hS vi29 dL_law_174 ?_
  refine lv_topi (fun t30 et30 => ?_)
  replace et30 := et30.trans (show (xs (nI 1).toNatClampNeg) = (nI 0) from (by rw [nI_clamp (by omega)]; exact (hscr 0 (by omega)).2.1))
  subst et30
  refine lv_aload_n hx hb dL_law_175 rfl (lv_at hl 4 rfl) ?_
  refine lv_iload hx hb dL_law_176 (lv_at hl 0 rfl) ?_
  refine lv_iconst (v := (nI 2)) hx hb dL_law_178 (by decide) ?_
  refine lv_iadd hx hb dL_law_179 ?_
  refine lv_topi (fun t31 et31 => ?_)
  replace et31 := et31.trans (show ((nI 0) + (nI 2)) = (nI 2) from by decide)
  subst et31
  have vi32 : vp_in (nI 2) 2560 := vp_in_nI (by omega) (by omega)
  refine va_sld hx hb hX hbl hbA hS vi32 dL_law_180 ?_
  refine lv_topi (fun t33 et33 => ?_)
  replace et33 := et33.trans (show (xs (nI 2).toNatClampNeg) = (nI 0) from (by rw [nI_clamp (by omega)]; exact (hscr 0 (by omega)).2.2))
  subst et33
  refine lv_aload_n hx hb dL_law_181 rfl (lv_at hl 1 rfl) ?_
  have hFc := va_free (wc := [(x, .inr (5, [.ref wa, .ref ja, .int (nI 0), .int (nI 0), .ref xs1, .ref xs2, .ref xs3, .ref xs4, .ref xs5, .ref xs6, .ref xs7])), (wa, .inl (cS, 70, .inr (.inr (.inr (.inr fW))))), (ja, .inl (cJ, 6, .inr (.inr (.inr (.inr gJ))))), (j, .inr (3, [.ref ins, .ref em, .ref bw, .ref pf, .ref sf, .int (nI 0), .int (nI 0)])), (ins, .inr (4, [.ref ri, .int (nI 0)])), (pf, .inr (4, [.ref rp, .int (nI 1)])), (sf, .inr (4, [.ref rs, .int (nI 1)])), (out, .inr (6, [.long (0), .null]))]) hD hS hA [0, 1, 2, 5, 6, 8, 9, 14] rfl
  have kc34 : 226 + (0) ≤ 3000000 := by omega
  have ks35 : 11277 + (0) ≤ 20000000 := by omega
  refine z_calli (wr := [(w, .inr (4, [.ref rw, .int (nI 0)])), (rw, .inl (cW, 4, .inl fw)), (ri, .inl (cI, 300, .inl fi)), (mm, .inr (8, [.int (nI 0), .ref aa, .int (nI 0), .int (nI 0)])), (aa, .inl (cA, 6, .inr (.inr (.inr (.inr ga))))), (jj, .inr (7, [.ref ((e.2.2.1 1)), .ref ((e.2.2.1 2)), .ref ((e.2.2.1 3)), .ref al, .null])), (al, .inr (2, [.int (nI 0), .ref e.1, .int (nI 0)]))]) (vx_runSW (As := [.ref x, .int (nI 0), .int (nI 0), .ref out]) (rest := []) ⟨hx, hb, hml, hown, hts⟩ (c_Lbegin l D N0 e H.size (zw H) x wa ja 0 0 xs1 xs2 xs3 xs4 xs5 xs6 xs7 cS fW cJ gJ w j ins em bw pf sf ri rp rs 1 1 out 0 hgj hfw) (vx_cwSW 4 hts gq_L_begin rfl rfl rfl (by decide +kernel) ⟨Nat.le_of_ble_eq_true rfl, Nat.le_of_ble_eq_true rfl⟩) ⟨zP.blind, (z_pre hK hP hD hS hAN hN hG [0, 1, 2, 5, 6, 8, 9, 14] (by decide) rfl [0, 1] rfl (fun q hq => absurd hq List.not_mem_nil))⟩ rfl rfl hl.1 rfl (lv_room (Nat.le_of_ble_eq_true rfl)) dL_law_182 ⟨kc34, ks35⟩) hK hP hD hS hA [0, 1, 2, 5, 6, 8, 9, 14] rfl [3, 4, 7, 10, 11, 12, 13] rfl (by decide) (by decide) (fun r37 u t H locs ht hvm hw_c36 hY_c36 hz_c36 hm_c36 hk_c36 hK hP hD hS => ?_)
  have hP : va_P D vwCl [(w, .inr (4, [.ref rw, .int (nI 0)])), (rw, .inl (cW, 4, .inl fw)), (ri, .inl (cI, 300, .inl fi)), (mm, .inr (8, [.int (nI 0), .ref aa, .int (nI 0), .int (nI 0)])), (aa, .inl (cA, 6, .inr (.inr (.inr (.inr ga))))), (jj, .inr (7, [.ref ((e.2.2.1 1)), .ref ((e.2.2.1 2)), .ref ((e.2.2.1 3)), .ref al, .null])), (al, .inr (2, [.int (nI 0), .ref e.1, .int (nI 0)])), (x, .inr (5, [.ref wa, .ref ja, .int (nI 0), .int (nI 0), .ref xs1, .ref xs2, .ref xs3, .ref xs4, .ref xs5, .ref xs6, .ref xs7])), (wa, .inl (cS, 70, .inr (.inr (.inr (.inr fW))))), (ja, .inl (cJ, 6, .inr (.inr (.inr (.inr gJ))))), (j, .inr (3, [.ref ins, .ref em, .ref w, .ref w, .ref w, .int (nI 0), .int (nI 0)])), (ins, .inr (4, [.ref ri, .int (nI 0)])), (pf, .inr (4, [.ref rp, .int (nI 1)])), (sf, .inr (4, [.ref rs, .int (nI 1)])), (out, .inr (6, [.long ((nI (1 + 0 + 1)).toInt64), .null]))] H := hP
  have hD : va_D A [(w, .inr (4, [.ref rw, .int (nI 0)])), (rw, .inl (cW, 4, .inl fw)), (ri, .inl (cI, 300, .inl fi)), (mm, .inr (8, [.int (nI 0), .ref aa, .int (nI 0), .int (nI 0)])), (aa, .inl (cA, 6, .inr (.inr (.inr (.inr ga))))), (jj, .inr (7, [.ref ((e.2.2.1 1)), .ref ((e.2.2.1 2)), .ref ((e.2.2.1 3)), .ref al, .null])), (al, .inr (2, [.int (nI 0), .ref e.1, .int (nI 0)])), (x, .inr (5, [.ref wa, .ref ja, .int (nI 0), .int (nI 0), .ref xs1, .ref xs2, .ref xs3, .ref xs4, .ref xs5, .ref xs6, .ref xs7])), (wa, .inl (cS, 70, .inr (.inr (.inr (.inr fW))))), (ja, .inl (cJ, 6, .inr (.inr (.inr (.inr gJ))))), (j, .inr (3, [.ref ins, .ref em, .ref w, .ref w, .ref w, .int (nI 0), .int (nI 0)])), (ins, .inr (4, [.ref ri, .int (nI 0)])), (pf, .inr (4, [.ref rp, .int (nI 1)])), (sf, .inr (4, [.ref rs, .int (nI 1)])), (out, .inr (6, [.long ((nI (1 + 0 + 1)).toInt64), .null]))] := hD
  have hK : va_K D vwCl [(cS, .object "Joinrow$Signs"), (cJ, .object "Joinrow$Joiner"), (cW, .char), (cI, .char), (cA, .object "JoinrowModel$Joiner")] s := hK
  have hs38 := hS.1
  refine W.widen (k := 226) (n := 11277) (by omega) (by omega) ?_
  subst hw_c36
  refine lv_istore (lv' := [(5, .int (nI 0)), (4, .int (nI 0)), (3, .ref out), (2, .ref mm), (1, .ref x), (0, .ref b)]) hx hb dL_law_185 hl (by decide) rfl (fun ls hl => ?_)
  refine lv_aload_n hx hb dL_law_187 rfl (lv_at hl 3 rfl) ?_
  refine lv_aload_n hx hb dL_law_188 rfl (lv_at hl 5 rfl) ?_
  refine lv_iload hx hb dL_law_189 (lv_at hl 1 rfl) ?_
  refine lv_iconst (v := (nI 1)) hx hb dL_law_191 (by decide) ?_
  refine lv_iadd hx hb dL_law_192 ?_
  refine lv_topi (fun t39 et39 => ?_)
  replace et39 := et39.trans (show ((nI 0) + (nI 1)) = (nI 1) from by decide)
  subst et39
  have vi40 : vp_in (nI 1) 2560 := vp_in_nI (by omega) (by omega)
  refine va_sld hx hb hX hbl hbA hS vi40 dL_law_193 ?_
  refine lv_topi (fun t41 et41 => ?_)
  replace et41 := et41.trans (show (xs (nI 1).toNatClampNeg) = (nI 0) from (by rw [nI_clamp (by omega)]; exact (hscr 0 (by omega)).2.1))
  subst et41
  refine lv_aload_n hx hb dL_law_194 rfl (lv_at hl 5 rfl) ?_
  refine lv_iload hx hb dL_law_195 (lv_at hl 1 rfl) ?_
  refine lv_iconst (v := (nI 2)) hx hb dL_law_197 (by decide) ?_
  refine lv_iadd hx hb dL_law_198 ?_
  refine lv_topi (fun t42 et42 => ?_)
  replace et42 := et42.trans (show ((nI 0) + (nI 2)) = (nI 2) from by decide)
  subst et42
  have vi43 : vp_in (nI 2) 2560 := vp_in_nI (by omega) (by omega)
  refine va_sld hx hb hX hbl hbA hS vi43 dL_law_199 ?_
  refine lv_topi (fun t44 et44 => ?_)
  replace et44 := et44.trans (show (xs (nI 2).toNatClampNeg) = (nI 0) from (by rw [nI_clamp (by omega)]; exact (hscr 0 (by omega)).2.2))
  subst et44
  have hFc := va_free (wc := [(mm, .inr (8, [.int (nI 0), .ref aa, .int (nI 0), .int (nI 0)])), (aa, .inl (cA, 6, .inr (.inr (.inr (.inr ga))))), (jj, .inr (7, [.ref ((e.2.2.1 1)), .ref ((e.2.2.1 2)), .ref ((e.2.2.1 3)), .ref al, .null])), (al, .inr (2, [.int (nI 0), .ref e.1, .int (nI 0)]))]) hD hS hA [3, 4, 5, 6] rfl
  have kc45 : 226 + (10) ≤ 3000000 := by omega
  have ks46 : 11277 + (60) ≤ 20000000 := by omega
  refine z_calli (wr := [(w, .inr (4, [.ref rw, .int (nI 0)])), (rw, .inl (cW, 4, .inl fw)), (ri, .inl (cI, 300, .inl fi)), (x, .inr (5, [.ref wa, .ref ja, .int (nI 0), .int (nI 0), .ref xs1, .ref xs2, .ref xs3, .ref xs4, .ref xs5, .ref xs6, .ref xs7])), (wa, .inl (cS, 70, .inr (.inr (.inr (.inr fW))))), (ja, .inl (cJ, 6, .inr (.inr (.inr (.inr gJ))))), (j, .inr (3, [.ref ins, .ref em, .ref w, .ref w, .ref w, .int (nI 0), .int (nI 0)])), (ins, .inr (4, [.ref ri, .int (nI 0)])), (pf, .inr (4, [.ref rp, .int (nI 1)])), (sf, .inr (4, [.ref rs, .int (nI 1)])), (out, .inr (6, [.long ((nI (1 + 0 + 1)).toInt64), .null]))]) (va_runV (As := [.int (nI 0), .int (nI 0)]) (rest := []) ⟨hx, hb, hml, hown, hts⟩ (c_mbegin l D N0 e H.size (zw H) mm aa 0 0 cA ga jj ((e.2.2.1 1)) al 0 hga) (cwV 2 hts gq_X5_begin rfl rfl rfl (by decide +kernel) ⟨Nat.le_of_ble_eq_true rfl, Nat.le_of_ble_eq_true rfl⟩) ⟨zP.blind, (va_recv hK hP (ci := 8) (q0 := 3) rfl rfl), (z_pre hK hP hD hS hAN hN hG [3, 4, 5, 6] (by decide) rfl [4] rfl (fun q hq => absurd hq List.not_mem_nil))⟩ rfl rfl hl.1 rfl (lv_room (Nat.le_of_ble_eq_true rfl)) dL_law_200 ⟨kc45, ks46⟩) hK hP hD hS hA [3, 4, 5, 6] rfl [0, 1, 2, 7, 8, 9, 10, 11, 12, 13, 14] rfl (by decide) (by decide) (fun r48 u t H locs ht hvm hw_c47 hY_c47 hz_c47 hm_c47 hk_c47 hK hP hD hS => ?_)
  obtain ⟨jn, al2, g2⟩ := u
  try dsimp only at hw_c47 hY_c47
  have hP : va_P D vwCl [(w, .inr (4, [.ref rw, .int (nI 0)])), (rw, .inl (cW, 4, .inl fw)), (ri, .inl (cI, 300, .inl fi)), (x, .inr (5, [.ref wa, .ref ja, .int (nI 0), .int (nI 0), .ref xs1, .ref xs2, .ref xs3, .ref xs4, .ref xs5, .ref xs6, .ref xs7])), (wa, .inl (cS, 70, .inr (.inr (.inr (.inr fW))))), (ja, .inl (cJ, 6, .inr (.inr (.inr (.inr gJ))))), (j, .inr (3, [.ref ins, .ref em, .ref w, .ref w, .ref w, .int (nI 0), .int (nI 0)])), (ins, .inr (4, [.ref ri, .int (nI 0)])), (pf, .inr (4, [.ref rp, .int (nI 1)])), (sf, .inr (4, [.ref rs, .int (nI 1)])), (out, .inr (6, [.long ((nI (1 + 0 + 1)).toInt64), .null])), (mm, .inr (8, [.int (nI 0), .ref aa, .int (nI 0), .int (nI 0)])), (aa, .inl (cA, 6, .inr (.inr (.inr (.inr g2))))), (jn, .inr (7, [.ref ((e.2.2.1 0)), .ref ((e.2.2.1 0)), .ref ((e.2.2.1 0)), .ref al2, .null])), (al2, .inr (2, [.int (nI 0), .ref e.1, .int (nI 0)]))] H := hP
  have hD : va_D A [(w, .inr (4, [.ref rw, .int (nI 0)])), (rw, .inl (cW, 4, .inl fw)), (ri, .inl (cI, 300, .inl fi)), (x, .inr (5, [.ref wa, .ref ja, .int (nI 0), .int (nI 0), .ref xs1, .ref xs2, .ref xs3, .ref xs4, .ref xs5, .ref xs6, .ref xs7])), (wa, .inl (cS, 70, .inr (.inr (.inr (.inr fW))))), (ja, .inl (cJ, 6, .inr (.inr (.inr (.inr gJ))))), (j, .inr (3, [.ref ins, .ref em, .ref w, .ref w, .ref w, .int (nI 0), .int (nI 0)])), (ins, .inr (4, [.ref ri, .int (nI 0)])), (pf, .inr (4, [.ref rp, .int (nI 1)])), (sf, .inr (4, [.ref rs, .int (nI 1)])), (out, .inr (6, [.long ((nI (1 + 0 + 1)).toInt64), .null])), (mm, .inr (8, [.int (nI 0), .ref aa, .int (nI 0), .int (nI 0)])), (aa, .inl (cA, 6, .inr (.inr (.inr (.inr g2))))), (jn, .inr (7, [.ref ((e.2.2.1 0)), .ref ((e.2.2.1 0)), .ref ((e.2.2.1 0)), .ref al2, .null])), (al2, .inr (2, [.int (nI 0), .ref e.1, .int (nI 0)]))] := hD
  have hK : va_K D vwCl [(cS, .object "Joinrow$Signs"), (cJ, .object "Joinrow$Joiner"), (cW, .char), (cI, .char), (cA, .object "JoinrowModel$Joiner")] s := hK
  have hs49 := hS.1
  refine W.widen (k := 236) (n := 11337) (by omega) (by omega) ?_
  obtain rfl := hw_c47.1
  have hg2 := hw_c47.2
  refine lv_istore (lv' := [(6, .int (nI 2)), (5, .int (nI 0)), (4, .int (nI 0)), (3, .ref out), (2, .ref mm), (1, .ref x), (0, .ref b)]) hx hb dL_law_203 hl (by decide) rfl (fun ls hl => ?_)
  refine lv_goto (tgt := 1217) hx hb dL_law_205 (by decide) ?_
  refine lv_iinc (v := (nI 5)) (lv' := [(4, .int (nI 5)), (6, .int (nI 2)), (5, .int (nI 0)), (3, .ref out), (2, .ref mm), (1, .ref x), (0, .ref b)]) hx hb dL_law_1217 hl (k := 2) rfl (by decide) (by decide) rfl (fun ls hl => ?_)
  refine lv_goto (tgt := 27) hx hb dL_law_1220 (by decide) ?_
  refine lv_iload hx hb dL_law_27 (lv_at hl 0 rfl) ?_
  refine lv_aload_n hx hb dL_law_29 rfl (lv_at hl 6 rfl) ?_
  refine va_slen hx hb hX hbl hbA hS dL_law_30 ?_
  refine lv_topi (fun t50 et50 => ?_)
  replace et50 := et50.trans (show (Int32.ofNat 2560) = (nI 2560) from rfl)
  subst et50
  refine lv_iconst (v := (nI 5)) hx hb dL_law_31 (by decide) ?_
  refine lv_isub hx hb dL_law_32 ?_
  refine lv_topi (fun t51 et51 => ?_)
  replace et51 := et51.trans (show ((nI 2560) - (nI 5)) = (nI 2555) from by decide)
  subst et51
  refine lv_icmp_gt (tgt := 1223) hx hb dL_law_33 (by decide) (fun hq => absurd hq (show ¬ ((nI 2555) < (nI 5)) from fun hq => absurd ((nI_ltI (by omega) (by omega)).mp hq) (by omega))) (fun _ => ?_)
  refine lv_aload_n hx hb dL_law_36 rfl (lv_at hl 6 rfl) ?_
  refine lv_iload hx hb dL_law_37 (lv_at hl 0 rfl) ?_
  have vi52 : vp_in (nI 5) 2560 := vp_in_nI (by omega) (by omega)
  refine va_sld hx hb hX hbl hbA hS vi52 dL_law_39 ?_
  refine lv_topi (fun t53 et53 => ?_)
  replace et53 := et53.trans (show (xs (nI 5).toNatClampNeg) = (nI 4) from (by rw [nI_clamp (by omega)]; exact ((hscr 1 (by omega)).1.trans (if_neg (by omega)))))
  subst et53
  refine lv_bipush (v := (nI 31)) hx hb dL_law_40 (by decide) ?_
  refine lv_iand hx hb dL_law_42 ?_
  refine lv_topi (fun t54 et54 => ?_)
  replace et54 := et54.trans (show ((nI 4) &&& (nI 31)) = (nI 4) from by decide)
  subst et54
  refine lv_tableIn (off := 309) (tgt := 352) hx hb dL_law_43 (by decide) (by decide) (by decide) (by decide) ?_
  refine lv_aload_n hx hb dL_law_352 rfl (lv_at hl 5 rfl) ?_
  refine lv_aload_n hx hb dL_law_353 rfl (lv_at hl 6 rfl) ?_
  refine lv_iload hx hb dL_law_354 (lv_at hl 0 rfl) ?_
  refine lv_iconst (v := (nI 1)) hx hb dL_law_356 (by decide) ?_
  refine lv_iadd hx hb dL_law_357 ?_
  refine lv_topi (fun t55 et55 => ?_)
  replace et55 := et55.trans (show ((nI 5) + (nI 1)) = (nI 6) from by decide)
  subst et55
  have vi56 : vp_in (nI 6) 2560 := vp_in_nI (by omega) (by omega)
  refine va_sld hx hb hX hbl hbA hS vi56 dL_law_358 ?_
  refine lv_topi (fun t57 et57 => ?_)
  replace et57 := et57.trans (show (xs (nI 6).toNatClampNeg) = (nI 0) from (by rw [nI_clamp (by omega)]; exact (hscr 1 (by omega)).2.1))
  subst et57
  refine lv_aload_n hx hb dL_law_359 rfl (lv_at hl 6 rfl) ?_
  refine lv_iload hx hb dL_law_360 (lv_at hl 0 rfl) ?_
  refine lv_iconst (v := (nI 2)) hx hb dL_law_362 (by decide) ?_
  refine lv_iadd hx hb dL_law_363 ?_
  refine lv_topi (fun t58 et58 => ?_)
  replace et58 := et58.trans (show ((nI 5) + (nI 2)) = (nI 7) from by decide)
  subst et58
  have vi59 : vp_in (nI 7) 2560 := vp_in_nI (by omega) (by omega)
  refine va_sld hx hb hX hbl hbA hS vi59 dL_law_364 ?_
  refine lv_topi (fun t60 et60 => ?_)
  replace et60 := et60.trans (show (xs (nI 7).toNatClampNeg) = (nI 0) from (by rw [nI_clamp (by omega)]; exact (hscr 1 (by omega)).2.2))
  subst et60
  refine lv_aload_n hx hb dL_law_365 rfl (lv_at hl 3 rfl) ?_
  have hFc := va_free (wc := [(x, .inr (5, [.ref wa, .ref ja, .int (nI 0), .int (nI 0), .ref xs1, .ref xs2, .ref xs3, .ref xs4, .ref xs5, .ref xs6, .ref xs7])), (wa, .inl (cS, 70, .inr (.inr (.inr (.inr fW))))), (ja, .inl (cJ, 6, .inr (.inr (.inr (.inr gJ))))), (j, .inr (3, [.ref ins, .ref em, .ref w, .ref w, .ref w, .int (nI 0), .int (nI 0)])), (ins, .inr (4, [.ref ri, .int (nI 0)])), (w, .inr (4, [.ref rw, .int (nI 0)])), (ri, .inl (cI, 300, .inl fi)), (rw, .inl (cW, 4, .inl fw)), (out, .inr (6, [.long ((nI (1 + 0 + 1)).toInt64), .null]))]) hD hS hA [3, 4, 5, 6, 7, 0, 2, 1, 10] rfl
  have kc61 : 236 + (0) ≤ 3000000 := by omega
  have ks62 : 11337 + (0) ≤ 20000000 := by omega
  refine z_calli (wr := [(pf, .inr (4, [.ref rp, .int (nI 1)])), (sf, .inr (4, [.ref rs, .int (nI 1)])), (mm, .inr (8, [.int (nI 0), .ref aa, .int (nI 0), .int (nI 0)])), (aa, .inl (cA, 6, .inr (.inr (.inr (.inr g2))))), (jn, .inr (7, [.ref ((e.2.2.1 0)), .ref ((e.2.2.1 0)), .ref ((e.2.2.1 0)), .ref al2, .null])), (al2, .inr (2, [.int (nI 0), .ref e.1, .int (nI 0)]))]) (vx_runSW (As := [.ref x, .int (nI 0), .int (nI 0), .ref out]) (rest := []) ⟨hx, hb, hml, hown, hts⟩ (c_Ladd0 l D N0 e H.size (zw H) x wa ja 0 0 xs1 xs2 xs3 xs4 xs5 xs6 xs7 cS fW cJ gJ j ins em w 0 ri rw cI cW fi fw 300 out ((nI (1 + 0 + 1)).toInt64) hgj hfw (by decide)) (vx_cwSW 4 hts gq_L_add rfl rfl rfl (by decide +kernel) ⟨Nat.le_of_ble_eq_true rfl, Nat.le_of_ble_eq_true rfl⟩) ⟨zP.blind, (z_pre hK hP hD hS hAN hN hG [3, 4, 5, 6, 7, 0, 2, 1, 10] (by decide) rfl [0, 1, 3, 2] rfl (fun q hq => absurd hq List.not_mem_nil))⟩ rfl rfl hl.1 rfl (lv_room (Nat.le_of_ble_eq_true rfl)) dL_law_366 ⟨kc61, ks62⟩) hK hP hD hS hA [3, 4, 5, 6, 7, 0, 2, 1, 10] rfl [8, 9, 11, 12, 13, 14] rfl (by decide) (by decide) (fun r64 u t H locs ht hvm hw_c63 hY_c63 hz_c63 hm_c63 hk_c63 hK hP hD hS => ?_)
  obtain ⟨fi1, rfl⟩ : ∃ z, z = u := ⟨_, rfl⟩
  try dsimp only at hw_c63 hY_c63
  have hP : va_P D vwCl [(pf, .inr (4, [.ref rp, .int (nI 1)])), (sf, .inr (4, [.ref rs, .int (nI 1)])), (mm, .inr (8, [.int (nI 0), .ref aa, .int (nI 0), .int (nI 0)])), (aa, .inl (cA, 6, .inr (.inr (.inr (.inr g2))))), (jn, .inr (7, [.ref ((e.2.2.1 0)), .ref ((e.2.2.1 0)), .ref ((e.2.2.1 0)), .ref al2, .null])), (al2, .inr (2, [.int (nI 0), .ref e.1, .int (nI 0)])), (x, .inr (5, [.ref wa, .ref ja, .int (nI 0), .int (nI 0), .ref xs1, .ref xs2, .ref xs3, .ref xs4, .ref xs5, .ref xs6, .ref xs7])), (wa, .inl (cS, 70, .inr (.inr (.inr (.inr fW))))), (ja, .inl (cJ, 6, .inr (.inr (.inr (.inr gJ))))), (j, .inr (3, [.ref ins, .ref em, .ref w, .ref w, .ref w, .int (nI 1), .int (nI 0)])), (ins, .inr (4, [.ref ri, .int (nI 0)])), (w, .inr (4, [.ref rw, .int (nI 0)])), (ri, .inl (cI, 300, .inl fi1)), (rw, .inl (cW, 4, .inl fw)), (out, .inr (6, [.long ((nI 0).toInt64), .null]))] H := hP
  have hD : va_D A [(pf, .inr (4, [.ref rp, .int (nI 1)])), (sf, .inr (4, [.ref rs, .int (nI 1)])), (mm, .inr (8, [.int (nI 0), .ref aa, .int (nI 0), .int (nI 0)])), (aa, .inl (cA, 6, .inr (.inr (.inr (.inr g2))))), (jn, .inr (7, [.ref ((e.2.2.1 0)), .ref ((e.2.2.1 0)), .ref ((e.2.2.1 0)), .ref al2, .null])), (al2, .inr (2, [.int (nI 0), .ref e.1, .int (nI 0)])), (x, .inr (5, [.ref wa, .ref ja, .int (nI 0), .int (nI 0), .ref xs1, .ref xs2, .ref xs3, .ref xs4, .ref xs5, .ref xs6, .ref xs7])), (wa, .inl (cS, 70, .inr (.inr (.inr (.inr fW))))), (ja, .inl (cJ, 6, .inr (.inr (.inr (.inr gJ))))), (j, .inr (3, [.ref ins, .ref em, .ref w, .ref w, .ref w, .int (nI 1), .int (nI 0)])), (ins, .inr (4, [.ref ri, .int (nI 0)])), (w, .inr (4, [.ref rw, .int (nI 0)])), (ri, .inl (cI, 300, .inl fi1)), (rw, .inl (cW, 4, .inl fw)), (out, .inr (6, [.long ((nI 0).toInt64), .null]))] := hD
  have hK : va_K D vwCl [(cS, .object "Joinrow$Signs"), (cJ, .object "Joinrow$Joiner"), (cW, .char), (cI, .char), (cA, .object "JoinrowModel$Joiner")] s := hK
  have hs65 := hS.1
  refine W.widen (k := 236) (n := 11337) (by omega) (by omega) ?_
  subst hw_c63
  refine lv_istore (lv' := [(5, .int (nI 0)), (4, .int (nI 5)), (6, .int (nI 2)), (3, .ref out), (2, .ref mm), (1, .ref x), (0, .ref b)]) hx hb dL_law_369 hl (by decide) rfl (fun ls hl => ?_)
  refine lv_aload_n hx hb dL_law_371 rfl (lv_at hl 4 rfl) ?_
  refine lv_aload_n hx hb dL_law_372 rfl (lv_at hl 6 rfl) ?_
  refine lv_iload hx hb dL_law_373 (lv_at hl 1 rfl) ?_
  refine lv_iconst (v := (nI 1)) hx hb dL_law_375 (by decide) ?_
  refine lv_iadd hx hb dL_law_376 ?_
  refine lv_topi (fun t66 et66 => ?_)
  replace et66 := et66.trans (show ((nI 5) + (nI 1)) = (nI 6) from by decide)
  subst et66
  have vi67 : vp_in (nI 6) 2560 := vp_in_nI (by omega) (by omega)
  refine va_sld hx hb hX hbl hbA hS vi67 dL_law_377 ?_
  refine lv_topi (fun t68 et68 => ?_)
  replace et68 := et68.trans (show (xs (nI 6).toNatClampNeg) = (nI 0) from (by rw [nI_clamp (by omega)]; exact (hscr 1 (by omega)).2.1))
  subst et68
  refine lv_aload_n hx hb dL_law_378 rfl (lv_at hl 6 rfl) ?_
  refine lv_iload hx hb dL_law_379 (lv_at hl 1 rfl) ?_
  refine lv_iconst (v := (nI 2)) hx hb dL_law_381 (by decide) ?_
  refine lv_iadd hx hb dL_law_382 ?_
  refine lv_topi (fun t69 et69 => ?_)
  replace et69 := et69.trans (show ((nI 5) + (nI 2)) = (nI 7) from by decide)
  subst et69
  have vi70 : vp_in (nI 7) 2560 := vp_in_nI (by omega) (by omega)
  refine va_sld hx hb hX hbl hbA hS vi70 dL_law_383 ?_
  refine lv_topi (fun t71 et71 => ?_)
  replace et71 := et71.trans (show (xs (nI 7).toNatClampNeg) = (nI 0) from (by rw [nI_clamp (by omega)]; exact (hscr 1 (by omega)).2.2))
  subst et71
  have hFc := va_free (wc := [(mm, .inr (8, [.int (nI 0), .ref aa, .int (nI 0), .int (nI 0)])), (aa, .inl (cA, 6, .inr (.inr (.inr (.inr g2))))), (jn, .inr (7, [.ref ((e.2.2.1 0)), .ref ((e.2.2.1 0)), .ref ((e.2.2.1 0)), .ref al2, .null])), (al2, .inr (2, [.int (nI 0), .ref e.1, .int (nI 0)]))]) hD hS hA [2, 3, 4, 5] rfl
  have kc72 : 236 + (12) ≤ 3000000 := by omega
  have ks73 : 11337 + (1300) ≤ 20000000 := by omega
  refine z_calli (wr := [(pf, .inr (4, [.ref rp, .int (nI 1)])), (sf, .inr (4, [.ref rs, .int (nI 1)])), (x, .inr (5, [.ref wa, .ref ja, .int (nI 0), .int (nI 0), .ref xs1, .ref xs2, .ref xs3, .ref xs4, .ref xs5, .ref xs6, .ref xs7])), (wa, .inl (cS, 70, .inr (.inr (.inr (.inr fW))))), (ja, .inl (cJ, 6, .inr (.inr (.inr (.inr gJ))))), (j, .inr (3, [.ref ins, .ref em, .ref w, .ref w, .ref w, .int (nI 1), .int (nI 0)])), (ins, .inr (4, [.ref ri, .int (nI 0)])), (w, .inr (4, [.ref rw, .int (nI 0)])), (ri, .inl (cI, 300, .inl fi1)), (rw, .inl (cW, 4, .inl fw)), (out, .inr (6, [.long ((nI 0).toInt64), .null]))]) (va_runV (As := [.int (nI 0), .int (nI 0)]) (rest := []) ⟨hx, hb, hml, hown, hts⟩ (c_madd0 l D N0 e H.size (zw H) mm aa 0 0 cA g2 jn al2 0 hg2) (cwV 2 hts gq_X5_add rfl rfl rfl (by decide +kernel) ⟨Nat.le_of_ble_eq_true rfl, Nat.le_of_ble_eq_true rfl⟩) ⟨zP.blind, (va_recv hK hP (ci := 8) (q0 := 2) rfl rfl), (z_pre hK hP hD hS hAN hN hG [2, 3, 4, 5] (by decide) rfl [4] rfl (fun q hq => absurd hq List.not_mem_nil))⟩ rfl rfl hl.1 rfl (lv_room (Nat.le_of_ble_eq_true rfl)) dL_law_384 ⟨kc72, ks73⟩) hK hP hD hS hA [2, 3, 4, 5] rfl [0, 1, 6, 7, 8, 9, 10, 11, 12, 13, 14] rfl (by decide) (by decide) (fun r75 u t H locs ht hvm hw_c74 hY_c74 hz_c74 hm_c74 hk_c74 hK hP hD hS => ?_)
  obtain ⟨ea1, cO1, cap1, fe1⟩ := u
  try dsimp only at hw_c74 hY_c74
  have hP : va_P D vwCl [(pf, .inr (4, [.ref rp, .int (nI 1)])), (sf, .inr (4, [.ref rs, .int (nI 1)])), (x, .inr (5, [.ref wa, .ref ja, .int (nI 0), .int (nI 0), .ref xs1, .ref xs2, .ref xs3, .ref xs4, .ref xs5, .ref xs6, .ref xs7])), (wa, .inl (cS, 70, .inr (.inr (.inr (.inr fW))))), (ja, .inl (cJ, 6, .inr (.inr (.inr (.inr gJ))))), (j, .inr (3, [.ref ins, .ref em, .ref w, .ref w, .ref w, .int (nI 1), .int (nI 0)])), (ins, .inr (4, [.ref ri, .int (nI 0)])), (w, .inr (4, [.ref rw, .int (nI 0)])), (ri, .inl (cI, 300, .inl fi1)), (rw, .inl (cW, 4, .inl fw)), (out, .inr (6, [.long ((nI 0).toInt64), .null])), (mm, .inr (8, [.int (nI 0), .ref aa, .int (nI 0), .int (nI 0)])), (aa, .inl (cA, 6, .inr (.inr (.inr (.inr g2))))), (jn, .inr (7, [.ref ((e.2.2.1 0)), .ref ((e.2.2.1 0)), .ref ((e.2.2.1 0)), .ref al2, .null])), (al2, .inr (2, [.int (nI 1), .ref ea1, .int (nI 1)])), (ea1, .inl (cO1, cap1, .inr (.inr (.inr (.inr fe1)))))] H := hP
  have hD : va_D A [(pf, .inr (4, [.ref rp, .int (nI 1)])), (sf, .inr (4, [.ref rs, .int (nI 1)])), (x, .inr (5, [.ref wa, .ref ja, .int (nI 0), .int (nI 0), .ref xs1, .ref xs2, .ref xs3, .ref xs4, .ref xs5, .ref xs6, .ref xs7])), (wa, .inl (cS, 70, .inr (.inr (.inr (.inr fW))))), (ja, .inl (cJ, 6, .inr (.inr (.inr (.inr gJ))))), (j, .inr (3, [.ref ins, .ref em, .ref w, .ref w, .ref w, .int (nI 1), .int (nI 0)])), (ins, .inr (4, [.ref ri, .int (nI 0)])), (w, .inr (4, [.ref rw, .int (nI 0)])), (ri, .inl (cI, 300, .inl fi1)), (rw, .inl (cW, 4, .inl fw)), (out, .inr (6, [.long ((nI 0).toInt64), .null])), (mm, .inr (8, [.int (nI 0), .ref aa, .int (nI 0), .int (nI 0)])), (aa, .inl (cA, 6, .inr (.inr (.inr (.inr g2))))), (jn, .inr (7, [.ref ((e.2.2.1 0)), .ref ((e.2.2.1 0)), .ref ((e.2.2.1 0)), .ref al2, .null])), (al2, .inr (2, [.int (nI 1), .ref ea1, .int (nI 1)])), (ea1, .inl (cO1, cap1, .inr (.inr (.inr (.inr fe1)))))] := hD
  have hK : va_K D vwCl [(cS, .object "Joinrow$Signs"), (cJ, .object "Joinrow$Joiner"), (cW, .char), (cI, .char), (cA, .object "JoinrowModel$Joiner"), (cO1, .object "java/lang/Object")] s := hK
  have hs76 := hS.1
  refine W.widen (k := 248) (n := 12637) (by omega) (by omega) ?_
  obtain rfl := hw_c74.1
  have hq1 := hw_c74.2
  refine lv_istore (lv' := [(6, .int (nI 0)), (5, .int (nI 0)), (4, .int (nI 5)), (3, .ref out), (2, .ref mm), (1, .ref x), (0, .ref b)]) hx hb dL_law_387 hl (by decide) rfl (fun ls hl => ?_)
  refine lv_goto (tgt := 1217) hx hb dL_law_389 (by decide) ?_
  refine lv_iinc (v := (nI 10)) (lv' := [(4, .int (nI 10)), (6, .int (nI 0)), (5, .int (nI 0)), (3, .ref out), (2, .ref mm), (1, .ref x), (0, .ref b)]) hx hb dL_law_1217 hl (k := 2) rfl (by decide) (by decide) rfl (fun ls hl => ?_)
  refine lv_goto (tgt := 27) hx hb dL_law_1220 (by decide) ?_
  have hP : va_P D vwCl [(x, .inr (5, [.ref wa, .ref ja, .int (nI 0), .int (nI 0), .ref xs1, .ref xs2, .ref xs3, .ref xs4, .ref xs5, .ref xs6, .ref xs7])), (wa, .inl (cS, 70, .inr (.inr (.inr (.inr fW))))), (ja, .inl (cJ, 6, .inr (.inr (.inr (.inr gJ))))), (j, .inr (3, [.ref ins, .ref em, .ref w, .ref w, .ref w, .int (nI 1), .int (nI 0)])), (ins, .inr (4, [.ref ri, .int (nI 0)])), (w, .inr (4, [.ref rw, .int (nI 0)])), (ri, .inl (cI, 300, .inl fi1)), (rw, .inl (cW, 4, .inl fw)), (out, .inr (6, [.long ((nI 0).toInt64), .null])), (mm, .inr (8, [.int (nI 0), .ref aa, .int (nI 0), .int (nI 0)])), (aa, .inl (cA, 6, .inr (.inr (.inr (.inr g2))))), (jn, .inr (7, [.ref ((e.2.2.1 0)), .ref ((e.2.2.1 0)), .ref ((e.2.2.1 0)), .ref al2, .null])), (al2, .inr (2, [.int (nI 1), .ref ea1, .int (nI 1)])), (ea1, .inl (cO1, cap1, .inr (.inr (.inr (.inr fe1)))))] H := hP.pick [2, 3, 4, 5, 6, 7, 8, 9, 10, 11, 12, 13, 14, 15] rfl
  have hD : va_D A [(x, .inr (5, [.ref wa, .ref ja, .int (nI 0), .int (nI 0), .ref xs1, .ref xs2, .ref xs3, .ref xs4, .ref xs5, .ref xs6, .ref xs7])), (wa, .inl (cS, 70, .inr (.inr (.inr (.inr fW))))), (ja, .inl (cJ, 6, .inr (.inr (.inr (.inr gJ))))), (j, .inr (3, [.ref ins, .ref em, .ref w, .ref w, .ref w, .int (nI 1), .int (nI 0)])), (ins, .inr (4, [.ref ri, .int (nI 0)])), (w, .inr (4, [.ref rw, .int (nI 0)])), (ri, .inl (cI, 300, .inl fi1)), (rw, .inl (cW, 4, .inl fw)), (out, .inr (6, [.long ((nI 0).toInt64), .null])), (mm, .inr (8, [.int (nI 0), .ref aa, .int (nI 0), .int (nI 0)])), (aa, .inl (cA, 6, .inr (.inr (.inr (.inr g2))))), (jn, .inr (7, [.ref ((e.2.2.1 0)), .ref ((e.2.2.1 0)), .ref ((e.2.2.1 0)), .ref al2, .null])), (al2, .inr (2, [.int (nI 1), .ref ea1, .int (nI 1)])), (ea1, .inl (cO1, cap1, .inr (.inr (.inr (.inr fe1)))))] := hD.sub [2, 3, 4, 5, 6, 7, 8, 9, 10, 11, 12, 13, 14, 15] (by decide) rfl
  have hKB : va_K D vwCl [(cS, .object "Joinrow$Signs"), (cJ, .object "Joinrow$Joiner"), (cW, .char), (cI, .char), (cA, .object "JoinrowModel$Joiner")] s := hK.sub [0, 1, 2, 3, 4] rfl
  have loop : ∀ (n nn ii : Nat), 1 ≤ nn → nn ≤ 511 → 512 ≤ nn + n → ii = 5 * (nn + 1) → ∀ (fi2 : Nat → Int32) (mo2 ea2 cap2 : Nat) (cO2 : ClassId) (fe2 : Nat → Option Nat) (H : Heap) (locs : List Loc), nn ≤ cap2 → cap2 ≤ 800 → 10 ≤ cap2 → zF fe2 nn (e.2.2.1 0) → zw s.heap + zS nn ≤ zw H → va_K D vwCl [(cO2, .object "java/lang/Object")] s → va_P D vwCl [(x, .inr (5, [.ref wa, .ref ja, .int (nI 0), .int (nI 0), .ref xs1, .ref xs2, .ref xs3, .ref xs4, .ref xs5, .ref xs6, .ref xs7])), (wa, .inl (cS, 70, .inr (.inr (.inr (.inr fW))))), (ja, .inl (cJ, 6, .inr (.inr (.inr (.inr gJ))))), (j, .inr (3, [.ref ins, .ref em, .ref w, .ref w, .ref w, .int (nI 1), .int (nI 0)])), (ins, .inr (4, [.ref ri, .int (nI 0)])), (w, .inr (4, [.ref rw, .int (nI 0)])), (ri, .inl (cI, 300, .inl fi2)), (rw, .inl (cW, 4, .inl fw)), (out, .inr (6, [.long ((nI 0).toInt64), .null])), (mm, .inr (8, [.int (nI 0), .ref aa, .int (nI 0), .int (nI 0)])), (aa, .inl (cA, 6, .inr (.inr (.inr (.inr g2))))), (jn, .inr (7, [.ref ((e.2.2.1 0)), .ref ((e.2.2.1 0)), .ref ((e.2.2.1 0)), .ref al2, .null])), (al2, .inr (2, [.int (nI mo2), .ref ea2, .int (nI nn)])), (ea2, .inl (cO2, cap2, .inr (.inr (.inr (.inr fe2)))))] H → va_D A [(x, .inr (5, [.ref wa, .ref ja, .int (nI 0), .int (nI 0), .ref xs1, .ref xs2, .ref xs3, .ref xs4, .ref xs5, .ref xs6, .ref xs7])), (wa, .inl (cS, 70, .inr (.inr (.inr (.inr fW))))), (ja, .inl (cJ, 6, .inr (.inr (.inr (.inr gJ))))), (j, .inr (3, [.ref ins, .ref em, .ref w, .ref w, .ref w, .int (nI 1), .int (nI 0)])), (ins, .inr (4, [.ref ri, .int (nI 0)])), (w, .inr (4, [.ref rw, .int (nI 0)])), (ri, .inl (cI, 300, .inl fi2)), (rw, .inl (cW, 4, .inl fw)), (out, .inr (6, [.long ((nI 0).toInt64), .null])), (mm, .inr (8, [.int (nI 0), .ref aa, .int (nI 0), .int (nI 0)])), (aa, .inl (cA, 6, .inr (.inr (.inr (.inr g2))))), (jn, .inr (7, [.ref ((e.2.2.1 0)), .ref ((e.2.2.1 0)), .ref ((e.2.2.1 0)), .ref al2, .null])), (al2, .inr (2, [.int (nI mo2), .ref ea2, .int (nI nn)])), (ea2, .inl (cO2, cap2, .inr (.inr (.inr (.inr fe2)))))] → va_S A s.heap H locs → ∀ (ls : Array Slot), lv_has ls 7 [(4, .int (nI ii)), (0, .ref b), (1, .ref x), (2, .ref mm), (3, .ref out)] → W p l ev zBig s m #[Value.ref b] below meth c H locs (1000 + 4200 * nn) (20000 + 26000 * nn) Q (F0 m 27 ls []) := by
    intro n
    induction n with
    | zero =>
      intro nn ii h1 h2 h3
      exact absurd h3 (by omega)
    | succ n ih =>
      intro nn ii h1 h511 hin hii fi2 mo2 ea2 cap2 cO2 fe2 H locs hnc hcap h10 hzf hzs hK2 hP hD hS ls hl
      rcases Nat.lt_or_ge nn 511 with hlt | hge
      · skip
        have hK : va_K D vwCl [(cS, .object "Joinrow$Signs"), (cJ, .object "Joinrow$Joiner"), (cW, .char), (cI, .char), (cA, .object "JoinrowModel$Joiner"), (cO2, .object "java/lang/Object")] s := hKB.app hK2
        refine lv_iload hx hb dL_law_27 (lv_at hl 0 rfl) ?_
        refine lv_aload_n hx hb dL_law_29 rfl (lv_at hl 1 rfl) ?_
        refine va_slen hx hb hX hbl hbA hS dL_law_30 ?_
        refine lv_topi (fun t77 et77 => ?_)
        replace et77 := et77.trans (show (Int32.ofNat 2560) = (nI 2560) from rfl)
        subst et77
        refine lv_iconst (v := (nI 5)) hx hb dL_law_31 (by decide) ?_
        refine lv_isub hx hb dL_law_32 ?_
        refine lv_topi (fun t78 et78 => ?_)
        replace et78 := et78.trans (show ((nI 2560) - (nI 5)) = (nI 2555) from by decide)
        subst et78
        refine lv_icmp_gt (tgt := 1223) hx hb dL_law_33 (by decide) (fun hq => absurd hq (show ¬ ((nI 2555) < (nI ii)) from fun hq => absurd ((nI_ltI (by omega) (by omega)).mp hq) (by omega))) (fun _ => ?_)
        refine lv_aload_n hx hb dL_law_36 rfl (lv_at hl 1 rfl) ?_
        refine lv_iload hx hb dL_law_37 (lv_at hl 0 rfl) ?_
        have vi79 : vp_in (nI ii) 2560 := vp_in_nI (by omega) (by omega)
        refine va_sld hx hb hX hbl hbA hS vi79 dL_law_39 ?_
        refine lv_topi (fun t80 et80 => ?_)
        replace et80 := et80.trans (show (xs (nI ii).toNatClampNeg) = (nI 4) from (by rw [nI_clamp (by omega), hii]; exact ((hscr (nn + 1) (by omega)).1.trans (if_neg (by omega)))))
        subst et80
        refine lv_bipush (v := (nI 31)) hx hb dL_law_40 (by decide) ?_
        refine lv_iand hx hb dL_law_42 ?_
        refine lv_topi (fun t81 et81 => ?_)
        replace et81 := et81.trans (show ((nI 4) &&& (nI 31)) = (nI 4) from by decide)
        subst et81
        refine lv_tableIn (off := 309) (tgt := 352) hx hb dL_law_43 (by decide) (by decide) (by decide) (by decide) ?_
        refine lv_aload_n hx hb dL_law_352 rfl (lv_at hl 2 rfl) ?_
        refine lv_aload_n hx hb dL_law_353 rfl (lv_at hl 1 rfl) ?_
        refine lv_iload hx hb dL_law_354 (lv_at hl 0 rfl) ?_
        refine lv_iconst (v := (nI 1)) hx hb dL_law_356 (by decide) ?_
        refine lv_iadd hx hb dL_law_357 ?_
        refine lv_topi (fun t82 et82 => ?_)
        replace et82 := et82.trans (show ((nI ii) + (nI 1)) = (nI (ii + 1)) from nI_add _ _)
        subst et82
        have vi83 : vp_in (nI (ii + 1)) 2560 := vp_in_nI (by omega) (by omega)
        refine va_sld hx hb hX hbl hbA hS vi83 dL_law_358 ?_
        refine lv_topi (fun t84 et84 => ?_)
        replace et84 := et84.trans (show (xs (nI (ii + 1)).toNatClampNeg) = (nI 0) from (by rw [nI_clamp (by omega), hii]; exact (hscr (nn + 1) (by omega)).2.1))
        subst et84
        refine lv_aload_n hx hb dL_law_359 rfl (lv_at hl 1 rfl) ?_
        refine lv_iload hx hb dL_law_360 (lv_at hl 0 rfl) ?_
        refine lv_iconst (v := (nI 2)) hx hb dL_law_362 (by decide) ?_
        refine lv_iadd hx hb dL_law_363 ?_
        refine lv_topi (fun t85 et85 => ?_)
        replace et85 := et85.trans (show ((nI ii) + (nI 2)) = (nI (ii + 2)) from nI_add _ _)
        subst et85
        have vi86 : vp_in (nI (ii + 2)) 2560 := vp_in_nI (by omega) (by omega)
        refine va_sld hx hb hX hbl hbA hS vi86 dL_law_364 ?_
        refine lv_topi (fun t87 et87 => ?_)
        replace et87 := et87.trans (show (xs (nI (ii + 2)).toNatClampNeg) = (nI 0) from (by rw [nI_clamp (by omega), hii]; exact (hscr (nn + 1) (by omega)).2.2))
        subst et87
        refine lv_aload_n hx hb dL_law_365 rfl (lv_at hl 4 rfl) ?_
        have hFc := va_free (wc := [(x, .inr (5, [.ref wa, .ref ja, .int (nI 0), .int (nI 0), .ref xs1, .ref xs2, .ref xs3, .ref xs4, .ref xs5, .ref xs6, .ref xs7])), (wa, .inl (cS, 70, .inr (.inr (.inr (.inr fW))))), (ja, .inl (cJ, 6, .inr (.inr (.inr (.inr gJ))))), (j, .inr (3, [.ref ins, .ref em, .ref w, .ref w, .ref w, .int (nI 1), .int (nI 0)])), (ins, .inr (4, [.ref ri, .int (nI 0)])), (w, .inr (4, [.ref rw, .int (nI 0)])), (ri, .inl (cI, 300, .inl fi2)), (rw, .inl (cW, 4, .inl fw)), (out, .inr (6, [.long ((nI 0).toInt64), .null]))]) hD hS hA [0, 1, 2, 3, 4, 5, 6, 7, 8] rfl
        have kc88 : (1000 + 4200 * nn) + (0) ≤ 3000000 := by omega
        have ks89 : (20000 + 26000 * nn) + (0) ≤ 20000000 := by omega
        refine z_calli (wr := [(mm, .inr (8, [.int (nI 0), .ref aa, .int (nI 0), .int (nI 0)])), (aa, .inl (cA, 6, .inr (.inr (.inr (.inr g2))))), (jn, .inr (7, [.ref ((e.2.2.1 0)), .ref ((e.2.2.1 0)), .ref ((e.2.2.1 0)), .ref al2, .null])), (al2, .inr (2, [.int (nI mo2), .ref ea2, .int (nI nn)])), (ea2, .inl (cO2, cap2, .inr (.inr (.inr (.inr fe2)))))]) (vx_runSW (As := [.ref x, .int (nI 0), .int (nI 0), .ref out]) (rest := []) ⟨hx, hb, hml, hown, hts⟩ (c_Ladd1 l D N0 e H.size (zw H) x wa ja 0 0 xs1 xs2 xs3 xs4 xs5 xs6 xs7 cS fW cJ gJ j ins em w 0 ri rw cI cW fi2 fw 300 out ((nI 0).toInt64) hgj hfw (by decide)) (vx_cwSW 4 hts gq_L_add rfl rfl rfl (by decide +kernel) ⟨Nat.le_of_ble_eq_true rfl, Nat.le_of_ble_eq_true rfl⟩) ⟨zP.blind, (z_pre hK hP hD hS hAN hN hG [0, 1, 2, 3, 4, 5, 6, 7, 8] (by decide) rfl [0, 1, 3, 2] rfl (fun q hq => absurd hq List.not_mem_nil))⟩ rfl rfl hl.1 rfl (lv_room (Nat.le_of_ble_eq_true rfl)) dL_law_366 ⟨kc88, ks89⟩) hK hP hD hS hA [0, 1, 2, 3, 4, 5, 6, 7, 8] rfl [9, 10, 11, 12, 13] rfl (by decide) (by decide) (fun r91 u t H locs ht hvm hw_c90 hY_c90 hz_c90 hm_c90 hk_c90 hK hP hD hS => ?_)
        obtain ⟨fi3, rfl⟩ : ∃ z, z = u := ⟨_, rfl⟩
        try dsimp only at hw_c90 hY_c90
        have hP : va_P D vwCl [(mm, .inr (8, [.int (nI 0), .ref aa, .int (nI 0), .int (nI 0)])), (aa, .inl (cA, 6, .inr (.inr (.inr (.inr g2))))), (jn, .inr (7, [.ref ((e.2.2.1 0)), .ref ((e.2.2.1 0)), .ref ((e.2.2.1 0)), .ref al2, .null])), (al2, .inr (2, [.int (nI mo2), .ref ea2, .int (nI nn)])), (ea2, .inl (cO2, cap2, .inr (.inr (.inr (.inr fe2))))), (x, .inr (5, [.ref wa, .ref ja, .int (nI 0), .int (nI 0), .ref xs1, .ref xs2, .ref xs3, .ref xs4, .ref xs5, .ref xs6, .ref xs7])), (wa, .inl (cS, 70, .inr (.inr (.inr (.inr fW))))), (ja, .inl (cJ, 6, .inr (.inr (.inr (.inr gJ))))), (j, .inr (3, [.ref ins, .ref em, .ref w, .ref w, .ref w, .int (nI 1), .int (nI 0)])), (ins, .inr (4, [.ref ri, .int (nI 0)])), (w, .inr (4, [.ref rw, .int (nI 0)])), (ri, .inl (cI, 300, .inl fi3)), (rw, .inl (cW, 4, .inl fw)), (out, .inr (6, [.long ((nI 0).toInt64), .null]))] H := hP
        have hD : va_D A [(mm, .inr (8, [.int (nI 0), .ref aa, .int (nI 0), .int (nI 0)])), (aa, .inl (cA, 6, .inr (.inr (.inr (.inr g2))))), (jn, .inr (7, [.ref ((e.2.2.1 0)), .ref ((e.2.2.1 0)), .ref ((e.2.2.1 0)), .ref al2, .null])), (al2, .inr (2, [.int (nI mo2), .ref ea2, .int (nI nn)])), (ea2, .inl (cO2, cap2, .inr (.inr (.inr (.inr fe2))))), (x, .inr (5, [.ref wa, .ref ja, .int (nI 0), .int (nI 0), .ref xs1, .ref xs2, .ref xs3, .ref xs4, .ref xs5, .ref xs6, .ref xs7])), (wa, .inl (cS, 70, .inr (.inr (.inr (.inr fW))))), (ja, .inl (cJ, 6, .inr (.inr (.inr (.inr gJ))))), (j, .inr (3, [.ref ins, .ref em, .ref w, .ref w, .ref w, .int (nI 1), .int (nI 0)])), (ins, .inr (4, [.ref ri, .int (nI 0)])), (w, .inr (4, [.ref rw, .int (nI 0)])), (ri, .inl (cI, 300, .inl fi3)), (rw, .inl (cW, 4, .inl fw)), (out, .inr (6, [.long ((nI 0).toInt64), .null]))] := hD
        have hK : va_K D vwCl [(cS, .object "Joinrow$Signs"), (cJ, .object "Joinrow$Joiner"), (cW, .char), (cI, .char), (cA, .object "JoinrowModel$Joiner"), (cO2, .object "java/lang/Object")] s := hK
        have hs92 := hS.1
        refine W.widen (k := (1000 + 4200 * nn)) (n := (20000 + 26000 * nn)) (by omega) (by omega) ?_
        subst hw_c90
        refine lv_istore (lv' := [(5, .int (nI 0)), (4, .int (nI ii)), (0, .ref b), (1, .ref x), (2, .ref mm), (3, .ref out)]) hx hb dL_law_369 hl (by decide) rfl (fun ls hl => ?_)
        refine lv_aload_n hx hb dL_law_371 rfl (lv_at hl 4 rfl) ?_
        refine lv_aload_n hx hb dL_law_372 rfl (lv_at hl 2 rfl) ?_
        refine lv_iload hx hb dL_law_373 (lv_at hl 1 rfl) ?_
        refine lv_iconst (v := (nI 1)) hx hb dL_law_375 (by decide) ?_
        refine lv_iadd hx hb dL_law_376 ?_
        refine lv_topi (fun t93 et93 => ?_)
        replace et93 := et93.trans (show ((nI ii) + (nI 1)) = (nI (ii + 1)) from nI_add _ _)
        subst et93
        have vi94 : vp_in (nI (ii + 1)) 2560 := vp_in_nI (by omega) (by omega)
        refine va_sld hx hb hX hbl hbA hS vi94 dL_law_377 ?_
        refine lv_topi (fun t95 et95 => ?_)
        replace et95 := et95.trans (show (xs (nI (ii + 1)).toNatClampNeg) = (nI 0) from (by rw [nI_clamp (by omega), hii]; exact (hscr (nn + 1) (by omega)).2.1))
        subst et95
        refine lv_aload_n hx hb dL_law_378 rfl (lv_at hl 2 rfl) ?_
        refine lv_iload hx hb dL_law_379 (lv_at hl 1 rfl) ?_
        refine lv_iconst (v := (nI 2)) hx hb dL_law_381 (by decide) ?_
        refine lv_iadd hx hb dL_law_382 ?_
        refine lv_topi (fun t96 et96 => ?_)
        replace et96 := et96.trans (show ((nI ii) + (nI 2)) = (nI (ii + 2)) from nI_add _ _)
        subst et96
        have vi97 : vp_in (nI (ii + 2)) 2560 := vp_in_nI (by omega) (by omega)
        refine va_sld hx hb hX hbl hbA hS vi97 dL_law_383 ?_
        refine lv_topi (fun t98 et98 => ?_)
        replace et98 := et98.trans (show (xs (nI (ii + 2)).toNatClampNeg) = (nI 0) from (by rw [nI_clamp (by omega), hii]; exact (hscr (nn + 1) (by omega)).2.2))
        subst et98
        have hFc := va_free (wc := [(mm, .inr (8, [.int (nI 0), .ref aa, .int (nI 0), .int (nI 0)])), (aa, .inl (cA, 6, .inr (.inr (.inr (.inr g2))))), (jn, .inr (7, [.ref ((e.2.2.1 0)), .ref ((e.2.2.1 0)), .ref ((e.2.2.1 0)), .ref al2, .null])), (al2, .inr (2, [.int (nI mo2), .ref ea2, .int (nI nn)])), (ea2, .inl (cO2, cap2, .inr (.inr (.inr (.inr fe2)))))]) hD hS hA [0, 1, 2, 3, 4] rfl
        have kc99 : (1000 + 4200 * nn) + (8 * nn + 12) ≤ 3000000 := by omega
        have ks100 : (20000 + 26000 * nn) + (48 * nn + 1300) ≤ 20000000 := by omega
        refine z_calli (wr := [(x, .inr (5, [.ref wa, .ref ja, .int (nI 0), .int (nI 0), .ref xs1, .ref xs2, .ref xs3, .ref xs4, .ref xs5, .ref xs6, .ref xs7])), (wa, .inl (cS, 70, .inr (.inr (.inr (.inr fW))))), (ja, .inl (cJ, 6, .inr (.inr (.inr (.inr gJ))))), (j, .inr (3, [.ref ins, .ref em, .ref w, .ref w, .ref w, .int (nI 1), .int (nI 0)])), (ins, .inr (4, [.ref ri, .int (nI 0)])), (w, .inr (4, [.ref rw, .int (nI 0)])), (ri, .inl (cI, 300, .inl fi3)), (rw, .inl (cW, 4, .inl fw)), (out, .inr (6, [.long ((nI 0).toInt64), .null]))]) (va_runV (As := [.int (nI 0), .int (nI 0)]) (rest := []) ⟨hx, hb, hml, hown, hts⟩ (c_madd1 l D N0 e H.size (zw H) mm aa 0 0 cA g2 jn al2 mo2 ea2 nn cO2 cap2 fe2 hg2 h1 (by omega) hnc hcap hzf h10) (cwV 2 hts gq_X5_add rfl rfl rfl (by decide +kernel) ⟨Nat.le_of_ble_eq_true rfl, Nat.le_of_ble_eq_true rfl⟩) ⟨zP.blind, (va_recv hK hP (ci := 8) (q0 := 0) rfl rfl), (z_pre hK hP hD hS hAN hN hG [0, 1, 2, 3, 4] (by decide) rfl [4, 5] rfl (fun q hq => absurd hq List.not_mem_nil))⟩ rfl rfl hl.1 rfl (lv_room (Nat.le_of_ble_eq_true rfl)) dL_law_384 ⟨kc99, ks100⟩) hK hP hD hS hA [0, 1, 2, 3, 4] rfl [5, 6, 7, 8, 9, 10, 11, 12, 13] rfl (by decide) (by decide) (fun r102 u t H locs ht hvm hw_c101 hY_c101 hz_c101 hm_c101 hk_c101 hK hP hD hS => ?_)
        obtain ⟨ea3, cO3, cap3, fe3⟩ := u
        try dsimp only at hw_c101 hY_c101
        have hP : va_P D vwCl [(x, .inr (5, [.ref wa, .ref ja, .int (nI 0), .int (nI 0), .ref xs1, .ref xs2, .ref xs3, .ref xs4, .ref xs5, .ref xs6, .ref xs7])), (wa, .inl (cS, 70, .inr (.inr (.inr (.inr fW))))), (ja, .inl (cJ, 6, .inr (.inr (.inr (.inr gJ))))), (j, .inr (3, [.ref ins, .ref em, .ref w, .ref w, .ref w, .int (nI 1), .int (nI 0)])), (ins, .inr (4, [.ref ri, .int (nI 0)])), (w, .inr (4, [.ref rw, .int (nI 0)])), (ri, .inl (cI, 300, .inl fi3)), (rw, .inl (cW, 4, .inl fw)), (out, .inr (6, [.long ((nI 0).toInt64), .null])), (mm, .inr (8, [.int (nI 0), .ref aa, .int (nI 0), .int (nI 0)])), (aa, .inl (cA, 6, .inr (.inr (.inr (.inr g2))))), (jn, .inr (7, [.ref ((e.2.2.1 0)), .ref ((e.2.2.1 0)), .ref ((e.2.2.1 0)), .ref al2, .null])), (al2, .inr (2, [.int (nI (mo2 + 1)), .ref ea3, .int (nI (nn + 1))])), (ea3, .inl (cO3, cap3, .inr (.inr (.inr (.inr fe3)))))] H := hP
        have hD : va_D A [(x, .inr (5, [.ref wa, .ref ja, .int (nI 0), .int (nI 0), .ref xs1, .ref xs2, .ref xs3, .ref xs4, .ref xs5, .ref xs6, .ref xs7])), (wa, .inl (cS, 70, .inr (.inr (.inr (.inr fW))))), (ja, .inl (cJ, 6, .inr (.inr (.inr (.inr gJ))))), (j, .inr (3, [.ref ins, .ref em, .ref w, .ref w, .ref w, .int (nI 1), .int (nI 0)])), (ins, .inr (4, [.ref ri, .int (nI 0)])), (w, .inr (4, [.ref rw, .int (nI 0)])), (ri, .inl (cI, 300, .inl fi3)), (rw, .inl (cW, 4, .inl fw)), (out, .inr (6, [.long ((nI 0).toInt64), .null])), (mm, .inr (8, [.int (nI 0), .ref aa, .int (nI 0), .int (nI 0)])), (aa, .inl (cA, 6, .inr (.inr (.inr (.inr g2))))), (jn, .inr (7, [.ref ((e.2.2.1 0)), .ref ((e.2.2.1 0)), .ref ((e.2.2.1 0)), .ref al2, .null])), (al2, .inr (2, [.int (nI (mo2 + 1)), .ref ea3, .int (nI (nn + 1))])), (ea3, .inl (cO3, cap3, .inr (.inr (.inr (.inr fe3)))))] := hD
        have hK : va_K D vwCl [(cS, .object "Joinrow$Signs"), (cJ, .object "Joinrow$Joiner"), (cW, .char), (cI, .char), (cA, .object "JoinrowModel$Joiner"), (cO2, .object "java/lang/Object"), (cO3, .object "java/lang/Object")] s := hK
        have hs103 := hS.1
        refine W.widen (k := ((1000 + 4200 * nn) + (8 * nn + 12))) (n := ((20000 + 26000 * nn) + (48 * nn + 1300))) (by omega) (by omega) ?_
        obtain rfl := hw_c101.1
        have hq1 := hw_c101.2
        refine lv_istore (lv' := [(6, .int (nI 0)), (5, .int (nI 0)), (4, .int (nI ii)), (0, .ref b), (1, .ref x), (2, .ref mm), (3, .ref out)]) hx hb dL_law_387 hl (by decide) rfl (fun ls hl => ?_)
        refine lv_goto (tgt := 1217) hx hb dL_law_389 (by decide) ?_
        refine lv_iinc (v := (nI (ii + 5))) (lv' := [(4, .int (nI (ii + 5))), (6, .int (nI 0)), (5, .int (nI 0)), (0, .ref b), (1, .ref x), (2, .ref mm), (3, .ref out)]) hx hb dL_law_1217 hl (k := 2) rfl (nI_add (ii) 5) (by decide) rfl (fun ls hl => ?_)
        refine lv_goto (tgt := 27) hx hb dL_law_1220 (by decide) ?_
        refine W.widen (k := (1000 + 4200 * (nn + 1))) (n := (20000 + 26000 * (nn + 1))) (by omega) (by omega) ?_
        have hzz := zS_succ nn
        exact ih (nn + 1) (ii + 5) (by omega) hlt (by omega) (by omega) fi3 (mo2 + 1) ea3 cap3 cO3 fe3 _ _ hq1.1 hq1.2.1 hq1.2.2.1 hq1.2.2.2 (by omega) (hK.sub [6] rfl) (hP.pick [0, 1, 2, 3, 4, 5, 6, 7, 8, 9, 10, 11, 12, 13] rfl) (hD.sub [0, 1, 2, 3, 4, 5, 6, 7, 8, 9, 10, 11, 12, 13] (by decide) rfl) hS ls (lv_sub hl [0, 3, 4, 5, 6] rfl)
      · skip
        have hK : va_K D vwCl [(cS, .object "Joinrow$Signs"), (cJ, .object "Joinrow$Joiner"), (cW, .char), (cI, .char), (cA, .object "JoinrowModel$Joiner"), (cO2, .object "java/lang/Object")] s := hKB.app hK2
        refine lv_iload hx hb dL_law_27 (lv_at hl 0 rfl) ?_
        refine lv_aload_n hx hb dL_law_29 rfl (lv_at hl 1 rfl) ?_
        refine va_slen hx hb hX hbl hbA hS dL_law_30 ?_
        refine lv_topi (fun t104 et104 => ?_)
        replace et104 := et104.trans (show (Int32.ofNat 2560) = (nI 2560) from rfl)
        subst et104
        refine lv_iconst (v := (nI 5)) hx hb dL_law_31 (by decide) ?_
        refine lv_isub hx hb dL_law_32 ?_
        refine lv_topi (fun t105 et105 => ?_)
        replace et105 := et105.trans (show ((nI 2560) - (nI 5)) = (nI 2555) from by decide)
        subst et105
        refine lv_icmp_gt (tgt := 1223) hx hb dL_law_33 (by decide) (fun _ => ?_) (fun hq => absurd (show (nI 2555) < (nI ii) from (nI_ltI (by omega) (by omega)).mpr (by omega)) hq)
        refine lv_iconst (v := (nI 1)) hx hb dL_law_1223 (by decide) ?_
        obtain rfl : nn = 511 := by omega
        have hzz := zS_511
        refine W.widen (k := 3000000) (n := 20000000) (by omega) (by omega) ?_
        refine W.eq (g2 := F0 m 1224 ls [.int 1]) rfl ?_
        exact hend H locs ls (by rw [hAe] at hS; exact hS) (by omega)
  have hz1 : zS 1 = 576 := by decide
  refine W.widen (k := 1000 + 4200 * 1) (n := 20000 + 26000 * 1) (by omega) (by omega) ?_
  exact loop 511 1 10 (by omega) (by omega) (by omega) (by omega) fi1 1 ea1 cap1 cO1 fe1 _ _ hq1.1 hq1.2.1 hq1.2.2.1 hq1.2.2.2 (by omega) (hK.sub [5] rfl) hP hD hS ls (lv_sub hl [0, 6, 5, 4, 3] rfl)
