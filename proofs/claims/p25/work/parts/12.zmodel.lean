set_option maxRecDepth 100000 in
set_option maxHeartbeats 4000000 in
/-- text, of nn pieces -/
theorem c_text1 (l : Launch) (D : va_G) (N0 : Nat) (e : zE) (sz mz : Nat) (jj : Nat) (al : Nat) (mo : Nat) (ea : Nat) (nn : Nat) (cO : ClassId) (cap : Nat) (fe : Nat → Option Nat) (h1 : 1 ≤ nn) (h5 : nn ≤ 511) (hn : nn ≤ cap) (hcap : cap ≤ 800) (hzf : zF fe nn (e.2.2.1 0)) : Met l yX4_text wsX4_text ({ frames := 7, cells := 4 * nn + 4, slots := 24 * nn + 24, locals := 193 }) (va_Pc [.ref jj] (zP N0 e D [(cO, .object "java/lang/Object")] [(jj, .inr (7, [.ref ((e.2.2.1 0)), .ref ((e.2.2.1 0)), .ref ((e.2.2.1 0)), .ref al, .null])), (al, .inr (2, [.int (nI mo), .ref ea, .int (nI nn)])), (ea, .inl (cO, cap, .inr (.inr (.inr (.inr fe)))))] sz mz [])) (zQr (fun (u : Nat × Nat) (ra : Nat) => ra = u.1) D (fun (u : Nat × Nat) => ([(jj, .inr (7, [.ref ((e.2.2.1 0)), .ref ((e.2.2.1 0)), .ref ((e.2.2.1 0)), .ref al, .null])), (al, .inr (2, [.int (nI mo), .ref ea, .int (nI nn)])), (ea, .inl (cO, cap, .inr (.inr (.inr (.inr fe)))))] : va_W)) (fun (u : Nat × Nat) => ([] : List (ClassId × FieldType))) sz (4 * nn + 4) mz (288 * nn + 288) (fun (u : Nat × Nat) (t : State) => zR N0 sz u.1 u.2 0 t) (va_A [(jj, .inr (7, [.ref ((e.2.2.1 0)), .ref ((e.2.2.1 0)), .ref ((e.2.2.1 0)), .ref al, .null])), (al, .inr (2, [.int (nI mo), .ref ea, .int (nI nn)])), (ea, .inl (cO, cap, .inr (.inr (.inr (.inr fe)))))] sz)) (4 * nn + 4) (24 * nn + 24) (va_A [(jj, .inr (7, [.ref ((e.2.2.1 0)), .ref ((e.2.2.1 0)), .ref ((e.2.2.1 0)), .ref al, .null])), (al, .inr (2, [.int (nI mo), .ref ea, .int (nI nn)])), (ea, .inl (cO, cap, .inr (.inr (.inr (.inr fe)))))] sz) := by
  refine z_met (Qc := fun A => zQr (fun (u : Nat × Nat) (ra : Nat) => ra = u.1) D (fun (u : Nat × Nat) => ([(jj, .inr (7, [.ref ((e.2.2.1 0)), .ref ((e.2.2.1 0)), .ref ((e.2.2.1 0)), .ref al, .null])), (al, .inr (2, [.int (nI mo), .ref ea, .int (nI nn)])), (ea, .inl (cO, cap, .inr (.inr (.inr (.inr fe)))))] : va_W)) (fun (u : Nat × Nat) => ([] : List (ClassId × FieldType))) sz (4 * nn + 4) mz (288 * nn + 288) (fun (u : Nat × Nat) (t : State) => zR N0 sz u.1 u.2 0 t) A) (cc := cX4_text) (maxL := 1) (ret := (some (.object "java/lang/String"))) RX4 rfl (by decide) rfl (Nat.le_of_ble_eq_true rfl) ?_
  intro p ev s m below meth c ls A hx hb hr hml hown hts hlocks hnm hsz hmz hN hAe hA hAN hS hP hK hD hG hL hl
  subst hsz
  subst hmz
  have hl : lv_has ls 1 [(0, .ref jj)] := hl
  refine lv_aload_n hx hb dX4_text_0 rfl (lv_at hl 0 rfl) ?_
  have hFc := va_free (wc := [(jj, .inr (7, [.ref ((e.2.2.1 0)), .ref ((e.2.2.1 0)), .ref ((e.2.2.1 0)), .ref al, .null])), (al, .inr (2, [.int (nI mo), .ref ea, .int (nI nn)]))]) hD hS hA [0, 1] rfl
  have kc1 : 0 + (0) ≤ 4 * nn + 4 := by omega
  have ks2 : 0 + (0) ≤ 24 * nn + 24 := by omega
  refine z_calli (wr := [(ea, .inl (cO, cap, .inr (.inr (.inr (.inr fe)))))]) (va_runV (As := []) (rest := []) ⟨hx, hb, hml, hown, hts⟩ (c_isF1 l D N0 e s.heap.size (zw s.heap) jj ((e.2.2.1 0)) ((e.2.2.1 0)) ((e.2.2.1 0)) al mo ea nn (by omega) (by omega)) (cwV 0 hts gX4_text_X4_isFilled rfl rfl rfl (by decide +kernel) ⟨Nat.le_of_ble_eq_true rfl, Nat.le_of_ble_eq_true rfl⟩) ⟨zP.blind, (va_recv hK hP (ci := 7) (q0 := 0) rfl rfl), (z_pre hK hP hD hS hAN hN hG [0, 1] (by decide) rfl [] rfl (fun q hq => absurd hq List.not_mem_nil))⟩ rfl rfl hl.1 rfl (lv_room (Nat.le_of_ble_eq_true rfl)) dX4_text_1 ⟨kc1, ks2⟩) hK hP hD hS hA [0, 1] rfl [2] rfl (by decide) (by decide) (fun r4 u t H locs ht hvm hw_c3 hY_c3 hz_c3 hm_c3 hk_c3 hK hP hD hS => ?_)
  have hP : va_P D vwCl [(ea, .inl (cO, cap, .inr (.inr (.inr (.inr fe))))), (jj, .inr (7, [.ref ((e.2.2.1 0)), .ref ((e.2.2.1 0)), .ref ((e.2.2.1 0)), .ref al, .null])), (al, .inr (2, [.int (nI mo), .ref ea, .int (nI nn)]))] H := hP
  have hD : va_D A [(ea, .inl (cO, cap, .inr (.inr (.inr (.inr fe))))), (jj, .inr (7, [.ref ((e.2.2.1 0)), .ref ((e.2.2.1 0)), .ref ((e.2.2.1 0)), .ref al, .null])), (al, .inr (2, [.int (nI mo), .ref ea, .int (nI nn)]))] := hD
  have hK : va_K D vwCl [(cO, .object "java/lang/Object")] s := hK
  have hs5 := hS.1
  refine W.widen (k := 0) (n := 0) (by omega) (by omega) ?_
  subst hw_c3
  refine lv_if_ne (tgt := 14) hx hb dX4_text_4 (by decide) (fun _ => ?_) (fun hq => absurd hq (show ¬ ((nI 1) = (nI 0)) from fun hq => absurd ((nI_eq (by omega) (by omega)).mp hq) (by omega)))
  have kc6 : 0 + 1 ≤ 4 * nn + 4 := by omega
  have ks7 : 0 + 4 ≤ 24 * nn + 24 := by omega
  refine z_new (ci := 1) (fs := [.null, .int 0, .int 0, .int 0]) (C := RJ4) (T := TJ4) (N := 4) hx hb hts (by decide +kernel) tyJ4 tyJ4_ok hown (hts (.classLink RX4 38 RJ4) (by decide +kernel)) (hts (.instantiable RJ4 4) (by decide +kernel)) (hts (.initialized RJ4) (by decide +kernel)) hK hP hD hS hA rfl (fun j hj => by match j, hj with | 0, _ => rfl | 1, _ => rfl | 2, _ => rfl | 3, _ => rfl) kc6 ks7 dX4_text_14 (fun sbd H hq_sbd hz_sbd hm_sbd hk_sbd hP hD hS => ?_)
  have hP : va_P D vwCl [(ea, .inl (cO, cap, .inr (.inr (.inr (.inr fe))))), (jj, .inr (7, [.ref ((e.2.2.1 0)), .ref ((e.2.2.1 0)), .ref ((e.2.2.1 0)), .ref al, .null])), (al, .inr (2, [.int (nI mo), .ref ea, .int (nI nn)])), (sbd, .inr (1, [.null, .int (nI 0), .int (nI 0), .int (nI 0)]))] H := hP
  have hD : va_D A [(ea, .inl (cO, cap, .inr (.inr (.inr (.inr fe))))), (jj, .inr (7, [.ref ((e.2.2.1 0)), .ref ((e.2.2.1 0)), .ref ((e.2.2.1 0)), .ref al, .null])), (al, .inr (2, [.int (nI mo), .ref ea, .int (nI nn)])), (sbd, .inr (1, [.null, .int (nI 0), .int (nI 0), .int (nI 0)]))] := hD
  have hs8 := hS.1
  refine W.widen (k := 1) (n := 4) (by omega) (by omega) ?_
  refine lv_dup hx hb dX4_text_17 rfl ?_
  have hFc := va_free (wc := [(sbd, .inr (1, [.null, .int (nI 0), .int (nI 0), .int (nI 0)]))]) hD hS hA [3] rfl
  have kc9 : 1 + (1) ≤ 4 * nn + 4 := by omega
  have ks10 : 4 + (16) ≤ 24 * nn + 24 := by omega
  refine z_callv (wr := [(ea, .inl (cO, cap, .inr (.inr (.inr (.inr fe))))), (jj, .inr (7, [.ref ((e.2.2.1 0)), .ref ((e.2.2.1 0)), .ref ((e.2.2.1 0)), .ref al, .null])), (al, .inr (2, [.int (nI mo), .ref ea, .int (nI nn)]))]) (va_runI (As := []) (rest := [.ref sbd]) ⟨hx, hb, hml, hown, hts⟩ (c_bini l D N0 e H.size (zw H) sbd ) (cwI 0 hts gX4_text_J4_init_da8c8 rfl rfl rfl (hts (.initialized RJ4) (by decide +kernel)) (hts (.methodLink RX4 40 yJ4_init_da8c8) (by decide +kernel)) (hts (.instanceMethod yJ4_init_da8c8) (by decide +kernel)) rfl (by decide +kernel) ⟨Nat.le_of_ble_eq_true rfl, Nat.le_of_ble_eq_true rfl⟩) ⟨zP.blind, (z_pre hK hP hD hS hAN hN hG [3] (by decide) rfl [] rfl (fun q hq => absurd hq List.not_mem_nil))⟩ rfl rfl hl.1 rfl (lv_room (Nat.le_of_ble_eq_true rfl)) dX4_text_18 ⟨kc9, ks10⟩) hK hP hD hS hA [3] rfl [0, 1, 2] rfl (by decide) (by decide) (fun u t H locs ht hvm hw_c11 hY_c11 hz_c11 hm_c11 hk_c11 hK hP hD hS => ?_)
  obtain ⟨va, cB⟩ := u
  try dsimp only at hw_c11 hY_c11
  have hP : va_P D vwCl [(ea, .inl (cO, cap, .inr (.inr (.inr (.inr fe))))), (jj, .inr (7, [.ref ((e.2.2.1 0)), .ref ((e.2.2.1 0)), .ref ((e.2.2.1 0)), .ref al, .null])), (al, .inr (2, [.int (nI mo), .ref ea, .int (nI nn)])), (sbd, .inr (1, [.ref va, .int (nI 0), .int (nI 0), .int (nI 0)])), (va, .inl (cB, 16, .inl (fun _ => 0)))] H := hP
  have hD : va_D A [(ea, .inl (cO, cap, .inr (.inr (.inr (.inr fe))))), (jj, .inr (7, [.ref ((e.2.2.1 0)), .ref ((e.2.2.1 0)), .ref ((e.2.2.1 0)), .ref al, .null])), (al, .inr (2, [.int (nI mo), .ref ea, .int (nI nn)])), (sbd, .inr (1, [.ref va, .int (nI 0), .int (nI 0), .int (nI 0)])), (va, .inl (cB, 16, .inl (fun _ => 0)))] := hD
  have hK : va_K D vwCl [(cO, .object "java/lang/Object"), (cB, .byte)] s := hK
  have hs13 := hS.1
  refine W.widen (k := 2) (n := 20) (by omega) (by omega) ?_
  refine lv_aload_n hx hb dX4_text_21 rfl (lv_at hl 0 rfl) ?_
  refine va_get (D := D) (ci := 7) (v := .ref ((e.2.2.1 0))) (C := RX4) (T := TX4) (N := 5) hx hb hts (by decide +kernel) hown hK hP 1 rfl rfl 1 (by decide) (hts (.fieldLink RX4 17 "JoinrowModel$Joiner" "prefix" "Ljava/lang/String;") (by decide +kernel)) (fun _ h9 => h9) rfl dX4_text_22 ?_
  have hFc := va_free (wc := [(sbd, .inr (1, [.ref va, .int (nI 0), .int (nI 0), .int (nI 0)])), (va, .inl (cB, 16, .inl (fun _ => 0)))]) hD hS hA [3, 4] rfl
  have hFN : ∀ q, va_A [(sbd, .inr (1, [.ref va, .int (nI 0), .int (nI 0), .int (nI 0)])), (va, .inl (cB, 16, .inl (fun _ => 0)))] H.size q → N0 ≤ q := fun q hq => hAN q (hFc q hq)
  have kc14 : 2 + (0) ≤ 4 * nn + 4 := by omega
  have ks15 : 20 + (0) ≤ 24 * nn + 24 := by omega
  refine z_callr (wr := [(ea, .inl (cO, cap, .inr (.inr (.inr (.inr fe))))), (jj, .inr (7, [.ref ((e.2.2.1 0)), .ref ((e.2.2.1 0)), .ref ((e.2.2.1 0)), .ref al, .null])), (al, .inr (2, [.int (nI mo), .ref ea, .int (nI nn)]))]) (va_runV (As := [.ref ((e.2.2.1 0))]) (rest := []) ⟨hx, hb, hml, hown, hts⟩ (c_app l D N0 e H.size (zw H) sbd va 0 cB ((fun _ => 0)) ((e.2.2.1 0)) ((e.2.2.2 0)) 0 (by omega) (by omega) (fun _ => rfl)) (cwV 1 hts gX4_text_J4_append_15ec4 rfl rfl rfl (by decide +kernel) ⟨Nat.le_of_ble_eq_true rfl, Nat.le_of_ble_eq_true rfl⟩) ⟨zP.blind, (va_recv hK hP (ci := 1) (q0 := 3) rfl rfl), (z_pre hK hP hD hS hAN hN hG [3, 4] (by decide) rfl [1] rfl (List.forall_mem_cons.mpr ⟨((zkst hG 0 (by decide) hS hAN).wall (z_low (hG.2.2.2.2.1 0 (by decide)).na hFN) (z_low (hG.2.2.2.2.1 0 (by decide)).nv hFN)), fun q hq => absurd hq List.not_mem_nil⟩))⟩ rfl rfl hl.1 rfl (lv_room (Nat.le_of_ble_eq_true rfl)) dX4_text_25 ⟨kc14, ks15⟩) hK hP hD hS hA [3, 4] rfl [0, 1, 2] rfl (by decide) (by decide) (fun u r17 t H locs ht hvm hw_c16 hY_c16 hz_c16 hm_c16 hk_c16 hK hP hD hS => ?_)
  obtain ⟨f2, rfl⟩ : ∃ z, z = u := ⟨_, rfl⟩
  try dsimp only at hw_c16 hY_c16
  have hP : va_P D vwCl [(ea, .inl (cO, cap, .inr (.inr (.inr (.inr fe))))), (jj, .inr (7, [.ref ((e.2.2.1 0)), .ref ((e.2.2.1 0)), .ref ((e.2.2.1 0)), .ref al, .null])), (al, .inr (2, [.int (nI mo), .ref ea, .int (nI nn)])), (sbd, .inr (1, [.ref va, .int (nI 0), .int (nI 0), .int (nI 0)])), (va, .inl (cB, 16, .inl f2))] H := hP
  have hD : va_D A [(ea, .inl (cO, cap, .inr (.inr (.inr (.inr fe))))), (jj, .inr (7, [.ref ((e.2.2.1 0)), .ref ((e.2.2.1 0)), .ref ((e.2.2.1 0)), .ref al, .null])), (al, .inr (2, [.int (nI mo), .ref ea, .int (nI nn)])), (sbd, .inr (1, [.ref va, .int (nI 0), .int (nI 0), .int (nI 0)])), (va, .inl (cB, 16, .inl f2))] := hD
  have hK : va_K D vwCl [(cO, .object "java/lang/Object"), (cB, .byte)] s := hK
  have hs18 := hS.1
  refine W.widen (k := 2) (n := 20) (by omega) (by omega) ?_
  obtain rfl : sbd = r17 := Eq.symm hw_c16.1
  have hf2 := hw_c16.2
  refine lv_aload_n hx hb dX4_text_28 rfl (lv_at hl 0 rfl) ?_
  have wl19 : ea < H.size := (hP 0 _ rfl).lt
  have wl20 : N0 ≤ ea := hAN _ (hD.2 0 _ rfl)
  have wl21 : jj < H.size := (hP 1 _ rfl).lt
  have wl22 : N0 ≤ jj := hAN _ (hD.2 1 _ rfl)
  have wl23 : al < H.size := (hP 2 _ rfl).lt
  have wl24 : N0 ≤ al := hAN _ (hD.2 2 _ rfl)
  have wl25 : sbd < H.size := (hP 3 _ rfl).lt
  have wl26 : N0 ≤ sbd := hAN _ (hD.2 3 _ rfl)
  have wl27 : va < H.size := (hP 4 _ rfl).lt
  have wl28 : N0 ≤ va := hAN _ (hD.2 4 _ rfl)
  have hFc := va_free (wc := [(jj, .inr (7, [.ref ((e.2.2.1 0)), .ref ((e.2.2.1 0)), .ref ((e.2.2.1 0)), .ref al, .null])), (al, .inr (2, [.int (nI mo), .ref ea, .int (nI nn)])), (ea, .inl (cO, cap, .inr (.inr (.inr (.inr fe)))))]) hD hS hA [1, 2, 0] rfl
  have kc29 : 2 + (4 * nn) ≤ 4 * nn + 4 := by omega
  have ks30 : 20 + (24 * nn) ≤ 24 * nn + 24 := by omega
  refine z_callr (wr := [(sbd, .inr (1, [.ref va, .int (nI 0), .int (nI 0), .int (nI 0)])), (va, .inl (cB, 16, .inl f2))]) (va_runV (As := []) (rest := [.ref sbd]) ⟨hx, hb, hml, hown, hts⟩ (c_ins1 l D N0 e H.size (zw H) jj al mo ea nn cO cap fe h1 h5 hn hcap hzf) (cwV 0 hts gX4_text_X4_inside rfl rfl rfl (by decide +kernel) ⟨Nat.le_of_ble_eq_true rfl, Nat.le_of_ble_eq_true rfl⟩) ⟨zP.blind, (va_recv hK hP (ci := 7) (q0 := 1) rfl rfl), (z_pre hK hP hD hS hAN hN hG [1, 2, 0] (by decide) rfl [0] rfl (fun q hq => absurd hq List.not_mem_nil))⟩ rfl rfl hl.1 rfl (lv_room (Nat.le_of_ble_eq_true rfl)) dX4_text_29 ⟨kc29, ks30⟩) hK hP hD hS hA [1, 2, 0] rfl [3, 4] rfl (by decide) (by decide) (fun u r32 t H locs ht hvm hw_c31 hY_c31 hz_c31 hm_c31 hk_c31 hK hP hD hS => ?_)
  obtain ⟨q, v⟩ := u
  try dsimp only at hw_c31 hY_c31
  have hP : va_P D vwCl [(sbd, .inr (1, [.ref va, .int (nI 0), .int (nI 0), .int (nI 0)])), (va, .inl (cB, 16, .inl f2)), (jj, .inr (7, [.ref ((e.2.2.1 0)), .ref ((e.2.2.1 0)), .ref ((e.2.2.1 0)), .ref al, .null])), (al, .inr (2, [.int (nI mo), .ref ea, .int (nI nn)])), (ea, .inl (cO, cap, .inr (.inr (.inr (.inr fe)))))] H := hP
  have hD : va_D A [(sbd, .inr (1, [.ref va, .int (nI 0), .int (nI 0), .int (nI 0)])), (va, .inl (cB, 16, .inl f2)), (jj, .inr (7, [.ref ((e.2.2.1 0)), .ref ((e.2.2.1 0)), .ref ((e.2.2.1 0)), .ref al, .null])), (al, .inr (2, [.int (nI mo), .ref ea, .int (nI nn)])), (ea, .inl (cO, cap, .inr (.inr (.inr (.inr fe)))))] := hD
  have hK : va_K D vwCl [(cO, .object "java/lang/Object"), (cB, .byte)] s := hK
  have hs33 := hS.1
  refine W.widen (k := (2 + (4 * nn))) (n := (20 + (24 * nn))) (by omega) (by omega) ?_
  obtain rfl : q = r32 := Eq.symm hw_c31
  have zz_q : zs q v (0) (fun _ => False) s H := by
    have hq := (hY_c31.1).moved hvm.symm
    rw [ht] at hq
    exact hq
  have hb_q := (hY_c31.2)
  have hFc := va_free (wc := [(sbd, .inr (1, [.ref va, .int (nI 0), .int (nI 0), .int (nI 0)])), (va, .inl (cB, 16, .inl f2))]) hD hS hA [0, 1] rfl
  have kc34 : (2 + (4 * nn)) + (0) ≤ 4 * nn + 4 := by omega
  have ks35 : (20 + (24 * nn)) + (0) ≤ 24 * nn + 24 := by omega
  refine z_callr (wr := [(jj, .inr (7, [.ref ((e.2.2.1 0)), .ref ((e.2.2.1 0)), .ref ((e.2.2.1 0)), .ref al, .null])), (al, .inr (2, [.int (nI mo), .ref ea, .int (nI nn)])), (ea, .inl (cO, cap, .inr (.inr (.inr (.inr fe)))))]) (va_runV (As := [.ref q]) (rest := []) ⟨hx, hb, hml, hown, hts⟩ (c_app l D N0 e H.size (zw H) sbd va 0 cB f2 q v 0 (by omega) (by omega) hf2) (cwV 1 hts gX4_text_J4_append_15ec4 rfl rfl rfl (by decide +kernel) ⟨Nat.le_of_ble_eq_true rfl, Nat.le_of_ble_eq_true rfl⟩) ⟨zP.blind, (va_recv hK hP (ci := 1) (q0 := 0) rfl rfl), (z_pre hK hP hD hS hAN hN hG [0, 1] (by decide) rfl [1] rfl (List.forall_mem_cons.mpr ⟨(zz_q.wall (z_out zz_q.lta (by intro x hx; simp at hx <;> omega)) (z_out zz_q.ltv (by intro x hx; simp at hx <;> omega))), fun q hq => absurd hq List.not_mem_nil⟩))⟩ rfl rfl hl.1 rfl (lv_room (Nat.le_of_ble_eq_true rfl)) dX4_text_32 ⟨kc34, ks35⟩) hK hP hD hS hA [0, 1] rfl [2, 3, 4] rfl (by decide) (by decide) (fun u r37 t H locs ht hvm hw_c36 hY_c36 hz_c36 hm_c36 hk_c36 hK hP hD hS => ?_)
  obtain ⟨f3, rfl⟩ : ∃ z, z = u := ⟨_, rfl⟩
  try dsimp only at hw_c36 hY_c36
  have hP : va_P D vwCl [(jj, .inr (7, [.ref ((e.2.2.1 0)), .ref ((e.2.2.1 0)), .ref ((e.2.2.1 0)), .ref al, .null])), (al, .inr (2, [.int (nI mo), .ref ea, .int (nI nn)])), (ea, .inl (cO, cap, .inr (.inr (.inr (.inr fe))))), (sbd, .inr (1, [.ref va, .int (nI 0), .int (nI 0), .int (nI 0)])), (va, .inl (cB, 16, .inl f3))] H := hP
  have hD : va_D A [(jj, .inr (7, [.ref ((e.2.2.1 0)), .ref ((e.2.2.1 0)), .ref ((e.2.2.1 0)), .ref al, .null])), (al, .inr (2, [.int (nI mo), .ref ea, .int (nI nn)])), (ea, .inl (cO, cap, .inr (.inr (.inr (.inr fe))))), (sbd, .inr (1, [.ref va, .int (nI 0), .int (nI 0), .int (nI 0)])), (va, .inl (cB, 16, .inl f3))] := hD
  have hK : va_K D vwCl [(cO, .object "java/lang/Object"), (cB, .byte)] s := hK
  have hs38 := hS.1
  have zz_q := zz_q.at (hk_c36 _ zz_q.lta (z_out zz_q.lta (by intro x hx; simp at hx <;> omega))) (hk_c36 _ zz_q.ltv (z_out zz_q.ltv (by intro x hx; simp at hx <;> omega)))
  refine W.widen (k := (2 + (4 * nn))) (n := (20 + (24 * nn))) (by omega) (by omega) ?_
  obtain rfl : sbd = r37 := Eq.symm hw_c36.1
  have hf3 := hw_c36.2
  refine lv_aload_n hx hb dX4_text_35 rfl (lv_at hl 0 rfl) ?_
  refine va_get (D := D) (ci := 7) (v := .ref ((e.2.2.1 0))) (C := RX4) (T := TX4) (N := 5) hx hb hts (by decide +kernel) hown hK hP 0 rfl rfl 2 (by decide) (hts (.fieldLink RX4 22 "JoinrowModel$Joiner" "suffix" "Ljava/lang/String;") (by decide +kernel)) (fun _ h9 => h9) rfl dX4_text_36 ?_
  have hFc := va_free (wc := [(sbd, .inr (1, [.ref va, .int (nI 0), .int (nI 0), .int (nI 0)])), (va, .inl (cB, 16, .inl f3))]) hD hS hA [3, 4] rfl
  have hFN : ∀ q, va_A [(sbd, .inr (1, [.ref va, .int (nI 0), .int (nI 0), .int (nI 0)])), (va, .inl (cB, 16, .inl f3))] H.size q → N0 ≤ q := fun q hq => hAN q (hFc q hq)
  have kc39 : (2 + (4 * nn)) + (0) ≤ 4 * nn + 4 := by omega
  have ks40 : (20 + (24 * nn)) + (0) ≤ 24 * nn + 24 := by omega
  refine z_callr (wr := [(jj, .inr (7, [.ref ((e.2.2.1 0)), .ref ((e.2.2.1 0)), .ref ((e.2.2.1 0)), .ref al, .null])), (al, .inr (2, [.int (nI mo), .ref ea, .int (nI nn)])), (ea, .inl (cO, cap, .inr (.inr (.inr (.inr fe)))))]) (va_runV (As := [.ref ((e.2.2.1 0))]) (rest := []) ⟨hx, hb, hml, hown, hts⟩ (c_app l D N0 e H.size (zw H) sbd va 0 cB f3 ((e.2.2.1 0)) ((e.2.2.2 0)) 0 (by omega) (by omega) hf3) (cwV 1 hts gX4_text_J4_append_15ec4 rfl rfl rfl (by decide +kernel) ⟨Nat.le_of_ble_eq_true rfl, Nat.le_of_ble_eq_true rfl⟩) ⟨zP.blind, (va_recv hK hP (ci := 1) (q0 := 3) rfl rfl), (z_pre hK hP hD hS hAN hN hG [3, 4] (by decide) rfl [1] rfl (List.forall_mem_cons.mpr ⟨((zkst hG 0 (by decide) hS hAN).wall (z_low (hG.2.2.2.2.1 0 (by decide)).na hFN) (z_low (hG.2.2.2.2.1 0 (by decide)).nv hFN)), fun q hq => absurd hq List.not_mem_nil⟩))⟩ rfl rfl hl.1 rfl (lv_room (Nat.le_of_ble_eq_true rfl)) dX4_text_39 ⟨kc39, ks40⟩) hK hP hD hS hA [3, 4] rfl [0, 1, 2] rfl (by decide) (by decide) (fun u r42 t H locs ht hvm hw_c41 hY_c41 hz_c41 hm_c41 hk_c41 hK hP hD hS => ?_)
  obtain ⟨f4, rfl⟩ : ∃ z, z = u := ⟨_, rfl⟩
  try dsimp only at hw_c41 hY_c41
  have hP : va_P D vwCl [(jj, .inr (7, [.ref ((e.2.2.1 0)), .ref ((e.2.2.1 0)), .ref ((e.2.2.1 0)), .ref al, .null])), (al, .inr (2, [.int (nI mo), .ref ea, .int (nI nn)])), (ea, .inl (cO, cap, .inr (.inr (.inr (.inr fe))))), (sbd, .inr (1, [.ref va, .int (nI 0), .int (nI 0), .int (nI 0)])), (va, .inl (cB, 16, .inl f4))] H := hP
  have hD : va_D A [(jj, .inr (7, [.ref ((e.2.2.1 0)), .ref ((e.2.2.1 0)), .ref ((e.2.2.1 0)), .ref al, .null])), (al, .inr (2, [.int (nI mo), .ref ea, .int (nI nn)])), (ea, .inl (cO, cap, .inr (.inr (.inr (.inr fe))))), (sbd, .inr (1, [.ref va, .int (nI 0), .int (nI 0), .int (nI 0)])), (va, .inl (cB, 16, .inl f4))] := hD
  have hK : va_K D vwCl [(cO, .object "java/lang/Object"), (cB, .byte)] s := hK
  have hs43 := hS.1
  have zz_q := zz_q.at (hk_c41 _ zz_q.lta (z_out zz_q.lta (by intro x hx; simp at hx <;> omega))) (hk_c41 _ zz_q.ltv (z_out zz_q.ltv (by intro x hx; simp at hx <;> omega)))
  refine W.widen (k := (2 + (4 * nn))) (n := (20 + (24 * nn))) (by omega) (by omega) ?_
  obtain rfl : sbd = r42 := Eq.symm hw_c41.1
  have hf4 := hw_c41.2
  have hFc := va_free (wc := [(sbd, .inr (1, [.ref va, .int (nI 0), .int (nI 0), .int (nI 0)])), (va, .inl (cB, 16, .inl f4))]) hD hS hA [3, 4] rfl
  have kc44 : (2 + (4 * nn)) + (2) ≤ 4 * nn + 4 := by omega
  have ks45 : (20 + (24 * nn)) + (4 + 0) ≤ 24 * nn + 24 := by omega
  refine z_callr (wr := [(jj, .inr (7, [.ref ((e.2.2.1 0)), .ref ((e.2.2.1 0)), .ref ((e.2.2.1 0)), .ref al, .null])), (al, .inr (2, [.int (nI mo), .ref ea, .int (nI nn)])), (ea, .inl (cO, cap, .inr (.inr (.inr (.inr fe)))))]) (va_runV (As := []) (rest := []) ⟨hx, hb, hml, hown, hts⟩ (c_toS l D N0 e H.size (zw H) sbd va 0 cB f4 (by decide) hf4) (cwV 0 hts gX4_text_J4_toString_0e30d rfl rfl rfl (by decide +kernel) ⟨Nat.le_of_ble_eq_true rfl, Nat.le_of_ble_eq_true rfl⟩) ⟨zP.blind, (va_recv hK hP (ci := 1) (q0 := 3) rfl rfl), (z_pre hK hP hD hS hAN hN hG [3, 4] (by decide) rfl [1] rfl (fun q hq => absurd hq List.not_mem_nil))⟩ rfl rfl hl.1 rfl (lv_room (Nat.le_of_ble_eq_true rfl)) dX4_text_42 ⟨kc44, ks45⟩) hK hP hD hS hA [3, 4] rfl [0, 1, 2] rfl (by decide) (by decide) (fun u r47 t H locs ht hvm hw_c46 hY_c46 hz_c46 hm_c46 hk_c46 hK hP hD hS => ?_)
  obtain ⟨q2, v2⟩ := u
  try dsimp only at hw_c46 hY_c46
  have hP : va_P D vwCl [(jj, .inr (7, [.ref ((e.2.2.1 0)), .ref ((e.2.2.1 0)), .ref ((e.2.2.1 0)), .ref al, .null])), (al, .inr (2, [.int (nI mo), .ref ea, .int (nI nn)])), (ea, .inl (cO, cap, .inr (.inr (.inr (.inr fe))))), (sbd, .inr (1, [.ref va, .int (nI 0), .int (nI 0), .int (nI 0)])), (va, .inl (cB, 16, .inl f4))] H := hP
  have hD : va_D A [(jj, .inr (7, [.ref ((e.2.2.1 0)), .ref ((e.2.2.1 0)), .ref ((e.2.2.1 0)), .ref al, .null])), (al, .inr (2, [.int (nI mo), .ref ea, .int (nI nn)])), (ea, .inl (cO, cap, .inr (.inr (.inr (.inr fe))))), (sbd, .inr (1, [.ref va, .int (nI 0), .int (nI 0), .int (nI 0)])), (va, .inl (cB, 16, .inl f4))] := hD
  have hK : va_K D vwCl [(cO, .object "java/lang/Object"), (cB, .byte)] s := hK
  have hs48 := hS.1
  have zz_q := zz_q.at (hk_c46 _ zz_q.lta (z_out zz_q.lta (by intro x hx; simp at hx <;> omega))) (hk_c46 _ zz_q.ltv (z_out zz_q.ltv (by intro x hx; simp at hx <;> omega)))
  refine W.widen (k := ((2 + (4 * nn)) + 2)) (n := ((20 + (24 * nn)) + 4)) (by omega) (by omega) ?_
  obtain rfl : q2 = r47 := Eq.symm hw_c46
  have zz_q2 : zs q2 v2 (0) (fun _ => False) s H := by
    have hq := (hY_c46.1).moved hvm.symm
    rw [ht] at hq
    exact hq
  have hb_q2 := (hY_c46.2)
  refine lv_goto (tgt := 52) hx hb dX4_text_45 (by decide) ?_
  refine W.widen (k := (4 * nn + 4)) (n := (24 * nn + 24)) (by omega) (by omega) ?_
  have hz0 := hS.1
  have lt0 := (hP 0 _ rfl).lt
  dsimp only at lt0
  have lt1 := (hP 1 _ rfl).lt
  dsimp only at lt1
  have lt2 := (hP 2 _ rfl).lt
  dsimp only at lt2
  have lt3 := (hP 3 _ rfl).lt
  dsimp only at lt3
  have lt4 := (hP 4 _ rfl).lt
  dsimp only at lt4
  exact z_retr (q := q2) (q2, v2) hx hb hr (Or.inl ⟨_, rfl⟩) hlocks (show q2 = q2 from rfl) hK [] rfl hP hD hS [0, 1, 2] (by decide) rfl (by omega) (by omega) (fun t ht hW => ⟨by rw [ht]; exact zz_q2.moved hW.alike, by omega⟩) dX4_text_52
set_option maxRecDepth 100000 in
set_option maxHeartbeats 4000000 in
/-- text of a new joiner: [ and ] -/
theorem c_text0 (l : Launch) (D : va_G) (N0 : Nat) (e : zE) (sz mz : Nat) (jj : Nat) (tb : Nat) (al : Nat) (mo : Nat)  : Met l yX4_text wsX4_text ({ frames := 6, cells := 4, slots := 26, locals := 171 }) (va_Pc [.ref jj] (zP N0 e D [] [(jj, .inr (7, [.ref tb, .ref ((e.2.2.1 2)), .ref ((e.2.2.1 3)), .ref al, .null])), (al, .inr (2, [.int (nI mo), .ref e.1, .int (nI 0)]))] sz mz [])) (zQr (fun (u : Nat × Nat) (ra : Nat) => ra = u.1) D (fun (u : Nat × Nat) => ([(jj, .inr (7, [.ref tb, .ref ((e.2.2.1 2)), .ref ((e.2.2.1 3)), .ref al, .null])), (al, .inr (2, [.int (nI mo), .ref e.1, .int (nI 0)]))] : va_W)) (fun (u : Nat × Nat) => ([] : List (ClassId × FieldType))) sz (0) mz (0) (fun (u : Nat × Nat) (t : State) => zR N0 sz u.1 u.2 2 t) (va_A [(jj, .inr (7, [.ref tb, .ref ((e.2.2.1 2)), .ref ((e.2.2.1 3)), .ref al, .null])), (al, .inr (2, [.int (nI mo), .ref e.1, .int (nI 0)]))] sz)) (4) (26) (va_A [(jj, .inr (7, [.ref tb, .ref ((e.2.2.1 2)), .ref ((e.2.2.1 3)), .ref al, .null])), (al, .inr (2, [.int (nI mo), .ref e.1, .int (nI 0)]))] sz) := by
  refine z_met (Qc := fun A => zQr (fun (u : Nat × Nat) (ra : Nat) => ra = u.1) D (fun (u : Nat × Nat) => ([(jj, .inr (7, [.ref tb, .ref ((e.2.2.1 2)), .ref ((e.2.2.1 3)), .ref al, .null])), (al, .inr (2, [.int (nI mo), .ref e.1, .int (nI 0)]))] : va_W)) (fun (u : Nat × Nat) => ([] : List (ClassId × FieldType))) sz (0) mz (0) (fun (u : Nat × Nat) (t : State) => zR N0 sz u.1 u.2 2 t) A) (cc := cX4_text) (maxL := 1) (ret := (some (.object "java/lang/String"))) RX4 rfl (by decide) rfl (Nat.le_of_ble_eq_true rfl) ?_
  intro p ev s m below meth c ls A hx hb hr hml hown hts hlocks hnm hsz hmz hN hAe hA hAN hS hP hK hD hG hL hl
  subst hsz
  subst hmz
  have hl : lv_has ls 1 [(0, .ref jj)] := hl
  refine lv_aload_n hx hb dX4_text_0 rfl (lv_at hl 0 rfl) ?_
  have hFc := va_free (wc := [(jj, .inr (7, [.ref tb, .ref ((e.2.2.1 2)), .ref ((e.2.2.1 3)), .ref al, .null])), (al, .inr (2, [.int (nI mo), .ref e.1, .int (nI 0)]))]) hD hS hA [0, 1] rfl
  have kc1 : 0 + (0) ≤ 4 := by omega
  have ks2 : 0 + (0) ≤ 26 := by omega
  refine z_calli (wr := []) (va_runV (As := []) (rest := []) ⟨hx, hb, hml, hown, hts⟩ (c_isF0 l D N0 e s.heap.size (zw s.heap) jj tb ((e.2.2.1 2)) ((e.2.2.1 3)) al mo ) (cwV 0 hts gX4_text_X4_isFilled rfl rfl rfl (by decide +kernel) ⟨Nat.le_of_ble_eq_true rfl, Nat.le_of_ble_eq_true rfl⟩) ⟨zP.blind, (va_recv hK hP (ci := 7) (q0 := 0) rfl rfl), (z_pre hK hP hD hS hAN hN hG [0, 1] (by decide) rfl [] rfl (fun q hq => absurd hq List.not_mem_nil))⟩ rfl rfl hl.1 rfl (lv_room (Nat.le_of_ble_eq_true rfl)) dX4_text_1 ⟨kc1, ks2⟩) hK hP hD hS hA [0, 1] rfl [] rfl (by decide) (by decide) (fun r4 u t H locs ht hvm hw_c3 hY_c3 hz_c3 hm_c3 hk_c3 hK hP hD hS => ?_)
  have hP : va_P D vwCl [(jj, .inr (7, [.ref tb, .ref ((e.2.2.1 2)), .ref ((e.2.2.1 3)), .ref al, .null])), (al, .inr (2, [.int (nI mo), .ref e.1, .int (nI 0)]))] H := hP
  have hD : va_D A [(jj, .inr (7, [.ref tb, .ref ((e.2.2.1 2)), .ref ((e.2.2.1 3)), .ref al, .null])), (al, .inr (2, [.int (nI mo), .ref e.1, .int (nI 0)]))] := hD
  have hK : va_K D vwCl [] s := hK
  have hs5 := hS.1
  refine W.widen (k := 0) (n := 0) (by omega) (by omega) ?_
  subst hw_c3
  refine lv_if_ne (tgt := 14) hx hb dX4_text_4 (by decide) (fun hq => absurd (show (nI 0) = (nI 0) from (nI_eq (by omega) (by omega)).mpr (by omega)) hq) (fun _ => ?_)
  refine lv_aload_n hx hb dX4_text_7 rfl (lv_at hl 0 rfl) ?_
  refine va_get (D := D) (ci := 7) (v := .null) (C := RX4) (T := TX4) (N := 5) hx hb hts (by decide +kernel) hown hK hP 0 rfl rfl 4 (by decide) (hts (.fieldLink RX4 59 "JoinrowModel$Joiner" "empty" "Ljava/lang/String;") (by decide +kernel)) (fun _ h9 => h9) rfl dX4_text_8 ?_
  refine lv_ifnonnullN hx hb dX4_text_11 ?_
  have kc6 : 0 + 1 ≤ 4 := by omega
  have ks7 : 0 + 4 ≤ 26 := by omega
  refine z_new (ci := 1) (fs := [.null, .int 0, .int 0, .int 0]) (C := RJ4) (T := TJ4) (N := 4) hx hb hts (by decide +kernel) tyJ4 tyJ4_ok hown (hts (.classLink RX4 38 RJ4) (by decide +kernel)) (hts (.instantiable RJ4 4) (by decide +kernel)) (hts (.initialized RJ4) (by decide +kernel)) hK hP hD hS hA rfl (fun j hj => by match j, hj with | 0, _ => rfl | 1, _ => rfl | 2, _ => rfl | 3, _ => rfl) kc6 ks7 dX4_text_14 (fun sbd H hq_sbd hz_sbd hm_sbd hk_sbd hP hD hS => ?_)
  have hP : va_P D vwCl [(jj, .inr (7, [.ref tb, .ref ((e.2.2.1 2)), .ref ((e.2.2.1 3)), .ref al, .null])), (al, .inr (2, [.int (nI mo), .ref e.1, .int (nI 0)])), (sbd, .inr (1, [.null, .int (nI 0), .int (nI 0), .int (nI 0)]))] H := hP
  have hD : va_D A [(jj, .inr (7, [.ref tb, .ref ((e.2.2.1 2)), .ref ((e.2.2.1 3)), .ref al, .null])), (al, .inr (2, [.int (nI mo), .ref e.1, .int (nI 0)])), (sbd, .inr (1, [.null, .int (nI 0), .int (nI 0), .int (nI 0)]))] := hD
  have hs8 := hS.1
  refine W.widen (k := 1) (n := 4) (by omega) (by omega) ?_
  refine lv_dup hx hb dX4_text_17 rfl ?_
  have hFc := va_free (wc := [(sbd, .inr (1, [.null, .int (nI 0), .int (nI 0), .int (nI 0)]))]) hD hS hA [2] rfl
  have kc9 : 1 + (1) ≤ 4 := by omega
  have ks10 : 4 + (16) ≤ 26 := by omega
  refine z_callv (wr := [(jj, .inr (7, [.ref tb, .ref ((e.2.2.1 2)), .ref ((e.2.2.1 3)), .ref al, .null])), (al, .inr (2, [.int (nI mo), .ref e.1, .int (nI 0)]))]) (va_runI (As := []) (rest := [.ref sbd]) ⟨hx, hb, hml, hown, hts⟩ (c_bini l D N0 e H.size (zw H) sbd ) (cwI 0 hts gX4_text_J4_init_da8c8 rfl rfl rfl (hts (.initialized RJ4) (by decide +kernel)) (hts (.methodLink RX4 40 yJ4_init_da8c8) (by decide +kernel)) (hts (.instanceMethod yJ4_init_da8c8) (by decide +kernel)) rfl (by decide +kernel) ⟨Nat.le_of_ble_eq_true rfl, Nat.le_of_ble_eq_true rfl⟩) ⟨zP.blind, (z_pre hK hP hD hS hAN hN hG [2] (by decide) rfl [] rfl (fun q hq => absurd hq List.not_mem_nil))⟩ rfl rfl hl.1 rfl (lv_room (Nat.le_of_ble_eq_true rfl)) dX4_text_18 ⟨kc9, ks10⟩) hK hP hD hS hA [2] rfl [0, 1] rfl (by decide) (by decide) (fun u t H locs ht hvm hw_c11 hY_c11 hz_c11 hm_c11 hk_c11 hK hP hD hS => ?_)
  obtain ⟨va, cB⟩ := u
  try dsimp only at hw_c11 hY_c11
  have hP : va_P D vwCl [(jj, .inr (7, [.ref tb, .ref ((e.2.2.1 2)), .ref ((e.2.2.1 3)), .ref al, .null])), (al, .inr (2, [.int (nI mo), .ref e.1, .int (nI 0)])), (sbd, .inr (1, [.ref va, .int (nI 0), .int (nI 0), .int (nI 0)])), (va, .inl (cB, 16, .inl (fun _ => 0)))] H := hP
  have hD : va_D A [(jj, .inr (7, [.ref tb, .ref ((e.2.2.1 2)), .ref ((e.2.2.1 3)), .ref al, .null])), (al, .inr (2, [.int (nI mo), .ref e.1, .int (nI 0)])), (sbd, .inr (1, [.ref va, .int (nI 0), .int (nI 0), .int (nI 0)])), (va, .inl (cB, 16, .inl (fun _ => 0)))] := hD
  have hK : va_K D vwCl [(cB, .byte)] s := hK
  have hs13 := hS.1
  refine W.widen (k := 2) (n := 20) (by omega) (by omega) ?_
  refine lv_aload_n hx hb dX4_text_21 rfl (lv_at hl 0 rfl) ?_
  refine va_get (D := D) (ci := 7) (v := .ref ((e.2.2.1 2))) (C := RX4) (T := TX4) (N := 5) hx hb hts (by decide +kernel) hown hK hP 0 rfl rfl 1 (by decide) (hts (.fieldLink RX4 17 "JoinrowModel$Joiner" "prefix" "Ljava/lang/String;") (by decide +kernel)) (fun _ h9 => h9) rfl dX4_text_22 ?_
  have hFc := va_free (wc := [(sbd, .inr (1, [.ref va, .int (nI 0), .int (nI 0), .int (nI 0)])), (va, .inl (cB, 16, .inl (fun _ => 0)))]) hD hS hA [2, 3] rfl
  have hFN : ∀ q, va_A [(sbd, .inr (1, [.ref va, .int (nI 0), .int (nI 0), .int (nI 0)])), (va, .inl (cB, 16, .inl (fun _ => 0)))] H.size q → N0 ≤ q := fun q hq => hAN q (hFc q hq)
  have kc14 : 2 + (0) ≤ 4 := by omega
  have ks15 : 20 + (0) ≤ 26 := by omega
  refine z_callr (wr := [(jj, .inr (7, [.ref tb, .ref ((e.2.2.1 2)), .ref ((e.2.2.1 3)), .ref al, .null])), (al, .inr (2, [.int (nI mo), .ref e.1, .int (nI 0)]))]) (va_runV (As := [.ref ((e.2.2.1 2))]) (rest := []) ⟨hx, hb, hml, hown, hts⟩ (c_app l D N0 e H.size (zw H) sbd va 0 cB ((fun _ => 0)) ((e.2.2.1 2)) ((e.2.2.2 2)) 1 (by omega) (by omega) (fun _ => rfl)) (cwV 1 hts gX4_text_J4_append_15ec4 rfl rfl rfl (by decide +kernel) ⟨Nat.le_of_ble_eq_true rfl, Nat.le_of_ble_eq_true rfl⟩) ⟨zP.blind, (va_recv hK hP (ci := 1) (q0 := 2) rfl rfl), (z_pre hK hP hD hS hAN hN hG [2, 3] (by decide) rfl [0] rfl (List.forall_mem_cons.mpr ⟨((zkst hG 2 (by decide) hS hAN).wall (z_low (hG.2.2.2.2.1 2 (by decide)).na hFN) (z_low (hG.2.2.2.2.1 2 (by decide)).nv hFN)), fun q hq => absurd hq List.not_mem_nil⟩))⟩ rfl rfl hl.1 rfl (lv_room (Nat.le_of_ble_eq_true rfl)) dX4_text_25 ⟨kc14, ks15⟩) hK hP hD hS hA [2, 3] rfl [0, 1] rfl (by decide) (by decide) (fun u r17 t H locs ht hvm hw_c16 hY_c16 hz_c16 hm_c16 hk_c16 hK hP hD hS => ?_)
  obtain ⟨f2, rfl⟩ : ∃ z, z = u := ⟨_, rfl⟩
  try dsimp only at hw_c16 hY_c16
  have hP : va_P D vwCl [(jj, .inr (7, [.ref tb, .ref ((e.2.2.1 2)), .ref ((e.2.2.1 3)), .ref al, .null])), (al, .inr (2, [.int (nI mo), .ref e.1, .int (nI 0)])), (sbd, .inr (1, [.ref va, .int (nI 0), .int (nI 0), .int (nI 1)])), (va, .inl (cB, 16, .inl f2))] H := hP
  have hD : va_D A [(jj, .inr (7, [.ref tb, .ref ((e.2.2.1 2)), .ref ((e.2.2.1 3)), .ref al, .null])), (al, .inr (2, [.int (nI mo), .ref e.1, .int (nI 0)])), (sbd, .inr (1, [.ref va, .int (nI 0), .int (nI 0), .int (nI 1)])), (va, .inl (cB, 16, .inl f2))] := hD
  have hK : va_K D vwCl [(cB, .byte)] s := hK
  have hs18 := hS.1
  refine W.widen (k := 2) (n := 20) (by omega) (by omega) ?_
  obtain rfl : sbd = r17 := Eq.symm hw_c16.1
  have hf2 := hw_c16.2
  refine lv_aload_n hx hb dX4_text_28 rfl (lv_at hl 0 rfl) ?_
  have hFc := va_free (wc := [(jj, .inr (7, [.ref tb, .ref ((e.2.2.1 2)), .ref ((e.2.2.1 3)), .ref al, .null])), (al, .inr (2, [.int (nI mo), .ref e.1, .int (nI 0)]))]) hD hS hA [0, 1] rfl
  have kc19 : 2 + (0) ≤ 4 := by omega
  have ks20 : 20 + (0) ≤ 26 := by omega
  refine z_callr (wr := [(sbd, .inr (1, [.ref va, .int (nI 0), .int (nI 0), .int (nI 1)])), (va, .inl (cB, 16, .inl f2))]) (va_runV (As := []) (rest := [.ref sbd]) ⟨hx, hb, hml, hown, hts⟩ (c_ins0 l D N0 e H.size (zw H) jj tb ((e.2.2.1 2)) ((e.2.2.1 3)) al mo ) (cwV 0 hts gX4_text_X4_inside rfl rfl rfl (by decide +kernel) ⟨Nat.le_of_ble_eq_true rfl, Nat.le_of_ble_eq_true rfl⟩) ⟨zP.blind, (va_recv hK hP (ci := 7) (q0 := 0) rfl rfl), (z_pre hK hP hD hS hAN hN hG [0, 1] (by decide) rfl [] rfl (fun q hq => absurd hq List.not_mem_nil))⟩ rfl rfl hl.1 rfl (lv_room (Nat.le_of_ble_eq_true rfl)) dX4_text_29 ⟨kc19, ks20⟩) hK hP hD hS hA [0, 1] rfl [2, 3] rfl (by decide) (by decide) (fun u r22 t H locs ht hvm hw_c21 hY_c21 hz_c21 hm_c21 hk_c21 hK hP hD hS => ?_)
  have hP : va_P D vwCl [(sbd, .inr (1, [.ref va, .int (nI 0), .int (nI 0), .int (nI 1)])), (va, .inl (cB, 16, .inl f2)), (jj, .inr (7, [.ref tb, .ref ((e.2.2.1 2)), .ref ((e.2.2.1 3)), .ref al, .null])), (al, .inr (2, [.int (nI mo), .ref e.1, .int (nI 0)]))] H := hP
  have hD : va_D A [(sbd, .inr (1, [.ref va, .int (nI 0), .int (nI 0), .int (nI 1)])), (va, .inl (cB, 16, .inl f2)), (jj, .inr (7, [.ref tb, .ref ((e.2.2.1 2)), .ref ((e.2.2.1 3)), .ref al, .null])), (al, .inr (2, [.int (nI mo), .ref e.1, .int (nI 0)]))] := hD
  have hK : va_K D vwCl [(cB, .byte)] s := hK
  have hs23 := hS.1
  refine W.widen (k := 2) (n := 20) (by omega) (by omega) ?_
  obtain rfl : (e.2.2.1 0) = r22 := Eq.symm hw_c21
  have hFc := va_free (wc := [(sbd, .inr (1, [.ref va, .int (nI 0), .int (nI 0), .int (nI 1)])), (va, .inl (cB, 16, .inl f2))]) hD hS hA [0, 1] rfl
  have hFN : ∀ q, va_A [(sbd, .inr (1, [.ref va, .int (nI 0), .int (nI 0), .int (nI 1)])), (va, .inl (cB, 16, .inl f2))] H.size q → N0 ≤ q := fun q hq => hAN q (hFc q hq)
  have kc24 : 2 + (0) ≤ 4 := by omega
  have ks25 : 20 + (0) ≤ 26 := by omega
  refine z_callr (wr := [(jj, .inr (7, [.ref tb, .ref ((e.2.2.1 2)), .ref ((e.2.2.1 3)), .ref al, .null])), (al, .inr (2, [.int (nI mo), .ref e.1, .int (nI 0)]))]) (va_runV (As := [.ref ((e.2.2.1 0))]) (rest := []) ⟨hx, hb, hml, hown, hts⟩ (c_app l D N0 e H.size (zw H) sbd va 1 cB f2 ((e.2.2.1 0)) ((e.2.2.2 0)) 0 (by omega) (by omega) hf2) (cwV 1 hts gX4_text_J4_append_15ec4 rfl rfl rfl (by decide +kernel) ⟨Nat.le_of_ble_eq_true rfl, Nat.le_of_ble_eq_true rfl⟩) ⟨zP.blind, (va_recv hK hP (ci := 1) (q0 := 0) rfl rfl), (z_pre hK hP hD hS hAN hN hG [0, 1] (by decide) rfl [0] rfl (List.forall_mem_cons.mpr ⟨((zkst hG 0 (by decide) hS hAN).wall (z_low (hG.2.2.2.2.1 0 (by decide)).na hFN) (z_low (hG.2.2.2.2.1 0 (by decide)).nv hFN)), fun q hq => absurd hq List.not_mem_nil⟩))⟩ rfl rfl hl.1 rfl (lv_room (Nat.le_of_ble_eq_true rfl)) dX4_text_32 ⟨kc24, ks25⟩) hK hP hD hS hA [0, 1] rfl [2, 3] rfl (by decide) (by decide) (fun u r27 t H locs ht hvm hw_c26 hY_c26 hz_c26 hm_c26 hk_c26 hK hP hD hS => ?_)
  obtain ⟨f3, rfl⟩ : ∃ z, z = u := ⟨_, rfl⟩
  try dsimp only at hw_c26 hY_c26
  have hP : va_P D vwCl [(jj, .inr (7, [.ref tb, .ref ((e.2.2.1 2)), .ref ((e.2.2.1 3)), .ref al, .null])), (al, .inr (2, [.int (nI mo), .ref e.1, .int (nI 0)])), (sbd, .inr (1, [.ref va, .int (nI 0), .int (nI 0), .int (nI 1)])), (va, .inl (cB, 16, .inl f3))] H := hP
  have hD : va_D A [(jj, .inr (7, [.ref tb, .ref ((e.2.2.1 2)), .ref ((e.2.2.1 3)), .ref al, .null])), (al, .inr (2, [.int (nI mo), .ref e.1, .int (nI 0)])), (sbd, .inr (1, [.ref va, .int (nI 0), .int (nI 0), .int (nI 1)])), (va, .inl (cB, 16, .inl f3))] := hD
  have hK : va_K D vwCl [(cB, .byte)] s := hK
  have hs28 := hS.1
  refine W.widen (k := 2) (n := 20) (by omega) (by omega) ?_
  obtain rfl : sbd = r27 := Eq.symm hw_c26.1
  have hf3 := hw_c26.2
  refine lv_aload_n hx hb dX4_text_35 rfl (lv_at hl 0 rfl) ?_
  refine va_get (D := D) (ci := 7) (v := .ref ((e.2.2.1 3))) (C := RX4) (T := TX4) (N := 5) hx hb hts (by decide +kernel) hown hK hP 0 rfl rfl 2 (by decide) (hts (.fieldLink RX4 22 "JoinrowModel$Joiner" "suffix" "Ljava/lang/String;") (by decide +kernel)) (fun _ h9 => h9) rfl dX4_text_36 ?_
  have hFc := va_free (wc := [(sbd, .inr (1, [.ref va, .int (nI 0), .int (nI 0), .int (nI 1)])), (va, .inl (cB, 16, .inl f3))]) hD hS hA [2, 3] rfl
  have hFN : ∀ q, va_A [(sbd, .inr (1, [.ref va, .int (nI 0), .int (nI 0), .int (nI 1)])), (va, .inl (cB, 16, .inl f3))] H.size q → N0 ≤ q := fun q hq => hAN q (hFc q hq)
  have kc29 : 2 + (0) ≤ 4 := by omega
  have ks30 : 20 + (0) ≤ 26 := by omega
  refine z_callr (wr := [(jj, .inr (7, [.ref tb, .ref ((e.2.2.1 2)), .ref ((e.2.2.1 3)), .ref al, .null])), (al, .inr (2, [.int (nI mo), .ref e.1, .int (nI 0)]))]) (va_runV (As := [.ref ((e.2.2.1 3))]) (rest := []) ⟨hx, hb, hml, hown, hts⟩ (c_app l D N0 e H.size (zw H) sbd va 1 cB f3 ((e.2.2.1 3)) ((e.2.2.2 3)) 1 (by omega) (by omega) hf3) (cwV 1 hts gX4_text_J4_append_15ec4 rfl rfl rfl (by decide +kernel) ⟨Nat.le_of_ble_eq_true rfl, Nat.le_of_ble_eq_true rfl⟩) ⟨zP.blind, (va_recv hK hP (ci := 1) (q0 := 2) rfl rfl), (z_pre hK hP hD hS hAN hN hG [2, 3] (by decide) rfl [0] rfl (List.forall_mem_cons.mpr ⟨((zkst hG 3 (by decide) hS hAN).wall (z_low (hG.2.2.2.2.1 3 (by decide)).na hFN) (z_low (hG.2.2.2.2.1 3 (by decide)).nv hFN)), fun q hq => absurd hq List.not_mem_nil⟩))⟩ rfl rfl hl.1 rfl (lv_room (Nat.le_of_ble_eq_true rfl)) dX4_text_39 ⟨kc29, ks30⟩) hK hP hD hS hA [2, 3] rfl [0, 1] rfl (by decide) (by decide) (fun u r32 t H locs ht hvm hw_c31 hY_c31 hz_c31 hm_c31 hk_c31 hK hP hD hS => ?_)
  obtain ⟨f4, rfl⟩ : ∃ z, z = u := ⟨_, rfl⟩
  try dsimp only at hw_c31 hY_c31
  have hP : va_P D vwCl [(jj, .inr (7, [.ref tb, .ref ((e.2.2.1 2)), .ref ((e.2.2.1 3)), .ref al, .null])), (al, .inr (2, [.int (nI mo), .ref e.1, .int (nI 0)])), (sbd, .inr (1, [.ref va, .int (nI 0), .int (nI 0), .int (nI 2)])), (va, .inl (cB, 16, .inl f4))] H := hP
  have hD : va_D A [(jj, .inr (7, [.ref tb, .ref ((e.2.2.1 2)), .ref ((e.2.2.1 3)), .ref al, .null])), (al, .inr (2, [.int (nI mo), .ref e.1, .int (nI 0)])), (sbd, .inr (1, [.ref va, .int (nI 0), .int (nI 0), .int (nI 2)])), (va, .inl (cB, 16, .inl f4))] := hD
  have hK : va_K D vwCl [(cB, .byte)] s := hK
  have hs33 := hS.1
  refine W.widen (k := 2) (n := 20) (by omega) (by omega) ?_
  obtain rfl : sbd = r32 := Eq.symm hw_c31.1
  have hf4 := hw_c31.2
  have hFc := va_free (wc := [(sbd, .inr (1, [.ref va, .int (nI 0), .int (nI 0), .int (nI 2)])), (va, .inl (cB, 16, .inl f4))]) hD hS hA [2, 3] rfl
  have kc34 : 2 + (2) ≤ 4 := by omega
  have ks35 : 20 + (4 + 2) ≤ 26 := by omega
  refine z_callr (wr := [(jj, .inr (7, [.ref tb, .ref ((e.2.2.1 2)), .ref ((e.2.2.1 3)), .ref al, .null])), (al, .inr (2, [.int (nI mo), .ref e.1, .int (nI 0)]))]) (va_runV (As := []) (rest := []) ⟨hx, hb, hml, hown, hts⟩ (c_toS l D N0 e H.size (zw H) sbd va 2 cB f4 (by decide) hf4) (cwV 0 hts gX4_text_J4_toString_0e30d rfl rfl rfl (by decide +kernel) ⟨Nat.le_of_ble_eq_true rfl, Nat.le_of_ble_eq_true rfl⟩) ⟨zP.blind, (va_recv hK hP (ci := 1) (q0 := 2) rfl rfl), (z_pre hK hP hD hS hAN hN hG [2, 3] (by decide) rfl [0] rfl (fun q hq => absurd hq List.not_mem_nil))⟩ rfl rfl hl.1 rfl (lv_room (Nat.le_of_ble_eq_true rfl)) dX4_text_42 ⟨kc34, ks35⟩) hK hP hD hS hA [2, 3] rfl [0, 1] rfl (by decide) (by decide) (fun u r37 t H locs ht hvm hw_c36 hY_c36 hz_c36 hm_c36 hk_c36 hK hP hD hS => ?_)
  obtain ⟨q2, v2⟩ := u
  try dsimp only at hw_c36 hY_c36
  have hP : va_P D vwCl [(jj, .inr (7, [.ref tb, .ref ((e.2.2.1 2)), .ref ((e.2.2.1 3)), .ref al, .null])), (al, .inr (2, [.int (nI mo), .ref e.1, .int (nI 0)])), (sbd, .inr (1, [.ref va, .int (nI 0), .int (nI 0), .int (nI 2)])), (va, .inl (cB, 16, .inl f4))] H := hP
  have hD : va_D A [(jj, .inr (7, [.ref tb, .ref ((e.2.2.1 2)), .ref ((e.2.2.1 3)), .ref al, .null])), (al, .inr (2, [.int (nI mo), .ref e.1, .int (nI 0)])), (sbd, .inr (1, [.ref va, .int (nI 0), .int (nI 0), .int (nI 2)])), (va, .inl (cB, 16, .inl f4))] := hD
  have hK : va_K D vwCl [(cB, .byte)] s := hK
  have hs38 := hS.1
  refine W.widen (k := 4) (n := 26) (by omega) (by omega) ?_
  obtain rfl : q2 = r37 := Eq.symm hw_c36
  have zz_q2 : zs q2 v2 (2) (fun _ => False) s H := by
    have hq := (hY_c36.1).moved hvm.symm
    rw [ht] at hq
    exact hq
  have hb_q2 := (hY_c36.2)
  refine lv_goto (tgt := 52) hx hb dX4_text_45 (by decide) ?_
  have hz0 := hS.1
  refine z_keepW (fun hkp => ?_)
  exact z_retr (q := q2) (q2, v2) hx hb hr (Or.inl ⟨_, rfl⟩) hlocks (show q2 = q2 from rfl) hK [] rfl hP hD hS [0, 1] (by decide) rfl (by omega) (zw_keep hkp) (fun t ht hW => ⟨by rw [ht]; exact zz_q2.moved hW.alike, by omega⟩) dX4_text_52
set_option maxRecDepth 100000 in
set_option maxHeartbeats 4000000 in
/-- with(""), of nn pieces: the inside is made once -/
theorem c_with1 (l : Launch) (D : va_G) (N0 : Nat) (e : zE) (sz mz : Nat) (jj : Nat) (al : Nat) (mo : Nat) (ea : Nat) (nn : Nat) (cO : ClassId) (cap : Nat) (fe : Nat → Option Nat) (h1 : 1 ≤ nn) (h5 : nn ≤ 511) (hn : nn ≤ cap) (hcap : cap ≤ 800) (hzf : zF fe nn (e.2.2.1 0)) : Met l yX4_with wsX4_with ({ frames := 7, cells := 4 * nn, slots := 24 * nn, locals := 193 }) (va_Pc [.ref jj, .ref ((e.2.2.1 0))] (zP N0 e D [(cO, .object "java/lang/Object")] [(jj, .inr (7, [.ref ((e.2.2.1 0)), .ref ((e.2.2.1 0)), .ref ((e.2.2.1 0)), .ref al, .null])), (al, .inr (2, [.int (nI mo), .ref ea, .int (nI nn)])), (ea, .inl (cO, cap, .inr (.inr (.inr (.inr fe)))))] sz mz [])) (zQi (fun (r : Int32) (_ : Unit) => r = (nI 0)) D (fun (_ : Unit) => ([(jj, .inr (7, [.ref ((e.2.2.1 0)), .ref ((e.2.2.1 0)), .ref ((e.2.2.1 0)), .ref al, .null])), (al, .inr (2, [.int (nI mo), .ref ea, .int (nI nn)])), (ea, .inl (cO, cap, .inr (.inr (.inr (.inr fe)))))] : va_W)) (fun (_ : Unit) => ([] : List (ClassId × FieldType))) sz (4 * nn) mz (288 * nn) (fun (_ : Unit) (t : State) => True) (va_A [(jj, .inr (7, [.ref ((e.2.2.1 0)), .ref ((e.2.2.1 0)), .ref ((e.2.2.1 0)), .ref al, .null])), (al, .inr (2, [.int (nI mo), .ref ea, .int (nI nn)])), (ea, .inl (cO, cap, .inr (.inr (.inr (.inr fe)))))] sz)) (4 * nn) (24 * nn) (va_A [(jj, .inr (7, [.ref ((e.2.2.1 0)), .ref ((e.2.2.1 0)), .ref ((e.2.2.1 0)), .ref al, .null])), (al, .inr (2, [.int (nI mo), .ref ea, .int (nI nn)])), (ea, .inl (cO, cap, .inr (.inr (.inr (.inr fe)))))] sz) := by
  refine z_met (Qc := fun A => zQi (fun (r : Int32) (_ : Unit) => r = (nI 0)) D (fun (_ : Unit) => ([(jj, .inr (7, [.ref ((e.2.2.1 0)), .ref ((e.2.2.1 0)), .ref ((e.2.2.1 0)), .ref al, .null])), (al, .inr (2, [.int (nI mo), .ref ea, .int (nI nn)])), (ea, .inl (cO, cap, .inr (.inr (.inr (.inr fe)))))] : va_W)) (fun (_ : Unit) => ([] : List (ClassId × FieldType))) sz (4 * nn) mz (288 * nn) (fun (_ : Unit) (t : State) => True) A) (cc := cX4_with) (maxL := 2) (ret := (some .int)) RX4 rfl (by decide) rfl (Nat.le_of_ble_eq_true rfl) ?_
  intro p ev s m below meth c ls A hx hb hr hml hown hts hlocks hnm hsz hmz hN hAe hA hAN hS hP hK hD hG hL hl
  subst hsz
  subst hmz
  have hl : lv_has ls 2 [(0, .ref jj), (1, .ref ((e.2.2.1 0)))] := hl
  refine lv_aload_n hx hb dX4_with_0 rfl (lv_at hl 0 rfl) ?_
  refine va_get (D := D) (ci := 7) (v := .ref ((e.2.2.1 0))) (C := RX4) (T := TX4) (N := 5) hx hb hts (by decide +kernel) hown hK hP 0 rfl rfl 1 (by decide) (hts (.fieldLink RX4 17 "JoinrowModel$Joiner" "prefix" "Ljava/lang/String;") (by decide +kernel)) (fun _ h9 => h9) rfl dX4_with_1 ?_
  have hFc := va_free (wc := []) hD hS hA [] rfl
  have hFN : ∀ q, va_A [] s.heap.size q → N0 ≤ q := fun q hq => hAN q (hFc q hq)
  have kc1 : 0 + (0) ≤ 4 * nn := by omega
  have ks2 : 0 + (0) ≤ 24 * nn := by omega
  refine z_calli (wr := [(jj, .inr (7, [.ref ((e.2.2.1 0)), .ref ((e.2.2.1 0)), .ref ((e.2.2.1 0)), .ref al, .null])), (al, .inr (2, [.int (nI mo), .ref ea, .int (nI nn)])), (ea, .inl (cO, cap, .inr (.inr (.inr (.inr fe)))))]) (va_runV (As := []) (rest := []) ⟨hx, hb, hml, hown, hts⟩ (c_slen l D N0 e s.heap.size (zw s.heap) ((e.2.2.1 0)) ((e.2.2.2 0)) 0 (by decide)) (cwV 0 hts gX4_with_J0_length_8abf5 rfl rfl rfl (by decide +kernel) ⟨Nat.le_of_ble_eq_true rfl, Nat.le_of_ble_eq_true rfl⟩) ⟨zP.blind, (zrecv (zkst hG 0 (by decide) hS hAN)), (z_pre hK hP hD hS hAN hN hG [] (by decide) rfl [] rfl (List.forall_mem_cons.mpr ⟨((zkst hG 0 (by decide) hS hAN).wall (z_low (hG.2.2.2.2.1 0 (by decide)).na hFN) (z_low (hG.2.2.2.2.1 0 (by decide)).nv hFN)), fun q hq => absurd hq List.not_mem_nil⟩))⟩ rfl rfl hl.1 rfl (lv_room (Nat.le_of_ble_eq_true rfl)) dX4_with_4 ⟨kc1, ks2⟩) hK hP hD hS hA [] rfl [0, 1, 2] rfl (by decide) (by decide) (fun r4 u t H locs ht hvm hw_c3 hY_c3 hz_c3 hm_c3 hk_c3 hK hP hD hS => ?_)
  have hP : va_P D vwCl [(jj, .inr (7, [.ref ((e.2.2.1 0)), .ref ((e.2.2.1 0)), .ref ((e.2.2.1 0)), .ref al, .null])), (al, .inr (2, [.int (nI mo), .ref ea, .int (nI nn)])), (ea, .inl (cO, cap, .inr (.inr (.inr (.inr fe)))))] H := hP
  have hD : va_D A [(jj, .inr (7, [.ref ((e.2.2.1 0)), .ref ((e.2.2.1 0)), .ref ((e.2.2.1 0)), .ref al, .null])), (al, .inr (2, [.int (nI mo), .ref ea, .int (nI nn)])), (ea, .inl (cO, cap, .inr (.inr (.inr (.inr fe)))))] := hD
  have hK : va_K D vwCl [(cO, .object "java/lang/Object")] s := hK
  have hs5 := hS.1
  refine W.widen (k := 0) (n := 0) (by omega) (by omega) ?_
  subst hw_c3
  refine lv_aload_n hx hb dX4_with_7 rfl (lv_at hl 0 rfl) ?_
  have hFc := va_free (wc := [(jj, .inr (7, [.ref ((e.2.2.1 0)), .ref ((e.2.2.1 0)), .ref ((e.2.2.1 0)), .ref al, .null])), (al, .inr (2, [.int (nI mo), .ref ea, .int (nI nn)])), (ea, .inl (cO, cap, .inr (.inr (.inr (.inr fe)))))]) hD hS hA [0, 1, 2] rfl
  have kc6 : 0 + (4 * nn) ≤ 4 * nn := by omega
  have ks7 : 0 + (24 * nn) ≤ 24 * nn := by omega
  refine z_callr (wr := []) (va_runV (As := []) (rest := [.int (nI 0)]) ⟨hx, hb, hml, hown, hts⟩ (c_ins1 l D N0 e H.size (zw H) jj al mo ea nn cO cap fe h1 h5 hn hcap hzf) (cwV 0 hts gX4_with_X4_inside rfl rfl rfl (by decide +kernel) ⟨Nat.le_of_ble_eq_true rfl, Nat.le_of_ble_eq_true rfl⟩) ⟨zP.blind, (va_recv hK hP (ci := 7) (q0 := 0) rfl rfl), (z_pre hK hP hD hS hAN hN hG [0, 1, 2] (by decide) rfl [0] rfl (fun q hq => absurd hq List.not_mem_nil))⟩ rfl rfl hl.1 rfl (lv_room (Nat.le_of_ble_eq_true rfl)) dX4_with_8 ⟨kc6, ks7⟩) hK hP hD hS hA [0, 1, 2] rfl [] rfl (by decide) (by decide) (fun u r9 t H locs ht hvm hw_c8 hY_c8 hz_c8 hm_c8 hk_c8 hK hP hD hS => ?_)
  obtain ⟨q, v⟩ := u
  try dsimp only at hw_c8 hY_c8
  have hP : va_P D vwCl [(jj, .inr (7, [.ref ((e.2.2.1 0)), .ref ((e.2.2.1 0)), .ref ((e.2.2.1 0)), .ref al, .null])), (al, .inr (2, [.int (nI mo), .ref ea, .int (nI nn)])), (ea, .inl (cO, cap, .inr (.inr (.inr (.inr fe)))))] H := hP
  have hD : va_D A [(jj, .inr (7, [.ref ((e.2.2.1 0)), .ref ((e.2.2.1 0)), .ref ((e.2.2.1 0)), .ref al, .null])), (al, .inr (2, [.int (nI mo), .ref ea, .int (nI nn)])), (ea, .inl (cO, cap, .inr (.inr (.inr (.inr fe)))))] := hD
  have hK : va_K D vwCl [(cO, .object "java/lang/Object")] s := hK
  have hs10 := hS.1
  refine W.widen (k := (4 * nn)) (n := (24 * nn)) (by omega) (by omega) ?_
  obtain rfl : q = r9 := Eq.symm hw_c8
  have zz_q : zs q v (0) (fun _ => False) s H := by
    have hq := (hY_c8.1).moved hvm.symm
    rw [ht] at hq
    exact hq
  have hb_q := (hY_c8.2)
  have hFc := va_free (wc := []) hD hS hA [] rfl
  have kc11 : (4 * nn) + (0) ≤ 4 * nn := by omega
  have ks12 : (24 * nn) + (0) ≤ 24 * nn := by omega
  refine z_calli (wr := [(jj, .inr (7, [.ref ((e.2.2.1 0)), .ref ((e.2.2.1 0)), .ref ((e.2.2.1 0)), .ref al, .null])), (al, .inr (2, [.int (nI mo), .ref ea, .int (nI nn)])), (ea, .inl (cO, cap, .inr (.inr (.inr (.inr fe)))))]) (va_runV (As := []) (rest := [.int (nI 0)]) ⟨hx, hb, hml, hown, hts⟩ (c_slen l D N0 e H.size (zw H) q v 0 (by decide)) (cwV 0 hts gX4_with_J0_length_8abf5 rfl rfl rfl (by decide +kernel) ⟨Nat.le_of_ble_eq_true rfl, Nat.le_of_ble_eq_true rfl⟩) ⟨zP.blind, (zrecv zz_q), (z_pre hK hP hD hS hAN hN hG [] (by decide) rfl [] rfl (List.forall_mem_cons.mpr ⟨(zz_q.wall (z_out zz_q.lta (by intro x hx; simp at hx <;> omega)) (z_out zz_q.ltv (by intro x hx; simp at hx <;> omega))), fun q hq => absurd hq List.not_mem_nil⟩))⟩ rfl rfl hl.1 rfl (lv_room (Nat.le_of_ble_eq_true rfl)) dX4_with_11 ⟨kc11, ks12⟩) hK hP hD hS hA [] rfl [0, 1, 2] rfl (by decide) (by decide) (fun r14 u t H locs ht hvm hw_c13 hY_c13 hz_c13 hm_c13 hk_c13 hK hP hD hS => ?_)
  have hP : va_P D vwCl [(jj, .inr (7, [.ref ((e.2.2.1 0)), .ref ((e.2.2.1 0)), .ref ((e.2.2.1 0)), .ref al, .null])), (al, .inr (2, [.int (nI mo), .ref ea, .int (nI nn)])), (ea, .inl (cO, cap, .inr (.inr (.inr (.inr fe)))))] H := hP
  have hD : va_D A [(jj, .inr (7, [.ref ((e.2.2.1 0)), .ref ((e.2.2.1 0)), .ref ((e.2.2.1 0)), .ref al, .null])), (al, .inr (2, [.int (nI mo), .ref ea, .int (nI nn)])), (ea, .inl (cO, cap, .inr (.inr (.inr (.inr fe)))))] := hD
  have hK : va_K D vwCl [(cO, .object "java/lang/Object")] s := hK
  have hs15 := hS.1
  have zz_q := zz_q.at (hk_c13 _ zz_q.lta (z_out zz_q.lta (by intro x hx; simp at hx <;> omega))) (hk_c13 _ zz_q.ltv (z_out zz_q.ltv (by intro x hx; simp at hx <;> omega)))
  refine W.widen (k := (4 * nn)) (n := (24 * nn)) (by omega) (by omega) ?_
  subst hw_c13
  refine lv_iadd hx hb dX4_with_14 ?_
  refine lv_topi (fun t16 et16 => ?_)
  replace et16 := et16.trans (show ((nI 0) + (nI 0)) = (nI 0) from by decide)
  subst et16
  refine lv_aload_n hx hb dX4_with_15 rfl (lv_at hl 0 rfl) ?_
  have wl17 : jj < H.size := (hP 0 _ rfl).lt
  have wl18 : N0 ≤ jj := hAN _ (hD.2 0 _ rfl)
  have wl19 : al < H.size := (hP 1 _ rfl).lt
  have wl20 : N0 ≤ al := hAN _ (hD.2 1 _ rfl)
  have wl21 : ea < H.size := (hP 2 _ rfl).lt
  have wl22 : N0 ≤ ea := hAN _ (hD.2 2 _ rfl)
  have hFc := va_free (wc := [(jj, .inr (7, [.ref ((e.2.2.1 0)), .ref ((e.2.2.1 0)), .ref ((e.2.2.1 0)), .ref al, .null])), (al, .inr (2, [.int (nI mo), .ref ea, .int (nI nn)]))]) hD hS hA [0, 1] rfl
  have kc23 : (4 * nn) + (0) ≤ 4 * nn := by omega
  have ks24 : (24 * nn) + (0) ≤ 24 * nn := by omega
  refine z_calli (wr := [(ea, .inl (cO, cap, .inr (.inr (.inr (.inr fe)))))]) (va_runV (As := []) (rest := [.int (nI 0)]) ⟨hx, hb, hml, hown, hts⟩ (c_isF1 l D N0 e H.size (zw H) jj ((e.2.2.1 0)) ((e.2.2.1 0)) ((e.2.2.1 0)) al mo ea nn (by omega) (by omega)) (cwV 0 hts gX4_with_X4_isFilled rfl rfl rfl (by decide +kernel) ⟨Nat.le_of_ble_eq_true rfl, Nat.le_of_ble_eq_true rfl⟩) ⟨zP.blind, (va_recv hK hP (ci := 7) (q0 := 0) rfl rfl), (z_pre hK hP hD hS hAN hN hG [0, 1] (by decide) rfl [] rfl (fun q hq => absurd hq List.not_mem_nil))⟩ rfl rfl hl.1 rfl (lv_room (Nat.le_of_ble_eq_true rfl)) dX4_with_16 ⟨kc23, ks24⟩) hK hP hD hS hA [0, 1] rfl [2] rfl (by decide) (by decide) (fun r26 u t H locs ht hvm hw_c25 hY_c25 hz_c25 hm_c25 hk_c25 hK hP hD hS => ?_)
  have hP : va_P D vwCl [(ea, .inl (cO, cap, .inr (.inr (.inr (.inr fe))))), (jj, .inr (7, [.ref ((e.2.2.1 0)), .ref ((e.2.2.1 0)), .ref ((e.2.2.1 0)), .ref al, .null])), (al, .inr (2, [.int (nI mo), .ref ea, .int (nI nn)]))] H := hP
  have hD : va_D A [(ea, .inl (cO, cap, .inr (.inr (.inr (.inr fe))))), (jj, .inr (7, [.ref ((e.2.2.1 0)), .ref ((e.2.2.1 0)), .ref ((e.2.2.1 0)), .ref al, .null])), (al, .inr (2, [.int (nI mo), .ref ea, .int (nI nn)]))] := hD
  have hK : va_K D vwCl [(cO, .object "java/lang/Object")] s := hK
  have hs27 := hS.1
  refine W.widen (k := (4 * nn)) (n := (24 * nn)) (by omega) (by omega) ?_
  subst hw_c25
  refine lv_if_eq (tgt := 32) hx hb dX4_with_19 (by decide) (fun hq => absurd hq (show ¬ ((nI 1) = (nI 0)) from fun hq => absurd ((nI_eq (by omega) (by omega)).mp hq) (by omega))) (fun _ => ?_)
  refine lv_aload_n hx hb dX4_with_22 rfl (lv_at hl 0 rfl) ?_
  refine va_get (D := D) (ci := 7) (v := .ref ((e.2.2.1 0))) (C := RX4) (T := TX4) (N := 5) hx hb hts (by decide +kernel) hown hK hP 1 rfl rfl 0 (by decide) (hts (.fieldLink RX4 9 "JoinrowModel$Joiner" "between" "Ljava/lang/String;") (by decide +kernel)) (fun _ h9 => h9) rfl dX4_with_23 ?_
  have hFc := va_free (wc := []) hD hS hA [] rfl
  have hFN : ∀ q, va_A [] H.size q → N0 ≤ q := fun q hq => hAN q (hFc q hq)
  have kc28 : (4 * nn) + (0) ≤ 4 * nn := by omega
  have ks29 : (24 * nn) + (0) ≤ 24 * nn := by omega
  refine z_calli (wr := [(ea, .inl (cO, cap, .inr (.inr (.inr (.inr fe))))), (jj, .inr (7, [.ref ((e.2.2.1 0)), .ref ((e.2.2.1 0)), .ref ((e.2.2.1 0)), .ref al, .null])), (al, .inr (2, [.int (nI mo), .ref ea, .int (nI nn)]))]) (va_runV (As := []) (rest := [.int (nI 0)]) ⟨hx, hb, hml, hown, hts⟩ (c_slen l D N0 e H.size (zw H) ((e.2.2.1 0)) ((e.2.2.2 0)) 0 (by decide)) (cwV 0 hts gX4_with_J0_length_8abf5 rfl rfl rfl (by decide +kernel) ⟨Nat.le_of_ble_eq_true rfl, Nat.le_of_ble_eq_true rfl⟩) ⟨zP.blind, (zrecv (zkst hG 0 (by decide) hS hAN)), (z_pre hK hP hD hS hAN hN hG [] (by decide) rfl [] rfl (List.forall_mem_cons.mpr ⟨((zkst hG 0 (by decide) hS hAN).wall (z_low (hG.2.2.2.2.1 0 (by decide)).na hFN) (z_low (hG.2.2.2.2.1 0 (by decide)).nv hFN)), fun q hq => absurd hq List.not_mem_nil⟩))⟩ rfl rfl hl.1 rfl (lv_room (Nat.le_of_ble_eq_true rfl)) dX4_with_26 ⟨kc28, ks29⟩) hK hP hD hS hA [] rfl [0, 1, 2] rfl (by decide) (by decide) (fun r31 u t H locs ht hvm hw_c30 hY_c30 hz_c30 hm_c30 hk_c30 hK hP hD hS => ?_)
  have hP : va_P D vwCl [(ea, .inl (cO, cap, .inr (.inr (.inr (.inr fe))))), (jj, .inr (7, [.ref ((e.2.2.1 0)), .ref ((e.2.2.1 0)), .ref ((e.2.2.1 0)), .ref al, .null])), (al, .inr (2, [.int (nI mo), .ref ea, .int (nI nn)]))] H := hP
  have hD : va_D A [(ea, .inl (cO, cap, .inr (.inr (.inr (.inr fe))))), (jj, .inr (7, [.ref ((e.2.2.1 0)), .ref ((e.2.2.1 0)), .ref ((e.2.2.1 0)), .ref al, .null])), (al, .inr (2, [.int (nI mo), .ref ea, .int (nI nn)]))] := hD
  have hK : va_K D vwCl [(cO, .object "java/lang/Object")] s := hK
  have hs32 := hS.1
  refine W.widen (k := (4 * nn)) (n := (24 * nn)) (by omega) (by omega) ?_
  subst hw_c30
  refine lv_goto (tgt := 33) hx hb dX4_with_29 (by decide) ?_
  refine lv_iadd hx hb dX4_with_33 ?_
  refine lv_topi (fun t33 et33 => ?_)
  replace et33 := et33.trans (show ((nI 0) + (nI 0)) = (nI 0) from by decide)
  subst et33
  refine lv_aload_n hx hb dX4_with_34 rfl (lv_at hl 1 rfl) ?_
  have hFc := va_free (wc := []) hD hS hA [] rfl
  have hFN : ∀ q, va_A [] H.size q → N0 ≤ q := fun q hq => hAN q (hFc q hq)
  have kc34 : (4 * nn) + (0) ≤ 4 * nn := by omega
  have ks35 : (24 * nn) + (0) ≤ 24 * nn := by omega
  refine z_calli (wr := [(ea, .inl (cO, cap, .inr (.inr (.inr (.inr fe))))), (jj, .inr (7, [.ref ((e.2.2.1 0)), .ref ((e.2.2.1 0)), .ref ((e.2.2.1 0)), .ref al, .null])), (al, .inr (2, [.int (nI mo), .ref ea, .int (nI nn)]))]) (va_runV (As := []) (rest := [.int (nI 0)]) ⟨hx, hb, hml, hown, hts⟩ (c_slen l D N0 e H.size (zw H) ((e.2.2.1 0)) ((e.2.2.2 0)) 0 (by decide)) (cwV 0 hts gX4_with_J0_length_8abf5 rfl rfl rfl (by decide +kernel) ⟨Nat.le_of_ble_eq_true rfl, Nat.le_of_ble_eq_true rfl⟩) ⟨zP.blind, (zrecv (zkst hG 0 (by decide) hS hAN)), (z_pre hK hP hD hS hAN hN hG [] (by decide) rfl [] rfl (List.forall_mem_cons.mpr ⟨((zkst hG 0 (by decide) hS hAN).wall (z_low (hG.2.2.2.2.1 0 (by decide)).na hFN) (z_low (hG.2.2.2.2.1 0 (by decide)).nv hFN)), fun q hq => absurd hq List.not_mem_nil⟩))⟩ rfl rfl hl.1 rfl (lv_room (Nat.le_of_ble_eq_true rfl)) dX4_with_35 ⟨kc34, ks35⟩) hK hP hD hS hA [] rfl [0, 1, 2] rfl (by decide) (by decide) (fun r37 u t H locs ht hvm hw_c36 hY_c36 hz_c36 hm_c36 hk_c36 hK hP hD hS => ?_)
  have hP : va_P D vwCl [(ea, .inl (cO, cap, .inr (.inr (.inr (.inr fe))))), (jj, .inr (7, [.ref ((e.2.2.1 0)), .ref ((e.2.2.1 0)), .ref ((e.2.2.1 0)), .ref al, .null])), (al, .inr (2, [.int (nI mo), .ref ea, .int (nI nn)]))] H := hP
  have hD : va_D A [(ea, .inl (cO, cap, .inr (.inr (.inr (.inr fe))))), (jj, .inr (7, [.ref ((e.2.2.1 0)), .ref ((e.2.2.1 0)), .ref ((e.2.2.1 0)), .ref al, .null])), (al, .inr (2, [.int (nI mo), .ref ea, .int (nI nn)]))] := hD
  have hK : va_K D vwCl [(cO, .object "java/lang/Object")] s := hK
  have hs38 := hS.1
  refine W.widen (k := (4 * nn)) (n := (24 * nn)) (by omega) (by omega) ?_
  subst hw_c36
  refine lv_iadd hx hb dX4_with_38 ?_
  refine lv_topi (fun t39 et39 => ?_)
  replace et39 := et39.trans (show ((nI 0) + (nI 0)) = (nI 0) from by decide)
  subst et39
  refine lv_aload_n hx hb dX4_with_39 rfl (lv_at hl 0 rfl) ?_
  refine va_get (D := D) (ci := 7) (v := .ref ((e.2.2.1 0))) (C := RX4) (T := TX4) (N := 5) hx hb hts (by decide +kernel) hown hK hP 1 rfl rfl 2 (by decide) (hts (.fieldLink RX4 22 "JoinrowModel$Joiner" "suffix" "Ljava/lang/String;") (by decide +kernel)) (fun _ h9 => h9) rfl dX4_with_40 ?_
  have hFc := va_free (wc := []) hD hS hA [] rfl
  have hFN : ∀ q, va_A [] H.size q → N0 ≤ q := fun q hq => hAN q (hFc q hq)
  have kc40 : (4 * nn) + (0) ≤ 4 * nn := by omega
  have ks41 : (24 * nn) + (0) ≤ 24 * nn := by omega
  refine z_calli (wr := [(ea, .inl (cO, cap, .inr (.inr (.inr (.inr fe))))), (jj, .inr (7, [.ref ((e.2.2.1 0)), .ref ((e.2.2.1 0)), .ref ((e.2.2.1 0)), .ref al, .null])), (al, .inr (2, [.int (nI mo), .ref ea, .int (nI nn)]))]) (va_runV (As := []) (rest := [.int (nI 0)]) ⟨hx, hb, hml, hown, hts⟩ (c_slen l D N0 e H.size (zw H) ((e.2.2.1 0)) ((e.2.2.2 0)) 0 (by decide)) (cwV 0 hts gX4_with_J0_length_8abf5 rfl rfl rfl (by decide +kernel) ⟨Nat.le_of_ble_eq_true rfl, Nat.le_of_ble_eq_true rfl⟩) ⟨zP.blind, (zrecv (zkst hG 0 (by decide) hS hAN)), (z_pre hK hP hD hS hAN hN hG [] (by decide) rfl [] rfl (List.forall_mem_cons.mpr ⟨((zkst hG 0 (by decide) hS hAN).wall (z_low (hG.2.2.2.2.1 0 (by decide)).na hFN) (z_low (hG.2.2.2.2.1 0 (by decide)).nv hFN)), fun q hq => absurd hq List.not_mem_nil⟩))⟩ rfl rfl hl.1 rfl (lv_room (Nat.le_of_ble_eq_true rfl)) dX4_with_43 ⟨kc40, ks41⟩) hK hP hD hS hA [] rfl [0, 1, 2] rfl (by decide) (by decide) (fun r43 u t H locs ht hvm hw_c42 hY_c42 hz_c42 hm_c42 hk_c42 hK hP hD hS => ?_)
  have hP : va_P D vwCl [(ea, .inl (cO, cap, .inr (.inr (.inr (.inr fe))))), (jj, .inr (7, [.ref ((e.2.2.1 0)), .ref ((e.2.2.1 0)), .ref ((e.2.2.1 0)), .ref al, .null])), (al, .inr (2, [.int (nI mo), .ref ea, .int (nI nn)]))] H := hP
  have hD : va_D A [(ea, .inl (cO, cap, .inr (.inr (.inr (.inr fe))))), (jj, .inr (7, [.ref ((e.2.2.1 0)), .ref ((e.2.2.1 0)), .ref ((e.2.2.1 0)), .ref al, .null])), (al, .inr (2, [.int (nI mo), .ref ea, .int (nI nn)]))] := hD
  have hK : va_K D vwCl [(cO, .object "java/lang/Object")] s := hK
  have hs44 := hS.1
  refine W.widen (k := (4 * nn)) (n := (24 * nn)) (by omega) (by omega) ?_
  subst hw_c42
  refine lv_iadd hx hb dX4_with_46 ?_
  refine lv_topi (fun t45 et45 => ?_)
  replace et45 := et45.trans (show ((nI 0) + (nI 0)) = (nI 0) from by decide)
  subst et45
  refine W.widen (k := (4 * nn)) (n := (24 * nn)) (by omega) (by omega) ?_
  have hz0 := hS.1
  have lt0 := (hP 0 _ rfl).lt
  dsimp only at lt0
  have lt1 := (hP 1 _ rfl).lt
  dsimp only at lt1
  have lt2 := (hP 2 _ rfl).lt
  dsimp only at lt2
  exact z_reti (v := (nI 0)) () hx hb hr (by first | rfl | decide) hlocks rfl hK [] rfl hP hD hS [1, 2, 0] (by decide) rfl (by omega) (by omega) (fun _ _ _ => trivial) dX4_with_47
set_option maxRecDepth 100000 in
set_option maxHeartbeats 4000000 in
/-- with(""), without pieces -/
theorem c_with0 (l : Launch) (D : va_G) (N0 : Nat) (e : zE) (sz mz : Nat) (jj : Nat) (al : Nat) (mo : Nat)  : Met l yX4_with wsX4_with ({ frames := 2, cells := 0, slots := 0, locals := 42 }) (va_Pc [.ref jj, .ref ((e.2.2.1 0))] (zP N0 e D [] [(jj, .inr (7, [.ref ((e.2.2.1 0)), .ref ((e.2.2.1 0)), .ref ((e.2.2.1 0)), .ref al, .null])), (al, .inr (2, [.int (nI mo), .ref e.1, .int (nI 0)]))] sz mz [])) (zQi (fun (r : Int32) (_ : Unit) => r = (nI 0)) D (fun (_ : Unit) => ([(jj, .inr (7, [.ref ((e.2.2.1 0)), .ref ((e.2.2.1 0)), .ref ((e.2.2.1 0)), .ref al, .null])), (al, .inr (2, [.int (nI mo), .ref e.1, .int (nI 0)]))] : va_W)) (fun (_ : Unit) => ([] : List (ClassId × FieldType))) sz (0) mz (0) (fun (_ : Unit) (t : State) => True) (va_A [(jj, .inr (7, [.ref ((e.2.2.1 0)), .ref ((e.2.2.1 0)), .ref ((e.2.2.1 0)), .ref al, .null])), (al, .inr (2, [.int (nI mo), .ref e.1, .int (nI 0)]))] sz)) (0) (0) (va_A [(jj, .inr (7, [.ref ((e.2.2.1 0)), .ref ((e.2.2.1 0)), .ref ((e.2.2.1 0)), .ref al, .null])), (al, .inr (2, [.int (nI mo), .ref e.1, .int (nI 0)]))] sz) := by
  refine z_met (Qc := fun A => zQi (fun (r : Int32) (_ : Unit) => r = (nI 0)) D (fun (_ : Unit) => ([(jj, .inr (7, [.ref ((e.2.2.1 0)), .ref ((e.2.2.1 0)), .ref ((e.2.2.1 0)), .ref al, .null])), (al, .inr (2, [.int (nI mo), .ref e.1, .int (nI 0)]))] : va_W)) (fun (_ : Unit) => ([] : List (ClassId × FieldType))) sz (0) mz (0) (fun (_ : Unit) (t : State) => True) A) (cc := cX4_with) (maxL := 2) (ret := (some .int)) RX4 rfl (by decide) rfl (Nat.le_of_ble_eq_true rfl) ?_
  intro p ev s m below meth c ls A hx hb hr hml hown hts hlocks hnm hsz hmz hN hAe hA hAN hS hP hK hD hG hL hl
  subst hsz
  subst hmz
  have hl : lv_has ls 2 [(0, .ref jj), (1, .ref ((e.2.2.1 0)))] := hl
  refine lv_aload_n hx hb dX4_with_0 rfl (lv_at hl 0 rfl) ?_
  refine va_get (D := D) (ci := 7) (v := .ref ((e.2.2.1 0))) (C := RX4) (T := TX4) (N := 5) hx hb hts (by decide +kernel) hown hK hP 0 rfl rfl 1 (by decide) (hts (.fieldLink RX4 17 "JoinrowModel$Joiner" "prefix" "Ljava/lang/String;") (by decide +kernel)) (fun _ h9 => h9) rfl dX4_with_1 ?_
  have hFc := va_free (wc := []) hD hS hA [] rfl
  have hFN : ∀ q, va_A [] s.heap.size q → N0 ≤ q := fun q hq => hAN q (hFc q hq)
  have kc1 : 0 + (0) ≤ 0 := by omega
  have ks2 : 0 + (0) ≤ 0 := by omega
  refine z_calli (wr := [(jj, .inr (7, [.ref ((e.2.2.1 0)), .ref ((e.2.2.1 0)), .ref ((e.2.2.1 0)), .ref al, .null])), (al, .inr (2, [.int (nI mo), .ref e.1, .int (nI 0)]))]) (va_runV (As := []) (rest := []) ⟨hx, hb, hml, hown, hts⟩ (c_slen l D N0 e s.heap.size (zw s.heap) ((e.2.2.1 0)) ((e.2.2.2 0)) 0 (by decide)) (cwV 0 hts gX4_with_J0_length_8abf5 rfl rfl rfl (by decide +kernel) ⟨Nat.le_of_ble_eq_true rfl, Nat.le_of_ble_eq_true rfl⟩) ⟨zP.blind, (zrecv (zkst hG 0 (by decide) hS hAN)), (z_pre hK hP hD hS hAN hN hG [] (by decide) rfl [] rfl (List.forall_mem_cons.mpr ⟨((zkst hG 0 (by decide) hS hAN).wall (z_low (hG.2.2.2.2.1 0 (by decide)).na hFN) (z_low (hG.2.2.2.2.1 0 (by decide)).nv hFN)), fun q hq => absurd hq List.not_mem_nil⟩))⟩ rfl rfl hl.1 rfl (lv_room (Nat.le_of_ble_eq_true rfl)) dX4_with_4 ⟨kc1, ks2⟩) hK hP hD hS hA [] rfl [0, 1] rfl (by decide) (by decide) (fun r4 u t H locs ht hvm hw_c3 hY_c3 hz_c3 hm_c3 hk_c3 hK hP hD hS => ?_)
  have hP : va_P D vwCl [(jj, .inr (7, [.ref ((e.2.2.1 0)), .ref ((e.2.2.1 0)), .ref ((e.2.2.1 0)), .ref al, .null])), (al, .inr (2, [.int (nI mo), .ref e.1, .int (nI 0)]))] H := hP
  have hD : va_D A [(jj, .inr (7, [.ref ((e.2.2.1 0)), .ref ((e.2.2.1 0)), .ref ((e.2.2.1 0)), .ref al, .null])), (al, .inr (2, [.int (nI mo), .ref e.1, .int (nI 0)]))] := hD
  have hK : va_K D vwCl [] s := hK
  have hs5 := hS.1
  refine W.widen (k := 0) (n := 0) (by omega) (by omega) ?_
  subst hw_c3
  refine lv_aload_n hx hb dX4_with_7 rfl (lv_at hl 0 rfl) ?_
  have hFc := va_free (wc := [(jj, .inr (7, [.ref ((e.2.2.1 0)), .ref ((e.2.2.1 0)), .ref ((e.2.2.1 0)), .ref al, .null])), (al, .inr (2, [.int (nI mo), .ref e.1, .int (nI 0)]))]) hD hS hA [0, 1] rfl
  have kc6 : 0 + (0) ≤ 0 := by omega
  have ks7 : 0 + (0) ≤ 0 := by omega
  refine z_callr (wr := []) (va_runV (As := []) (rest := [.int (nI 0)]) ⟨hx, hb, hml, hown, hts⟩ (c_ins0 l D N0 e H.size (zw H) jj ((e.2.2.1 0)) ((e.2.2.1 0)) ((e.2.2.1 0)) al mo ) (cwV 0 hts gX4_with_X4_inside rfl rfl rfl (by decide +kernel) ⟨Nat.le_of_ble_eq_true rfl, Nat.le_of_ble_eq_true rfl⟩) ⟨zP.blind, (va_recv hK hP (ci := 7) (q0 := 0) rfl rfl), (z_pre hK hP hD hS hAN hN hG [0, 1] (by decide) rfl [] rfl (fun q hq => absurd hq List.not_mem_nil))⟩ rfl rfl hl.1 rfl (lv_room (Nat.le_of_ble_eq_true rfl)) dX4_with_8 ⟨kc6, ks7⟩) hK hP hD hS hA [0, 1] rfl [] rfl (by decide) (by decide) (fun u r9 t H locs ht hvm hw_c8 hY_c8 hz_c8 hm_c8 hk_c8 hK hP hD hS => ?_)
  have hP : va_P D vwCl [(jj, .inr (7, [.ref ((e.2.2.1 0)), .ref ((e.2.2.1 0)), .ref ((e.2.2.1 0)), .ref al, .null])), (al, .inr (2, [.int (nI mo), .ref e.1, .int (nI 0)]))] H := hP
  have hD : va_D A [(jj, .inr (7, [.ref ((e.2.2.1 0)), .ref ((e.2.2.1 0)), .ref ((e.2.2.1 0)), .ref al, .null])), (al, .inr (2, [.int (nI mo), .ref e.1, .int (nI 0)]))] := hD
  have hK : va_K D vwCl [] s := hK
  have hs10 := hS.1
  refine W.widen (k := 0) (n := 0) (by omega) (by omega) ?_
  obtain rfl : (e.2.2.1 0) = r9 := Eq.symm hw_c8
  have hFc := va_free (wc := []) hD hS hA [] rfl
  have hFN : ∀ q, va_A [] H.size q → N0 ≤ q := fun q hq => hAN q (hFc q hq)
  have kc11 : 0 + (0) ≤ 0 := by omega
  have ks12 : 0 + (0) ≤ 0 := by omega
  refine z_calli (wr := [(jj, .inr (7, [.ref ((e.2.2.1 0)), .ref ((e.2.2.1 0)), .ref ((e.2.2.1 0)), .ref al, .null])), (al, .inr (2, [.int (nI mo), .ref e.1, .int (nI 0)]))]) (va_runV (As := []) (rest := [.int (nI 0)]) ⟨hx, hb, hml, hown, hts⟩ (c_slen l D N0 e H.size (zw H) ((e.2.2.1 0)) ((e.2.2.2 0)) 0 (by decide)) (cwV 0 hts gX4_with_J0_length_8abf5 rfl rfl rfl (by decide +kernel) ⟨Nat.le_of_ble_eq_true rfl, Nat.le_of_ble_eq_true rfl⟩) ⟨zP.blind, (zrecv (zkst hG 0 (by decide) hS hAN)), (z_pre hK hP hD hS hAN hN hG [] (by decide) rfl [] rfl (List.forall_mem_cons.mpr ⟨((zkst hG 0 (by decide) hS hAN).wall (z_low (hG.2.2.2.2.1 0 (by decide)).na hFN) (z_low (hG.2.2.2.2.1 0 (by decide)).nv hFN)), fun q hq => absurd hq List.not_mem_nil⟩))⟩ rfl rfl hl.1 rfl (lv_room (Nat.le_of_ble_eq_true rfl)) dX4_with_11 ⟨kc11, ks12⟩) hK hP hD hS hA [] rfl [0, 1] rfl (by decide) (by decide) (fun r14 u t H locs ht hvm hw_c13 hY_c13 hz_c13 hm_c13 hk_c13 hK hP hD hS => ?_)
  have hP : va_P D vwCl [(jj, .inr (7, [.ref ((e.2.2.1 0)), .ref ((e.2.2.1 0)), .ref ((e.2.2.1 0)), .ref al, .null])), (al, .inr (2, [.int (nI mo), .ref e.1, .int (nI 0)]))] H := hP
  have hD : va_D A [(jj, .inr (7, [.ref ((e.2.2.1 0)), .ref ((e.2.2.1 0)), .ref ((e.2.2.1 0)), .ref al, .null])), (al, .inr (2, [.int (nI mo), .ref e.1, .int (nI 0)]))] := hD
  have hK : va_K D vwCl [] s := hK
  have hs15 := hS.1
  refine W.widen (k := 0) (n := 0) (by omega) (by omega) ?_
  subst hw_c13
  refine lv_iadd hx hb dX4_with_14 ?_
  refine lv_topi (fun t16 et16 => ?_)
  replace et16 := et16.trans (show ((nI 0) + (nI 0)) = (nI 0) from by decide)
  subst et16
  refine lv_aload_n hx hb dX4_with_15 rfl (lv_at hl 0 rfl) ?_
  have hFc := va_free (wc := [(jj, .inr (7, [.ref ((e.2.2.1 0)), .ref ((e.2.2.1 0)), .ref ((e.2.2.1 0)), .ref al, .null])), (al, .inr (2, [.int (nI mo), .ref e.1, .int (nI 0)]))]) hD hS hA [0, 1] rfl
  have kc17 : 0 + (0) ≤ 0 := by omega
  have ks18 : 0 + (0) ≤ 0 := by omega
  refine z_calli (wr := []) (va_runV (As := []) (rest := [.int (nI 0)]) ⟨hx, hb, hml, hown, hts⟩ (c_isF0 l D N0 e H.size (zw H) jj ((e.2.2.1 0)) ((e.2.2.1 0)) ((e.2.2.1 0)) al mo ) (cwV 0 hts gX4_with_X4_isFilled rfl rfl rfl (by decide +kernel) ⟨Nat.le_of_ble_eq_true rfl, Nat.le_of_ble_eq_true rfl⟩) ⟨zP.blind, (va_recv hK hP (ci := 7) (q0 := 0) rfl rfl), (z_pre hK hP hD hS hAN hN hG [0, 1] (by decide) rfl [] rfl (fun q hq => absurd hq List.not_mem_nil))⟩ rfl rfl hl.1 rfl (lv_room (Nat.le_of_ble_eq_true rfl)) dX4_with_16 ⟨kc17, ks18⟩) hK hP hD hS hA [0, 1] rfl [] rfl (by decide) (by decide) (fun r20 u t H locs ht hvm hw_c19 hY_c19 hz_c19 hm_c19 hk_c19 hK hP hD hS => ?_)
  have hP : va_P D vwCl [(jj, .inr (7, [.ref ((e.2.2.1 0)), .ref ((e.2.2.1 0)), .ref ((e.2.2.1 0)), .ref al, .null])), (al, .inr (2, [.int (nI mo), .ref e.1, .int (nI 0)]))] H := hP
  have hD : va_D A [(jj, .inr (7, [.ref ((e.2.2.1 0)), .ref ((e.2.2.1 0)), .ref ((e.2.2.1 0)), .ref al, .null])), (al, .inr (2, [.int (nI mo), .ref e.1, .int (nI 0)]))] := hD
  have hK : va_K D vwCl [] s := hK
  have hs21 := hS.1
  refine W.widen (k := 0) (n := 0) (by omega) (by omega) ?_
  subst hw_c19
  refine lv_if_eq (tgt := 32) hx hb dX4_with_19 (by decide) (fun _ => ?_) (fun hq => absurd (show (nI 0) = (nI 0) from (nI_eq (by omega) (by omega)).mpr (by omega)) hq)
  refine lv_iconst (v := (nI 0)) hx hb dX4_with_32 (by decide) ?_
  refine lv_iadd hx hb dX4_with_33 ?_
  refine lv_topi (fun t22 et22 => ?_)
  replace et22 := et22.trans (show ((nI 0) + (nI 0)) = (nI 0) from by decide)
  subst et22
  refine lv_aload_n hx hb dX4_with_34 rfl (lv_at hl 1 rfl) ?_
  have hFc := va_free (wc := []) hD hS hA [] rfl
  have hFN : ∀ q, va_A [] H.size q → N0 ≤ q := fun q hq => hAN q (hFc q hq)
  have kc23 : 0 + (0) ≤ 0 := by omega
  have ks24 : 0 + (0) ≤ 0 := by omega
  refine z_calli (wr := [(jj, .inr (7, [.ref ((e.2.2.1 0)), .ref ((e.2.2.1 0)), .ref ((e.2.2.1 0)), .ref al, .null])), (al, .inr (2, [.int (nI mo), .ref e.1, .int (nI 0)]))]) (va_runV (As := []) (rest := [.int (nI 0)]) ⟨hx, hb, hml, hown, hts⟩ (c_slen l D N0 e H.size (zw H) ((e.2.2.1 0)) ((e.2.2.2 0)) 0 (by decide)) (cwV 0 hts gX4_with_J0_length_8abf5 rfl rfl rfl (by decide +kernel) ⟨Nat.le_of_ble_eq_true rfl, Nat.le_of_ble_eq_true rfl⟩) ⟨zP.blind, (zrecv (zkst hG 0 (by decide) hS hAN)), (z_pre hK hP hD hS hAN hN hG [] (by decide) rfl [] rfl (List.forall_mem_cons.mpr ⟨((zkst hG 0 (by decide) hS hAN).wall (z_low (hG.2.2.2.2.1 0 (by decide)).na hFN) (z_low (hG.2.2.2.2.1 0 (by decide)).nv hFN)), fun q hq => absurd hq List.not_mem_nil⟩))⟩ rfl rfl hl.1 rfl (lv_room (Nat.le_of_ble_eq_true rfl)) dX4_with_35 ⟨kc23, ks24⟩) hK hP hD hS hA [] rfl [0, 1] rfl (by decide) (by decide) (fun r26 u t H locs ht hvm hw_c25 hY_c25 hz_c25 hm_c25 hk_c25 hK hP hD hS => ?_)
  have hP : va_P D vwCl [(jj, .inr (7, [.ref ((e.2.2.1 0)), .ref ((e.2.2.1 0)), .ref ((e.2.2.1 0)), .ref al, .null])), (al, .inr (2, [.int (nI mo), .ref e.1, .int (nI 0)]))] H := hP
  have hD : va_D A [(jj, .inr (7, [.ref ((e.2.2.1 0)), .ref ((e.2.2.1 0)), .ref ((e.2.2.1 0)), .ref al, .null])), (al, .inr (2, [.int (nI mo), .ref e.1, .int (nI 0)]))] := hD
  have hK : va_K D vwCl [] s := hK
  have hs27 := hS.1
  refine W.widen (k := 0) (n := 0) (by omega) (by omega) ?_
  subst hw_c25
  refine lv_iadd hx hb dX4_with_38 ?_
  refine lv_topi (fun t28 et28 => ?_)
  replace et28 := et28.trans (show ((nI 0) + (nI 0)) = (nI 0) from by decide)
  subst et28
  refine lv_aload_n hx hb dX4_with_39 rfl (lv_at hl 0 rfl) ?_
  refine va_get (D := D) (ci := 7) (v := .ref ((e.2.2.1 0))) (C := RX4) (T := TX4) (N := 5) hx hb hts (by decide +kernel) hown hK hP 0 rfl rfl 2 (by decide) (hts (.fieldLink RX4 22 "JoinrowModel$Joiner" "suffix" "Ljava/lang/String;") (by decide +kernel)) (fun _ h9 => h9) rfl dX4_with_40 ?_
  have hFc := va_free (wc := []) hD hS hA [] rfl
  have hFN : ∀ q, va_A [] H.size q → N0 ≤ q := fun q hq => hAN q (hFc q hq)
  have kc29 : 0 + (0) ≤ 0 := by omega
  have ks30 : 0 + (0) ≤ 0 := by omega
  refine z_calli (wr := [(jj, .inr (7, [.ref ((e.2.2.1 0)), .ref ((e.2.2.1 0)), .ref ((e.2.2.1 0)), .ref al, .null])), (al, .inr (2, [.int (nI mo), .ref e.1, .int (nI 0)]))]) (va_runV (As := []) (rest := [.int (nI 0)]) ⟨hx, hb, hml, hown, hts⟩ (c_slen l D N0 e H.size (zw H) ((e.2.2.1 0)) ((e.2.2.2 0)) 0 (by decide)) (cwV 0 hts gX4_with_J0_length_8abf5 rfl rfl rfl (by decide +kernel) ⟨Nat.le_of_ble_eq_true rfl, Nat.le_of_ble_eq_true rfl⟩) ⟨zP.blind, (zrecv (zkst hG 0 (by decide) hS hAN)), (z_pre hK hP hD hS hAN hN hG [] (by decide) rfl [] rfl (List.forall_mem_cons.mpr ⟨((zkst hG 0 (by decide) hS hAN).wall (z_low (hG.2.2.2.2.1 0 (by decide)).na hFN) (z_low (hG.2.2.2.2.1 0 (by decide)).nv hFN)), fun q hq => absurd hq List.not_mem_nil⟩))⟩ rfl rfl hl.1 rfl (lv_room (Nat.le_of_ble_eq_true rfl)) dX4_with_43 ⟨kc29, ks30⟩) hK hP hD hS hA [] rfl [0, 1] rfl (by decide) (by decide) (fun r32 u t H locs ht hvm hw_c31 hY_c31 hz_c31 hm_c31 hk_c31 hK hP hD hS => ?_)
  have hP : va_P D vwCl [(jj, .inr (7, [.ref ((e.2.2.1 0)), .ref ((e.2.2.1 0)), .ref ((e.2.2.1 0)), .ref al, .null])), (al, .inr (2, [.int (nI mo), .ref e.1, .int (nI 0)]))] H := hP
  have hD : va_D A [(jj, .inr (7, [.ref ((e.2.2.1 0)), .ref ((e.2.2.1 0)), .ref ((e.2.2.1 0)), .ref al, .null])), (al, .inr (2, [.int (nI mo), .ref e.1, .int (nI 0)]))] := hD
  have hK : va_K D vwCl [] s := hK
  have hs33 := hS.1
  refine W.widen (k := 0) (n := 0) (by omega) (by omega) ?_
  subst hw_c31
  refine lv_iadd hx hb dX4_with_46 ?_
  refine lv_topi (fun t34 et34 => ?_)
  replace et34 := et34.trans (show ((nI 0) + (nI 0)) = (nI 0) from by decide)
  subst et34
  have hz0 := hS.1
  refine z_keepW (fun hkp => ?_)
  exact z_reti (v := (nI 0)) () hx hb hr (by first | rfl | decide) hlocks rfl hK [] rfl hP hD hS [0, 1] (by decide) rfl (by omega) (zw_keep hkp) (fun _ _ _ => trivial) dX4_with_47
set_option maxRecDepth 100000 in
set_option maxHeartbeats 4000000 in
/-- isNo(0) -/
theorem c_isNo (l : Launch) (D : va_G) (N0 : Nat) (e : zE) (sz mz : Nat)   : Met l yX5_isNo wsX5_isNo ({ frames := 0, cells := 0, slots := 0, locals := 0 }) (va_Pc [.int (nI 0)] (zP N0 e D [] [] sz mz [])) (zQi (fun (r : Int32) (_ : Unit) => r = (nI 0)) D (fun (_ : Unit) => ([] : va_W)) (fun (_ : Unit) => ([] : List (ClassId × FieldType))) sz (0) mz (0) (fun (_ : Unit) (t : State) => True) (va_A [] sz)) (0) (0) (va_A [] sz) := by
  refine z_met (Qc := fun A => zQi (fun (r : Int32) (_ : Unit) => r = (nI 0)) D (fun (_ : Unit) => ([] : va_W)) (fun (_ : Unit) => ([] : List (ClassId × FieldType))) sz (0) mz (0) (fun (_ : Unit) (t : State) => True) A) (cc := cX5_isNo) (maxL := 1) (ret := (some .boolean)) RX5 rfl (by decide) rfl (Nat.le_of_ble_eq_true rfl) ?_
  intro p ev s m below meth c ls A hx hb hr hml hown hts hlocks hnm hsz hmz hN hAe hA hAN hS hP hK hD hG hL hl
  subst hsz
  subst hmz
  have hl : lv_has ls 1 [(0, .int (nI 0))] := hl
  refine lv_iload_n hx hb dX5_isNo_0 rfl (lv_at hl 0 rfl) ?_
  refine lv_if_lt (tgt := 10) hx hb dX5_isNo_1 (by decide) (fun hq => absurd hq (show ¬ ((nI 0) < (nI 0)) from fun hq => absurd ((nI_ltI (by omega) (by omega)).mp hq) (by omega))) (fun _ => ?_)
  refine lv_iload_n hx hb dX5_isNo_4 rfl (lv_at hl 0 rfl) ?_
  refine lv_bipush (v := (nI 6)) hx hb dX5_isNo_5 (by decide) ?_
  refine lv_icmp_lt (tgt := 14) hx hb dX5_isNo_7 (by decide) (fun _ => ?_) (fun hq => absurd (show (nI 0) < (nI 6) from (nI_ltI (by omega) (by omega)).mpr (by omega)) hq)
  refine lv_iconst (v := (nI 0)) hx hb dX5_isNo_14 (by decide) ?_
  have hz0 := hS.1
  refine z_keepW (fun hkp => ?_)
  exact z_reti (v := (nI 0)) () hx hb hr (by first | rfl | decide) hlocks rfl hK [] rfl hP hD hS [] (by decide) rfl (by omega) (zw_keep hkp) (fun _ _ _ => trivial) dX5_isNo_15
set_option maxRecDepth 100000 in
set_option maxHeartbeats 4000000 in
/-- isNoWord(0) -/
theorem c_isNoW (l : Launch) (D : va_G) (N0 : Nat) (e : zE) (sz mz : Nat)   : Met l yX5_isNoWord wsX5_isNoWord ({ frames := 0, cells := 0, slots := 0, locals := 0 }) (va_Pc [.int (nI 0)] (zP N0 e D [] [] sz mz [])) (zQi (fun (r : Int32) (_ : Unit) => r = (nI 0)) D (fun (_ : Unit) => ([] : va_W)) (fun (_ : Unit) => ([] : List (ClassId × FieldType))) sz (0) mz (0) (fun (_ : Unit) (t : State) => True) (va_A [] sz)) (0) (0) (va_A [] sz) := by
  refine z_met (Qc := fun A => zQi (fun (r : Int32) (_ : Unit) => r = (nI 0)) D (fun (_ : Unit) => ([] : va_W)) (fun (_ : Unit) => ([] : List (ClassId × FieldType))) sz (0) mz (0) (fun (_ : Unit) (t : State) => True) A) (cc := cX5_isNoWord) (maxL := 1) (ret := (some .boolean)) RX5 rfl (by decide) rfl (Nat.le_of_ble_eq_true rfl) ?_
  intro p ev s m below meth c ls A hx hb hr hml hown hts hlocks hnm hsz hmz hN hAe hA hAN hS hP hK hD hG hL hl
  subst hsz
  subst hmz
  have hl : lv_has ls 1 [(0, .int (nI 0))] := hl
  refine lv_iload_n hx hb dX5_isNoWord_0 rfl (lv_at hl 0 rfl) ?_
  refine lv_if_lt (tgt := 10) hx hb dX5_isNoWord_1 (by decide) (fun hq => absurd hq (show ¬ ((nI 0) < (nI 0)) from fun hq => absurd ((nI_ltI (by omega) (by omega)).mp hq) (by omega))) (fun _ => ?_)
  refine lv_iload_n hx hb dX5_isNoWord_4 rfl (lv_at hl 0 rfl) ?_
  refine lv_bipush (v := (nI 70)) hx hb dX5_isNoWord_5 (by decide) ?_
  refine lv_icmp_lt (tgt := 14) hx hb dX5_isNoWord_7 (by decide) (fun _ => ?_) (fun hq => absurd (show (nI 0) < (nI 70) from (nI_ltI (by omega) (by omega)).mpr (by omega)) hq)
  refine lv_iconst (v := (nI 0)) hx hb dX5_isNoWord_14 (by decide) ?_
  have hz0 := hS.1
  refine z_keepW (fun hkp => ?_)
  exact z_reti (v := (nI 0)) () hx hb hr (by first | rfl | decide) hlocks rfl hK [] rfl hP hD hS [] (by decide) rfl (by omega) (zw_keep hkp) (fun _ _ _ => trivial) dX5_isNoWord_15
set_option maxRecDepth 100000 in
set_option maxHeartbeats 4000000 in
/-- fails(false, false, false) -/
theorem c_fails (l : Launch) (D : va_G) (N0 : Nat) (e : zE) (sz mz : Nat) (mm : Nat) (aa : Nat) (kn : Nat) (rf : Nat)  : Met l yX5_fails wsX5_fails ({ frames := 0, cells := 0, slots := 0, locals := 0 }) (va_Pc [.ref mm, .int (nI 0), .int (nI 0), .int (nI 0)] (zP N0 e D [] [(mm, .inr (8, [.int (nI 0), .ref aa, .int (nI kn), .int (nI rf)]))] sz mz [])) (zQi (fun (r : Int32) (_ : Unit) => r = (nI 0)) D (fun (_ : Unit) => ([(mm, .inr (8, [.int (nI 0), .ref aa, .int (nI kn), .int (nI rf)]))] : va_W)) (fun (_ : Unit) => ([] : List (ClassId × FieldType))) sz (0) mz (0) (fun (_ : Unit) (t : State) => True) (va_A [(mm, .inr (8, [.int (nI 0), .ref aa, .int (nI kn), .int (nI rf)]))] sz)) (0) (0) (va_A [(mm, .inr (8, [.int (nI 0), .ref aa, .int (nI kn), .int (nI rf)]))] sz) := by
  refine z_met (Qc := fun A => zQi (fun (r : Int32) (_ : Unit) => r = (nI 0)) D (fun (_ : Unit) => ([(mm, .inr (8, [.int (nI 0), .ref aa, .int (nI kn), .int (nI rf)]))] : va_W)) (fun (_ : Unit) => ([] : List (ClassId × FieldType))) sz (0) mz (0) (fun (_ : Unit) (t : State) => True) A) (cc := cX5_fails) (maxL := 4) (ret := (some .boolean)) RX5 rfl (by decide) rfl (Nat.le_of_ble_eq_true rfl) ?_
  intro p ev s m below meth c ls A hx hb hr hml hown hts hlocks hnm hsz hmz hN hAe hA hAN hS hP hK hD hG hL hl
  subst hsz
  subst hmz
  have hl : lv_has ls 4 [(0, .ref mm), (1, .int (nI 0)), (2, .int (nI 0)), (3, .int (nI 0))] := hl
  refine lv_aload_n hx hb dX5_fails_0 rfl (lv_at hl 0 rfl) ?_
  refine lv_iload_n hx hb dX5_fails_1 rfl (lv_at hl 1 rfl) ?_
  refine lv_if_eq (tgt := 9) hx hb dX5_fails_2 (by decide) (fun _ => ?_) (fun hq => absurd (show (nI 0) = (nI 0) from (nI_eq (by omega) (by omega)).mpr (by omega)) hq)
  refine lv_iload_n hx hb dX5_fails_9 rfl (lv_at hl 2 rfl) ?_
  refine lv_if_eq (tgt := 17) hx hb dX5_fails_10 (by decide) (fun _ => ?_) (fun hq => absurd (show (nI 0) = (nI 0) from (nI_eq (by omega) (by omega)).mpr (by omega)) hq)
  refine lv_iload_n hx hb dX5_fails_17 rfl (lv_at hl 3 rfl) ?_
  refine lv_if_eq (tgt := 25) hx hb dX5_fails_18 (by decide) (fun _ => ?_) (fun hq => absurd (show (nI 0) = (nI 0) from (nI_eq (by omega) (by omega)).mpr (by omega)) hq)
  refine lv_iconst (v := (nI 0)) hx hb dX5_fails_25 (by decide) ?_
  refine va_put (D := D) (ci := 8) (v := .int (nI 0)) (ty := .int) (C := RX5) (T := TX5) (N := 4) hx hb hts (by decide +kernel) tyX5 tyX5_ok nmX5 hown hK hP hD hS 0 rfl rfl 0 (by decide) (hts (.fieldLink RX5 24 "JoinrowModel" "thrown" "I") (by decide +kernel)) (fun _ h9 => h9) rfl (by decide +kernel) rfl rfl (Nat.le_of_ble_eq_true rfl) dX5_fails_26 (fun H locs hP hD hS => ?_)
  have hP : va_P D vwCl [(mm, .inr (8, [.int (nI 0), .ref aa, .int (nI kn), .int (nI rf)]))] H := hP
  have hD : va_D A [(mm, .inr (8, [.int (nI 0), .ref aa, .int (nI kn), .int (nI rf)]))] := hD
  have hs1 := hS.1
  refine lv_aload_n hx hb dX5_fails_29 rfl (lv_at hl 0 rfl) ?_
  refine va_get (D := D) (ci := 8) (v := .int (nI 0)) (C := RX5) (T := TX5) (N := 4) hx hb hts (by decide +kernel) hown hK hP 0 rfl rfl 0 (by decide) (hts (.fieldLink RX5 24 "JoinrowModel" "thrown" "I") (by decide +kernel)) (fun _ h9 => h9) rfl dX5_fails_30 ?_
  refine lv_if_le (tgt := 40) hx hb dX5_fails_33 (by decide) (fun _ => ?_) (fun hq => absurd (show (nI 0) ≤ (nI 0) from (nI_leI (by omega) (by omega)).mpr (by omega)) hq)
  refine lv_iconst (v := (nI 0)) hx hb dX5_fails_40 (by decide) ?_
  have hz0 := hS.1
  refine z_keepW (fun hkp => ?_)
  exact z_reti (v := (nI 0)) () hx hb hr (by first | rfl | decide) hlocks rfl hK [] rfl hP hD hS [0] (by decide) rfl (by omega) (zw_keep hkp) (fun _ _ _ => trivial) dX5_fails_41
set_option maxRecDepth 100000 in
set_option maxHeartbeats 4000000 in
/-- wordOf(0): the empty text -/
theorem c_wordOf (l : Launch) (D : va_G) (N0 : Nat) (e : zE) (sz mz : Nat)   : Met l yX5_wordOf wsX5_wordOf ({ frames := 0, cells := 0, slots := 0, locals := 0 }) (va_Pc [.int (nI 0)] (zP N0 e D [] [] sz mz [])) (zQr (fun (_ : Unit) (ra : Nat) => ra = (e.2.2.1 0)) D (fun (_ : Unit) => ([] : va_W)) (fun (_ : Unit) => ([] : List (ClassId × FieldType))) sz (0) mz (0) (fun (_ : Unit) (t : State) => True) (va_A [] sz)) (0) (0) (va_A [] sz) := by
  refine z_met (Qc := fun A => zQr (fun (_ : Unit) (ra : Nat) => ra = (e.2.2.1 0)) D (fun (_ : Unit) => ([] : va_W)) (fun (_ : Unit) => ([] : List (ClassId × FieldType))) sz (0) mz (0) (fun (_ : Unit) (t : State) => True) A) (cc := cX5_wordOf) (maxL := 3) (ret := (some (.object "java/lang/String"))) RX5 rfl (by decide) rfl (Nat.le_of_ble_eq_true rfl) ?_
  intro p ev s m below meth c ls A hx hb hr hml hown hts hlocks hnm hsz hmz hN hAe hA hAN hS hP hK hD hG hL hl
  subst hsz
  subst hmz
  have hl : lv_has ls 3 [(0, .int (nI 0))] := hl
  refine lv_iload_n hx hb dX5_wordOf_0 rfl (lv_at hl 0 rfl) ?_
  refine lv_bipush (v := (nI 59)) hx hb dX5_wordOf_1 (by decide) ?_
  refine lv_icmp_le (tgt := 15) hx hb dX5_wordOf_3 (by decide) (fun _ => ?_) (fun hq => absurd (show (nI 0) ≤ (nI 59) from (nI_leI (by omega) (by omega)).mpr (by omega)) hq)
  refine va_ldcS hx hb hown (hG.2.2.2.2.2.1 ("JoinrowModel", 32, "", 0) (by simp)) dX5_wordOf_15 ?_
  refine lv_astore_n (lv' := [(1, .ref ((e.2.2.1 0))), (0, .int (nI 0))]) hx hb dX5_wordOf_17 rfl hl (by decide) rfl (fun ls hl => ?_)
  refine lv_iconst (v := (nI 0)) hx hb dX5_wordOf_18 (by decide) ?_
  refine lv_istore_n (lv' := [(2, .int (nI 0)), (1, .ref ((e.2.2.1 0))), (0, .int (nI 0))]) hx hb dX5_wordOf_19 rfl hl (by decide) rfl (fun ls hl => ?_)
  refine lv_iload_n hx hb dX5_wordOf_20 rfl (lv_at hl 0 rfl) ?_
  refine lv_iload_n hx hb dX5_wordOf_21 rfl (lv_at hl 2 rfl) ?_
  refine lv_iconst (v := (nI 4)) hx hb dX5_wordOf_22 (by decide) ?_
  refine lv_irem hx hb dX5_wordOf_23 (by decide) ?_
  refine lv_topi (fun t1 et1 => ?_)
  replace et1 := et1.trans (show ((nI 0) - (nI 0) / (nI 4) * (nI 4)) = (nI 0) from by decide)
  subst et1
  refine lv_icmp_ge (tgt := 63) hx hb dX5_wordOf_24 (by decide) (fun _ => ?_) (fun hq => absurd (show (nI 0) ≤ (nI 0) from (nI_leI (by omega) (by omega)).mpr (by omega)) hq)
  refine lv_aload_n hx hb dX5_wordOf_63 rfl (lv_at hl 1 rfl) ?_
  have hz0 := hS.1
  refine z_keepW (fun hkp => ?_)
  exact z_retr (q := (e.2.2.1 0)) () hx hb hr (Or.inl ⟨_, rfl⟩) hlocks rfl hK [] rfl hP hD hS [] (by decide) rfl (by omega) (zw_keep hkp) (fun _ _ _ => trivial) dX5_wordOf_64
set_option maxRecDepth 100000 in
set_option maxHeartbeats 4000000 in
/-- lengthOf(0), of nn pieces -/
theorem c_lenOf1 (l : Launch) (D : va_G) (N0 : Nat) (e : zE) (sz mz : Nat) (mm : Nat) (aa : Nat) (kn : Nat) (rf : Nat) (cA : ClassId) (ga : Nat → Option Nat) (jj : Nat) (al : Nat) (mo : Nat) (ea : Nat) (nn : Nat) (cO : ClassId) (cap : Nat) (fe : Nat → Option Nat) (hga : ga 0 = some jj) (h1 : 1 ≤ nn) (h5 : nn ≤ 511) (hn : nn ≤ cap) (hcap : cap ≤ 800) (hzf : zF fe nn (e.2.2.1 0)) : Met l yX5_lengthOf wsX5_lengthOf ({ frames := 8, cells := 4 * nn + 4, slots := 24 * nn + 24, locals := 213 }) (va_Pc [.ref mm, .int (nI 0)] (zP N0 e D [(cA, .object "JoinrowModel$Joiner"), (cO, .object "java/lang/Object")] [(mm, .inr (8, [.int (nI 0), .ref aa, .int (nI kn), .int (nI rf)])), (aa, .inl (cA, 6, .inr (.inr (.inr (.inr ga))))), (jj, .inr (7, [.ref ((e.2.2.1 0)), .ref ((e.2.2.1 0)), .ref ((e.2.2.1 0)), .ref al, .null])), (al, .inr (2, [.int (nI mo), .ref ea, .int (nI nn)])), (ea, .inl (cO, cap, .inr (.inr (.inr (.inr fe)))))] sz mz [])) (zQi (fun (r : Int32) (_ : Unit) => r = (nI 0)) D (fun (_ : Unit) => ([(mm, .inr (8, [.int (nI 0), .ref aa, .int (nI kn), .int (nI rf)])), (aa, .inl (cA, 6, .inr (.inr (.inr (.inr ga))))), (jj, .inr (7, [.ref ((e.2.2.1 0)), .ref ((e.2.2.1 0)), .ref ((e.2.2.1 0)), .ref al, .null])), (al, .inr (2, [.int (nI mo), .ref ea, .int (nI nn)])), (ea, .inl (cO, cap, .inr (.inr (.inr (.inr fe)))))] : va_W)) (fun (_ : Unit) => ([] : List (ClassId × FieldType))) sz (4 * nn + 4) mz (288 * nn + 288) (fun (_ : Unit) (t : State) => True) (va_A [(mm, .inr (8, [.int (nI 0), .ref aa, .int (nI kn), .int (nI rf)])), (aa, .inl (cA, 6, .inr (.inr (.inr (.inr ga))))), (jj, .inr (7, [.ref ((e.2.2.1 0)), .ref ((e.2.2.1 0)), .ref ((e.2.2.1 0)), .ref al, .null])), (al, .inr (2, [.int (nI mo), .ref ea, .int (nI nn)])), (ea, .inl (cO, cap, .inr (.inr (.inr (.inr fe)))))] sz)) (4 * nn + 4) (24 * nn + 24) (va_A [(mm, .inr (8, [.int (nI 0), .ref aa, .int (nI kn), .int (nI rf)])), (aa, .inl (cA, 6, .inr (.inr (.inr (.inr ga))))), (jj, .inr (7, [.ref ((e.2.2.1 0)), .ref ((e.2.2.1 0)), .ref ((e.2.2.1 0)), .ref al, .null])), (al, .inr (2, [.int (nI mo), .ref ea, .int (nI nn)])), (ea, .inl (cO, cap, .inr (.inr (.inr (.inr fe)))))] sz) := by
  refine z_met (Qc := fun A => zQi (fun (r : Int32) (_ : Unit) => r = (nI 0)) D (fun (_ : Unit) => ([(mm, .inr (8, [.int (nI 0), .ref aa, .int (nI kn), .int (nI rf)])), (aa, .inl (cA, 6, .inr (.inr (.inr (.inr ga))))), (jj, .inr (7, [.ref ((e.2.2.1 0)), .ref ((e.2.2.1 0)), .ref ((e.2.2.1 0)), .ref al, .null])), (al, .inr (2, [.int (nI mo), .ref ea, .int (nI nn)])), (ea, .inl (cO, cap, .inr (.inr (.inr (.inr fe)))))] : va_W)) (fun (_ : Unit) => ([] : List (ClassId × FieldType))) sz (4 * nn + 4) mz (288 * nn + 288) (fun (_ : Unit) (t : State) => True) A) (cc := cX5_lengthOf) (maxL := 2) (ret := (some .int)) RX5 rfl (by decide) rfl (Nat.le_of_ble_eq_true rfl) ?_
  intro p ev s m below meth c ls A hx hb hr hml hown hts hlocks hnm hsz hmz hN hAe hA hAN hS hP hK hD hG hL hl
  subst hsz
  subst hmz
  have hl : lv_has ls 2 [(0, .ref mm), (1, .int (nI 0))] := hl
  refine lv_aload_n hx hb dX5_lengthOf_0 rfl (lv_at hl 0 rfl) ?_
  refine va_get (D := D) (ci := 8) (v := .ref aa) (C := RX5) (T := TX5) (N := 4) hx hb hts (by decide +kernel) hown hK hP 0 rfl rfl 1 (by decide) (hts (.fieldLink RX5 11 "JoinrowModel" "all" "[LJoinrowModel$Joiner;") (by decide +kernel)) (fun _ h9 => h9) rfl dX5_lengthOf_1 ?_
  refine lv_iload_n hx hb dX5_lengthOf_4 rfl (lv_at hl 1 rfl) ?_
  have vi1 : vp_in (nI 0) 6 := vp_in_nI (by omega) (by omega)
  refine va_aldq hx hb hK hP 1 0 rfl rfl vi1 dX5_lengthOf_5 ?_
  rw [nI_clamp (show 0 < 2 ^ 31 by omega), (show ga (0) = some jj from hga)]
  refine W.eq (g2 := F0 m 6 ls [.ref jj]) rfl ?_
  have hFc := va_free (wc := [(jj, .inr (7, [.ref ((e.2.2.1 0)), .ref ((e.2.2.1 0)), .ref ((e.2.2.1 0)), .ref al, .null])), (al, .inr (2, [.int (nI mo), .ref ea, .int (nI nn)])), (ea, .inl (cO, cap, .inr (.inr (.inr (.inr fe)))))]) hD hS hA [2, 3, 4] rfl
  have kc2 : 0 + (4 * nn + 4) ≤ 4 * nn + 4 := by omega
  have ks3 : 0 + (24 * nn + 24) ≤ 24 * nn + 24 := by omega
  refine z_callr (wr := [(mm, .inr (8, [.int (nI 0), .ref aa, .int (nI kn), .int (nI rf)])), (aa, .inl (cA, 6, .inr (.inr (.inr (.inr ga)))))]) (va_runV (As := []) (rest := []) ⟨hx, hb, hml, hown, hts⟩ (c_text1 l D N0 e s.heap.size (zw s.heap) jj al mo ea nn cO cap fe h1 h5 hn hcap hzf) (cwV 0 hts gX5_lengthOf_X4_text rfl rfl rfl (by decide +kernel) ⟨Nat.le_of_ble_eq_true rfl, Nat.le_of_ble_eq_true rfl⟩) ⟨zP.blind, (va_recv hK hP (ci := 7) (q0 := 2) rfl rfl), (z_pre hK hP hD hS hAN hN hG [2, 3, 4] (by decide) rfl [1] rfl (fun q hq => absurd hq List.not_mem_nil))⟩ rfl rfl hl.1 rfl (lv_room (Nat.le_of_ble_eq_true rfl)) dX5_lengthOf_6 ⟨kc2, ks3⟩) hK hP hD hS hA [2, 3, 4] rfl [0, 1] rfl (by decide) (by decide) (fun u r5 t H locs ht hvm hw_c4 hY_c4 hz_c4 hm_c4 hk_c4 hK hP hD hS => ?_)
  obtain ⟨q, v⟩ := u
  try dsimp only at hw_c4 hY_c4
  have hP : va_P D vwCl [(mm, .inr (8, [.int (nI 0), .ref aa, .int (nI kn), .int (nI rf)])), (aa, .inl (cA, 6, .inr (.inr (.inr (.inr ga))))), (jj, .inr (7, [.ref ((e.2.2.1 0)), .ref ((e.2.2.1 0)), .ref ((e.2.2.1 0)), .ref al, .null])), (al, .inr (2, [.int (nI mo), .ref ea, .int (nI nn)])), (ea, .inl (cO, cap, .inr (.inr (.inr (.inr fe)))))] H := hP
  have hD : va_D A [(mm, .inr (8, [.int (nI 0), .ref aa, .int (nI kn), .int (nI rf)])), (aa, .inl (cA, 6, .inr (.inr (.inr (.inr ga))))), (jj, .inr (7, [.ref ((e.2.2.1 0)), .ref ((e.2.2.1 0)), .ref ((e.2.2.1 0)), .ref al, .null])), (al, .inr (2, [.int (nI mo), .ref ea, .int (nI nn)])), (ea, .inl (cO, cap, .inr (.inr (.inr (.inr fe)))))] := hD
  have hK : va_K D vwCl [(cA, .object "JoinrowModel$Joiner"), (cO, .object "java/lang/Object")] s := hK
  have hs6 := hS.1
  refine W.widen (k := (4 * nn + 4)) (n := (24 * nn + 24)) (by omega) (by omega) ?_
  obtain rfl : q = r5 := Eq.symm hw_c4
  have zz_q : zs q v (0) (fun _ => False) s H := by
    have hq := (hY_c4.1).moved hvm.symm
    rw [ht] at hq
    exact hq
  have hb_q := (hY_c4.2)
  have hFc := va_free (wc := []) hD hS hA [] rfl
  have kc7 : (4 * nn + 4) + (0) ≤ 4 * nn + 4 := by omega
  have ks8 : (24 * nn + 24) + (0) ≤ 24 * nn + 24 := by omega
  refine z_calli (wr := [(mm, .inr (8, [.int (nI 0), .ref aa, .int (nI kn), .int (nI rf)])), (aa, .inl (cA, 6, .inr (.inr (.inr (.inr ga))))), (jj, .inr (7, [.ref ((e.2.2.1 0)), .ref ((e.2.2.1 0)), .ref ((e.2.2.1 0)), .ref al, .null])), (al, .inr (2, [.int (nI mo), .ref ea, .int (nI nn)])), (ea, .inl (cO, cap, .inr (.inr (.inr (.inr fe)))))]) (va_runV (As := []) (rest := []) ⟨hx, hb, hml, hown, hts⟩ (c_slen l D N0 e H.size (zw H) q v 0 (by decide)) (cwV 0 hts gX5_lengthOf_J0_length_8abf5 rfl rfl rfl (by decide +kernel) ⟨Nat.le_of_ble_eq_true rfl, Nat.le_of_ble_eq_true rfl⟩) ⟨zP.blind, (zrecv zz_q), (z_pre hK hP hD hS hAN hN hG [] (by decide) rfl [] rfl (List.forall_mem_cons.mpr ⟨(zz_q.wall (z_out zz_q.lta (by intro x hx; simp at hx <;> omega)) (z_out zz_q.ltv (by intro x hx; simp at hx <;> omega))), fun q hq => absurd hq List.not_mem_nil⟩))⟩ rfl rfl hl.1 rfl (lv_room (Nat.le_of_ble_eq_true rfl)) dX5_lengthOf_9 ⟨kc7, ks8⟩) hK hP hD hS hA [] rfl [0, 1, 2, 3, 4] rfl (by decide) (by decide) (fun r10 u t H locs ht hvm hw_c9 hY_c9 hz_c9 hm_c9 hk_c9 hK hP hD hS => ?_)
  have hP : va_P D vwCl [(mm, .inr (8, [.int (nI 0), .ref aa, .int (nI kn), .int (nI rf)])), (aa, .inl (cA, 6, .inr (.inr (.inr (.inr ga))))), (jj, .inr (7, [.ref ((e.2.2.1 0)), .ref ((e.2.2.1 0)), .ref ((e.2.2.1 0)), .ref al, .null])), (al, .inr (2, [.int (nI mo), .ref ea, .int (nI nn)])), (ea, .inl (cO, cap, .inr (.inr (.inr (.inr fe)))))] H := hP
  have hD : va_D A [(mm, .inr (8, [.int (nI 0), .ref aa, .int (nI kn), .int (nI rf)])), (aa, .inl (cA, 6, .inr (.inr (.inr (.inr ga))))), (jj, .inr (7, [.ref ((e.2.2.1 0)), .ref ((e.2.2.1 0)), .ref ((e.2.2.1 0)), .ref al, .null])), (al, .inr (2, [.int (nI mo), .ref ea, .int (nI nn)])), (ea, .inl (cO, cap, .inr (.inr (.inr (.inr fe)))))] := hD
  have hK : va_K D vwCl [(cA, .object "JoinrowModel$Joiner"), (cO, .object "java/lang/Object")] s := hK
  have hs11 := hS.1
  have zz_q := zz_q.at (hk_c9 _ zz_q.lta (z_out zz_q.lta (by intro x hx; simp at hx <;> omega))) (hk_c9 _ zz_q.ltv (z_out zz_q.ltv (by intro x hx; simp at hx <;> omega)))
  refine W.widen (k := (4 * nn + 4)) (n := (24 * nn + 24)) (by omega) (by omega) ?_
  subst hw_c9
  refine W.widen (k := (4 * nn + 4)) (n := (24 * nn + 24)) (by omega) (by omega) ?_
  have hz0 := hS.1
  have lt0 := (hP 0 _ rfl).lt
  dsimp only at lt0
  have lt1 := (hP 1 _ rfl).lt
  dsimp only at lt1
  have lt2 := (hP 2 _ rfl).lt
  dsimp only at lt2
  have lt3 := (hP 3 _ rfl).lt
  dsimp only at lt3
  have lt4 := (hP 4 _ rfl).lt
  dsimp only at lt4
  exact z_reti (v := (nI 0)) () hx hb hr (by first | rfl | decide) hlocks rfl hK [] rfl hP hD hS [0, 1, 2, 3, 4] (by decide) rfl (by omega) (by omega) (fun _ _ _ => trivial) dX5_lengthOf_12
set_option maxRecDepth 100000 in
set_option maxHeartbeats 4000000 in
/-- lengthOf(0), of a new joiner -/
theorem c_lenOf0 (l : Launch) (D : va_G) (N0 : Nat) (e : zE) (sz mz : Nat) (mm : Nat) (aa : Nat) (kn : Nat) (rf : Nat) (cA : ClassId) (ga : Nat → Option Nat) (jj : Nat) (tb : Nat) (al : Nat) (mo : Nat) (hga : ga 0 = some jj) : Met l yX5_lengthOf wsX5_lengthOf ({ frames := 7, cells := 4, slots := 26, locals := 191 }) (va_Pc [.ref mm, .int (nI 0)] (zP N0 e D [(cA, .object "JoinrowModel$Joiner")] [(mm, .inr (8, [.int (nI 0), .ref aa, .int (nI kn), .int (nI rf)])), (aa, .inl (cA, 6, .inr (.inr (.inr (.inr ga))))), (jj, .inr (7, [.ref tb, .ref ((e.2.2.1 2)), .ref ((e.2.2.1 3)), .ref al, .null])), (al, .inr (2, [.int (nI mo), .ref e.1, .int (nI 0)]))] sz mz [])) (zQi (fun (r : Int32) (_ : Unit) => r = (nI 2)) D (fun (_ : Unit) => ([(mm, .inr (8, [.int (nI 0), .ref aa, .int (nI kn), .int (nI rf)])), (aa, .inl (cA, 6, .inr (.inr (.inr (.inr ga))))), (jj, .inr (7, [.ref tb, .ref ((e.2.2.1 2)), .ref ((e.2.2.1 3)), .ref al, .null])), (al, .inr (2, [.int (nI mo), .ref e.1, .int (nI 0)]))] : va_W)) (fun (_ : Unit) => ([] : List (ClassId × FieldType))) sz (0) mz (0) (fun (_ : Unit) (t : State) => True) (va_A [(mm, .inr (8, [.int (nI 0), .ref aa, .int (nI kn), .int (nI rf)])), (aa, .inl (cA, 6, .inr (.inr (.inr (.inr ga))))), (jj, .inr (7, [.ref tb, .ref ((e.2.2.1 2)), .ref ((e.2.2.1 3)), .ref al, .null])), (al, .inr (2, [.int (nI mo), .ref e.1, .int (nI 0)]))] sz)) (4) (26) (va_A [(mm, .inr (8, [.int (nI 0), .ref aa, .int (nI kn), .int (nI rf)])), (aa, .inl (cA, 6, .inr (.inr (.inr (.inr ga))))), (jj, .inr (7, [.ref tb, .ref ((e.2.2.1 2)), .ref ((e.2.2.1 3)), .ref al, .null])), (al, .inr (2, [.int (nI mo), .ref e.1, .int (nI 0)]))] sz) := by
  refine z_met (Qc := fun A => zQi (fun (r : Int32) (_ : Unit) => r = (nI 2)) D (fun (_ : Unit) => ([(mm, .inr (8, [.int (nI 0), .ref aa, .int (nI kn), .int (nI rf)])), (aa, .inl (cA, 6, .inr (.inr (.inr (.inr ga))))), (jj, .inr (7, [.ref tb, .ref ((e.2.2.1 2)), .ref ((e.2.2.1 3)), .ref al, .null])), (al, .inr (2, [.int (nI mo), .ref e.1, .int (nI 0)]))] : va_W)) (fun (_ : Unit) => ([] : List (ClassId × FieldType))) sz (0) mz (0) (fun (_ : Unit) (t : State) => True) A) (cc := cX5_lengthOf) (maxL := 2) (ret := (some .int)) RX5 rfl (by decide) rfl (Nat.le_of_ble_eq_true rfl) ?_
  intro p ev s m below meth c ls A hx hb hr hml hown hts hlocks hnm hsz hmz hN hAe hA hAN hS hP hK hD hG hL hl
  subst hsz
  subst hmz
  have hl : lv_has ls 2 [(0, .ref mm), (1, .int (nI 0))] := hl
  refine lv_aload_n hx hb dX5_lengthOf_0 rfl (lv_at hl 0 rfl) ?_
  refine va_get (D := D) (ci := 8) (v := .ref aa) (C := RX5) (T := TX5) (N := 4) hx hb hts (by decide +kernel) hown hK hP 0 rfl rfl 1 (by decide) (hts (.fieldLink RX5 11 "JoinrowModel" "all" "[LJoinrowModel$Joiner;") (by decide +kernel)) (fun _ h9 => h9) rfl dX5_lengthOf_1 ?_
  refine lv_iload_n hx hb dX5_lengthOf_4 rfl (lv_at hl 1 rfl) ?_
  have vi1 : vp_in (nI 0) 6 := vp_in_nI (by omega) (by omega)
  refine va_aldq hx hb hK hP 1 0 rfl rfl vi1 dX5_lengthOf_5 ?_
  rw [nI_clamp (show 0 < 2 ^ 31 by omega), (show ga (0) = some jj from hga)]
  refine W.eq (g2 := F0 m 6 ls [.ref jj]) rfl ?_
  have hFc := va_free (wc := [(jj, .inr (7, [.ref tb, .ref ((e.2.2.1 2)), .ref ((e.2.2.1 3)), .ref al, .null])), (al, .inr (2, [.int (nI mo), .ref e.1, .int (nI 0)]))]) hD hS hA [2, 3] rfl
  have kc2 : 0 + (4) ≤ 4 := by omega
  have ks3 : 0 + (26) ≤ 26 := by omega
  refine z_callr (wr := [(mm, .inr (8, [.int (nI 0), .ref aa, .int (nI kn), .int (nI rf)])), (aa, .inl (cA, 6, .inr (.inr (.inr (.inr ga)))))]) (va_runV (As := []) (rest := []) ⟨hx, hb, hml, hown, hts⟩ (c_text0 l D N0 e s.heap.size (zw s.heap) jj tb al mo ) (cwV 0 hts gX5_lengthOf_X4_text rfl rfl rfl (by decide +kernel) ⟨Nat.le_of_ble_eq_true rfl, Nat.le_of_ble_eq_true rfl⟩) ⟨zP.blind, (va_recv hK hP (ci := 7) (q0 := 2) rfl rfl), (z_pre hK hP hD hS hAN hN hG [2, 3] (by decide) rfl [] rfl (fun q hq => absurd hq List.not_mem_nil))⟩ rfl rfl hl.1 rfl (lv_room (Nat.le_of_ble_eq_true rfl)) dX5_lengthOf_6 ⟨kc2, ks3⟩) hK hP hD hS hA [2, 3] rfl [0, 1] rfl (by decide) (by decide) (fun u r5 t H locs ht hvm hw_c4 hY_c4 hz_c4 hm_c4 hk_c4 hK hP hD hS => ?_)
  obtain ⟨q, v⟩ := u
  try dsimp only at hw_c4 hY_c4
  have hP : va_P D vwCl [(mm, .inr (8, [.int (nI 0), .ref aa, .int (nI kn), .int (nI rf)])), (aa, .inl (cA, 6, .inr (.inr (.inr (.inr ga))))), (jj, .inr (7, [.ref tb, .ref ((e.2.2.1 2)), .ref ((e.2.2.1 3)), .ref al, .null])), (al, .inr (2, [.int (nI mo), .ref e.1, .int (nI 0)]))] H := hP
  have hD : va_D A [(mm, .inr (8, [.int (nI 0), .ref aa, .int (nI kn), .int (nI rf)])), (aa, .inl (cA, 6, .inr (.inr (.inr (.inr ga))))), (jj, .inr (7, [.ref tb, .ref ((e.2.2.1 2)), .ref ((e.2.2.1 3)), .ref al, .null])), (al, .inr (2, [.int (nI mo), .ref e.1, .int (nI 0)]))] := hD
  have hK : va_K D vwCl [(cA, .object "JoinrowModel$Joiner")] s := hK
  have hs6 := hS.1
  refine W.widen (k := 4) (n := 26) (by omega) (by omega) ?_
  obtain rfl : q = r5 := Eq.symm hw_c4
  have zz_q : zs q v (2) (fun _ => False) s H := by
    have hq := (hY_c4.1).moved hvm.symm
    rw [ht] at hq
    exact hq
  have hb_q := (hY_c4.2)
  have hFc := va_free (wc := []) hD hS hA [] rfl
  have kc7 : 4 + (0) ≤ 4 := by omega
  have ks8 : 26 + (0) ≤ 26 := by omega
  refine z_calli (wr := [(mm, .inr (8, [.int (nI 0), .ref aa, .int (nI kn), .int (nI rf)])), (aa, .inl (cA, 6, .inr (.inr (.inr (.inr ga))))), (jj, .inr (7, [.ref tb, .ref ((e.2.2.1 2)), .ref ((e.2.2.1 3)), .ref al, .null])), (al, .inr (2, [.int (nI mo), .ref e.1, .int (nI 0)]))]) (va_runV (As := []) (rest := []) ⟨hx, hb, hml, hown, hts⟩ (c_slen l D N0 e H.size (zw H) q v 2 (by decide)) (cwV 0 hts gX5_lengthOf_J0_length_8abf5 rfl rfl rfl (by decide +kernel) ⟨Nat.le_of_ble_eq_true rfl, Nat.le_of_ble_eq_true rfl⟩) ⟨zP.blind, (zrecv zz_q), (z_pre hK hP hD hS hAN hN hG [] (by decide) rfl [] rfl (List.forall_mem_cons.mpr ⟨(zz_q.wall (z_out zz_q.lta (by intro x hx; simp at hx <;> omega)) (z_out zz_q.ltv (by intro x hx; simp at hx <;> omega))), fun q hq => absurd hq List.not_mem_nil⟩))⟩ rfl rfl hl.1 rfl (lv_room (Nat.le_of_ble_eq_true rfl)) dX5_lengthOf_9 ⟨kc7, ks8⟩) hK hP hD hS hA [] rfl [0, 1, 2, 3] rfl (by decide) (by decide) (fun r10 u t H locs ht hvm hw_c9 hY_c9 hz_c9 hm_c9 hk_c9 hK hP hD hS => ?_)
  have hP : va_P D vwCl [(mm, .inr (8, [.int (nI 0), .ref aa, .int (nI kn), .int (nI rf)])), (aa, .inl (cA, 6, .inr (.inr (.inr (.inr ga))))), (jj, .inr (7, [.ref tb, .ref ((e.2.2.1 2)), .ref ((e.2.2.1 3)), .ref al, .null])), (al, .inr (2, [.int (nI mo), .ref e.1, .int (nI 0)]))] H := hP
  have hD : va_D A [(mm, .inr (8, [.int (nI 0), .ref aa, .int (nI kn), .int (nI rf)])), (aa, .inl (cA, 6, .inr (.inr (.inr (.inr ga))))), (jj, .inr (7, [.ref tb, .ref ((e.2.2.1 2)), .ref ((e.2.2.1 3)), .ref al, .null])), (al, .inr (2, [.int (nI mo), .ref e.1, .int (nI 0)]))] := hD
  have hK : va_K D vwCl [(cA, .object "JoinrowModel$Joiner")] s := hK
  have hs11 := hS.1
  have zz_q := zz_q.at (hk_c9 _ zz_q.lta (z_out zz_q.lta (by intro x hx; simp at hx <;> omega))) (hk_c9 _ zz_q.ltv (z_out zz_q.ltv (by intro x hx; simp at hx <;> omega)))
  refine W.widen (k := 4) (n := 26) (by omega) (by omega) ?_
  subst hw_c9
  have hz0 := hS.1
  refine z_keepW (fun hkp => ?_)
  exact z_reti (v := (nI 2)) () hx hb hr (by first | rfl | decide) hlocks rfl hK [] rfl hP hD hS [0, 1, 2, 3] (by decide) rfl (by omega) (zw_keep hkp) (fun _ _ _ => trivial) dX5_lengthOf_12
set_option maxRecDepth 100000 in
set_option maxHeartbeats 4000000 in
/-- begun, of a new joiner -/
theorem c_begun (l : Launch) (D : va_G) (N0 : Nat) (e : zE) (sz mz : Nat) (mm : Nat) (aa : Nat) (kn : Nat) (rf : Nat) (cA : ClassId) (ga : Nat → Option Nat) (jj : Nat) (tb : Nat) (al : Nat) (mo : Nat) (hga : ga 0 = some jj) : Met l yX5_begun wsX5_begun ({ frames := 8, cells := 10, slots := 60, locals := 212 }) (va_Pc [.ref mm, .int (nI 0), .ref ((e.2.2.1 0)), .ref ((e.2.2.1 0)), .ref ((e.2.2.1 0))] (zP N0 e D [(cA, .object "JoinrowModel$Joiner")] [(mm, .inr (8, [.int (nI 0), .ref aa, .int (nI kn), .int (nI rf)])), (aa, .inl (cA, 6, .inr (.inr (.inr (.inr ga))))), (jj, .inr (7, [.ref tb, .ref ((e.2.2.1 2)), .ref ((e.2.2.1 3)), .ref al, .null])), (al, .inr (2, [.int (nI mo), .ref e.1, .int (nI 0)]))] sz mz [])) (zQi (fun (r : Int32) (u : Nat × Nat × (Nat → Option Nat)) => r = (nI 2) ∧ u.2.2 0 = some u.1) D (fun (u : Nat × Nat × (Nat → Option Nat)) => ([(mm, .inr (8, [.int (nI 0), .ref aa, .int (nI kn), .int (nI rf)])), (aa, .inl (cA, 6, .inr (.inr (.inr (.inr u.2.2))))), (u.1, .inr (7, [.ref ((e.2.2.1 0)), .ref ((e.2.2.1 0)), .ref ((e.2.2.1 0)), .ref u.2.1, .null])), (u.2.1, .inr (2, [.int (nI 0), .ref e.1, .int (nI 0)]))] : va_W)) (fun (u : Nat × Nat × (Nat → Option Nat)) => ([] : List (ClassId × FieldType))) sz (0) mz (0) (fun (u : Nat × Nat × (Nat → Option Nat)) (t : State) => True) (va_A [(mm, .inr (8, [.int (nI 0), .ref aa, .int (nI kn), .int (nI rf)])), (aa, .inl (cA, 6, .inr (.inr (.inr (.inr ga))))), (jj, .inr (7, [.ref tb, .ref ((e.2.2.1 2)), .ref ((e.2.2.1 3)), .ref al, .null])), (al, .inr (2, [.int (nI mo), .ref e.1, .int (nI 0)]))] sz)) (10) (60) (va_A [(mm, .inr (8, [.int (nI 0), .ref aa, .int (nI kn), .int (nI rf)])), (aa, .inl (cA, 6, .inr (.inr (.inr (.inr ga))))), (jj, .inr (7, [.ref tb, .ref ((e.2.2.1 2)), .ref ((e.2.2.1 3)), .ref al, .null])), (al, .inr (2, [.int (nI mo), .ref e.1, .int (nI 0)]))] sz) := by
  refine z_met (Qc := fun A => zQi (fun (r : Int32) (u : Nat × Nat × (Nat → Option Nat)) => r = (nI 2) ∧ u.2.2 0 = some u.1) D (fun (u : Nat × Nat × (Nat → Option Nat)) => ([(mm, .inr (8, [.int (nI 0), .ref aa, .int (nI kn), .int (nI rf)])), (aa, .inl (cA, 6, .inr (.inr (.inr (.inr u.2.2))))), (u.1, .inr (7, [.ref ((e.2.2.1 0)), .ref ((e.2.2.1 0)), .ref ((e.2.2.1 0)), .ref u.2.1, .null])), (u.2.1, .inr (2, [.int (nI 0), .ref e.1, .int (nI 0)]))] : va_W)) (fun (u : Nat × Nat × (Nat → Option Nat)) => ([] : List (ClassId × FieldType))) sz (0) mz (0) (fun (u : Nat × Nat × (Nat → Option Nat)) (t : State) => True) A) (cc := cX5_begun) (maxL := 6) (ret := (some .int)) RX5 rfl (by decide) rfl (Nat.le_of_ble_eq_true rfl) ?_
  intro p ev s m below meth c ls A hx hb hr hml hown hts hlocks hnm hsz hmz hN hAe hA hAN hS hP hK hD hG hL hl
  subst hsz
  subst hmz
  have hl : lv_has ls 6 [(0, .ref mm), (1, .int (nI 0)), (2, .ref ((e.2.2.1 0))), (3, .ref ((e.2.2.1 0))), (4, .ref ((e.2.2.1 0)))] := hl
  refine lv_aload_n hx hb dX5_begun_0 rfl (lv_at hl 0 rfl) ?_
  refine lv_iload_n hx hb dX5_begun_1 rfl (lv_at hl 1 rfl) ?_
  have hFc := va_free (wc := [(mm, .inr (8, [.int (nI 0), .ref aa, .int (nI kn), .int (nI rf)])), (aa, .inl (cA, 6, .inr (.inr (.inr (.inr ga))))), (jj, .inr (7, [.ref tb, .ref ((e.2.2.1 2)), .ref ((e.2.2.1 3)), .ref al, .null])), (al, .inr (2, [.int (nI mo), .ref e.1, .int (nI 0)]))]) hD hS hA [0, 1, 2, 3] rfl
  have kc1 : 0 + (4) ≤ 10 := by omega
  have ks2 : 0 + (26) ≤ 60 := by omega
  refine z_calli (wr := []) (va_runV (As := [.int (nI 0)]) (rest := []) ⟨hx, hb, hml, hown, hts⟩ (c_lenOf0 l D N0 e s.heap.size (zw s.heap) mm aa kn rf cA ga jj tb al mo hga) (cwV 1 hts gX5_begun_X5_lengthOf rfl rfl rfl (by decide +kernel) ⟨Nat.le_of_ble_eq_true rfl, Nat.le_of_ble_eq_true rfl⟩) ⟨zP.blind, (va_recv hK hP (ci := 8) (q0 := 0) rfl rfl), (z_pre hK hP hD hS hAN hN hG [0, 1, 2, 3] (by decide) rfl [0] rfl (fun q hq => absurd hq List.not_mem_nil))⟩ rfl rfl hl.1 rfl (lv_room (Nat.le_of_ble_eq_true rfl)) dX5_begun_2 ⟨kc1, ks2⟩) hK hP hD hS hA [0, 1, 2, 3] rfl [] rfl (by decide) (by decide) (fun r4 u t H locs ht hvm hw_c3 hY_c3 hz_c3 hm_c3 hk_c3 hK hP hD hS => ?_)
  have hP : va_P D vwCl [(mm, .inr (8, [.int (nI 0), .ref aa, .int (nI kn), .int (nI rf)])), (aa, .inl (cA, 6, .inr (.inr (.inr (.inr ga))))), (jj, .inr (7, [.ref tb, .ref ((e.2.2.1 2)), .ref ((e.2.2.1 3)), .ref al, .null])), (al, .inr (2, [.int (nI mo), .ref e.1, .int (nI 0)]))] H := hP
  have hD : va_D A [(mm, .inr (8, [.int (nI 0), .ref aa, .int (nI kn), .int (nI rf)])), (aa, .inl (cA, 6, .inr (.inr (.inr (.inr ga))))), (jj, .inr (7, [.ref tb, .ref ((e.2.2.1 2)), .ref ((e.2.2.1 3)), .ref al, .null])), (al, .inr (2, [.int (nI mo), .ref e.1, .int (nI 0)]))] := hD
  have hK : va_K D vwCl [(cA, .object "JoinrowModel$Joiner")] s := hK
  have hs5 := hS.1
  refine W.widen (k := 4) (n := 26) (by omega) (by omega) ?_
  subst hw_c3
  refine lv_istore (lv' := [(5, .int (nI 2)), (0, .ref mm), (1, .int (nI 0)), (2, .ref ((e.2.2.1 0))), (3, .ref ((e.2.2.1 0))), (4, .ref ((e.2.2.1 0)))]) hx hb dX5_begun_5 hl (by decide) rfl (fun ls hl => ?_)
  refine lv_aload_n hx hb dX5_begun_7 rfl (lv_at hl 1 rfl) ?_
  refine va_get (D := D) (ci := 8) (v := .ref aa) (C := RX5) (T := TX5) (N := 4) hx hb hts (by decide +kernel) hown hK hP 0 rfl rfl 1 (by decide) (hts (.fieldLink RX5 11 "JoinrowModel" "all" "[LJoinrowModel$Joiner;") (by decide +kernel)) (fun _ h9 => h9) rfl dX5_begun_8 ?_
  refine lv_iload_n hx hb dX5_begun_11 rfl (lv_at hl 2 rfl) ?_
  have kc6 : 4 + 1 ≤ 10 := by omega
  have ks7 : 26 + 5 ≤ 60 := by omega
  refine z_new (ci := 7) (fs := [.null, .null, .null, .null, .null]) (C := RX4) (T := TX4) (N := 5) hx hb hts (by decide +kernel) tyX4 tyX4_ok hown (hts (.classLink RX5 9 RX4) (by decide +kernel)) (hts (.instantiable RX4 5) (by decide +kernel)) (hts (.initialized RX4) (by decide +kernel)) hK hP hD hS hA rfl (fun j hj => by match j, hj with | 0, _ => rfl | 1, _ => rfl | 2, _ => rfl | 3, _ => rfl | 4, _ => rfl) kc6 ks7 dX5_begun_12 (fun jn H hq_jn hz_jn hm_jn hk_jn hP hD hS => ?_)
  have hP : va_P D vwCl [(mm, .inr (8, [.int (nI 0), .ref aa, .int (nI kn), .int (nI rf)])), (aa, .inl (cA, 6, .inr (.inr (.inr (.inr ga))))), (jj, .inr (7, [.ref tb, .ref ((e.2.2.1 2)), .ref ((e.2.2.1 3)), .ref al, .null])), (al, .inr (2, [.int (nI mo), .ref e.1, .int (nI 0)])), (jn, .inr (7, [.null, .null, .null, .null, .null]))] H := hP
  have hD : va_D A [(mm, .inr (8, [.int (nI 0), .ref aa, .int (nI kn), .int (nI rf)])), (aa, .inl (cA, 6, .inr (.inr (.inr (.inr ga))))), (jj, .inr (7, [.ref tb, .ref ((e.2.2.1 2)), .ref ((e.2.2.1 3)), .ref al, .null])), (al, .inr (2, [.int (nI mo), .ref e.1, .int (nI 0)])), (jn, .inr (7, [.null, .null, .null, .null, .null]))] := hD
  have hs8 := hS.1
  refine W.widen (k := 5) (n := 31) (by omega) (by omega) ?_
  refine lv_dup hx hb dX5_begun_15 rfl ?_
  refine lv_aload_n hx hb dX5_begun_16 rfl (lv_at hl 3 rfl) ?_
  refine lv_aload_n hx hb dX5_begun_17 rfl (lv_at hl 4 rfl) ?_
  refine lv_aload hx hb dX5_begun_18 (lv_at hl 5 rfl) ?_
  have hFc := va_free (wc := [(jn, .inr (7, [.null, .null, .null, .null, .null]))]) hD hS hA [4] rfl
  have kc9 : 5 + (1) ≤ 10 := by omega
  have ks10 : 31 + (3) ≤ 60 := by omega
  refine z_callv (wr := [(mm, .inr (8, [.int (nI 0), .ref aa, .int (nI kn), .int (nI rf)])), (aa, .inl (cA, 6, .inr (.inr (.inr (.inr ga))))), (jj, .inr (7, [.ref tb, .ref ((e.2.2.1 2)), .ref ((e.2.2.1 3)), .ref al, .null])), (al, .inr (2, [.int (nI mo), .ref e.1, .int (nI 0)]))]) (va_runI (As := [.ref ((e.2.2.1 0)), .ref ((e.2.2.1 0)), .ref ((e.2.2.1 0))]) (rest := [.ref jn, .int (nI 0), .ref aa]) ⟨hx, hb, hml, hown, hts⟩ (c_jmini l D N0 e H.size (zw H) jn ((e.2.2.1 0)) ((e.2.2.1 0)) ((e.2.2.1 0)) ) (cwI 3 hts gX5_begun_X4_init rfl rfl rfl (hts (.initialized RX4) (by decide +kernel)) (hts (.methodLink RX5 21 yX4_init) (by decide +kernel)) (hts (.instanceMethod yX4_init) (by decide +kernel)) rfl (by decide +kernel) ⟨Nat.le_of_ble_eq_true rfl, Nat.le_of_ble_eq_true rfl⟩) ⟨zP.blind, (z_pre hK hP hD hS hAN hN hG [4] (by decide) rfl [] rfl (fun q hq => absurd hq List.not_mem_nil))⟩ rfl rfl hl.1 rfl (lv_room (Nat.le_of_ble_eq_true rfl)) dX5_begun_20 ⟨kc9, ks10⟩) hK hP hD hS hA [4] rfl [0, 1, 2, 3] rfl (by decide) (by decide) (fun u t H locs ht hvm hw_c11 hY_c11 hz_c11 hm_c11 hk_c11 hK hP hD hS => ?_)
  obtain ⟨aq, rfl⟩ : ∃ z, z = u := ⟨_, rfl⟩
  try dsimp only at hw_c11 hY_c11
  have hP : va_P D vwCl [(mm, .inr (8, [.int (nI 0), .ref aa, .int (nI kn), .int (nI rf)])), (aa, .inl (cA, 6, .inr (.inr (.inr (.inr ga))))), (jj, .inr (7, [.ref tb, .ref ((e.2.2.1 2)), .ref ((e.2.2.1 3)), .ref al, .null])), (al, .inr (2, [.int (nI mo), .ref e.1, .int (nI 0)])), (jn, .inr (7, [.ref ((e.2.2.1 0)), .ref ((e.2.2.1 0)), .ref ((e.2.2.1 0)), .ref aq, .null])), (aq, .inr (2, [.int (nI 0), .ref e.1, .int (nI 0)]))] H := hP
  have hD : va_D A [(mm, .inr (8, [.int (nI 0), .ref aa, .int (nI kn), .int (nI rf)])), (aa, .inl (cA, 6, .inr (.inr (.inr (.inr ga))))), (jj, .inr (7, [.ref tb, .ref ((e.2.2.1 2)), .ref ((e.2.2.1 3)), .ref al, .null])), (al, .inr (2, [.int (nI mo), .ref e.1, .int (nI 0)])), (jn, .inr (7, [.ref ((e.2.2.1 0)), .ref ((e.2.2.1 0)), .ref ((e.2.2.1 0)), .ref aq, .null])), (aq, .inr (2, [.int (nI 0), .ref e.1, .int (nI 0)]))] := hD
  have hK : va_K D vwCl [(cA, .object "JoinrowModel$Joiner")] s := hK
  have hs13 := hS.1
  refine W.widen (k := 6) (n := 34) (by omega) (by omega) ?_
  have vi14 : vp_in (nI 0) (6) := vp_in_nI (by omega) (by omega)
  refine va_astq hx hb hK hP hD hS 1 0 4 7 rfl rfl rfl rfl vi14 dX5_begun_23 (fun H locs hP hD hS => ?_)
  rw [nI_clamp (show 0 < 2 ^ 31 by omega)] at hP hD
  have hg2 : va_up ga (0) (some jn) 0 = some jn := rfl
  generalize va_up ga (0) (some jn) = g2 at hP hD hg2
  have hP : va_P D vwCl [(mm, .inr (8, [.int (nI 0), .ref aa, .int (nI kn), .int (nI rf)])), (aa, .inl (cA, 6, .inr (.inr (.inr (.inr g2))))), (jj, .inr (7, [.ref tb, .ref ((e.2.2.1 2)), .ref ((e.2.2.1 3)), .ref al, .null])), (al, .inr (2, [.int (nI mo), .ref e.1, .int (nI 0)])), (jn, .inr (7, [.ref ((e.2.2.1 0)), .ref ((e.2.2.1 0)), .ref ((e.2.2.1 0)), .ref aq, .null])), (aq, .inr (2, [.int (nI 0), .ref e.1, .int (nI 0)]))] H := hP
  have hD : va_D A [(mm, .inr (8, [.int (nI 0), .ref aa, .int (nI kn), .int (nI rf)])), (aa, .inl (cA, 6, .inr (.inr (.inr (.inr g2))))), (jj, .inr (7, [.ref tb, .ref ((e.2.2.1 2)), .ref ((e.2.2.1 3)), .ref al, .null])), (al, .inr (2, [.int (nI mo), .ref e.1, .int (nI 0)])), (jn, .inr (7, [.ref ((e.2.2.1 0)), .ref ((e.2.2.1 0)), .ref ((e.2.2.1 0)), .ref aq, .null])), (aq, .inr (2, [.int (nI 0), .ref e.1, .int (nI 0)]))] := hD
  have hs15 := hS.1
  refine lv_iload hx hb dX5_begun_24 (lv_at hl 0 rfl) ?_
  refine W.widen (k := (10)) (n := (60)) (by omega) (by omega) ?_
  have hz0 := hS.1
  refine z_keepW (fun hkp => ?_)
  exact z_reti (v := (nI 2)) (jn, aq, g2) hx hb hr (by first | rfl | decide) hlocks (show (nI 2) = (nI 2) ∧ g2 0 = some jn from ⟨rfl, hg2⟩) hK [] rfl hP hD hS [0, 1, 4, 5] (by decide) rfl (by omega) (zw_keep hkp) (fun _ _ _ => trivial) dX5_begun_26
set_option maxRecDepth 100000 in
set_option maxHeartbeats 4000000 in
/-- JoinrowModel.begin(0, 0), of a new joiner -/
theorem c_mbegin (l : Launch) (D : va_G) (N0 : Nat) (e : zE) (sz mz : Nat) (mm : Nat) (aa : Nat) (kn : Nat) (rf : Nat) (cA : ClassId) (ga : Nat → Option Nat) (jj : Nat) (tb : Nat) (al : Nat) (mo : Nat) (hga : ga 0 = some jj) : Met l yX5_begin wsX5_begin ({ frames := 9, cells := 10, slots := 60, locals := 237 }) (va_Pc [.ref mm, .int (nI 0), .int (nI 0)] (zP N0 e D [(cA, .object "JoinrowModel$Joiner")] [(mm, .inr (8, [.int (nI 0), .ref aa, .int (nI kn), .int (nI rf)])), (aa, .inl (cA, 6, .inr (.inr (.inr (.inr ga))))), (jj, .inr (7, [.ref tb, .ref ((e.2.2.1 2)), .ref ((e.2.2.1 3)), .ref al, .null])), (al, .inr (2, [.int (nI mo), .ref e.1, .int (nI 0)]))] sz mz [])) (zQi (fun (r : Int32) (u : Nat × Nat × (Nat → Option Nat)) => r = (nI 2) ∧ u.2.2 0 = some u.1) D (fun (u : Nat × Nat × (Nat → Option Nat)) => ([(mm, .inr (8, [.int (nI 0), .ref aa, .int (nI kn), .int (nI rf)])), (aa, .inl (cA, 6, .inr (.inr (.inr (.inr u.2.2))))), (u.1, .inr (7, [.ref ((e.2.2.1 0)), .ref ((e.2.2.1 0)), .ref ((e.2.2.1 0)), .ref u.2.1, .null])), (u.2.1, .inr (2, [.int (nI 0), .ref e.1, .int (nI 0)]))] : va_W)) (fun (u : Nat × Nat × (Nat → Option Nat)) => ([] : List (ClassId × FieldType))) sz (0) mz (0) (fun (u : Nat × Nat × (Nat → Option Nat)) (t : State) => True) (va_A [(mm, .inr (8, [.int (nI 0), .ref aa, .int (nI kn), .int (nI rf)])), (aa, .inl (cA, 6, .inr (.inr (.inr (.inr ga))))), (jj, .inr (7, [.ref tb, .ref ((e.2.2.1 2)), .ref ((e.2.2.1 3)), .ref al, .null])), (al, .inr (2, [.int (nI mo), .ref e.1, .int (nI 0)]))] sz)) (10) (60) (va_A [(mm, .inr (8, [.int (nI 0), .ref aa, .int (nI kn), .int (nI rf)])), (aa, .inl (cA, 6, .inr (.inr (.inr (.inr ga))))), (jj, .inr (7, [.ref tb, .ref ((e.2.2.1 2)), .ref ((e.2.2.1 3)), .ref al, .null])), (al, .inr (2, [.int (nI mo), .ref e.1, .int (nI 0)]))] sz) := by
  refine z_met (Qc := fun A => zQi (fun (r : Int32) (u : Nat × Nat × (Nat → Option Nat)) => r = (nI 2) ∧ u.2.2 0 = some u.1) D (fun (u : Nat × Nat × (Nat → Option Nat)) => ([(mm, .inr (8, [.int (nI 0), .ref aa, .int (nI kn), .int (nI rf)])), (aa, .inl (cA, 6, .inr (.inr (.inr (.inr u.2.2))))), (u.1, .inr (7, [.ref ((e.2.2.1 0)), .ref ((e.2.2.1 0)), .ref ((e.2.2.1 0)), .ref u.2.1, .null])), (u.2.1, .inr (2, [.int (nI 0), .ref e.1, .int (nI 0)]))] : va_W)) (fun (u : Nat × Nat × (Nat → Option Nat)) => ([] : List (ClassId × FieldType))) sz (0) mz (0) (fun (u : Nat × Nat × (Nat → Option Nat)) (t : State) => True) A) (cc := cX5_begin) (maxL := 3) (ret := (some .int)) RX5 rfl (by decide) rfl (Nat.le_of_ble_eq_true rfl) ?_
  intro p ev s m below meth c ls A hx hb hr hml hown hts hlocks hnm hsz hmz hN hAe hA hAN hS hP hK hD hG hL hl
  subst hsz
  subst hmz
  have hl : lv_has ls 3 [(0, .ref mm), (1, .int (nI 0)), (2, .int (nI 0))] := hl
  refine lv_aload_n hx hb dX5_begin_0 rfl (lv_at hl 0 rfl) ?_
  refine lv_iload_n hx hb dX5_begin_1 rfl (lv_at hl 1 rfl) ?_
  have hFc := va_free (wc := []) hD hS hA [] rfl
  have kc1 : 0 + (0) ≤ 10 := by omega
  have ks2 : 0 + (0) ≤ 60 := by omega
  refine z_calli (wr := [(mm, .inr (8, [.int (nI 0), .ref aa, .int (nI kn), .int (nI rf)])), (aa, .inl (cA, 6, .inr (.inr (.inr (.inr ga))))), (jj, .inr (7, [.ref tb, .ref ((e.2.2.1 2)), .ref ((e.2.2.1 3)), .ref al, .null])), (al, .inr (2, [.int (nI mo), .ref e.1, .int (nI 0)]))]) (va_runS (As := [.int (nI 0)]) (rest := [.ref mm]) ⟨hx, hb, hml, hown, hts⟩ (c_isNo l D N0 e s.heap.size (zw s.heap)  ) (va_cwS 1 hts gX5_begin_X5_isNo rfl rfl rfl (by decide +kernel) ⟨Nat.le_of_ble_eq_true rfl, Nat.le_of_ble_eq_true rfl⟩) ⟨zP.blind, (z_pre hK hP hD hS hAN hN hG [] (by decide) rfl [] rfl (fun q hq => absurd hq List.not_mem_nil))⟩ rfl rfl hl.1 rfl (lv_room (Nat.le_of_ble_eq_true rfl)) dX5_begin_2 ⟨kc1, ks2⟩) hK hP hD hS hA [] rfl [0, 1, 2, 3] rfl (by decide) (by decide) (fun r4 u t H locs ht hvm hw_c3 hY_c3 hz_c3 hm_c3 hk_c3 hK hP hD hS => ?_)
  have hP : va_P D vwCl [(mm, .inr (8, [.int (nI 0), .ref aa, .int (nI kn), .int (nI rf)])), (aa, .inl (cA, 6, .inr (.inr (.inr (.inr ga))))), (jj, .inr (7, [.ref tb, .ref ((e.2.2.1 2)), .ref ((e.2.2.1 3)), .ref al, .null])), (al, .inr (2, [.int (nI mo), .ref e.1, .int (nI 0)]))] H := hP
  have hD : va_D A [(mm, .inr (8, [.int (nI 0), .ref aa, .int (nI kn), .int (nI rf)])), (aa, .inl (cA, 6, .inr (.inr (.inr (.inr ga))))), (jj, .inr (7, [.ref tb, .ref ((e.2.2.1 2)), .ref ((e.2.2.1 3)), .ref al, .null])), (al, .inr (2, [.int (nI mo), .ref e.1, .int (nI 0)]))] := hD
  have hK : va_K D vwCl [(cA, .object "JoinrowModel$Joiner")] s := hK
  have hs5 := hS.1
  refine W.widen (k := 0) (n := 0) (by omega) (by omega) ?_
  subst hw_c3
  refine lv_iload_n hx hb dX5_begin_5 rfl (lv_at hl 2 rfl) ?_
  have hFc := va_free (wc := []) hD hS hA [] rfl
  have kc6 : 0 + (0) ≤ 10 := by omega
  have ks7 : 0 + (0) ≤ 60 := by omega
  refine z_calli (wr := [(mm, .inr (8, [.int (nI 0), .ref aa, .int (nI kn), .int (nI rf)])), (aa, .inl (cA, 6, .inr (.inr (.inr (.inr ga))))), (jj, .inr (7, [.ref tb, .ref ((e.2.2.1 2)), .ref ((e.2.2.1 3)), .ref al, .null])), (al, .inr (2, [.int (nI mo), .ref e.1, .int (nI 0)]))]) (va_runS (As := [.int (nI 0)]) (rest := [.int (nI 0), .ref mm]) ⟨hx, hb, hml, hown, hts⟩ (c_isNoW l D N0 e H.size (zw H)  ) (va_cwS 1 hts gX5_begin_X5_isNoWord rfl rfl rfl (by decide +kernel) ⟨Nat.le_of_ble_eq_true rfl, Nat.le_of_ble_eq_true rfl⟩) ⟨zP.blind, (z_pre hK hP hD hS hAN hN hG [] (by decide) rfl [] rfl (fun q hq => absurd hq List.not_mem_nil))⟩ rfl rfl hl.1 rfl (lv_room (Nat.le_of_ble_eq_true rfl)) dX5_begin_6 ⟨kc6, ks7⟩) hK hP hD hS hA [] rfl [0, 1, 2, 3] rfl (by decide) (by decide) (fun r9 u t H locs ht hvm hw_c8 hY_c8 hz_c8 hm_c8 hk_c8 hK hP hD hS => ?_)
  have hP : va_P D vwCl [(mm, .inr (8, [.int (nI 0), .ref aa, .int (nI kn), .int (nI rf)])), (aa, .inl (cA, 6, .inr (.inr (.inr (.inr ga))))), (jj, .inr (7, [.ref tb, .ref ((e.2.2.1 2)), .ref ((e.2.2.1 3)), .ref al, .null])), (al, .inr (2, [.int (nI mo), .ref e.1, .int (nI 0)]))] H := hP
  have hD : va_D A [(mm, .inr (8, [.int (nI 0), .ref aa, .int (nI kn), .int (nI rf)])), (aa, .inl (cA, 6, .inr (.inr (.inr (.inr ga))))), (jj, .inr (7, [.ref tb, .ref ((e.2.2.1 2)), .ref ((e.2.2.1 3)), .ref al, .null])), (al, .inr (2, [.int (nI mo), .ref e.1, .int (nI 0)]))] := hD
  have hK : va_K D vwCl [(cA, .object "JoinrowModel$Joiner")] s := hK
  have hs10 := hS.1
  refine W.widen (k := 0) (n := 0) (by omega) (by omega) ?_
  subst hw_c8
  refine lv_iconst (v := (nI 0)) hx hb dX5_begin_9 (by decide) ?_
  have hFc := va_free (wc := [(mm, .inr (8, [.int (nI 0), .ref aa, .int (nI kn), .int (nI rf)]))]) hD hS hA [0] rfl
  have kc11 : 0 + (0) ≤ 10 := by omega
  have ks12 : 0 + (0) ≤ 60 := by omega
  refine z_calli (wr := [(aa, .inl (cA, 6, .inr (.inr (.inr (.inr ga))))), (jj, .inr (7, [.ref tb, .ref ((e.2.2.1 2)), .ref ((e.2.2.1 3)), .ref al, .null])), (al, .inr (2, [.int (nI mo), .ref e.1, .int (nI 0)]))]) (va_runV (As := [.int (nI 0), .int (nI 0), .int (nI 0)]) (rest := []) ⟨hx, hb, hml, hown, hts⟩ (c_fails l D N0 e H.size (zw H) mm aa kn rf ) (cwV 3 hts gX5_begin_X5_fails rfl rfl rfl (by decide +kernel) ⟨Nat.le_of_ble_eq_true rfl, Nat.le_of_ble_eq_true rfl⟩) ⟨zP.blind, (va_recv hK hP (ci := 8) (q0 := 0) rfl rfl), (z_pre hK hP hD hS hAN hN hG [0] (by decide) rfl [] rfl (fun q hq => absurd hq List.not_mem_nil))⟩ rfl rfl hl.1 rfl (lv_room (Nat.le_of_ble_eq_true rfl)) dX5_begin_10 ⟨kc11, ks12⟩) hK hP hD hS hA [0] rfl [1, 2, 3] rfl (by decide) (by decide) (fun r14 u t H locs ht hvm hw_c13 hY_c13 hz_c13 hm_c13 hk_c13 hK hP hD hS => ?_)
  have hP : va_P D vwCl [(aa, .inl (cA, 6, .inr (.inr (.inr (.inr ga))))), (jj, .inr (7, [.ref tb, .ref ((e.2.2.1 2)), .ref ((e.2.2.1 3)), .ref al, .null])), (al, .inr (2, [.int (nI mo), .ref e.1, .int (nI 0)])), (mm, .inr (8, [.int (nI 0), .ref aa, .int (nI kn), .int (nI rf)]))] H := hP
  have hD : va_D A [(aa, .inl (cA, 6, .inr (.inr (.inr (.inr ga))))), (jj, .inr (7, [.ref tb, .ref ((e.2.2.1 2)), .ref ((e.2.2.1 3)), .ref al, .null])), (al, .inr (2, [.int (nI mo), .ref e.1, .int (nI 0)])), (mm, .inr (8, [.int (nI 0), .ref aa, .int (nI kn), .int (nI rf)]))] := hD
  have hK : va_K D vwCl [(cA, .object "JoinrowModel$Joiner")] s := hK
  have hs15 := hS.1
  refine W.widen (k := 0) (n := 0) (by omega) (by omega) ?_
  subst hw_c13
  refine lv_if_eq (tgt := 20) hx hb dX5_begin_13 (by decide) (fun _ => ?_) (fun hq => absurd (show (nI 0) = (nI 0) from (nI_eq (by omega) (by omega)).mpr (by omega)) hq)
  refine lv_aload_n hx hb dX5_begin_20 rfl (lv_at hl 0 rfl) ?_
  refine lv_iload_n hx hb dX5_begin_21 rfl (lv_at hl 1 rfl) ?_
  refine lv_iload_n hx hb dX5_begin_22 rfl (lv_at hl 2 rfl) ?_
  have hFc := va_free (wc := []) hD hS hA [] rfl
  have kc16 : 0 + (0) ≤ 10 := by omega
  have ks17 : 0 + (0) ≤ 60 := by omega
  refine z_callr (wr := [(aa, .inl (cA, 6, .inr (.inr (.inr (.inr ga))))), (jj, .inr (7, [.ref tb, .ref ((e.2.2.1 2)), .ref ((e.2.2.1 3)), .ref al, .null])), (al, .inr (2, [.int (nI mo), .ref e.1, .int (nI 0)])), (mm, .inr (8, [.int (nI 0), .ref aa, .int (nI kn), .int (nI rf)]))]) (va_runS (As := [.int (nI 0)]) (rest := [.int (nI 0), .ref mm]) ⟨hx, hb, hml, hown, hts⟩ (c_wordOf l D N0 e H.size (zw H)  ) (va_cwS 1 hts gX5_begin_X5_wordOf rfl rfl rfl (by decide +kernel) ⟨Nat.le_of_ble_eq_true rfl, Nat.le_of_ble_eq_true rfl⟩) ⟨zP.blind, (z_pre hK hP hD hS hAN hN hG [] (by decide) rfl [] rfl (fun q hq => absurd hq List.not_mem_nil))⟩ rfl rfl hl.1 rfl (lv_room (Nat.le_of_ble_eq_true rfl)) dX5_begin_23 ⟨kc16, ks17⟩) hK hP hD hS hA [] rfl [0, 1, 2, 3] rfl (by decide) (by decide) (fun u r19 t H locs ht hvm hw_c18 hY_c18 hz_c18 hm_c18 hk_c18 hK hP hD hS => ?_)
  have hP : va_P D vwCl [(aa, .inl (cA, 6, .inr (.inr (.inr (.inr ga))))), (jj, .inr (7, [.ref tb, .ref ((e.2.2.1 2)), .ref ((e.2.2.1 3)), .ref al, .null])), (al, .inr (2, [.int (nI mo), .ref e.1, .int (nI 0)])), (mm, .inr (8, [.int (nI 0), .ref aa, .int (nI kn), .int (nI rf)]))] H := hP
  have hD : va_D A [(aa, .inl (cA, 6, .inr (.inr (.inr (.inr ga))))), (jj, .inr (7, [.ref tb, .ref ((e.2.2.1 2)), .ref ((e.2.2.1 3)), .ref al, .null])), (al, .inr (2, [.int (nI mo), .ref e.1, .int (nI 0)])), (mm, .inr (8, [.int (nI 0), .ref aa, .int (nI kn), .int (nI rf)]))] := hD
  have hK : va_K D vwCl [(cA, .object "JoinrowModel$Joiner")] s := hK
  have hs20 := hS.1
  refine W.widen (k := 0) (n := 0) (by omega) (by omega) ?_
  obtain rfl : (e.2.2.1 0) = r19 := Eq.symm hw_c18
  refine va_ldcS hx hb hown (hG.2.2.2.2.2.1 ("JoinrowModel", 32, "", 0) (by simp)) dX5_begin_26 ?_
  refine va_ldcS hx hb hown (hG.2.2.2.2.2.1 ("JoinrowModel", 32, "", 0) (by simp)) dX5_begin_28 ?_
  have hFc := va_free (wc := [(mm, .inr (8, [.int (nI 0), .ref aa, .int (nI kn), .int (nI rf)])), (aa, .inl (cA, 6, .inr (.inr (.inr (.inr ga))))), (jj, .inr (7, [.ref tb, .ref ((e.2.2.1 2)), .ref ((e.2.2.1 3)), .ref al, .null])), (al, .inr (2, [.int (nI mo), .ref e.1, .int (nI 0)]))]) hD hS hA [3, 0, 1, 2] rfl
  have kc21 : 0 + (10) ≤ 10 := by omega
  have ks22 : 0 + (60) ≤ 60 := by omega
  refine z_calli (wr := []) (va_runV (As := [.int (nI 0), .ref ((e.2.2.1 0)), .ref ((e.2.2.1 0)), .ref ((e.2.2.1 0))]) (rest := []) ⟨hx, hb, hml, hown, hts⟩ (c_begun l D N0 e H.size (zw H) mm aa kn rf cA ga jj tb al mo hga) (cwV 4 hts gX5_begin_X5_begun rfl rfl rfl (by decide +kernel) ⟨Nat.le_of_ble_eq_true rfl, Nat.le_of_ble_eq_true rfl⟩) ⟨zP.blind, (va_recv hK hP (ci := 8) (q0 := 3) rfl rfl), (z_pre hK hP hD hS hAN hN hG [3, 0, 1, 2] (by decide) rfl [0] rfl (fun q hq => absurd hq List.not_mem_nil))⟩ rfl rfl hl.1 rfl (lv_room (Nat.le_of_ble_eq_true rfl)) dX5_begin_30 ⟨kc21, ks22⟩) hK hP hD hS hA [3, 0, 1, 2] rfl [] rfl (by decide) (by decide) (fun r24 u t H locs ht hvm hw_c23 hY_c23 hz_c23 hm_c23 hk_c23 hK hP hD hS => ?_)
  obtain ⟨jn, aq, g2⟩ := u
  try dsimp only at hw_c23 hY_c23
  have hP : va_P D vwCl [(mm, .inr (8, [.int (nI 0), .ref aa, .int (nI kn), .int (nI rf)])), (aa, .inl (cA, 6, .inr (.inr (.inr (.inr g2))))), (jn, .inr (7, [.ref ((e.2.2.1 0)), .ref ((e.2.2.1 0)), .ref ((e.2.2.1 0)), .ref aq, .null])), (aq, .inr (2, [.int (nI 0), .ref e.1, .int (nI 0)]))] H := hP
  have hD : va_D A [(mm, .inr (8, [.int (nI 0), .ref aa, .int (nI kn), .int (nI rf)])), (aa, .inl (cA, 6, .inr (.inr (.inr (.inr g2))))), (jn, .inr (7, [.ref ((e.2.2.1 0)), .ref ((e.2.2.1 0)), .ref ((e.2.2.1 0)), .ref aq, .null])), (aq, .inr (2, [.int (nI 0), .ref e.1, .int (nI 0)]))] := hD
  have hK : va_K D vwCl [(cA, .object "JoinrowModel$Joiner")] s := hK
  have hs25 := hS.1
  refine W.widen (k := 10) (n := 60) (by omega) (by omega) ?_
  obtain rfl := hw_c23.1
  have hg2 := hw_c23.2
  have hz0 := hS.1
  refine z_keepW (fun hkp => ?_)
  exact z_reti (v := (nI 2)) (jn, aq, g2) hx hb hr (by first | rfl | decide) hlocks (show (nI 2) = (nI 2) ∧ g2 0 = some jn from ⟨rfl, hg2⟩) hK [] rfl hP hD hS [0, 1, 2, 3] (by decide) rfl (by omega) (zw_keep hkp) (fun _ _ _ => trivial) dX5_begin_33
set_option maxRecDepth 100000 in
set_option maxHeartbeats 4000000 in
/-- lay(0, ""), behind nn pieces -/
theorem c_lay1 (l : Launch) (D : va_G) (N0 : Nat) (e : zE) (sz mz : Nat) (mm : Nat) (aa : Nat) (kn : Nat) (rf : Nat) (cA : ClassId) (ga : Nat → Option Nat) (jj : Nat) (al : Nat) (mo : Nat) (ea : Nat) (nn : Nat) (cO : ClassId) (cap : Nat) (fe : Nat → Option Nat) (hga : ga 0 = some jj) (h1 : 1 ≤ nn) (h5 : nn ≤ 510) (hn : nn ≤ cap) (hcap : cap ≤ 800) (hzf : zF fe nn (e.2.2.1 0)) (h10 : 10 ≤ cap) : Met l yX5_lay wsX5_lay ({ frames := 9, cells := 8 * nn + 12, slots := 48 * nn + 1300, locals := 234 }) (va_Pc [.ref mm, .int (nI 0), .ref ((e.2.2.1 0)), .int (nI 3)] (zP N0 e D [(cA, .object "JoinrowModel$Joiner"), (cO, .object "java/lang/Object")] [(mm, .inr (8, [.int (nI 0), .ref aa, .int (nI kn), .int (nI rf)])), (aa, .inl (cA, 6, .inr (.inr (.inr (.inr ga))))), (jj, .inr (7, [.ref ((e.2.2.1 0)), .ref ((e.2.2.1 0)), .ref ((e.2.2.1 0)), .ref al, .null])), (al, .inr (2, [.int (nI mo), .ref ea, .int (nI nn)])), (ea, .inl (cO, cap, .inr (.inr (.inr (.inr fe)))))] sz mz [])) (zQi (fun (r : Int32) (u : Nat × ClassId × Nat × (Nat → Option Nat)) => r = (nI 0) ∧ nn + 1 ≤ u.2.2.1 ∧ u.2.2.1 ≤ 800 ∧ 10 ≤ u.2.2.1 ∧ zF u.2.2.2 (nn + 1) (e.2.2.1 0)) D (fun (u : Nat × ClassId × Nat × (Nat → Option Nat)) => ([(mm, .inr (8, [.int (nI 0), .ref aa, .int (nI kn), .int (nI rf)])), (aa, .inl (cA, 6, .inr (.inr (.inr (.inr ga))))), (jj, .inr (7, [.ref ((e.2.2.1 0)), .ref ((e.2.2.1 0)), .ref ((e.2.2.1 0)), .ref al, .null])), (al, .inr (2, [.int (nI (mo + 1)), .ref u.1, .int (nI (nn + 1))])), (u.1, .inl (u.2.1, u.2.2.1, .inr (.inr (.inr (.inr u.2.2.2)))))] : va_W)) (fun (u : Nat × ClassId × Nat × (Nat → Option Nat)) => ([(u.2.1, .object "java/lang/Object")] : List (ClassId × FieldType))) sz (8 * nn + 8) mz (576 * nn + 576) (fun (u : Nat × ClassId × Nat × (Nat → Option Nat)) (t : State) => True) (va_A [(mm, .inr (8, [.int (nI 0), .ref aa, .int (nI kn), .int (nI rf)])), (aa, .inl (cA, 6, .inr (.inr (.inr (.inr ga))))), (jj, .inr (7, [.ref ((e.2.2.1 0)), .ref ((e.2.2.1 0)), .ref ((e.2.2.1 0)), .ref al, .null])), (al, .inr (2, [.int (nI mo), .ref ea, .int (nI nn)])), (ea, .inl (cO, cap, .inr (.inr (.inr (.inr fe)))))] sz)) (8 * nn + 12) (48 * nn + 1300) (va_A [(mm, .inr (8, [.int (nI 0), .ref aa, .int (nI kn), .int (nI rf)])), (aa, .inl (cA, 6, .inr (.inr (.inr (.inr ga))))), (jj, .inr (7, [.ref ((e.2.2.1 0)), .ref ((e.2.2.1 0)), .ref ((e.2.2.1 0)), .ref al, .null])), (al, .inr (2, [.int (nI mo), .ref ea, .int (nI nn)])), (ea, .inl (cO, cap, .inr (.inr (.inr (.inr fe)))))] sz) := by
  refine z_met (Qc := fun A => zQi (fun (r : Int32) (u : Nat × ClassId × Nat × (Nat → Option Nat)) => r = (nI 0) ∧ nn + 1 ≤ u.2.2.1 ∧ u.2.2.1 ≤ 800 ∧ 10 ≤ u.2.2.1 ∧ zF u.2.2.2 (nn + 1) (e.2.2.1 0)) D (fun (u : Nat × ClassId × Nat × (Nat → Option Nat)) => ([(mm, .inr (8, [.int (nI 0), .ref aa, .int (nI kn), .int (nI rf)])), (aa, .inl (cA, 6, .inr (.inr (.inr (.inr ga))))), (jj, .inr (7, [.ref ((e.2.2.1 0)), .ref ((e.2.2.1 0)), .ref ((e.2.2.1 0)), .ref al, .null])), (al, .inr (2, [.int (nI (mo + 1)), .ref u.1, .int (nI (nn + 1))])), (u.1, .inl (u.2.1, u.2.2.1, .inr (.inr (.inr (.inr u.2.2.2)))))] : va_W)) (fun (u : Nat × ClassId × Nat × (Nat → Option Nat)) => ([(u.2.1, .object "java/lang/Object")] : List (ClassId × FieldType))) sz (8 * nn + 8) mz (576 * nn + 576) (fun (u : Nat × ClassId × Nat × (Nat → Option Nat)) (t : State) => True) A) (cc := cX5_lay) (maxL := 4) (ret := (some .int)) RX5 rfl (by decide) rfl (Nat.le_of_ble_eq_true rfl) ?_
  intro p ev s m below meth c ls A hx hb hr hml hown hts hlocks hnm hsz hmz hN hAe hA hAN hS hP hK hD hG hL hl
  subst hsz
  subst hmz
  have hl : lv_has ls 4 [(0, .ref mm), (1, .int (nI 0)), (2, .ref ((e.2.2.1 0))), (3, .int (nI 3))] := hl
  refine lv_aload_n hx hb dX5_lay_0 rfl (lv_at hl 0 rfl) ?_
  refine va_get (D := D) (ci := 8) (v := .ref aa) (C := RX5) (T := TX5) (N := 4) hx hb hts (by decide +kernel) hown hK hP 0 rfl rfl 1 (by decide) (hts (.fieldLink RX5 11 "JoinrowModel" "all" "[LJoinrowModel$Joiner;") (by decide +kernel)) (fun _ h9 => h9) rfl dX5_lay_1 ?_
  refine lv_iload_n hx hb dX5_lay_4 rfl (lv_at hl 1 rfl) ?_
  have vi1 : vp_in (nI 0) 6 := vp_in_nI (by omega) (by omega)
  refine va_aldq hx hb hK hP 1 0 rfl rfl vi1 dX5_lay_5 ?_
  rw [nI_clamp (show 0 < 2 ^ 31 by omega), (show ga (0) = some jj from hga)]
  refine W.eq (g2 := F0 m 6 ls [.ref jj]) rfl ?_
  refine lv_aload_n hx hb dX5_lay_6 rfl (lv_at hl 2 rfl) ?_
  have hFc := va_free (wc := [(jj, .inr (7, [.ref ((e.2.2.1 0)), .ref ((e.2.2.1 0)), .ref ((e.2.2.1 0)), .ref al, .null])), (al, .inr (2, [.int (nI mo), .ref ea, .int (nI nn)])), (ea, .inl (cO, cap, .inr (.inr (.inr (.inr fe)))))]) hD hS hA [2, 3, 4] rfl
  have kc2 : 0 + (4 * nn) ≤ 8 * nn + 12 := by omega
  have ks3 : 0 + (24 * nn) ≤ 48 * nn + 1300 := by omega
  refine z_calli (wr := [(mm, .inr (8, [.int (nI 0), .ref aa, .int (nI kn), .int (nI rf)])), (aa, .inl (cA, 6, .inr (.inr (.inr (.inr ga)))))]) (va_runV (As := [.ref ((e.2.2.1 0))]) (rest := []) ⟨hx, hb, hml, hown, hts⟩ (c_with1 l D N0 e s.heap.size (zw s.heap) jj al mo ea nn cO cap fe h1 (by omega) hn hcap hzf) (cwV 1 hts gX5_lay_X4_with rfl rfl rfl (by decide +kernel) ⟨Nat.le_of_ble_eq_true rfl, Nat.le_of_ble_eq_true rfl⟩) ⟨zP.blind, (va_recv hK hP (ci := 7) (q0 := 2) rfl rfl), (z_pre hK hP hD hS hAN hN hG [2, 3, 4] (by decide) rfl [1] rfl (fun q hq => absurd hq List.not_mem_nil))⟩ rfl rfl hl.1 rfl (lv_room (Nat.le_of_ble_eq_true rfl)) dX5_lay_7 ⟨kc2, ks3⟩) hK hP hD hS hA [2, 3, 4] rfl [0, 1] rfl (by decide) (by decide) (fun r5 u t H locs ht hvm hw_c4 hY_c4 hz_c4 hm_c4 hk_c4 hK hP hD hS => ?_)
  have hP : va_P D vwCl [(mm, .inr (8, [.int (nI 0), .ref aa, .int (nI kn), .int (nI rf)])), (aa, .inl (cA, 6, .inr (.inr (.inr (.inr ga))))), (jj, .inr (7, [.ref ((e.2.2.1 0)), .ref ((e.2.2.1 0)), .ref ((e.2.2.1 0)), .ref al, .null])), (al, .inr (2, [.int (nI mo), .ref ea, .int (nI nn)])), (ea, .inl (cO, cap, .inr (.inr (.inr (.inr fe)))))] H := hP
  have hD : va_D A [(mm, .inr (8, [.int (nI 0), .ref aa, .int (nI kn), .int (nI rf)])), (aa, .inl (cA, 6, .inr (.inr (.inr (.inr ga))))), (jj, .inr (7, [.ref ((e.2.2.1 0)), .ref ((e.2.2.1 0)), .ref ((e.2.2.1 0)), .ref al, .null])), (al, .inr (2, [.int (nI mo), .ref ea, .int (nI nn)])), (ea, .inl (cO, cap, .inr (.inr (.inr (.inr fe)))))] := hD
  have hK : va_K D vwCl [(cA, .object "JoinrowModel$Joiner"), (cO, .object "java/lang/Object")] s := hK
  have hs6 := hS.1
  refine W.widen (k := (4 * nn)) (n := (24 * nn)) (by omega) (by omega) ?_
  subst hw_c4
  refine lv_sipush (v := (nI 300)) hx hb dX5_lay_10 (by decide) ?_
  refine lv_icmp_le (tgt := 23) hx hb dX5_lay_13 (by decide) (fun _ => ?_) (fun hq => absurd (show (nI 0) ≤ (nI 300) from (nI_leI (by omega) (by omega)).mpr (by omega)) hq)
  refine lv_aload_n hx hb dX5_lay_23 rfl (lv_at hl 0 rfl) ?_
  refine va_get (D := D) (ci := 8) (v := .ref aa) (C := RX5) (T := TX5) (N := 4) hx hb hts (by decide +kernel) hown hK hP 0 rfl rfl 1 (by decide) (hts (.fieldLink RX5 11 "JoinrowModel" "all" "[LJoinrowModel$Joiner;") (by decide +kernel)) (fun _ h9 => h9) rfl dX5_lay_24 ?_
  refine lv_iload_n hx hb dX5_lay_27 rfl (lv_at hl 1 rfl) ?_
  have vi7 : vp_in (nI 0) 6 := vp_in_nI (by omega) (by omega)
  refine va_aldq hx hb hK hP 1 0 rfl rfl vi7 dX5_lay_28 ?_
  rw [nI_clamp (show 0 < 2 ^ 31 by omega), (show ga (0) = some jj from hga)]
  refine W.eq (g2 := F0 m 29 ls [.ref jj]) rfl ?_
  refine va_get (D := D) (ci := 7) (v := .ref al) (C := RX4) (T := TX4) (N := 5) hx hb hts (by decide +kernel) hown hK hP 2 rfl rfl 3 (by decide) (hts (.fieldLink RX5 100 "JoinrowModel$Joiner" "pieces" "Ljava/util/ArrayList;") (by decide +kernel)) (fun _ h9 => h9) rfl dX5_lay_29 ?_
  refine lv_aload_n hx hb dX5_lay_32 rfl (lv_at hl 2 rfl) ?_
  have hFc := va_free (wc := [(al, .inr (2, [.int (nI mo), .ref ea, .int (nI nn)])), (ea, .inl (cO, cap, .inr (.inr (.inr (.inr fe)))))]) hD hS hA [3, 4] rfl
  have hFN : ∀ q, va_A [(al, .inr (2, [.int (nI mo), .ref ea, .int (nI nn)])), (ea, .inl (cO, cap, .inr (.inr (.inr (.inr fe)))))] H.size q → N0 ≤ q := fun q hq => hAN q (hFc q hq)
  have kc8 : (4 * nn) + (1) ≤ 8 * nn + 12 := by omega
  have ks9 : (24 * nn) + (1200) ≤ 48 * nn + 1300 := by omega
  refine z_calli (wr := [(mm, .inr (8, [.int (nI 0), .ref aa, .int (nI kn), .int (nI rf)])), (aa, .inl (cA, 6, .inr (.inr (.inr (.inr ga))))), (jj, .inr (7, [.ref ((e.2.2.1 0)), .ref ((e.2.2.1 0)), .ref ((e.2.2.1 0)), .ref al, .null]))]) (va_runV (As := [.ref ((e.2.2.1 0))]) (rest := []) ⟨hx, hb, hml, hown, hts⟩ (c_add l D N0 e H.size (zw H) al mo ea nn cO cap fe ((e.2.2.1 0)) ((e.2.2.2 0)) 0 h10 hcap (by omega) hn hzf) (cwV 1 hts gX5_lay_Jx4a65c_add_9ea2d rfl rfl rfl (by decide +kernel) ⟨Nat.le_of_ble_eq_true rfl, Nat.le_of_ble_eq_true rfl⟩) ⟨zP.blind, (va_recv hK hP (ci := 2) (q0 := 3) rfl rfl), (z_pre hK hP hD hS hAN hN hG [3, 4] (by decide) rfl [1] rfl (List.forall_mem_cons.mpr ⟨((zkst hG 0 (by decide) hS hAN).wall (z_low (hG.2.2.2.2.1 0 (by decide)).na hFN) (z_low (hG.2.2.2.2.1 0 (by decide)).nv hFN)), fun q hq => absurd hq List.not_mem_nil⟩))⟩ rfl rfl hl.1 rfl (lv_room (Nat.le_of_ble_eq_true rfl)) dX5_lay_33 ⟨kc8, ks9⟩) hK hP hD hS hA [3, 4] rfl [0, 1, 2] rfl (by decide) (by decide) (fun r11 u t H locs ht hvm hw_c10 hY_c10 hz_c10 hm_c10 hk_c10 hK hP hD hS => ?_)
  obtain ⟨qn, cn2, cap3, f4⟩ := u
  try dsimp only at hw_c10 hY_c10
  have hP : va_P D vwCl [(mm, .inr (8, [.int (nI 0), .ref aa, .int (nI kn), .int (nI rf)])), (aa, .inl (cA, 6, .inr (.inr (.inr (.inr ga))))), (jj, .inr (7, [.ref ((e.2.2.1 0)), .ref ((e.2.2.1 0)), .ref ((e.2.2.1 0)), .ref al, .null])), (al, .inr (2, [.int (nI (mo + 1)), .ref qn, .int (nI (nn + 1))])), (qn, .inl (cn2, cap3, .inr (.inr (.inr (.inr f4)))))] H := hP
  have hD : va_D A [(mm, .inr (8, [.int (nI 0), .ref aa, .int (nI kn), .int (nI rf)])), (aa, .inl (cA, 6, .inr (.inr (.inr (.inr ga))))), (jj, .inr (7, [.ref ((e.2.2.1 0)), .ref ((e.2.2.1 0)), .ref ((e.2.2.1 0)), .ref al, .null])), (al, .inr (2, [.int (nI (mo + 1)), .ref qn, .int (nI (nn + 1))])), (qn, .inl (cn2, cap3, .inr (.inr (.inr (.inr f4)))))] := hD
  have hK : va_K D vwCl [(cA, .object "JoinrowModel$Joiner"), (cO, .object "java/lang/Object"), (cn2, .object "java/lang/Object")] s := hK
  have hs12 := hS.1
  refine W.widen (k := ((4 * nn) + 1)) (n := ((24 * nn) + 1200)) (by omega) (by omega) ?_
  obtain rfl := hw_c10.1
  have hf4 := hw_c10.2
  refine lv_pop hx hb dX5_lay_36 rfl ?_
  refine lv_aload_n hx hb dX5_lay_37 rfl (lv_at hl 0 rfl) ?_
  refine lv_iload_n hx hb dX5_lay_38 rfl (lv_at hl 1 rfl) ?_
  have hFc := va_free (wc := [(mm, .inr (8, [.int (nI 0), .ref aa, .int (nI kn), .int (nI rf)])), (aa, .inl (cA, 6, .inr (.inr (.inr (.inr ga))))), (jj, .inr (7, [.ref ((e.2.2.1 0)), .ref ((e.2.2.1 0)), .ref ((e.2.2.1 0)), .ref al, .null])), (al, .inr (2, [.int (nI (mo + 1)), .ref qn, .int (nI (nn + 1))])), (qn, .inl (cn2, cap3, .inr (.inr (.inr (.inr f4)))))]) hD hS hA [0, 1, 2, 3, 4] rfl
  have kc13 : ((4 * nn) + 1) + (4 * (nn + 1) + 4) ≤ 8 * nn + 12 := by omega
  have ks14 : ((24 * nn) + 1200) + (24 * (nn + 1) + 24) ≤ 48 * nn + 1300 := by omega
  refine z_calli (wr := []) (va_runV (As := [.int (nI 0)]) (rest := []) ⟨hx, hb, hml, hown, hts⟩ (c_lenOf1 l D N0 e H.size (zw H) mm aa kn rf cA ga jj al (mo + 1) qn (nn + 1) cn2 cap3 f4 hga (by omega) (by omega) hf4.1 hf4.2.1 hf4.2.2.2) (cwV 1 hts gX5_lay_X5_lengthOf rfl rfl rfl (by decide +kernel) ⟨Nat.le_of_ble_eq_true rfl, Nat.le_of_ble_eq_true rfl⟩) ⟨zP.blind, (va_recv hK hP (ci := 8) (q0 := 0) rfl rfl), (z_pre hK hP hD hS hAN hN hG [0, 1, 2, 3, 4] (by decide) rfl [0, 2] rfl (fun q hq => absurd hq List.not_mem_nil))⟩ rfl rfl hl.1 rfl (lv_room (Nat.le_of_ble_eq_true rfl)) dX5_lay_39 ⟨kc13, ks14⟩) hK hP hD hS hA [0, 1, 2, 3, 4] rfl [] rfl (by decide) (by decide) (fun r16 u t H locs ht hvm hw_c15 hY_c15 hz_c15 hm_c15 hk_c15 hK hP hD hS => ?_)
  have hP : va_P D vwCl [(mm, .inr (8, [.int (nI 0), .ref aa, .int (nI kn), .int (nI rf)])), (aa, .inl (cA, 6, .inr (.inr (.inr (.inr ga))))), (jj, .inr (7, [.ref ((e.2.2.1 0)), .ref ((e.2.2.1 0)), .ref ((e.2.2.1 0)), .ref al, .null])), (al, .inr (2, [.int (nI (mo + 1)), .ref qn, .int (nI (nn + 1))])), (qn, .inl (cn2, cap3, .inr (.inr (.inr (.inr f4)))))] H := hP
  have hD : va_D A [(mm, .inr (8, [.int (nI 0), .ref aa, .int (nI kn), .int (nI rf)])), (aa, .inl (cA, 6, .inr (.inr (.inr (.inr ga))))), (jj, .inr (7, [.ref ((e.2.2.1 0)), .ref ((e.2.2.1 0)), .ref ((e.2.2.1 0)), .ref al, .null])), (al, .inr (2, [.int (nI (mo + 1)), .ref qn, .int (nI (nn + 1))])), (qn, .inl (cn2, cap3, .inr (.inr (.inr (.inr f4)))))] := hD
  have hK : va_K D vwCl [(cA, .object "JoinrowModel$Joiner"), (cO, .object "java/lang/Object"), (cn2, .object "java/lang/Object")] s := hK
  have hs17 := hS.1
  refine W.widen (k := (((4 * nn) + 1) + (4 * (nn + 1) + 4))) (n := (((24 * nn) + 1200) + (24 * (nn + 1) + 24))) (by omega) (by omega) ?_
  subst hw_c15
  refine W.widen (k := (8 * nn + 12)) (n := (48 * nn + 1300)) (by omega) (by omega) ?_
  have hz0 := hS.1
  have lt0 := (hP 0 _ rfl).lt
  dsimp only at lt0
  have lt1 := (hP 1 _ rfl).lt
  dsimp only at lt1
  have lt2 := (hP 2 _ rfl).lt
  dsimp only at lt2
  have lt3 := (hP 3 _ rfl).lt
  dsimp only at lt3
  have lt4 := (hP 4 _ rfl).lt
  dsimp only at lt4
  exact z_reti (v := (nI 0)) (qn, cn2, cap3, f4) hx hb hr (by first | rfl | decide) hlocks (show (nI 0) = (nI 0) ∧ nn + 1 ≤ cap3 ∧ cap3 ≤ 800 ∧ 10 ≤ cap3 ∧ zF f4 (nn + 1) (e.2.2.1 0) from ⟨rfl, hf4⟩) hK [2] rfl hP hD hS [0, 1, 2, 3, 4] (by decide) rfl (by omega) (by omega) (fun _ _ _ => trivial) dX5_lay_42
set_option maxRecDepth 100000 in
set_option maxHeartbeats 4000000 in
/-- lay(0, ""), the first piece -/
theorem c_lay0 (l : Launch) (D : va_G) (N0 : Nat) (e : zE) (sz mz : Nat) (mm : Nat) (aa : Nat) (kn : Nat) (rf : Nat) (cA : ClassId) (ga : Nat → Option Nat) (jj : Nat) (al : Nat) (mo : Nat) (hga : ga 0 = some jj) : Met l yX5_lay wsX5_lay ({ frames := 9, cells := 12, slots := 1300, locals := 234 }) (va_Pc [.ref mm, .int (nI 0), .ref ((e.2.2.1 0)), .int (nI 3)] (zP N0 e D [(cA, .object "JoinrowModel$Joiner")] [(mm, .inr (8, [.int (nI 0), .ref aa, .int (nI kn), .int (nI rf)])), (aa, .inl (cA, 6, .inr (.inr (.inr (.inr ga))))), (jj, .inr (7, [.ref ((e.2.2.1 0)), .ref ((e.2.2.1 0)), .ref ((e.2.2.1 0)), .ref al, .null])), (al, .inr (2, [.int (nI mo), .ref e.1, .int (nI 0)]))] sz mz [])) (zQi (fun (r : Int32) (u : Nat × ClassId × Nat × (Nat → Option Nat)) => r = (nI 0) ∧ 0 + 1 ≤ u.2.2.1 ∧ u.2.2.1 ≤ 800 ∧ 10 ≤ u.2.2.1 ∧ zF u.2.2.2 (0 + 1) (e.2.2.1 0)) D (fun (u : Nat × ClassId × Nat × (Nat → Option Nat)) => ([(mm, .inr (8, [.int (nI 0), .ref aa, .int (nI kn), .int (nI rf)])), (aa, .inl (cA, 6, .inr (.inr (.inr (.inr ga))))), (jj, .inr (7, [.ref ((e.2.2.1 0)), .ref ((e.2.2.1 0)), .ref ((e.2.2.1 0)), .ref al, .null])), (al, .inr (2, [.int (nI (mo + 1)), .ref u.1, .int (nI 1)])), (u.1, .inl (u.2.1, u.2.2.1, .inr (.inr (.inr (.inr u.2.2.2)))))] : va_W)) (fun (u : Nat × ClassId × Nat × (Nat → Option Nat)) => ([(u.2.1, .object "java/lang/Object")] : List (ClassId × FieldType))) sz (8) mz (576) (fun (u : Nat × ClassId × Nat × (Nat → Option Nat)) (t : State) => True) (va_A [(mm, .inr (8, [.int (nI 0), .ref aa, .int (nI kn), .int (nI rf)])), (aa, .inl (cA, 6, .inr (.inr (.inr (.inr ga))))), (jj, .inr (7, [.ref ((e.2.2.1 0)), .ref ((e.2.2.1 0)), .ref ((e.2.2.1 0)), .ref al, .null])), (al, .inr (2, [.int (nI mo), .ref e.1, .int (nI 0)]))] sz)) (12) (1300) (va_A [(mm, .inr (8, [.int (nI 0), .ref aa, .int (nI kn), .int (nI rf)])), (aa, .inl (cA, 6, .inr (.inr (.inr (.inr ga))))), (jj, .inr (7, [.ref ((e.2.2.1 0)), .ref ((e.2.2.1 0)), .ref ((e.2.2.1 0)), .ref al, .null])), (al, .inr (2, [.int (nI mo), .ref e.1, .int (nI 0)]))] sz) := by
  refine z_met (Qc := fun A => zQi (fun (r : Int32) (u : Nat × ClassId × Nat × (Nat → Option Nat)) => r = (nI 0) ∧ 0 + 1 ≤ u.2.2.1 ∧ u.2.2.1 ≤ 800 ∧ 10 ≤ u.2.2.1 ∧ zF u.2.2.2 (0 + 1) (e.2.2.1 0)) D (fun (u : Nat × ClassId × Nat × (Nat → Option Nat)) => ([(mm, .inr (8, [.int (nI 0), .ref aa, .int (nI kn), .int (nI rf)])), (aa, .inl (cA, 6, .inr (.inr (.inr (.inr ga))))), (jj, .inr (7, [.ref ((e.2.2.1 0)), .ref ((e.2.2.1 0)), .ref ((e.2.2.1 0)), .ref al, .null])), (al, .inr (2, [.int (nI (mo + 1)), .ref u.1, .int (nI 1)])), (u.1, .inl (u.2.1, u.2.2.1, .inr (.inr (.inr (.inr u.2.2.2)))))] : va_W)) (fun (u : Nat × ClassId × Nat × (Nat → Option Nat)) => ([(u.2.1, .object "java/lang/Object")] : List (ClassId × FieldType))) sz (8) mz (576) (fun (u : Nat × ClassId × Nat × (Nat → Option Nat)) (t : State) => True) A) (cc := cX5_lay) (maxL := 4) (ret := (some .int)) RX5 rfl (by decide) rfl (Nat.le_of_ble_eq_true rfl) ?_
  intro p ev s m below meth c ls A hx hb hr hml hown hts hlocks hnm hsz hmz hN hAe hA hAN hS hP hK hD hG hL hl
  subst hsz
  subst hmz
  have hl : lv_has ls 4 [(0, .ref mm), (1, .int (nI 0)), (2, .ref ((e.2.2.1 0))), (3, .int (nI 3))] := hl
  refine lv_aload_n hx hb dX5_lay_0 rfl (lv_at hl 0 rfl) ?_
  refine va_get (D := D) (ci := 8) (v := .ref aa) (C := RX5) (T := TX5) (N := 4) hx hb hts (by decide +kernel) hown hK hP 0 rfl rfl 1 (by decide) (hts (.fieldLink RX5 11 "JoinrowModel" "all" "[LJoinrowModel$Joiner;") (by decide +kernel)) (fun _ h9 => h9) rfl dX5_lay_1 ?_
  refine lv_iload_n hx hb dX5_lay_4 rfl (lv_at hl 1 rfl) ?_
  have vi1 : vp_in (nI 0) 6 := vp_in_nI (by omega) (by omega)
  refine va_aldq hx hb hK hP 1 0 rfl rfl vi1 dX5_lay_5 ?_
  rw [nI_clamp (show 0 < 2 ^ 31 by omega), (show ga (0) = some jj from hga)]
  refine W.eq (g2 := F0 m 6 ls [.ref jj]) rfl ?_
  refine lv_aload_n hx hb dX5_lay_6 rfl (lv_at hl 2 rfl) ?_
  have hFc := va_free (wc := [(jj, .inr (7, [.ref ((e.2.2.1 0)), .ref ((e.2.2.1 0)), .ref ((e.2.2.1 0)), .ref al, .null])), (al, .inr (2, [.int (nI mo), .ref e.1, .int (nI 0)]))]) hD hS hA [2, 3] rfl
  have kc2 : 0 + (0) ≤ 12 := by omega
  have ks3 : 0 + (0) ≤ 1300 := by omega
  refine z_calli (wr := [(mm, .inr (8, [.int (nI 0), .ref aa, .int (nI kn), .int (nI rf)])), (aa, .inl (cA, 6, .inr (.inr (.inr (.inr ga)))))]) (va_runV (As := [.ref ((e.2.2.1 0))]) (rest := []) ⟨hx, hb, hml, hown, hts⟩ (c_with0 l D N0 e s.heap.size (zw s.heap) jj al mo ) (cwV 1 hts gX5_lay_X4_with rfl rfl rfl (by decide +kernel) ⟨Nat.le_of_ble_eq_true rfl, Nat.le_of_ble_eq_true rfl⟩) ⟨zP.blind, (va_recv hK hP (ci := 7) (q0 := 2) rfl rfl), (z_pre hK hP hD hS hAN hN hG [2, 3] (by decide) rfl [] rfl (fun q hq => absurd hq List.not_mem_nil))⟩ rfl rfl hl.1 rfl (lv_room (Nat.le_of_ble_eq_true rfl)) dX5_lay_7 ⟨kc2, ks3⟩) hK hP hD hS hA [2, 3] rfl [0, 1] rfl (by decide) (by decide) (fun r5 u t H locs ht hvm hw_c4 hY_c4 hz_c4 hm_c4 hk_c4 hK hP hD hS => ?_)
  have hP : va_P D vwCl [(mm, .inr (8, [.int (nI 0), .ref aa, .int (nI kn), .int (nI rf)])), (aa, .inl (cA, 6, .inr (.inr (.inr (.inr ga))))), (jj, .inr (7, [.ref ((e.2.2.1 0)), .ref ((e.2.2.1 0)), .ref ((e.2.2.1 0)), .ref al, .null])), (al, .inr (2, [.int (nI mo), .ref e.1, .int (nI 0)]))] H := hP
  have hD : va_D A [(mm, .inr (8, [.int (nI 0), .ref aa, .int (nI kn), .int (nI rf)])), (aa, .inl (cA, 6, .inr (.inr (.inr (.inr ga))))), (jj, .inr (7, [.ref ((e.2.2.1 0)), .ref ((e.2.2.1 0)), .ref ((e.2.2.1 0)), .ref al, .null])), (al, .inr (2, [.int (nI mo), .ref e.1, .int (nI 0)]))] := hD
  have hK : va_K D vwCl [(cA, .object "JoinrowModel$Joiner")] s := hK
  have hs6 := hS.1
  refine W.widen (k := 0) (n := 0) (by omega) (by omega) ?_
  subst hw_c4
  refine lv_sipush (v := (nI 300)) hx hb dX5_lay_10 (by decide) ?_
  refine lv_icmp_le (tgt := 23) hx hb dX5_lay_13 (by decide) (fun _ => ?_) (fun hq => absurd (show (nI 0) ≤ (nI 300) from (nI_leI (by omega) (by omega)).mpr (by omega)) hq)
  refine lv_aload_n hx hb dX5_lay_23 rfl (lv_at hl 0 rfl) ?_
  refine va_get (D := D) (ci := 8) (v := .ref aa) (C := RX5) (T := TX5) (N := 4) hx hb hts (by decide +kernel) hown hK hP 0 rfl rfl 1 (by decide) (hts (.fieldLink RX5 11 "JoinrowModel" "all" "[LJoinrowModel$Joiner;") (by decide +kernel)) (fun _ h9 => h9) rfl dX5_lay_24 ?_
  refine lv_iload_n hx hb dX5_lay_27 rfl (lv_at hl 1 rfl) ?_
  have vi7 : vp_in (nI 0) 6 := vp_in_nI (by omega) (by omega)
  refine va_aldq hx hb hK hP 1 0 rfl rfl vi7 dX5_lay_28 ?_
  rw [nI_clamp (show 0 < 2 ^ 31 by omega), (show ga (0) = some jj from hga)]
  refine W.eq (g2 := F0 m 29 ls [.ref jj]) rfl ?_
  refine va_get (D := D) (ci := 7) (v := .ref al) (C := RX4) (T := TX4) (N := 5) hx hb hts (by decide +kernel) hown hK hP 2 rfl rfl 3 (by decide) (hts (.fieldLink RX5 100 "JoinrowModel$Joiner" "pieces" "Ljava/util/ArrayList;") (by decide +kernel)) (fun _ h9 => h9) rfl dX5_lay_29 ?_
  refine lv_aload_n hx hb dX5_lay_32 rfl (lv_at hl 2 rfl) ?_
  have hFc := va_free (wc := [(al, .inr (2, [.int (nI mo), .ref e.1, .int (nI 0)]))]) hD hS hA [3] rfl
  have hFN : ∀ q, va_A [(al, .inr (2, [.int (nI mo), .ref e.1, .int (nI 0)]))] H.size q → N0 ≤ q := fun q hq => hAN q (hFc q hq)
  have kc8 : 0 + (1) ≤ 12 := by omega
  have ks9 : 0 + (1200) ≤ 1300 := by omega
  refine z_calli (wr := [(mm, .inr (8, [.int (nI 0), .ref aa, .int (nI kn), .int (nI rf)])), (aa, .inl (cA, 6, .inr (.inr (.inr (.inr ga))))), (jj, .inr (7, [.ref ((e.2.2.1 0)), .ref ((e.2.2.1 0)), .ref ((e.2.2.1 0)), .ref al, .null]))]) (va_runV (As := [.ref ((e.2.2.1 0))]) (rest := []) ⟨hx, hb, hml, hown, hts⟩ (c_addF l D N0 e H.size (zw H) al mo ((e.2.2.1 0)) ((e.2.2.2 0)) 0 ) (cwV 1 hts gX5_lay_Jx4a65c_add_9ea2d rfl rfl rfl (by decide +kernel) ⟨Nat.le_of_ble_eq_true rfl, Nat.le_of_ble_eq_true rfl⟩) ⟨zP.blind, (va_recv hK hP (ci := 2) (q0 := 3) rfl rfl), (z_pre hK hP hD hS hAN hN hG [3] (by decide) rfl [] rfl (List.forall_mem_cons.mpr ⟨((zkst hG 0 (by decide) hS hAN).wall (z_low (hG.2.2.2.2.1 0 (by decide)).na hFN) (z_low (hG.2.2.2.2.1 0 (by decide)).nv hFN)), fun q hq => absurd hq List.not_mem_nil⟩))⟩ rfl rfl hl.1 rfl (lv_room (Nat.le_of_ble_eq_true rfl)) dX5_lay_33 ⟨kc8, ks9⟩) hK hP hD hS hA [3] rfl [0, 1, 2] rfl (by decide) (by decide) (fun r11 u t H locs ht hvm hw_c10 hY_c10 hz_c10 hm_c10 hk_c10 hK hP hD hS => ?_)
  obtain ⟨qn, cn2, cap3, f4⟩ := u
  try dsimp only at hw_c10 hY_c10
  have hP : va_P D vwCl [(mm, .inr (8, [.int (nI 0), .ref aa, .int (nI kn), .int (nI rf)])), (aa, .inl (cA, 6, .inr (.inr (.inr (.inr ga))))), (jj, .inr (7, [.ref ((e.2.2.1 0)), .ref ((e.2.2.1 0)), .ref ((e.2.2.1 0)), .ref al, .null])), (al, .inr (2, [.int (nI (mo + 1)), .ref qn, .int (nI 1)])), (qn, .inl (cn2, cap3, .inr (.inr (.inr (.inr f4)))))] H := hP
  have hD : va_D A [(mm, .inr (8, [.int (nI 0), .ref aa, .int (nI kn), .int (nI rf)])), (aa, .inl (cA, 6, .inr (.inr (.inr (.inr ga))))), (jj, .inr (7, [.ref ((e.2.2.1 0)), .ref ((e.2.2.1 0)), .ref ((e.2.2.1 0)), .ref al, .null])), (al, .inr (2, [.int (nI (mo + 1)), .ref qn, .int (nI 1)])), (qn, .inl (cn2, cap3, .inr (.inr (.inr (.inr f4)))))] := hD
  have hK : va_K D vwCl [(cA, .object "JoinrowModel$Joiner"), (cn2, .object "java/lang/Object")] s := hK
  have hs12 := hS.1
  refine W.widen (k := 1) (n := 1200) (by omega) (by omega) ?_
  obtain rfl := hw_c10.1
  have hf4 := hw_c10.2
  refine lv_pop hx hb dX5_lay_36 rfl ?_
  refine lv_aload_n hx hb dX5_lay_37 rfl (lv_at hl 0 rfl) ?_
  refine lv_iload_n hx hb dX5_lay_38 rfl (lv_at hl 1 rfl) ?_
  have hFc := va_free (wc := [(mm, .inr (8, [.int (nI 0), .ref aa, .int (nI kn), .int (nI rf)])), (aa, .inl (cA, 6, .inr (.inr (.inr (.inr ga))))), (jj, .inr (7, [.ref ((e.2.2.1 0)), .ref ((e.2.2.1 0)), .ref ((e.2.2.1 0)), .ref al, .null])), (al, .inr (2, [.int (nI (mo + 1)), .ref qn, .int (nI 1)])), (qn, .inl (cn2, cap3, .inr (.inr (.inr (.inr f4)))))]) hD hS hA [0, 1, 2, 3, 4] rfl
  have kc13 : 1 + (4 * 1 + 4) ≤ 12 := by omega
  have ks14 : 1200 + (24 * 1 + 24) ≤ 1300 := by omega
  refine z_calli (wr := []) (va_runV (As := [.int (nI 0)]) (rest := []) ⟨hx, hb, hml, hown, hts⟩ (c_lenOf1 l D N0 e H.size (zw H) mm aa kn rf cA ga jj al (mo + 1) qn 1 cn2 cap3 f4 hga (by omega) (by omega) hf4.1 hf4.2.1 hf4.2.2.2) (cwV 1 hts gX5_lay_X5_lengthOf rfl rfl rfl (by decide +kernel) ⟨Nat.le_of_ble_eq_true rfl, Nat.le_of_ble_eq_true rfl⟩) ⟨zP.blind, (va_recv hK hP (ci := 8) (q0 := 0) rfl rfl), (z_pre hK hP hD hS hAN hN hG [0, 1, 2, 3, 4] (by decide) rfl [0, 1] rfl (fun q hq => absurd hq List.not_mem_nil))⟩ rfl rfl hl.1 rfl (lv_room (Nat.le_of_ble_eq_true rfl)) dX5_lay_39 ⟨kc13, ks14⟩) hK hP hD hS hA [0, 1, 2, 3, 4] rfl [] rfl (by decide) (by decide) (fun r16 u t H locs ht hvm hw_c15 hY_c15 hz_c15 hm_c15 hk_c15 hK hP hD hS => ?_)
  have hP : va_P D vwCl [(mm, .inr (8, [.int (nI 0), .ref aa, .int (nI kn), .int (nI rf)])), (aa, .inl (cA, 6, .inr (.inr (.inr (.inr ga))))), (jj, .inr (7, [.ref ((e.2.2.1 0)), .ref ((e.2.2.1 0)), .ref ((e.2.2.1 0)), .ref al, .null])), (al, .inr (2, [.int (nI (mo + 1)), .ref qn, .int (nI 1)])), (qn, .inl (cn2, cap3, .inr (.inr (.inr (.inr f4)))))] H := hP
  have hD : va_D A [(mm, .inr (8, [.int (nI 0), .ref aa, .int (nI kn), .int (nI rf)])), (aa, .inl (cA, 6, .inr (.inr (.inr (.inr ga))))), (jj, .inr (7, [.ref ((e.2.2.1 0)), .ref ((e.2.2.1 0)), .ref ((e.2.2.1 0)), .ref al, .null])), (al, .inr (2, [.int (nI (mo + 1)), .ref qn, .int (nI 1)])), (qn, .inl (cn2, cap3, .inr (.inr (.inr (.inr f4)))))] := hD
  have hK : va_K D vwCl [(cA, .object "JoinrowModel$Joiner"), (cn2, .object "java/lang/Object")] s := hK
  have hs17 := hS.1
  refine W.widen (k := 9) (n := 1248) (by omega) (by omega) ?_
  subst hw_c15
  refine W.widen (k := (12)) (n := (1300)) (by omega) (by omega) ?_
  have hz0 := hS.1
  have lt0 := (hP 0 _ rfl).lt
  dsimp only at lt0
  have lt1 := (hP 1 _ rfl).lt
  dsimp only at lt1
  have lt2 := (hP 2 _ rfl).lt
  dsimp only at lt2
  have lt3 := (hP 3 _ rfl).lt
  dsimp only at lt3
  have lt4 := (hP 4 _ rfl).lt
  dsimp only at lt4
  exact z_reti (v := (nI 0)) (qn, cn2, cap3, f4) hx hb hr (by first | rfl | decide) hlocks (show (nI 0) = (nI 0) ∧ 0 + 1 ≤ cap3 ∧ cap3 ≤ 800 ∧ 10 ≤ cap3 ∧ zF f4 (0 + 1) (e.2.2.1 0) from ⟨rfl, hf4⟩) hK [1] rfl hP hD hS [0, 1, 2, 3, 4] (by decide) rfl (by omega) (by omega) (fun _ _ _ => trivial) dX5_lay_42
set_option maxRecDepth 100000 in
set_option maxHeartbeats 4000000 in
/-- JoinrowModel.add(0, 0): nn behind -/
theorem c_madd1 (l : Launch) (D : va_G) (N0 : Nat) (e : zE) (sz mz : Nat) (mm : Nat) (aa : Nat) (kn : Nat) (rf : Nat) (cA : ClassId) (ga : Nat → Option Nat) (jj : Nat) (al : Nat) (mo : Nat) (ea : Nat) (nn : Nat) (cO : ClassId) (cap : Nat) (fe : Nat → Option Nat) (hga : ga 0 = some jj) (h1 : 1 ≤ nn) (h5 : nn ≤ 510) (hn : nn ≤ cap) (hcap : cap ≤ 800) (hzf : zF fe nn (e.2.2.1 0)) (h10 : 10 ≤ cap) : Met l yX5_add wsX5_add ({ frames := 10, cells := 8 * nn + 12, slots := 48 * nn + 1300, locals := 257 }) (va_Pc [.ref mm, .int (nI 0), .int (nI 0)] (zP N0 e D [(cA, .object "JoinrowModel$Joiner"), (cO, .object "java/lang/Object")] [(mm, .inr (8, [.int (nI 0), .ref aa, .int (nI kn), .int (nI rf)])), (aa, .inl (cA, 6, .inr (.inr (.inr (.inr ga))))), (jj, .inr (7, [.ref ((e.2.2.1 0)), .ref ((e.2.2.1 0)), .ref ((e.2.2.1 0)), .ref al, .null])), (al, .inr (2, [.int (nI mo), .ref ea, .int (nI nn)])), (ea, .inl (cO, cap, .inr (.inr (.inr (.inr fe)))))] sz mz [])) (zQi (fun (r : Int32) (u : Nat × ClassId × Nat × (Nat → Option Nat)) => r = (nI 0) ∧ nn + 1 ≤ u.2.2.1 ∧ u.2.2.1 ≤ 800 ∧ 10 ≤ u.2.2.1 ∧ zF u.2.2.2 (nn + 1) (e.2.2.1 0)) D (fun (u : Nat × ClassId × Nat × (Nat → Option Nat)) => ([(mm, .inr (8, [.int (nI 0), .ref aa, .int (nI kn), .int (nI rf)])), (aa, .inl (cA, 6, .inr (.inr (.inr (.inr ga))))), (jj, .inr (7, [.ref ((e.2.2.1 0)), .ref ((e.2.2.1 0)), .ref ((e.2.2.1 0)), .ref al, .null])), (al, .inr (2, [.int (nI (mo + 1)), .ref u.1, .int (nI (nn + 1))])), (u.1, .inl (u.2.1, u.2.2.1, .inr (.inr (.inr (.inr u.2.2.2)))))] : va_W)) (fun (u : Nat × ClassId × Nat × (Nat → Option Nat)) => ([(u.2.1, .object "java/lang/Object")] : List (ClassId × FieldType))) sz (8 * nn + 8) mz (576 * nn + 576) (fun (u : Nat × ClassId × Nat × (Nat → Option Nat)) (t : State) => True) (va_A [(mm, .inr (8, [.int (nI 0), .ref aa, .int (nI kn), .int (nI rf)])), (aa, .inl (cA, 6, .inr (.inr (.inr (.inr ga))))), (jj, .inr (7, [.ref ((e.2.2.1 0)), .ref ((e.2.2.1 0)), .ref ((e.2.2.1 0)), .ref al, .null])), (al, .inr (2, [.int (nI mo), .ref ea, .int (nI nn)])), (ea, .inl (cO, cap, .inr (.inr (.inr (.inr fe)))))] sz)) (8 * nn + 12) (48 * nn + 1300) (va_A [(mm, .inr (8, [.int (nI 0), .ref aa, .int (nI kn), .int (nI rf)])), (aa, .inl (cA, 6, .inr (.inr (.inr (.inr ga))))), (jj, .inr (7, [.ref ((e.2.2.1 0)), .ref ((e.2.2.1 0)), .ref ((e.2.2.1 0)), .ref al, .null])), (al, .inr (2, [.int (nI mo), .ref ea, .int (nI nn)])), (ea, .inl (cO, cap, .inr (.inr (.inr (.inr fe)))))] sz) := by
  refine z_met (Qc := fun A => zQi (fun (r : Int32) (u : Nat × ClassId × Nat × (Nat → Option Nat)) => r = (nI 0) ∧ nn + 1 ≤ u.2.2.1 ∧ u.2.2.1 ≤ 800 ∧ 10 ≤ u.2.2.1 ∧ zF u.2.2.2 (nn + 1) (e.2.2.1 0)) D (fun (u : Nat × ClassId × Nat × (Nat → Option Nat)) => ([(mm, .inr (8, [.int (nI 0), .ref aa, .int (nI kn), .int (nI rf)])), (aa, .inl (cA, 6, .inr (.inr (.inr (.inr ga))))), (jj, .inr (7, [.ref ((e.2.2.1 0)), .ref ((e.2.2.1 0)), .ref ((e.2.2.1 0)), .ref al, .null])), (al, .inr (2, [.int (nI (mo + 1)), .ref u.1, .int (nI (nn + 1))])), (u.1, .inl (u.2.1, u.2.2.1, .inr (.inr (.inr (.inr u.2.2.2)))))] : va_W)) (fun (u : Nat × ClassId × Nat × (Nat → Option Nat)) => ([(u.2.1, .object "java/lang/Object")] : List (ClassId × FieldType))) sz (8 * nn + 8) mz (576 * nn + 576) (fun (u : Nat × ClassId × Nat × (Nat → Option Nat)) (t : State) => True) A) (cc := cX5_add) (maxL := 3) (ret := (some .int)) RX5 rfl (by decide) rfl (Nat.le_of_ble_eq_true rfl) ?_
  intro p ev s m below meth c ls A hx hb hr hml hown hts hlocks hnm hsz hmz hN hAe hA hAN hS hP hK hD hG hL hl
  subst hsz
  subst hmz
  have hl : lv_has ls 3 [(0, .ref mm), (1, .int (nI 0)), (2, .int (nI 0))] := hl
  refine lv_aload_n hx hb dX5_add_0 rfl (lv_at hl 0 rfl) ?_
  refine lv_iload_n hx hb dX5_add_1 rfl (lv_at hl 1 rfl) ?_
  have hFc := va_free (wc := []) hD hS hA [] rfl
  have kc1 : 0 + (0) ≤ 8 * nn + 12 := by omega
  have ks2 : 0 + (0) ≤ 48 * nn + 1300 := by omega
  refine z_calli (wr := [(mm, .inr (8, [.int (nI 0), .ref aa, .int (nI kn), .int (nI rf)])), (aa, .inl (cA, 6, .inr (.inr (.inr (.inr ga))))), (jj, .inr (7, [.ref ((e.2.2.1 0)), .ref ((e.2.2.1 0)), .ref ((e.2.2.1 0)), .ref al, .null])), (al, .inr (2, [.int (nI mo), .ref ea, .int (nI nn)])), (ea, .inl (cO, cap, .inr (.inr (.inr (.inr fe)))))]) (va_runS (As := [.int (nI 0)]) (rest := [.ref mm]) ⟨hx, hb, hml, hown, hts⟩ (c_isNo l D N0 e s.heap.size (zw s.heap)  ) (va_cwS 1 hts gX5_add_X5_isNo rfl rfl rfl (by decide +kernel) ⟨Nat.le_of_ble_eq_true rfl, Nat.le_of_ble_eq_true rfl⟩) ⟨zP.blind, (z_pre hK hP hD hS hAN hN hG [] (by decide) rfl [] rfl (fun q hq => absurd hq List.not_mem_nil))⟩ rfl rfl hl.1 rfl (lv_room (Nat.le_of_ble_eq_true rfl)) dX5_add_2 ⟨kc1, ks2⟩) hK hP hD hS hA [] rfl [0, 1, 2, 3, 4] rfl (by decide) (by decide) (fun r4 u t H locs ht hvm hw_c3 hY_c3 hz_c3 hm_c3 hk_c3 hK hP hD hS => ?_)
  have hP : va_P D vwCl [(mm, .inr (8, [.int (nI 0), .ref aa, .int (nI kn), .int (nI rf)])), (aa, .inl (cA, 6, .inr (.inr (.inr (.inr ga))))), (jj, .inr (7, [.ref ((e.2.2.1 0)), .ref ((e.2.2.1 0)), .ref ((e.2.2.1 0)), .ref al, .null])), (al, .inr (2, [.int (nI mo), .ref ea, .int (nI nn)])), (ea, .inl (cO, cap, .inr (.inr (.inr (.inr fe)))))] H := hP
  have hD : va_D A [(mm, .inr (8, [.int (nI 0), .ref aa, .int (nI kn), .int (nI rf)])), (aa, .inl (cA, 6, .inr (.inr (.inr (.inr ga))))), (jj, .inr (7, [.ref ((e.2.2.1 0)), .ref ((e.2.2.1 0)), .ref ((e.2.2.1 0)), .ref al, .null])), (al, .inr (2, [.int (nI mo), .ref ea, .int (nI nn)])), (ea, .inl (cO, cap, .inr (.inr (.inr (.inr fe)))))] := hD
  have hK : va_K D vwCl [(cA, .object "JoinrowModel$Joiner"), (cO, .object "java/lang/Object")] s := hK
  have hs5 := hS.1
  refine W.widen (k := 0) (n := 0) (by omega) (by omega) ?_
  subst hw_c3
  refine lv_iload_n hx hb dX5_add_5 rfl (lv_at hl 2 rfl) ?_
  have hFc := va_free (wc := []) hD hS hA [] rfl
  have kc6 : 0 + (0) ≤ 8 * nn + 12 := by omega
  have ks7 : 0 + (0) ≤ 48 * nn + 1300 := by omega
  refine z_calli (wr := [(mm, .inr (8, [.int (nI 0), .ref aa, .int (nI kn), .int (nI rf)])), (aa, .inl (cA, 6, .inr (.inr (.inr (.inr ga))))), (jj, .inr (7, [.ref ((e.2.2.1 0)), .ref ((e.2.2.1 0)), .ref ((e.2.2.1 0)), .ref al, .null])), (al, .inr (2, [.int (nI mo), .ref ea, .int (nI nn)])), (ea, .inl (cO, cap, .inr (.inr (.inr (.inr fe)))))]) (va_runS (As := [.int (nI 0)]) (rest := [.int (nI 0), .ref mm]) ⟨hx, hb, hml, hown, hts⟩ (c_isNoW l D N0 e H.size (zw H)  ) (va_cwS 1 hts gX5_add_X5_isNoWord rfl rfl rfl (by decide +kernel) ⟨Nat.le_of_ble_eq_true rfl, Nat.le_of_ble_eq_true rfl⟩) ⟨zP.blind, (z_pre hK hP hD hS hAN hN hG [] (by decide) rfl [] rfl (fun q hq => absurd hq List.not_mem_nil))⟩ rfl rfl hl.1 rfl (lv_room (Nat.le_of_ble_eq_true rfl)) dX5_add_6 ⟨kc6, ks7⟩) hK hP hD hS hA [] rfl [0, 1, 2, 3, 4] rfl (by decide) (by decide) (fun r9 u t H locs ht hvm hw_c8 hY_c8 hz_c8 hm_c8 hk_c8 hK hP hD hS => ?_)
  have hP : va_P D vwCl [(mm, .inr (8, [.int (nI 0), .ref aa, .int (nI kn), .int (nI rf)])), (aa, .inl (cA, 6, .inr (.inr (.inr (.inr ga))))), (jj, .inr (7, [.ref ((e.2.2.1 0)), .ref ((e.2.2.1 0)), .ref ((e.2.2.1 0)), .ref al, .null])), (al, .inr (2, [.int (nI mo), .ref ea, .int (nI nn)])), (ea, .inl (cO, cap, .inr (.inr (.inr (.inr fe)))))] H := hP
  have hD : va_D A [(mm, .inr (8, [.int (nI 0), .ref aa, .int (nI kn), .int (nI rf)])), (aa, .inl (cA, 6, .inr (.inr (.inr (.inr ga))))), (jj, .inr (7, [.ref ((e.2.2.1 0)), .ref ((e.2.2.1 0)), .ref ((e.2.2.1 0)), .ref al, .null])), (al, .inr (2, [.int (nI mo), .ref ea, .int (nI nn)])), (ea, .inl (cO, cap, .inr (.inr (.inr (.inr fe)))))] := hD
  have hK : va_K D vwCl [(cA, .object "JoinrowModel$Joiner"), (cO, .object "java/lang/Object")] s := hK
  have hs10 := hS.1
  refine W.widen (k := 0) (n := 0) (by omega) (by omega) ?_
  subst hw_c8
  refine lv_iconst (v := (nI 0)) hx hb dX5_add_9 (by decide) ?_
  have hFc := va_free (wc := [(mm, .inr (8, [.int (nI 0), .ref aa, .int (nI kn), .int (nI rf)]))]) hD hS hA [0] rfl
  have kc11 : 0 + (0) ≤ 8 * nn + 12 := by omega
  have ks12 : 0 + (0) ≤ 48 * nn + 1300 := by omega
  refine z_calli (wr := [(aa, .inl (cA, 6, .inr (.inr (.inr (.inr ga))))), (jj, .inr (7, [.ref ((e.2.2.1 0)), .ref ((e.2.2.1 0)), .ref ((e.2.2.1 0)), .ref al, .null])), (al, .inr (2, [.int (nI mo), .ref ea, .int (nI nn)])), (ea, .inl (cO, cap, .inr (.inr (.inr (.inr fe)))))]) (va_runV (As := [.int (nI 0), .int (nI 0), .int (nI 0)]) (rest := []) ⟨hx, hb, hml, hown, hts⟩ (c_fails l D N0 e H.size (zw H) mm aa kn rf ) (cwV 3 hts gX5_add_X5_fails rfl rfl rfl (by decide +kernel) ⟨Nat.le_of_ble_eq_true rfl, Nat.le_of_ble_eq_true rfl⟩) ⟨zP.blind, (va_recv hK hP (ci := 8) (q0 := 0) rfl rfl), (z_pre hK hP hD hS hAN hN hG [0] (by decide) rfl [] rfl (fun q hq => absurd hq List.not_mem_nil))⟩ rfl rfl hl.1 rfl (lv_room (Nat.le_of_ble_eq_true rfl)) dX5_add_10 ⟨kc11, ks12⟩) hK hP hD hS hA [0] rfl [1, 2, 3, 4] rfl (by decide) (by decide) (fun r14 u t H locs ht hvm hw_c13 hY_c13 hz_c13 hm_c13 hk_c13 hK hP hD hS => ?_)
  have hP : va_P D vwCl [(aa, .inl (cA, 6, .inr (.inr (.inr (.inr ga))))), (jj, .inr (7, [.ref ((e.2.2.1 0)), .ref ((e.2.2.1 0)), .ref ((e.2.2.1 0)), .ref al, .null])), (al, .inr (2, [.int (nI mo), .ref ea, .int (nI nn)])), (ea, .inl (cO, cap, .inr (.inr (.inr (.inr fe))))), (mm, .inr (8, [.int (nI 0), .ref aa, .int (nI kn), .int (nI rf)]))] H := hP
  have hD : va_D A [(aa, .inl (cA, 6, .inr (.inr (.inr (.inr ga))))), (jj, .inr (7, [.ref ((e.2.2.1 0)), .ref ((e.2.2.1 0)), .ref ((e.2.2.1 0)), .ref al, .null])), (al, .inr (2, [.int (nI mo), .ref ea, .int (nI nn)])), (ea, .inl (cO, cap, .inr (.inr (.inr (.inr fe))))), (mm, .inr (8, [.int (nI 0), .ref aa, .int (nI kn), .int (nI rf)]))] := hD
  have hK : va_K D vwCl [(cA, .object "JoinrowModel$Joiner"), (cO, .object "java/lang/Object")] s := hK
  have hs15 := hS.1
  refine W.widen (k := 0) (n := 0) (by omega) (by omega) ?_
  subst hw_c13
  refine lv_if_eq (tgt := 20) hx hb dX5_add_13 (by decide) (fun _ => ?_) (fun hq => absurd (show (nI 0) = (nI 0) from (nI_eq (by omega) (by omega)).mpr (by omega)) hq)
  refine lv_aload_n hx hb dX5_add_20 rfl (lv_at hl 0 rfl) ?_
  refine lv_iload_n hx hb dX5_add_21 rfl (lv_at hl 1 rfl) ?_
  refine lv_iload_n hx hb dX5_add_22 rfl (lv_at hl 2 rfl) ?_
  have hFc := va_free (wc := []) hD hS hA [] rfl
  have kc16 : 0 + (0) ≤ 8 * nn + 12 := by omega
  have ks17 : 0 + (0) ≤ 48 * nn + 1300 := by omega
  refine z_callr (wr := [(aa, .inl (cA, 6, .inr (.inr (.inr (.inr ga))))), (jj, .inr (7, [.ref ((e.2.2.1 0)), .ref ((e.2.2.1 0)), .ref ((e.2.2.1 0)), .ref al, .null])), (al, .inr (2, [.int (nI mo), .ref ea, .int (nI nn)])), (ea, .inl (cO, cap, .inr (.inr (.inr (.inr fe))))), (mm, .inr (8, [.int (nI 0), .ref aa, .int (nI kn), .int (nI rf)]))]) (va_runS (As := [.int (nI 0)]) (rest := [.int (nI 0), .ref mm]) ⟨hx, hb, hml, hown, hts⟩ (c_wordOf l D N0 e H.size (zw H)  ) (va_cwS 1 hts gX5_add_X5_wordOf rfl rfl rfl (by decide +kernel) ⟨Nat.le_of_ble_eq_true rfl, Nat.le_of_ble_eq_true rfl⟩) ⟨zP.blind, (z_pre hK hP hD hS hAN hN hG [] (by decide) rfl [] rfl (fun q hq => absurd hq List.not_mem_nil))⟩ rfl rfl hl.1 rfl (lv_room (Nat.le_of_ble_eq_true rfl)) dX5_add_23 ⟨kc16, ks17⟩) hK hP hD hS hA [] rfl [0, 1, 2, 3, 4] rfl (by decide) (by decide) (fun u r19 t H locs ht hvm hw_c18 hY_c18 hz_c18 hm_c18 hk_c18 hK hP hD hS => ?_)
  have hP : va_P D vwCl [(aa, .inl (cA, 6, .inr (.inr (.inr (.inr ga))))), (jj, .inr (7, [.ref ((e.2.2.1 0)), .ref ((e.2.2.1 0)), .ref ((e.2.2.1 0)), .ref al, .null])), (al, .inr (2, [.int (nI mo), .ref ea, .int (nI nn)])), (ea, .inl (cO, cap, .inr (.inr (.inr (.inr fe))))), (mm, .inr (8, [.int (nI 0), .ref aa, .int (nI kn), .int (nI rf)]))] H := hP
  have hD : va_D A [(aa, .inl (cA, 6, .inr (.inr (.inr (.inr ga))))), (jj, .inr (7, [.ref ((e.2.2.1 0)), .ref ((e.2.2.1 0)), .ref ((e.2.2.1 0)), .ref al, .null])), (al, .inr (2, [.int (nI mo), .ref ea, .int (nI nn)])), (ea, .inl (cO, cap, .inr (.inr (.inr (.inr fe))))), (mm, .inr (8, [.int (nI 0), .ref aa, .int (nI kn), .int (nI rf)]))] := hD
  have hK : va_K D vwCl [(cA, .object "JoinrowModel$Joiner"), (cO, .object "java/lang/Object")] s := hK
  have hs20 := hS.1
  refine W.widen (k := 0) (n := 0) (by omega) (by omega) ?_
  obtain rfl : (e.2.2.1 0) = r19 := Eq.symm hw_c18
  refine lv_iconst (v := (nI 3)) hx hb dX5_add_26 (by decide) ?_
  have hFc := va_free (wc := [(mm, .inr (8, [.int (nI 0), .ref aa, .int (nI kn), .int (nI rf)])), (aa, .inl (cA, 6, .inr (.inr (.inr (.inr ga))))), (jj, .inr (7, [.ref ((e.2.2.1 0)), .ref ((e.2.2.1 0)), .ref ((e.2.2.1 0)), .ref al, .null])), (al, .inr (2, [.int (nI mo), .ref ea, .int (nI nn)])), (ea, .inl (cO, cap, .inr (.inr (.inr (.inr fe)))))]) hD hS hA [4, 0, 1, 2, 3] rfl
  have kc21 : 0 + (8 * nn + 12) ≤ 8 * nn + 12 := by omega
  have ks22 : 0 + (48 * nn + 1300) ≤ 48 * nn + 1300 := by omega
  refine z_calli (wr := []) (va_runV (As := [.int (nI 0), .ref ((e.2.2.1 0)), .int (nI 3)]) (rest := []) ⟨hx, hb, hml, hown, hts⟩ (c_lay1 l D N0 e H.size (zw H) mm aa kn rf cA ga jj al mo ea nn cO cap fe hga h1 h5 hn hcap hzf h10) (cwV 3 hts gX5_add_X5_lay rfl rfl rfl (by decide +kernel) ⟨Nat.le_of_ble_eq_true rfl, Nat.le_of_ble_eq_true rfl⟩) ⟨zP.blind, (va_recv hK hP (ci := 8) (q0 := 4) rfl rfl), (z_pre hK hP hD hS hAN hN hG [4, 0, 1, 2, 3] (by decide) rfl [0, 1] rfl (fun q hq => absurd hq List.not_mem_nil))⟩ rfl rfl hl.1 rfl (lv_room (Nat.le_of_ble_eq_true rfl)) dX5_add_27 ⟨kc21, ks22⟩) hK hP hD hS hA [4, 0, 1, 2, 3] rfl [] rfl (by decide) (by decide) (fun r24 u t H locs ht hvm hw_c23 hY_c23 hz_c23 hm_c23 hk_c23 hK hP hD hS => ?_)
  obtain ⟨qn, cn2, cap3, f4⟩ := u
  try dsimp only at hw_c23 hY_c23
  have hP : va_P D vwCl [(mm, .inr (8, [.int (nI 0), .ref aa, .int (nI kn), .int (nI rf)])), (aa, .inl (cA, 6, .inr (.inr (.inr (.inr ga))))), (jj, .inr (7, [.ref ((e.2.2.1 0)), .ref ((e.2.2.1 0)), .ref ((e.2.2.1 0)), .ref al, .null])), (al, .inr (2, [.int (nI (mo + 1)), .ref qn, .int (nI (nn + 1))])), (qn, .inl (cn2, cap3, .inr (.inr (.inr (.inr f4)))))] H := hP
  have hD : va_D A [(mm, .inr (8, [.int (nI 0), .ref aa, .int (nI kn), .int (nI rf)])), (aa, .inl (cA, 6, .inr (.inr (.inr (.inr ga))))), (jj, .inr (7, [.ref ((e.2.2.1 0)), .ref ((e.2.2.1 0)), .ref ((e.2.2.1 0)), .ref al, .null])), (al, .inr (2, [.int (nI (mo + 1)), .ref qn, .int (nI (nn + 1))])), (qn, .inl (cn2, cap3, .inr (.inr (.inr (.inr f4)))))] := hD
  have hK : va_K D vwCl [(cA, .object "JoinrowModel$Joiner"), (cO, .object "java/lang/Object"), (cn2, .object "java/lang/Object")] s := hK
  have hs25 := hS.1
  refine W.widen (k := (8 * nn + 12)) (n := (48 * nn + 1300)) (by omega) (by omega) ?_
  obtain rfl := hw_c23.1
  have hf4 := hw_c23.2
  refine W.widen (k := (8 * nn + 12)) (n := (48 * nn + 1300)) (by omega) (by omega) ?_
  have hz0 := hS.1
  have lt0 := (hP 0 _ rfl).lt
  dsimp only at lt0
  have lt1 := (hP 1 _ rfl).lt
  dsimp only at lt1
  have lt2 := (hP 2 _ rfl).lt
  dsimp only at lt2
  have lt3 := (hP 3 _ rfl).lt
  dsimp only at lt3
  have lt4 := (hP 4 _ rfl).lt
  dsimp only at lt4
  exact z_reti (v := (nI 0)) (qn, cn2, cap3, f4) hx hb hr (by first | rfl | decide) hlocks (show (nI 0) = (nI 0) ∧ nn + 1 ≤ cap3 ∧ cap3 ≤ 800 ∧ 10 ≤ cap3 ∧ zF f4 (nn + 1) (e.2.2.1 0) from ⟨rfl, hf4⟩) hK [2] rfl hP hD hS [0, 1, 2, 3, 4] (by decide) rfl (by omega) (by omega) (fun _ _ _ => trivial) dX5_add_30
set_option maxRecDepth 100000 in
set_option maxHeartbeats 4000000 in
/-- JoinrowModel.add(0, 0): the first -/
theorem c_madd0 (l : Launch) (D : va_G) (N0 : Nat) (e : zE) (sz mz : Nat) (mm : Nat) (aa : Nat) (kn : Nat) (rf : Nat) (cA : ClassId) (ga : Nat → Option Nat) (jj : Nat) (al : Nat) (mo : Nat) (hga : ga 0 = some jj) : Met l yX5_add wsX5_add ({ frames := 10, cells := 12, slots := 1300, locals := 257 }) (va_Pc [.ref mm, .int (nI 0), .int (nI 0)] (zP N0 e D [(cA, .object "JoinrowModel$Joiner")] [(mm, .inr (8, [.int (nI 0), .ref aa, .int (nI kn), .int (nI rf)])), (aa, .inl (cA, 6, .inr (.inr (.inr (.inr ga))))), (jj, .inr (7, [.ref ((e.2.2.1 0)), .ref ((e.2.2.1 0)), .ref ((e.2.2.1 0)), .ref al, .null])), (al, .inr (2, [.int (nI mo), .ref e.1, .int (nI 0)]))] sz mz [])) (zQi (fun (r : Int32) (u : Nat × ClassId × Nat × (Nat → Option Nat)) => r = (nI 0) ∧ 0 + 1 ≤ u.2.2.1 ∧ u.2.2.1 ≤ 800 ∧ 10 ≤ u.2.2.1 ∧ zF u.2.2.2 (0 + 1) (e.2.2.1 0)) D (fun (u : Nat × ClassId × Nat × (Nat → Option Nat)) => ([(mm, .inr (8, [.int (nI 0), .ref aa, .int (nI kn), .int (nI rf)])), (aa, .inl (cA, 6, .inr (.inr (.inr (.inr ga))))), (jj, .inr (7, [.ref ((e.2.2.1 0)), .ref ((e.2.2.1 0)), .ref ((e.2.2.1 0)), .ref al, .null])), (al, .inr (2, [.int (nI (mo + 1)), .ref u.1, .int (nI 1)])), (u.1, .inl (u.2.1, u.2.2.1, .inr (.inr (.inr (.inr u.2.2.2)))))] : va_W)) (fun (u : Nat × ClassId × Nat × (Nat → Option Nat)) => ([(u.2.1, .object "java/lang/Object")] : List (ClassId × FieldType))) sz (8) mz (576) (fun (u : Nat × ClassId × Nat × (Nat → Option Nat)) (t : State) => True) (va_A [(mm, .inr (8, [.int (nI 0), .ref aa, .int (nI kn), .int (nI rf)])), (aa, .inl (cA, 6, .inr (.inr (.inr (.inr ga))))), (jj, .inr (7, [.ref ((e.2.2.1 0)), .ref ((e.2.2.1 0)), .ref ((e.2.2.1 0)), .ref al, .null])), (al, .inr (2, [.int (nI mo), .ref e.1, .int (nI 0)]))] sz)) (12) (1300) (va_A [(mm, .inr (8, [.int (nI 0), .ref aa, .int (nI kn), .int (nI rf)])), (aa, .inl (cA, 6, .inr (.inr (.inr (.inr ga))))), (jj, .inr (7, [.ref ((e.2.2.1 0)), .ref ((e.2.2.1 0)), .ref ((e.2.2.1 0)), .ref al, .null])), (al, .inr (2, [.int (nI mo), .ref e.1, .int (nI 0)]))] sz) := by
  refine z_met (Qc := fun A => zQi (fun (r : Int32) (u : Nat × ClassId × Nat × (Nat → Option Nat)) => r = (nI 0) ∧ 0 + 1 ≤ u.2.2.1 ∧ u.2.2.1 ≤ 800 ∧ 10 ≤ u.2.2.1 ∧ zF u.2.2.2 (0 + 1) (e.2.2.1 0)) D (fun (u : Nat × ClassId × Nat × (Nat → Option Nat)) => ([(mm, .inr (8, [.int (nI 0), .ref aa, .int (nI kn), .int (nI rf)])), (aa, .inl (cA, 6, .inr (.inr (.inr (.inr ga))))), (jj, .inr (7, [.ref ((e.2.2.1 0)), .ref ((e.2.2.1 0)), .ref ((e.2.2.1 0)), .ref al, .null])), (al, .inr (2, [.int (nI (mo + 1)), .ref u.1, .int (nI 1)])), (u.1, .inl (u.2.1, u.2.2.1, .inr (.inr (.inr (.inr u.2.2.2)))))] : va_W)) (fun (u : Nat × ClassId × Nat × (Nat → Option Nat)) => ([(u.2.1, .object "java/lang/Object")] : List (ClassId × FieldType))) sz (8) mz (576) (fun (u : Nat × ClassId × Nat × (Nat → Option Nat)) (t : State) => True) A) (cc := cX5_add) (maxL := 3) (ret := (some .int)) RX5 rfl (by decide) rfl (Nat.le_of_ble_eq_true rfl) ?_
  intro p ev s m below meth c ls A hx hb hr hml hown hts hlocks hnm hsz hmz hN hAe hA hAN hS hP hK hD hG hL hl
  subst hsz
  subst hmz
  have hl : lv_has ls 3 [(0, .ref mm), (1, .int (nI 0)), (2, .int (nI 0))] := hl
  refine lv_aload_n hx hb dX5_add_0 rfl (lv_at hl 0 rfl) ?_
  refine lv_iload_n hx hb dX5_add_1 rfl (lv_at hl 1 rfl) ?_
  have hFc := va_free (wc := []) hD hS hA [] rfl
  have kc1 : 0 + (0) ≤ 12 := by omega
  have ks2 : 0 + (0) ≤ 1300 := by omega
  refine z_calli (wr := [(mm, .inr (8, [.int (nI 0), .ref aa, .int (nI kn), .int (nI rf)])), (aa, .inl (cA, 6, .inr (.inr (.inr (.inr ga))))), (jj, .inr (7, [.ref ((e.2.2.1 0)), .ref ((e.2.2.1 0)), .ref ((e.2.2.1 0)), .ref al, .null])), (al, .inr (2, [.int (nI mo), .ref e.1, .int (nI 0)]))]) (va_runS (As := [.int (nI 0)]) (rest := [.ref mm]) ⟨hx, hb, hml, hown, hts⟩ (c_isNo l D N0 e s.heap.size (zw s.heap)  ) (va_cwS 1 hts gX5_add_X5_isNo rfl rfl rfl (by decide +kernel) ⟨Nat.le_of_ble_eq_true rfl, Nat.le_of_ble_eq_true rfl⟩) ⟨zP.blind, (z_pre hK hP hD hS hAN hN hG [] (by decide) rfl [] rfl (fun q hq => absurd hq List.not_mem_nil))⟩ rfl rfl hl.1 rfl (lv_room (Nat.le_of_ble_eq_true rfl)) dX5_add_2 ⟨kc1, ks2⟩) hK hP hD hS hA [] rfl [0, 1, 2, 3] rfl (by decide) (by decide) (fun r4 u t H locs ht hvm hw_c3 hY_c3 hz_c3 hm_c3 hk_c3 hK hP hD hS => ?_)
  have hP : va_P D vwCl [(mm, .inr (8, [.int (nI 0), .ref aa, .int (nI kn), .int (nI rf)])), (aa, .inl (cA, 6, .inr (.inr (.inr (.inr ga))))), (jj, .inr (7, [.ref ((e.2.2.1 0)), .ref ((e.2.2.1 0)), .ref ((e.2.2.1 0)), .ref al, .null])), (al, .inr (2, [.int (nI mo), .ref e.1, .int (nI 0)]))] H := hP
  have hD : va_D A [(mm, .inr (8, [.int (nI 0), .ref aa, .int (nI kn), .int (nI rf)])), (aa, .inl (cA, 6, .inr (.inr (.inr (.inr ga))))), (jj, .inr (7, [.ref ((e.2.2.1 0)), .ref ((e.2.2.1 0)), .ref ((e.2.2.1 0)), .ref al, .null])), (al, .inr (2, [.int (nI mo), .ref e.1, .int (nI 0)]))] := hD
  have hK : va_K D vwCl [(cA, .object "JoinrowModel$Joiner")] s := hK
  have hs5 := hS.1
  refine W.widen (k := 0) (n := 0) (by omega) (by omega) ?_
  subst hw_c3
  refine lv_iload_n hx hb dX5_add_5 rfl (lv_at hl 2 rfl) ?_
  have hFc := va_free (wc := []) hD hS hA [] rfl
  have kc6 : 0 + (0) ≤ 12 := by omega
  have ks7 : 0 + (0) ≤ 1300 := by omega
  refine z_calli (wr := [(mm, .inr (8, [.int (nI 0), .ref aa, .int (nI kn), .int (nI rf)])), (aa, .inl (cA, 6, .inr (.inr (.inr (.inr ga))))), (jj, .inr (7, [.ref ((e.2.2.1 0)), .ref ((e.2.2.1 0)), .ref ((e.2.2.1 0)), .ref al, .null])), (al, .inr (2, [.int (nI mo), .ref e.1, .int (nI 0)]))]) (va_runS (As := [.int (nI 0)]) (rest := [.int (nI 0), .ref mm]) ⟨hx, hb, hml, hown, hts⟩ (c_isNoW l D N0 e H.size (zw H)  ) (va_cwS 1 hts gX5_add_X5_isNoWord rfl rfl rfl (by decide +kernel) ⟨Nat.le_of_ble_eq_true rfl, Nat.le_of_ble_eq_true rfl⟩) ⟨zP.blind, (z_pre hK hP hD hS hAN hN hG [] (by decide) rfl [] rfl (fun q hq => absurd hq List.not_mem_nil))⟩ rfl rfl hl.1 rfl (lv_room (Nat.le_of_ble_eq_true rfl)) dX5_add_6 ⟨kc6, ks7⟩) hK hP hD hS hA [] rfl [0, 1, 2, 3] rfl (by decide) (by decide) (fun r9 u t H locs ht hvm hw_c8 hY_c8 hz_c8 hm_c8 hk_c8 hK hP hD hS => ?_)
  have hP : va_P D vwCl [(mm, .inr (8, [.int (nI 0), .ref aa, .int (nI kn), .int (nI rf)])), (aa, .inl (cA, 6, .inr (.inr (.inr (.inr ga))))), (jj, .inr (7, [.ref ((e.2.2.1 0)), .ref ((e.2.2.1 0)), .ref ((e.2.2.1 0)), .ref al, .null])), (al, .inr (2, [.int (nI mo), .ref e.1, .int (nI 0)]))] H := hP
  have hD : va_D A [(mm, .inr (8, [.int (nI 0), .ref aa, .int (nI kn), .int (nI rf)])), (aa, .inl (cA, 6, .inr (.inr (.inr (.inr ga))))), (jj, .inr (7, [.ref ((e.2.2.1 0)), .ref ((e.2.2.1 0)), .ref ((e.2.2.1 0)), .ref al, .null])), (al, .inr (2, [.int (nI mo), .ref e.1, .int (nI 0)]))] := hD
  have hK : va_K D vwCl [(cA, .object "JoinrowModel$Joiner")] s := hK
  have hs10 := hS.1
  refine W.widen (k := 0) (n := 0) (by omega) (by omega) ?_
  subst hw_c8
  refine lv_iconst (v := (nI 0)) hx hb dX5_add_9 (by decide) ?_
  have hFc := va_free (wc := [(mm, .inr (8, [.int (nI 0), .ref aa, .int (nI kn), .int (nI rf)]))]) hD hS hA [0] rfl
  have kc11 : 0 + (0) ≤ 12 := by omega
  have ks12 : 0 + (0) ≤ 1300 := by omega
  refine z_calli (wr := [(aa, .inl (cA, 6, .inr (.inr (.inr (.inr ga))))), (jj, .inr (7, [.ref ((e.2.2.1 0)), .ref ((e.2.2.1 0)), .ref ((e.2.2.1 0)), .ref al, .null])), (al, .inr (2, [.int (nI mo), .ref e.1, .int (nI 0)]))]) (va_runV (As := [.int (nI 0), .int (nI 0), .int (nI 0)]) (rest := []) ⟨hx, hb, hml, hown, hts⟩ (c_fails l D N0 e H.size (zw H) mm aa kn rf ) (cwV 3 hts gX5_add_X5_fails rfl rfl rfl (by decide +kernel) ⟨Nat.le_of_ble_eq_true rfl, Nat.le_of_ble_eq_true rfl⟩) ⟨zP.blind, (va_recv hK hP (ci := 8) (q0 := 0) rfl rfl), (z_pre hK hP hD hS hAN hN hG [0] (by decide) rfl [] rfl (fun q hq => absurd hq List.not_mem_nil))⟩ rfl rfl hl.1 rfl (lv_room (Nat.le_of_ble_eq_true rfl)) dX5_add_10 ⟨kc11, ks12⟩) hK hP hD hS hA [0] rfl [1, 2, 3] rfl (by decide) (by decide) (fun r14 u t H locs ht hvm hw_c13 hY_c13 hz_c13 hm_c13 hk_c13 hK hP hD hS => ?_)
  have hP : va_P D vwCl [(aa, .inl (cA, 6, .inr (.inr (.inr (.inr ga))))), (jj, .inr (7, [.ref ((e.2.2.1 0)), .ref ((e.2.2.1 0)), .ref ((e.2.2.1 0)), .ref al, .null])), (al, .inr (2, [.int (nI mo), .ref e.1, .int (nI 0)])), (mm, .inr (8, [.int (nI 0), .ref aa, .int (nI kn), .int (nI rf)]))] H := hP
  have hD : va_D A [(aa, .inl (cA, 6, .inr (.inr (.inr (.inr ga))))), (jj, .inr (7, [.ref ((e.2.2.1 0)), .ref ((e.2.2.1 0)), .ref ((e.2.2.1 0)), .ref al, .null])), (al, .inr (2, [.int (nI mo), .ref e.1, .int (nI 0)])), (mm, .inr (8, [.int (nI 0), .ref aa, .int (nI kn), .int (nI rf)]))] := hD
  have hK : va_K D vwCl [(cA, .object "JoinrowModel$Joiner")] s := hK
  have hs15 := hS.1
  refine W.widen (k := 0) (n := 0) (by omega) (by omega) ?_
  subst hw_c13
  refine lv_if_eq (tgt := 20) hx hb dX5_add_13 (by decide) (fun _ => ?_) (fun hq => absurd (show (nI 0) = (nI 0) from (nI_eq (by omega) (by omega)).mpr (by omega)) hq)
  refine lv_aload_n hx hb dX5_add_20 rfl (lv_at hl 0 rfl) ?_
  refine lv_iload_n hx hb dX5_add_21 rfl (lv_at hl 1 rfl) ?_
  refine lv_iload_n hx hb dX5_add_22 rfl (lv_at hl 2 rfl) ?_
  have hFc := va_free (wc := []) hD hS hA [] rfl
  have kc16 : 0 + (0) ≤ 12 := by omega
  have ks17 : 0 + (0) ≤ 1300 := by omega
  refine z_callr (wr := [(aa, .inl (cA, 6, .inr (.inr (.inr (.inr ga))))), (jj, .inr (7, [.ref ((e.2.2.1 0)), .ref ((e.2.2.1 0)), .ref ((e.2.2.1 0)), .ref al, .null])), (al, .inr (2, [.int (nI mo), .ref e.1, .int (nI 0)])), (mm, .inr (8, [.int (nI 0), .ref aa, .int (nI kn), .int (nI rf)]))]) (va_runS (As := [.int (nI 0)]) (rest := [.int (nI 0), .ref mm]) ⟨hx, hb, hml, hown, hts⟩ (c_wordOf l D N0 e H.size (zw H)  ) (va_cwS 1 hts gX5_add_X5_wordOf rfl rfl rfl (by decide +kernel) ⟨Nat.le_of_ble_eq_true rfl, Nat.le_of_ble_eq_true rfl⟩) ⟨zP.blind, (z_pre hK hP hD hS hAN hN hG [] (by decide) rfl [] rfl (fun q hq => absurd hq List.not_mem_nil))⟩ rfl rfl hl.1 rfl (lv_room (Nat.le_of_ble_eq_true rfl)) dX5_add_23 ⟨kc16, ks17⟩) hK hP hD hS hA [] rfl [0, 1, 2, 3] rfl (by decide) (by decide) (fun u r19 t H locs ht hvm hw_c18 hY_c18 hz_c18 hm_c18 hk_c18 hK hP hD hS => ?_)
  have hP : va_P D vwCl [(aa, .inl (cA, 6, .inr (.inr (.inr (.inr ga))))), (jj, .inr (7, [.ref ((e.2.2.1 0)), .ref ((e.2.2.1 0)), .ref ((e.2.2.1 0)), .ref al, .null])), (al, .inr (2, [.int (nI mo), .ref e.1, .int (nI 0)])), (mm, .inr (8, [.int (nI 0), .ref aa, .int (nI kn), .int (nI rf)]))] H := hP
  have hD : va_D A [(aa, .inl (cA, 6, .inr (.inr (.inr (.inr ga))))), (jj, .inr (7, [.ref ((e.2.2.1 0)), .ref ((e.2.2.1 0)), .ref ((e.2.2.1 0)), .ref al, .null])), (al, .inr (2, [.int (nI mo), .ref e.1, .int (nI 0)])), (mm, .inr (8, [.int (nI 0), .ref aa, .int (nI kn), .int (nI rf)]))] := hD
  have hK : va_K D vwCl [(cA, .object "JoinrowModel$Joiner")] s := hK
  have hs20 := hS.1
  refine W.widen (k := 0) (n := 0) (by omega) (by omega) ?_
  obtain rfl : (e.2.2.1 0) = r19 := Eq.symm hw_c18
  refine lv_iconst (v := (nI 3)) hx hb dX5_add_26 (by decide) ?_
  have hFc := va_free (wc := [(mm, .inr (8, [.int (nI 0), .ref aa, .int (nI kn), .int (nI rf)])), (aa, .inl (cA, 6, .inr (.inr (.inr (.inr ga))))), (jj, .inr (7, [.ref ((e.2.2.1 0)), .ref ((e.2.2.1 0)), .ref ((e.2.2.1 0)), .ref al, .null])), (al, .inr (2, [.int (nI mo), .ref e.1, .int (nI 0)]))]) hD hS hA [3, 0, 1, 2] rfl
  have kc21 : 0 + (12) ≤ 12 := by omega
  have ks22 : 0 + (1300) ≤ 1300 := by omega
  refine z_calli (wr := []) (va_runV (As := [.int (nI 0), .ref ((e.2.2.1 0)), .int (nI 3)]) (rest := []) ⟨hx, hb, hml, hown, hts⟩ (c_lay0 l D N0 e H.size (zw H) mm aa kn rf cA ga jj al mo hga) (cwV 3 hts gX5_add_X5_lay rfl rfl rfl (by decide +kernel) ⟨Nat.le_of_ble_eq_true rfl, Nat.le_of_ble_eq_true rfl⟩) ⟨zP.blind, (va_recv hK hP (ci := 8) (q0 := 3) rfl rfl), (z_pre hK hP hD hS hAN hN hG [3, 0, 1, 2] (by decide) rfl [0] rfl (fun q hq => absurd hq List.not_mem_nil))⟩ rfl rfl hl.1 rfl (lv_room (Nat.le_of_ble_eq_true rfl)) dX5_add_27 ⟨kc21, ks22⟩) hK hP hD hS hA [3, 0, 1, 2] rfl [] rfl (by decide) (by decide) (fun r24 u t H locs ht hvm hw_c23 hY_c23 hz_c23 hm_c23 hk_c23 hK hP hD hS => ?_)
  obtain ⟨qn, cn2, cap3, f4⟩ := u
  try dsimp only at hw_c23 hY_c23
  have hP : va_P D vwCl [(mm, .inr (8, [.int (nI 0), .ref aa, .int (nI kn), .int (nI rf)])), (aa, .inl (cA, 6, .inr (.inr (.inr (.inr ga))))), (jj, .inr (7, [.ref ((e.2.2.1 0)), .ref ((e.2.2.1 0)), .ref ((e.2.2.1 0)), .ref al, .null])), (al, .inr (2, [.int (nI (mo + 1)), .ref qn, .int (nI 1)])), (qn, .inl (cn2, cap3, .inr (.inr (.inr (.inr f4)))))] H := hP
  have hD : va_D A [(mm, .inr (8, [.int (nI 0), .ref aa, .int (nI kn), .int (nI rf)])), (aa, .inl (cA, 6, .inr (.inr (.inr (.inr ga))))), (jj, .inr (7, [.ref ((e.2.2.1 0)), .ref ((e.2.2.1 0)), .ref ((e.2.2.1 0)), .ref al, .null])), (al, .inr (2, [.int (nI (mo + 1)), .ref qn, .int (nI 1)])), (qn, .inl (cn2, cap3, .inr (.inr (.inr (.inr f4)))))] := hD
  have hK : va_K D vwCl [(cA, .object "JoinrowModel$Joiner"), (cn2, .object "java/lang/Object")] s := hK
  have hs25 := hS.1
  refine W.widen (k := 12) (n := 1300) (by omega) (by omega) ?_
  obtain rfl := hw_c23.1
  have hf4 := hw_c23.2
  have hz0 := hS.1
  have lt0 := (hP 0 _ rfl).lt
  dsimp only at lt0
  have lt1 := (hP 1 _ rfl).lt
  dsimp only at lt1
  have lt2 := (hP 2 _ rfl).lt
  dsimp only at lt2
  have lt3 := (hP 3 _ rfl).lt
  dsimp only at lt3
  have lt4 := (hP 4 _ rfl).lt
  dsimp only at lt4
  exact z_reti (v := (nI 0)) (qn, cn2, cap3, f4) hx hb hr (by first | rfl | decide) hlocks (show (nI 0) = (nI 0) ∧ 0 + 1 ≤ cap3 ∧ cap3 ≤ 800 ∧ 10 ≤ cap3 ∧ zF f4 (0 + 1) (e.2.2.1 0) from ⟨rfl, hf4⟩) hK [1] rfl hP hD hS [0, 1, 2, 3, 4] (by decide) rfl (by omega) (by omega) (fun _ _ _ => trivial) dX5_add_30
set_option maxRecDepth 100000 in
set_option maxHeartbeats 4000000 in
/-- thrown(): 0 -/
theorem c_thrown (l : Launch) (D : va_G) (N0 : Nat) (e : zE) (sz mz : Nat) (mm : Nat) (aa : Nat) (kn : Nat) (rf : Nat)  : Met l yX5_thrown wsX5_thrown ({ frames := 0, cells := 0, slots := 0, locals := 0 }) (va_Pc [.ref mm] (zP N0 e D [] [(mm, .inr (8, [.int (nI 0), .ref aa, .int (nI kn), .int (nI rf)]))] sz mz [])) (zQi (fun (r : Int32) (_ : Unit) => r = (nI 0)) D (fun (_ : Unit) => ([(mm, .inr (8, [.int (nI 0), .ref aa, .int (nI kn), .int (nI rf)]))] : va_W)) (fun (_ : Unit) => ([] : List (ClassId × FieldType))) sz (0) mz (0) (fun (_ : Unit) (t : State) => True) (va_A [(mm, .inr (8, [.int (nI 0), .ref aa, .int (nI kn), .int (nI rf)]))] sz)) (0) (0) (va_A [(mm, .inr (8, [.int (nI 0), .ref aa, .int (nI kn), .int (nI rf)]))] sz) := by
  refine z_met (Qc := fun A => zQi (fun (r : Int32) (_ : Unit) => r = (nI 0)) D (fun (_ : Unit) => ([(mm, .inr (8, [.int (nI 0), .ref aa, .int (nI kn), .int (nI rf)]))] : va_W)) (fun (_ : Unit) => ([] : List (ClassId × FieldType))) sz (0) mz (0) (fun (_ : Unit) (t : State) => True) A) (cc := cX5_thrown) (maxL := 1) (ret := (some .int)) RX5 rfl (by decide) rfl (Nat.le_of_ble_eq_true rfl) ?_
  intro p ev s m below meth c ls A hx hb hr hml hown hts hlocks hnm hsz hmz hN hAe hA hAN hS hP hK hD hG hL hl
  subst hsz
  subst hmz
  have hl : lv_has ls 1 [(0, .ref mm)] := hl
  refine lv_aload_n hx hb dX5_thrown_0 rfl (lv_at hl 0 rfl) ?_
  refine va_get (D := D) (ci := 8) (v := .int (nI 0)) (C := RX5) (T := TX5) (N := 4) hx hb hts (by decide +kernel) hown hK hP 0 rfl rfl 0 (by decide) (hts (.fieldLink RX5 24 "JoinrowModel" "thrown" "I") (by decide +kernel)) (fun _ h9 => h9) rfl dX5_thrown_1 ?_
  have hz0 := hS.1
  refine z_keepW (fun hkp => ?_)
  exact z_reti (v := (nI 0)) () hx hb hr (by first | rfl | decide) hlocks rfl hK [] rfl hP hD hS [0] (by decide) rfl (by omega) (zw_keep hkp) (fun _ _ _ => trivial) dX5_thrown_4
