set_option maxRecDepth 100000 in
set_option maxHeartbeats 4000000 in
/-- Joiner(between, prefix, suffix) of the model -/
theorem c_jmini (l : Launch) (D : va_G) (N0 : Nat) (e : zE) (sz mz : Nat) (jj : Nat) (ta : Nat) (tb : Nat) (tc : Nat)  : Met l yX4_init wsX4_init ({ frames := 4, cells := 1, slots := 3, locals := 76 }) (va_Pc [.ref jj, .ref ta, .ref tb, .ref tc] (zP N0 e D [] [(jj, .inr (7, [.null, .null, .null, .null, .null]))] sz mz [])) (zQv (fun (al2 : Nat) => sz ≤ al2) D (fun (al2 : Nat) => ([(jj, .inr (7, [.ref ta, .ref tb, .ref tc, .ref al2, .null])), (al2, .inr (2, [.int (nI 0), .ref e.1, .int (nI 0)]))] : va_W)) (fun (al2 : Nat) => ([] : List (ClassId × FieldType))) sz (1) mz (0) (fun (al2 : Nat) (t : State) => True) (va_A [(jj, .inr (7, [.null, .null, .null, .null, .null]))] sz)) (1) (3) (va_A [(jj, .inr (7, [.null, .null, .null, .null, .null]))] sz) := by
  refine z_met (Qc := fun A => zQv (fun (al2 : Nat) => sz ≤ al2) D (fun (al2 : Nat) => ([(jj, .inr (7, [.ref ta, .ref tb, .ref tc, .ref al2, .null])), (al2, .inr (2, [.int (nI 0), .ref e.1, .int (nI 0)]))] : va_W)) (fun (al2 : Nat) => ([] : List (ClassId × FieldType))) sz (1) mz (0) (fun (al2 : Nat) (t : State) => True) A) (cc := cX4_init) (maxL := 4) (ret := none) RX4 rfl (by decide) rfl (Nat.le_of_ble_eq_true rfl) ?_
  intro p ev s m below meth c ls A hx hb hr hml hown hts hlocks hnm hsz hmz hN hAe hA hAN hS hP hK hD hG hL hl
  subst hsz
  subst hmz
  have hl : lv_has ls 4 [(0, .ref jj), (1, .ref ta), (2, .ref tb), (3, .ref tc)] := hl
  refine lv_aload_n hx hb dX4_init_0 rfl (lv_at hl 0 rfl) ?_
  refine W.objInit hx hb hown (hts (.methodLink RX4 1 objectInit) (by decide +kernel)) (hts (.instanceMethod objectInit) (by decide +kernel)) (hts (.code objectInit ⟨#[0xb1]⟩ 1 none) (by decide +kernel)) rfl (by rw [hml]; exact hl.1) rfl dX4_init_1 (Nat.le_of_ble_eq_true rfl) (Nat.le_of_ble_eq_true rfl) ?_
  refine W.eq (g2 := F0 m 4 ls []) rfl ?_
  refine lv_aload_n hx hb dX4_init_4 rfl (lv_at hl 0 rfl) ?_
  refine va_ldcS hx hb hown (hG.2.2.2.2.2.1 ("JoinrowModel$Joiner", 7, ",", 1) (by simp)) dX4_init_5 ?_
  refine va_put (D := D) (ci := 7) (v := .ref ((e.2.2.1 1))) (ty := .object "java/lang/String") (C := RX4) (T := TX4) (N := 5) hx hb hts (by decide +kernel) tyX4 tyX4_ok nmX4 hown hK hP hD hS 0 rfl rfl 0 (by decide) (hts (.fieldLink RX4 9 "JoinrowModel$Joiner" "between" "Ljava/lang/String;") (by decide +kernel)) (fun _ h9 => h9) rfl (by decide +kernel) rfl rfl (Nat.le_of_ble_eq_true rfl) dX4_init_7 (fun H locs hP hD hS => ?_)
  have hP : va_P D vwCl [(jj, .inr (7, [.ref ((e.2.2.1 1)), .null, .null, .null, .null]))] H := hP
  have hD : va_D A [(jj, .inr (7, [.ref ((e.2.2.1 1)), .null, .null, .null, .null]))] := hD
  have hs1 := hS.1
  refine lv_aload_n hx hb dX4_init_10 rfl (lv_at hl 0 rfl) ?_
  refine va_ldcS hx hb hown (hG.2.2.2.2.2.1 ("JoinrowModel$Joiner", 15, "[", 2) (by simp)) dX4_init_11 ?_
  refine va_put (D := D) (ci := 7) (v := .ref ((e.2.2.1 2))) (ty := .object "java/lang/String") (C := RX4) (T := TX4) (N := 5) hx hb hts (by decide +kernel) tyX4 tyX4_ok nmX4 hown hK hP hD hS 0 rfl rfl 1 (by decide) (hts (.fieldLink RX4 17 "JoinrowModel$Joiner" "prefix" "Ljava/lang/String;") (by decide +kernel)) (fun _ h9 => h9) rfl (by decide +kernel) rfl rfl (Nat.le_of_ble_eq_true rfl) dX4_init_13 (fun H locs hP hD hS => ?_)
  have hP : va_P D vwCl [(jj, .inr (7, [.ref ((e.2.2.1 1)), .ref ((e.2.2.1 2)), .null, .null, .null]))] H := hP
  have hD : va_D A [(jj, .inr (7, [.ref ((e.2.2.1 1)), .ref ((e.2.2.1 2)), .null, .null, .null]))] := hD
  have hs2 := hS.1
  refine lv_aload_n hx hb dX4_init_16 rfl (lv_at hl 0 rfl) ?_
  refine va_ldcS hx hb hown (hG.2.2.2.2.2.1 ("JoinrowModel$Joiner", 20, "]", 3) (by simp)) dX4_init_17 ?_
  refine va_put (D := D) (ci := 7) (v := .ref ((e.2.2.1 3))) (ty := .object "java/lang/String") (C := RX4) (T := TX4) (N := 5) hx hb hts (by decide +kernel) tyX4 tyX4_ok nmX4 hown hK hP hD hS 0 rfl rfl 2 (by decide) (hts (.fieldLink RX4 22 "JoinrowModel$Joiner" "suffix" "Ljava/lang/String;") (by decide +kernel)) (fun _ h9 => h9) rfl (by decide +kernel) rfl rfl (Nat.le_of_ble_eq_true rfl) dX4_init_19 (fun H locs hP hD hS => ?_)
  have hP : va_P D vwCl [(jj, .inr (7, [.ref ((e.2.2.1 1)), .ref ((e.2.2.1 2)), .ref ((e.2.2.1 3)), .null, .null]))] H := hP
  have hD : va_D A [(jj, .inr (7, [.ref ((e.2.2.1 1)), .ref ((e.2.2.1 2)), .ref ((e.2.2.1 3)), .null, .null]))] := hD
  have hs3 := hS.1
  refine lv_aload_n hx hb dX4_init_22 rfl (lv_at hl 0 rfl) ?_
  have kc4 : 0 + 1 ≤ 1 := by omega
  have ks5 : 0 + 3 ≤ 3 := by omega
  refine z_new (ci := 2) (fs := [.int 0, .null, .int 0]) (C := RJx4a65c) (T := TJx4a65c) (N := 3) hx hb hts (by decide +kernel) tyJx4a65c tyJx4a65c_ok hown (hts (.classLink RX4 25 RJx4a65c) (by decide +kernel)) (hts (.instantiable RJx4a65c 3) (by decide +kernel)) (hts (.initialized RJx4a65c) (by decide +kernel)) hK hP hD hS hA rfl (fun j hj => by match j, hj with | 0, _ => rfl | 1, _ => rfl | 2, _ => rfl) kc4 ks5 dX4_init_23 (fun aq H hq_aq hz_aq hm_aq hk_aq hP hD hS => ?_)
  have hP : va_P D vwCl [(jj, .inr (7, [.ref ((e.2.2.1 1)), .ref ((e.2.2.1 2)), .ref ((e.2.2.1 3)), .null, .null])), (aq, .inr (2, [.int (nI 0), .null, .int (nI 0)]))] H := hP
  have hD : va_D A [(jj, .inr (7, [.ref ((e.2.2.1 1)), .ref ((e.2.2.1 2)), .ref ((e.2.2.1 3)), .null, .null])), (aq, .inr (2, [.int (nI 0), .null, .int (nI 0)]))] := hD
  have hs6 := hS.1
  refine W.widen (k := 1) (n := 3) (by omega) (by omega) ?_
  refine lv_dup hx hb dX4_init_26 rfl ?_
  have hFc := va_free (wc := [(aq, .inr (2, [.int (nI 0), .null, .int (nI 0)]))]) hD hS hA [1] rfl
  have kc7 : 1 + (0) ≤ 1 := by omega
  have ks8 : 3 + (0) ≤ 3 := by omega
  refine z_callv (wr := [(jj, .inr (7, [.ref ((e.2.2.1 1)), .ref ((e.2.2.1 2)), .ref ((e.2.2.1 3)), .null, .null]))]) (va_runI (As := []) (rest := [.ref aq, .ref jj]) ⟨hx, hb, hml, hown, hts⟩ (c_alini l D N0 e H.size (zw H) aq ) (cwI 0 hts gX4_init_Jx4a65c_init_da8c8 rfl rfl rfl (hts (.initialized RJx4a65c) (by decide +kernel)) (hts (.methodLink RX4 27 yJx4a65c_init_da8c8) (by decide +kernel)) (hts (.instanceMethod yJx4a65c_init_da8c8) (by decide +kernel)) rfl (by decide +kernel) ⟨Nat.le_of_ble_eq_true rfl, Nat.le_of_ble_eq_true rfl⟩) ⟨zP.blind, (z_pre hK hP hD hS hAN hN hG [1] (by decide) rfl [] rfl (fun q hq => absurd hq List.not_mem_nil))⟩ rfl rfl hl.1 rfl (lv_room (Nat.le_of_ble_eq_true rfl)) dX4_init_27 ⟨kc7, ks8⟩) hK hP hD hS hA [1] rfl [0] rfl (by decide) (by decide) (fun u t H locs ht hvm hw_c9 hY_c9 hz_c9 hm_c9 hk_c9 hK hP hD hS => ?_)
  have hP : va_P D vwCl [(jj, .inr (7, [.ref ((e.2.2.1 1)), .ref ((e.2.2.1 2)), .ref ((e.2.2.1 3)), .null, .null])), (aq, .inr (2, [.int (nI 0), .ref e.1, .int (nI 0)]))] H := hP
  have hD : va_D A [(jj, .inr (7, [.ref ((e.2.2.1 1)), .ref ((e.2.2.1 2)), .ref ((e.2.2.1 3)), .null, .null])), (aq, .inr (2, [.int (nI 0), .ref e.1, .int (nI 0)]))] := hD
  have hK : va_K D vwCl [] s := hK
  have hs11 := hS.1
  refine W.widen (k := 1) (n := 3) (by omega) (by omega) ?_
  refine va_putF (D := D) (ci := 7) (v := .ref aq) (ty := .object "java/util/ArrayList") (C := RX4) (T := TX4) (N := 5) hx hb hts (by decide +kernel) tyX4 tyX4_ok nmX4 hown hK hP hD hS 0 rfl rfl 3 (by decide) (hts (.fieldLink RX4 28 "JoinrowModel$Joiner" "pieces" "Ljava/util/ArrayList;") (by decide +kernel)) (fun _ h9 => h9) rfl hnm rfl (by decide +kernel) rfl rfl (Nat.le_of_ble_eq_true rfl) dX4_init_30 (fun H locs hP hD hS => ?_)
  have hP : va_P D vwCl [(jj, .inr (7, [.ref ((e.2.2.1 1)), .ref ((e.2.2.1 2)), .ref ((e.2.2.1 3)), .ref aq, .null])), (aq, .inr (2, [.int (nI 0), .ref e.1, .int (nI 0)]))] H := hP
  have hD : va_D A [(jj, .inr (7, [.ref ((e.2.2.1 1)), .ref ((e.2.2.1 2)), .ref ((e.2.2.1 3)), .ref aq, .null])), (aq, .inr (2, [.int (nI 0), .ref e.1, .int (nI 0)]))] := hD
  have hs12 := hS.1
  refine lv_aload_n hx hb dX4_init_33 rfl (lv_at hl 0 rfl) ?_
  refine lv_aload_n hx hb dX4_init_34 rfl (lv_at hl 1 rfl) ?_
  refine va_put (D := D) (ci := 7) (v := .ref ta) (ty := .object "java/lang/String") (C := RX4) (T := TX4) (N := 5) hx hb hts (by decide +kernel) tyX4 tyX4_ok nmX4 hown hK hP hD hS 0 rfl rfl 0 (by decide) (hts (.fieldLink RX4 9 "JoinrowModel$Joiner" "between" "Ljava/lang/String;") (by decide +kernel)) (fun _ h9 => h9) rfl (by decide +kernel) rfl rfl (Nat.le_of_ble_eq_true rfl) dX4_init_35 (fun H locs hP hD hS => ?_)
  have hP : va_P D vwCl [(jj, .inr (7, [.ref ta, .ref ((e.2.2.1 2)), .ref ((e.2.2.1 3)), .ref aq, .null])), (aq, .inr (2, [.int (nI 0), .ref e.1, .int (nI 0)]))] H := hP
  have hD : va_D A [(jj, .inr (7, [.ref ta, .ref ((e.2.2.1 2)), .ref ((e.2.2.1 3)), .ref aq, .null])), (aq, .inr (2, [.int (nI 0), .ref e.1, .int (nI 0)]))] := hD
  have hs13 := hS.1
  refine lv_aload_n hx hb dX4_init_38 rfl (lv_at hl 0 rfl) ?_
  refine lv_aload_n hx hb dX4_init_39 rfl (lv_at hl 2 rfl) ?_
  refine va_put (D := D) (ci := 7) (v := .ref tb) (ty := .object "java/lang/String") (C := RX4) (T := TX4) (N := 5) hx hb hts (by decide +kernel) tyX4 tyX4_ok nmX4 hown hK hP hD hS 0 rfl rfl 1 (by decide) (hts (.fieldLink RX4 17 "JoinrowModel$Joiner" "prefix" "Ljava/lang/String;") (by decide +kernel)) (fun _ h9 => h9) rfl (by decide +kernel) rfl rfl (Nat.le_of_ble_eq_true rfl) dX4_init_40 (fun H locs hP hD hS => ?_)
  have hP : va_P D vwCl [(jj, .inr (7, [.ref ta, .ref tb, .ref ((e.2.2.1 3)), .ref aq, .null])), (aq, .inr (2, [.int (nI 0), .ref e.1, .int (nI 0)]))] H := hP
  have hD : va_D A [(jj, .inr (7, [.ref ta, .ref tb, .ref ((e.2.2.1 3)), .ref aq, .null])), (aq, .inr (2, [.int (nI 0), .ref e.1, .int (nI 0)]))] := hD
  have hs14 := hS.1
  refine lv_aload_n hx hb dX4_init_43 rfl (lv_at hl 0 rfl) ?_
  refine lv_aload_n hx hb dX4_init_44 rfl (lv_at hl 3 rfl) ?_
  refine va_put (D := D) (ci := 7) (v := .ref tc) (ty := .object "java/lang/String") (C := RX4) (T := TX4) (N := 5) hx hb hts (by decide +kernel) tyX4 tyX4_ok nmX4 hown hK hP hD hS 0 rfl rfl 2 (by decide) (hts (.fieldLink RX4 22 "JoinrowModel$Joiner" "suffix" "Ljava/lang/String;") (by decide +kernel)) (fun _ h9 => h9) rfl (by decide +kernel) rfl rfl (Nat.le_of_ble_eq_true rfl) dX4_init_45 (fun H locs hP hD hS => ?_)
  have hP : va_P D vwCl [(jj, .inr (7, [.ref ta, .ref tb, .ref tc, .ref aq, .null])), (aq, .inr (2, [.int (nI 0), .ref e.1, .int (nI 0)]))] H := hP
  have hD : va_D A [(jj, .inr (7, [.ref ta, .ref tb, .ref tc, .ref aq, .null])), (aq, .inr (2, [.int (nI 0), .ref e.1, .int (nI 0)]))] := hD
  have hs15 := hS.1
  have hz0 := hS.1
  have lt0 := (hP 0 _ rfl).lt
  dsimp only at lt0
  have lt1 := (hP 1 _ rfl).lt
  dsimp only at lt1
  refine z_keepW (fun hkp => ?_)
  exact z_retv (aq) hx hb hr hlocks (show s.heap.size ≤ aq from (by omega)) hK [] rfl hP hD hS [0, 1] (by decide) rfl (by omega) (zw_keep hkp) (fun _ _ _ => trivial) dX4_init_48
set_option maxRecDepth 100000 in
set_option maxHeartbeats 4000000 in
/-- isFilled: no pieces -/
theorem c_isF0 (l : Launch) (D : va_G) (N0 : Nat) (e : zE) (sz mz : Nat) (jj : Nat) (tb : Nat) (tp : Nat) (ts : Nat) (al : Nat) (mo : Nat)  : Met l yX4_isFilled wsX4_isFilled ({ frames := 1, cells := 0, slots := 0, locals := 20 }) (va_Pc [.ref jj] (zP N0 e D [] [(jj, .inr (7, [.ref tb, .ref tp, .ref ts, .ref al, .null])), (al, .inr (2, [.int (nI mo), .ref e.1, .int (nI 0)]))] sz mz [])) (zQi (fun (r : Int32) (_ : Unit) => r = (nI 0)) D (fun (_ : Unit) => ([(jj, .inr (7, [.ref tb, .ref tp, .ref ts, .ref al, .null])), (al, .inr (2, [.int (nI mo), .ref e.1, .int (nI 0)]))] : va_W)) (fun (_ : Unit) => ([] : List (ClassId × FieldType))) sz (0) mz (0) (fun (_ : Unit) (t : State) => True) (va_A [(jj, .inr (7, [.ref tb, .ref tp, .ref ts, .ref al, .null])), (al, .inr (2, [.int (nI mo), .ref e.1, .int (nI 0)]))] sz)) (0) (0) (va_A [(jj, .inr (7, [.ref tb, .ref tp, .ref ts, .ref al, .null])), (al, .inr (2, [.int (nI mo), .ref e.1, .int (nI 0)]))] sz) := by
  refine z_met (Qc := fun A => zQi (fun (r : Int32) (_ : Unit) => r = (nI 0)) D (fun (_ : Unit) => ([(jj, .inr (7, [.ref tb, .ref tp, .ref ts, .ref al, .null])), (al, .inr (2, [.int (nI mo), .ref e.1, .int (nI 0)]))] : va_W)) (fun (_ : Unit) => ([] : List (ClassId × FieldType))) sz (0) mz (0) (fun (_ : Unit) (t : State) => True) A) (cc := cX4_isFilled) (maxL := 1) (ret := (some .boolean)) RX4 rfl (by decide) rfl (Nat.le_of_ble_eq_true rfl) ?_
  intro p ev s m below meth c ls A hx hb hr hml hown hts hlocks hnm hsz hmz hN hAe hA hAN hS hP hK hD hG hL hl
  subst hsz
  subst hmz
  have hl : lv_has ls 1 [(0, .ref jj)] := hl
  refine lv_aload_n hx hb dX4_isFilled_0 rfl (lv_at hl 0 rfl) ?_
  refine va_get (D := D) (ci := 7) (v := .ref al) (C := RX4) (T := TX4) (N := 5) hx hb hts (by decide +kernel) hown hK hP 0 rfl rfl 3 (by decide) (hts (.fieldLink RX4 28 "JoinrowModel$Joiner" "pieces" "Ljava/util/ArrayList;") (by decide +kernel)) (fun _ h9 => h9) rfl dX4_isFilled_1 ?_
  have hFc := va_free (wc := [(al, .inr (2, [.int (nI mo), .ref e.1, .int (nI 0)]))]) hD hS hA [1] rfl
  have kc1 : 0 + (0) ≤ 0 := by omega
  have ks2 : 0 + (0) ≤ 0 := by omega
  refine z_calli (wr := [(jj, .inr (7, [.ref tb, .ref tp, .ref ts, .ref al, .null]))]) (va_runV (As := []) (rest := []) ⟨hx, hb, hml, hown, hts⟩ (c_alsize l D N0 e s.heap.size (zw s.heap) al mo e.1 0 ) (cwV 0 hts gX4_isFilled_Jx4a65c_size_8abf5 rfl rfl rfl (by decide +kernel) ⟨Nat.le_of_ble_eq_true rfl, Nat.le_of_ble_eq_true rfl⟩) ⟨zP.blind, (va_recv hK hP (ci := 2) (q0 := 1) rfl rfl), (z_pre hK hP hD hS hAN hN hG [1] (by decide) rfl [] rfl (fun q hq => absurd hq List.not_mem_nil))⟩ rfl rfl hl.1 rfl (lv_room (Nat.le_of_ble_eq_true rfl)) dX4_isFilled_4 ⟨kc1, ks2⟩) hK hP hD hS hA [1] rfl [0] rfl (by decide) (by decide) (fun r4 u t H locs ht hvm hw_c3 hY_c3 hz_c3 hm_c3 hk_c3 hK hP hD hS => ?_)
  have hP : va_P D vwCl [(jj, .inr (7, [.ref tb, .ref tp, .ref ts, .ref al, .null])), (al, .inr (2, [.int (nI mo), .ref e.1, .int (nI 0)]))] H := hP
  have hD : va_D A [(jj, .inr (7, [.ref tb, .ref tp, .ref ts, .ref al, .null])), (al, .inr (2, [.int (nI mo), .ref e.1, .int (nI 0)]))] := hD
  have hK : va_K D vwCl [] s := hK
  have hs5 := hS.1
  refine W.widen (k := 0) (n := 0) (by omega) (by omega) ?_
  subst hw_c3
  refine lv_if_le (tgt := 14) hx hb dX4_isFilled_7 (by decide) (fun _ => ?_) (fun hq => absurd (show (nI 0) ≤ (nI 0) from (nI_leI (by omega) (by omega)).mpr (by omega)) hq)
  refine lv_iconst (v := (nI 0)) hx hb dX4_isFilled_14 (by decide) ?_
  have hz0 := hS.1
  refine z_keepW (fun hkp => ?_)
  exact z_reti (v := (nI 0)) () hx hb hr (by first | rfl | decide) hlocks rfl hK [] rfl hP hD hS [0, 1] (by decide) rfl (by omega) (zw_keep hkp) (fun _ _ _ => trivial) dX4_isFilled_15
set_option maxRecDepth 100000 in
set_option maxHeartbeats 4000000 in
/-- isFilled: with pieces -/
theorem c_isF1 (l : Launch) (D : va_G) (N0 : Nat) (e : zE) (sz mz : Nat) (jj : Nat) (tb : Nat) (tp : Nat) (ts : Nat) (al : Nat) (mo : Nat) (ea : Nat) (nn : Nat) (h1 : 1 ≤ nn) (h5 : nn ≤ 65536) : Met l yX4_isFilled wsX4_isFilled ({ frames := 1, cells := 0, slots := 0, locals := 20 }) (va_Pc [.ref jj] (zP N0 e D [] [(jj, .inr (7, [.ref tb, .ref tp, .ref ts, .ref al, .null])), (al, .inr (2, [.int (nI mo), .ref ea, .int (nI nn)]))] sz mz [])) (zQi (fun (r : Int32) (_ : Unit) => r = (nI 1)) D (fun (_ : Unit) => ([(jj, .inr (7, [.ref tb, .ref tp, .ref ts, .ref al, .null])), (al, .inr (2, [.int (nI mo), .ref ea, .int (nI nn)]))] : va_W)) (fun (_ : Unit) => ([] : List (ClassId × FieldType))) sz (0) mz (0) (fun (_ : Unit) (t : State) => True) (va_A [(jj, .inr (7, [.ref tb, .ref tp, .ref ts, .ref al, .null])), (al, .inr (2, [.int (nI mo), .ref ea, .int (nI nn)]))] sz)) (0) (0) (va_A [(jj, .inr (7, [.ref tb, .ref tp, .ref ts, .ref al, .null])), (al, .inr (2, [.int (nI mo), .ref ea, .int (nI nn)]))] sz) := by
  refine z_met (Qc := fun A => zQi (fun (r : Int32) (_ : Unit) => r = (nI 1)) D (fun (_ : Unit) => ([(jj, .inr (7, [.ref tb, .ref tp, .ref ts, .ref al, .null])), (al, .inr (2, [.int (nI mo), .ref ea, .int (nI nn)]))] : va_W)) (fun (_ : Unit) => ([] : List (ClassId × FieldType))) sz (0) mz (0) (fun (_ : Unit) (t : State) => True) A) (cc := cX4_isFilled) (maxL := 1) (ret := (some .boolean)) RX4 rfl (by decide) rfl (Nat.le_of_ble_eq_true rfl) ?_
  intro p ev s m below meth c ls A hx hb hr hml hown hts hlocks hnm hsz hmz hN hAe hA hAN hS hP hK hD hG hL hl
  subst hsz
  subst hmz
  have hl : lv_has ls 1 [(0, .ref jj)] := hl
  refine lv_aload_n hx hb dX4_isFilled_0 rfl (lv_at hl 0 rfl) ?_
  refine va_get (D := D) (ci := 7) (v := .ref al) (C := RX4) (T := TX4) (N := 5) hx hb hts (by decide +kernel) hown hK hP 0 rfl rfl 3 (by decide) (hts (.fieldLink RX4 28 "JoinrowModel$Joiner" "pieces" "Ljava/util/ArrayList;") (by decide +kernel)) (fun _ h9 => h9) rfl dX4_isFilled_1 ?_
  have hFc := va_free (wc := [(al, .inr (2, [.int (nI mo), .ref ea, .int (nI nn)]))]) hD hS hA [1] rfl
  have kc1 : 0 + (0) ≤ 0 := by omega
  have ks2 : 0 + (0) ≤ 0 := by omega
  refine z_calli (wr := [(jj, .inr (7, [.ref tb, .ref tp, .ref ts, .ref al, .null]))]) (va_runV (As := []) (rest := []) ⟨hx, hb, hml, hown, hts⟩ (c_alsize l D N0 e s.heap.size (zw s.heap) al mo ea nn ) (cwV 0 hts gX4_isFilled_Jx4a65c_size_8abf5 rfl rfl rfl (by decide +kernel) ⟨Nat.le_of_ble_eq_true rfl, Nat.le_of_ble_eq_true rfl⟩) ⟨zP.blind, (va_recv hK hP (ci := 2) (q0 := 1) rfl rfl), (z_pre hK hP hD hS hAN hN hG [1] (by decide) rfl [] rfl (fun q hq => absurd hq List.not_mem_nil))⟩ rfl rfl hl.1 rfl (lv_room (Nat.le_of_ble_eq_true rfl)) dX4_isFilled_4 ⟨kc1, ks2⟩) hK hP hD hS hA [1] rfl [0] rfl (by decide) (by decide) (fun r4 u t H locs ht hvm hw_c3 hY_c3 hz_c3 hm_c3 hk_c3 hK hP hD hS => ?_)
  have hP : va_P D vwCl [(jj, .inr (7, [.ref tb, .ref tp, .ref ts, .ref al, .null])), (al, .inr (2, [.int (nI mo), .ref ea, .int (nI nn)]))] H := hP
  have hD : va_D A [(jj, .inr (7, [.ref tb, .ref tp, .ref ts, .ref al, .null])), (al, .inr (2, [.int (nI mo), .ref ea, .int (nI nn)]))] := hD
  have hK : va_K D vwCl [] s := hK
  have hs5 := hS.1
  refine W.widen (k := 0) (n := 0) (by omega) (by omega) ?_
  subst hw_c3
  refine lv_if_le (tgt := 14) hx hb dX4_isFilled_7 (by decide) (fun hq => absurd hq (show ¬ ((nI nn) ≤ (nI 0)) from fun hq => absurd ((nI_leI (by omega) (by omega)).mp hq) (by omega))) (fun _ => ?_)
  refine lv_iconst (v := (nI 1)) hx hb dX4_isFilled_10 (by decide) ?_
  refine lv_goto (tgt := 15) hx hb dX4_isFilled_11 (by decide) ?_
  have hz0 := hS.1
  refine z_keepW (fun hkp => ?_)
  exact z_reti (v := (nI 1)) () hx hb hr (by first | rfl | decide) hlocks rfl hK [] rfl hP hD hS [0, 1] (by decide) rfl (by omega) (zw_keep hkp) (fun _ _ _ => trivial) dX4_isFilled_15
set_option maxRecDepth 100000 in
set_option maxHeartbeats 4000000 in
/-- inside: no pieces -/
theorem c_ins0 (l : Launch) (D : va_G) (N0 : Nat) (e : zE) (sz mz : Nat) (jj : Nat) (tb : Nat) (tp : Nat) (ts : Nat) (al : Nat) (mo : Nat)  : Met l yX4_inside wsX4_inside ({ frames := 1, cells := 0, slots := 0, locals := 20 }) (va_Pc [.ref jj] (zP N0 e D [] [(jj, .inr (7, [.ref tb, .ref tp, .ref ts, .ref al, .null])), (al, .inr (2, [.int (nI mo), .ref e.1, .int (nI 0)]))] sz mz [])) (zQr (fun (_ : Unit) (ra : Nat) => ra = (e.2.2.1 0)) D (fun (_ : Unit) => ([(jj, .inr (7, [.ref tb, .ref tp, .ref ts, .ref al, .null])), (al, .inr (2, [.int (nI mo), .ref e.1, .int (nI 0)]))] : va_W)) (fun (_ : Unit) => ([] : List (ClassId × FieldType))) sz (0) mz (0) (fun (_ : Unit) (t : State) => True) (va_A [(jj, .inr (7, [.ref tb, .ref tp, .ref ts, .ref al, .null])), (al, .inr (2, [.int (nI mo), .ref e.1, .int (nI 0)]))] sz)) (0) (0) (va_A [(jj, .inr (7, [.ref tb, .ref tp, .ref ts, .ref al, .null])), (al, .inr (2, [.int (nI mo), .ref e.1, .int (nI 0)]))] sz) := by
  refine z_met (Qc := fun A => zQr (fun (_ : Unit) (ra : Nat) => ra = (e.2.2.1 0)) D (fun (_ : Unit) => ([(jj, .inr (7, [.ref tb, .ref tp, .ref ts, .ref al, .null])), (al, .inr (2, [.int (nI mo), .ref e.1, .int (nI 0)]))] : va_W)) (fun (_ : Unit) => ([] : List (ClassId × FieldType))) sz (0) mz (0) (fun (_ : Unit) (t : State) => True) A) (cc := cX4_inside) (maxL := 3) (ret := (some (.object "java/lang/String"))) RX4 rfl (by decide) rfl (Nat.le_of_ble_eq_true rfl) ?_
  intro p ev s m below meth c ls A hx hb hr hml hown hts hlocks hnm hsz hmz hN hAe hA hAN hS hP hK hD hG hL hl
  subst hsz
  subst hmz
  have hl : lv_has ls 3 [(0, .ref jj)] := hl
  refine va_ldcS hx hb hown (hG.2.2.2.2.2.1 ("JoinrowModel$Joiner", 36, "", 0) (by simp)) dX4_inside_0 ?_
  refine lv_astore_n (lv' := [(1, .ref ((e.2.2.1 0))), (0, .ref jj)]) hx hb dX4_inside_2 rfl hl (by decide) rfl (fun ls hl => ?_)
  refine lv_iconst (v := (nI 0)) hx hb dX4_inside_3 (by decide) ?_
  refine lv_istore_n (lv' := [(2, .int (nI 0)), (1, .ref ((e.2.2.1 0))), (0, .ref jj)]) hx hb dX4_inside_4 rfl hl (by decide) rfl (fun ls hl => ?_)
  refine lv_iload_n hx hb dX4_inside_5 rfl (lv_at hl 0 rfl) ?_
  refine lv_aload_n hx hb dX4_inside_6 rfl (lv_at hl 2 rfl) ?_
  refine va_get (D := D) (ci := 7) (v := .ref al) (C := RX4) (T := TX4) (N := 5) hx hb hts (by decide +kernel) hown hK hP 0 rfl rfl 3 (by decide) (hts (.fieldLink RX4 28 "JoinrowModel$Joiner" "pieces" "Ljava/util/ArrayList;") (by decide +kernel)) (fun _ h9 => h9) rfl dX4_inside_7 ?_
  have hFc := va_free (wc := [(al, .inr (2, [.int (nI mo), .ref e.1, .int (nI 0)]))]) hD hS hA [1] rfl
  have kc1 : 0 + (0) ≤ 0 := by omega
  have ks2 : 0 + (0) ≤ 0 := by omega
  refine z_calli (wr := [(jj, .inr (7, [.ref tb, .ref tp, .ref ts, .ref al, .null]))]) (va_runV (As := []) (rest := [.int (nI 0)]) ⟨hx, hb, hml, hown, hts⟩ (c_alsize l D N0 e s.heap.size (zw s.heap) al mo e.1 0 ) (cwV 0 hts gX4_inside_Jx4a65c_size_8abf5 rfl rfl rfl (by decide +kernel) ⟨Nat.le_of_ble_eq_true rfl, Nat.le_of_ble_eq_true rfl⟩) ⟨zP.blind, (va_recv hK hP (ci := 2) (q0 := 1) rfl rfl), (z_pre hK hP hD hS hAN hN hG [1] (by decide) rfl [] rfl (fun q hq => absurd hq List.not_mem_nil))⟩ rfl rfl hl.1 rfl (lv_room (Nat.le_of_ble_eq_true rfl)) dX4_inside_10 ⟨kc1, ks2⟩) hK hP hD hS hA [1] rfl [0] rfl (by decide) (by decide) (fun r4 u t H locs ht hvm hw_c3 hY_c3 hz_c3 hm_c3 hk_c3 hK hP hD hS => ?_)
  have hP : va_P D vwCl [(jj, .inr (7, [.ref tb, .ref tp, .ref ts, .ref al, .null])), (al, .inr (2, [.int (nI mo), .ref e.1, .int (nI 0)]))] H := hP
  have hD : va_D A [(jj, .inr (7, [.ref tb, .ref tp, .ref ts, .ref al, .null])), (al, .inr (2, [.int (nI mo), .ref e.1, .int (nI 0)]))] := hD
  have hK : va_K D vwCl [] s := hK
  have hs5 := hS.1
  refine W.widen (k := 0) (n := 0) (by omega) (by omega) ?_
  subst hw_c3
  refine lv_icmp_ge (tgt := 67) hx hb dX4_inside_13 (by decide) (fun _ => ?_) (fun hq => absurd (show (nI 0) ≤ (nI 0) from (nI_leI (by omega) (by omega)).mpr (by omega)) hq)
  refine lv_aload_n hx hb dX4_inside_67 rfl (lv_at hl 1 rfl) ?_
  have hz0 := hS.1
  refine z_keepW (fun hkp => ?_)
  exact z_retr (q := (e.2.2.1 0)) () hx hb hr (Or.inl ⟨_, rfl⟩) hlocks rfl hK [] rfl hP hD hS [0, 1] (by decide) rfl (by omega) (zw_keep hkp) (fun _ _ _ => trivial) dX4_inside_68
set_option maxRecDepth 100000 in
set_option maxHeartbeats 4000000 in
/-- inside, of nn pieces: four cells a piece -/
theorem c_ins1 (l : Launch) (D : va_G) (N0 : Nat) (e : zE) (sz mz : Nat) (jj : Nat) (al : Nat) (mo : Nat) (ea : Nat) (nn : Nat) (cO : ClassId) (cap : Nat) (fe : Nat → Option Nat) (h1 : 1 ≤ nn) (h5 : nn ≤ 511) (hn : nn ≤ cap) (hcap : cap ≤ 800) (hzf : zF fe nn (e.2.2.1 0)) : Met l yX4_inside wsX4_inside ({ frames := 6, cells := 4 * nn, slots := 24 * nn, locals := 171 }) (va_Pc [.ref jj] (zP N0 e D [(cO, .object "java/lang/Object")] [(jj, .inr (7, [.ref ((e.2.2.1 0)), .ref ((e.2.2.1 0)), .ref ((e.2.2.1 0)), .ref al, .null])), (al, .inr (2, [.int (nI mo), .ref ea, .int (nI nn)])), (ea, .inl (cO, cap, .inr (.inr (.inr (.inr fe)))))] sz mz [])) (zQr (fun (u : Nat × Nat) (ra : Nat) => ra = u.1) D (fun (u : Nat × Nat) => ([(jj, .inr (7, [.ref ((e.2.2.1 0)), .ref ((e.2.2.1 0)), .ref ((e.2.2.1 0)), .ref al, .null])), (al, .inr (2, [.int (nI mo), .ref ea, .int (nI nn)])), (ea, .inl (cO, cap, .inr (.inr (.inr (.inr fe)))))] : va_W)) (fun (u : Nat × Nat) => ([] : List (ClassId × FieldType))) sz (4 * nn) mz (288 * nn) (fun (u : Nat × Nat) (t : State) => zR N0 sz u.1 u.2 0 t) (va_A [(jj, .inr (7, [.ref ((e.2.2.1 0)), .ref ((e.2.2.1 0)), .ref ((e.2.2.1 0)), .ref al, .null])), (al, .inr (2, [.int (nI mo), .ref ea, .int (nI nn)])), (ea, .inl (cO, cap, .inr (.inr (.inr (.inr fe)))))] sz)) (4 * nn) (24 * nn) (va_A [(jj, .inr (7, [.ref ((e.2.2.1 0)), .ref ((e.2.2.1 0)), .ref ((e.2.2.1 0)), .ref al, .null])), (al, .inr (2, [.int (nI mo), .ref ea, .int (nI nn)])), (ea, .inl (cO, cap, .inr (.inr (.inr (.inr fe)))))] sz) := by
  refine z_met (Qc := fun A => zQr (fun (u : Nat × Nat) (ra : Nat) => ra = u.1) D (fun (u : Nat × Nat) => ([(jj, .inr (7, [.ref ((e.2.2.1 0)), .ref ((e.2.2.1 0)), .ref ((e.2.2.1 0)), .ref al, .null])), (al, .inr (2, [.int (nI mo), .ref ea, .int (nI nn)])), (ea, .inl (cO, cap, .inr (.inr (.inr (.inr fe)))))] : va_W)) (fun (u : Nat × Nat) => ([] : List (ClassId × FieldType))) sz (4 * nn) mz (288 * nn) (fun (u : Nat × Nat) (t : State) => zR N0 sz u.1 u.2 0 t) A) (cc := cX4_inside) (maxL := 3) (ret := (some (.object "java/lang/String"))) RX4 rfl (by decide) rfl (Nat.le_of_ble_eq_true rfl) ?_
  intro p ev s m below meth c ls A hx hb hr hml hown hts hlocks hnm hsz hmz hN hAe hA hAN hS hP hK hD hG hL hl
  subst hsz
  subst hmz
  have hl : lv_has ls 3 [(0, .ref jj)] := hl
  have wl1 : jj < s.heap.size := (hP 0 _ rfl).lt
  have wl2 : N0 ≤ jj := hAN _ (hD.2 0 _ rfl)
  have wl3 : al < s.heap.size := (hP 1 _ rfl).lt
  have wl4 : N0 ≤ al := hAN _ (hD.2 1 _ rfl)
  have wl5 : ea < s.heap.size := (hP 2 _ rfl).lt
  have wl6 : N0 ≤ ea := hAN _ (hD.2 2 _ rfl)
  have loop : ∀ (n i : Nat), i ≤ nn → nn + 1 ≤ i + n → ∀ (q v : Nat) (H : Heap) (locs : List Loc), va_P D vwCl [(jj, .inr (7, [.ref ((e.2.2.1 0)), .ref ((e.2.2.1 0)), .ref ((e.2.2.1 0)), .ref al, .null])), (al, .inr (2, [.int (nI mo), .ref ea, .int (nI nn)])), (ea, .inl (cO, cap, .inr (.inr (.inr (.inr fe)))))] H → va_D A [(jj, .inr (7, [.ref ((e.2.2.1 0)), .ref ((e.2.2.1 0)), .ref ((e.2.2.1 0)), .ref al, .null])), (al, .inr (2, [.int (nI mo), .ref ea, .int (nI nn)])), (ea, .inl (cO, cap, .inr (.inr (.inr (.inr fe)))))] → va_S A s.heap H locs → zs q v 0 (fun _ => False) s H → ((q < N0 ∧ v < N0) ∨ (s.heap.size ≤ q ∧ s.heap.size ≤ v)) → s.heap.size + 4 * i ≤ H.size → zw s.heap + 288 * i ≤ zw H → ∀ (ls : Array Slot), lv_has ls 3 [(2, .int (nI i)), (1, .ref q), (0, .ref jj)] → W p l ev { frames := 6, cells := 4 * nn, slots := 24 * nn, locals := 171 } s m [.ref jj].toArray below meth c H locs (4 * i) (24 * i) (MQ below (zQr (fun (u : Nat × Nat) (ra : Nat) => ra = u.1) D (fun (u : Nat × Nat) => ([(jj, .inr (7, [.ref ((e.2.2.1 0)), .ref ((e.2.2.1 0)), .ref ((e.2.2.1 0)), .ref al, .null])), (al, .inr (2, [.int (nI mo), .ref ea, .int (nI nn)])), (ea, .inl (cO, cap, .inr (.inr (.inr (.inr fe)))))] : va_W)) (fun (u : Nat × Nat) => ([] : List (ClassId × FieldType))) s.heap.size (4 * nn) (zw s.heap) (288 * nn) (fun (u : Nat × Nat) (t : State) => zR N0 s.heap.size u.1 u.2 0 t) A) [.ref jj].toArray s (4 * nn) (24 * nn) A) (F0 m 5 ls []) := by
    intro n
    induction n with
    | zero =>
      intro i h1 h2
      exact absurd h2 (by omega)
    | succ n ih =>
      intro i hi hin q v H locs hP hD hS zz_q hqb hsz hzw ls hl
      rcases Nat.lt_or_ge i nn with hlt | hge
      · rcases Nat.eq_zero_or_pos i with h0 | h0
        · skip
          refine lv_iload_n hx hb dX4_inside_5 rfl (lv_at hl 0 rfl) ?_
          refine lv_aload_n hx hb dX4_inside_6 rfl (lv_at hl 2 rfl) ?_
          refine va_get (D := D) (ci := 7) (v := .ref al) (C := RX4) (T := TX4) (N := 5) hx hb hts (by decide +kernel) hown hK hP 0 rfl rfl 3 (by decide) (hts (.fieldLink RX4 28 "JoinrowModel$Joiner" "pieces" "Ljava/util/ArrayList;") (by decide +kernel)) (fun _ h9 => h9) rfl dX4_inside_7 ?_
          have hFc := va_free (wc := [(al, .inr (2, [.int (nI mo), .ref ea, .int (nI nn)]))]) hD hS hA [1] rfl
          have kc7 : (4 * i) + (0) ≤ 4 * nn := by omega
          have ks8 : (24 * i) + (0) ≤ 24 * nn := by omega
          refine z_calli (wr := [(jj, .inr (7, [.ref ((e.2.2.1 0)), .ref ((e.2.2.1 0)), .ref ((e.2.2.1 0)), .ref al, .null])), (ea, .inl (cO, cap, .inr (.inr (.inr (.inr fe)))))]) (va_runV (As := []) (rest := [.int (nI i)]) ⟨hx, hb, hml, hown, hts⟩ (c_alsize l D N0 e H.size (zw H) al mo ea nn ) (cwV 0 hts gX4_inside_Jx4a65c_size_8abf5 rfl rfl rfl (by decide +kernel) ⟨Nat.le_of_ble_eq_true rfl, Nat.le_of_ble_eq_true rfl⟩) ⟨zP.blind, (va_recv hK hP (ci := 2) (q0 := 1) rfl rfl), (z_pre hK hP hD hS hAN hN hG [1] (by decide) rfl [] rfl (fun q hq => absurd hq List.not_mem_nil))⟩ rfl rfl hl.1 rfl (lv_room (Nat.le_of_ble_eq_true rfl)) dX4_inside_10 ⟨kc7, ks8⟩) hK hP hD hS hA [1] rfl [0, 2] rfl (by decide) (by decide) (fun r10 u t H locs ht hvm hw_c9 hY_c9 hz_c9 hm_c9 hk_c9 hK hP hD hS => ?_)
          have hP : va_P D vwCl [(jj, .inr (7, [.ref ((e.2.2.1 0)), .ref ((e.2.2.1 0)), .ref ((e.2.2.1 0)), .ref al, .null])), (ea, .inl (cO, cap, .inr (.inr (.inr (.inr fe))))), (al, .inr (2, [.int (nI mo), .ref ea, .int (nI nn)]))] H := hP
          have hD : va_D A [(jj, .inr (7, [.ref ((e.2.2.1 0)), .ref ((e.2.2.1 0)), .ref ((e.2.2.1 0)), .ref al, .null])), (ea, .inl (cO, cap, .inr (.inr (.inr (.inr fe))))), (al, .inr (2, [.int (nI mo), .ref ea, .int (nI nn)]))] := hD
          have hK : va_K D vwCl [(cO, .object "java/lang/Object")] s := hK
          have hs11 := hS.1
          have zz_q := zz_q.at (hk_c9 _ zz_q.lta (z_out zz_q.lta (by intro x hx; simp at hx <;> omega))) (hk_c9 _ zz_q.ltv (z_out zz_q.ltv (by intro x hx; simp at hx <;> omega)))
          refine W.widen (k := (4 * i)) (n := (24 * i)) (by omega) (by omega) ?_
          subst hw_c9
          refine lv_icmp_ge (tgt := 67) hx hb dX4_inside_13 (by decide) (fun hq => absurd hq (show ¬ ((nI nn) ≤ (nI i)) from fun hq => absurd ((nI_leI (by omega) (by omega)).mp hq) (by omega))) (fun _ => ?_)
          have sl12 := zz_q.lta
          have sl13 := zz_q.ltv
          have kc14 : (4 * i) + 1 ≤ 4 * nn := by omega
          have ks15 : (24 * i) + 4 ≤ 24 * nn := by omega
          refine z_new (ci := 1) (fs := [.null, .int 0, .int 0, .int 0]) (C := RJ4) (T := TJ4) (N := 4) hx hb hts (by decide +kernel) tyJ4 tyJ4_ok hown (hts (.classLink RX4 38 RJ4) (by decide +kernel)) (hts (.instantiable RJ4 4) (by decide +kernel)) (hts (.initialized RJ4) (by decide +kernel)) hK hP hD hS hA rfl (fun j hj => by match j, hj with | 0, _ => rfl | 1, _ => rfl | 2, _ => rfl | 3, _ => rfl) kc14 ks15 dX4_inside_16 (fun sbd H hq_sbd hz_sbd hm_sbd hk_sbd hP hD hS => ?_)
          have hP : va_P D vwCl [(jj, .inr (7, [.ref ((e.2.2.1 0)), .ref ((e.2.2.1 0)), .ref ((e.2.2.1 0)), .ref al, .null])), (ea, .inl (cO, cap, .inr (.inr (.inr (.inr fe))))), (al, .inr (2, [.int (nI mo), .ref ea, .int (nI nn)])), (sbd, .inr (1, [.null, .int (nI 0), .int (nI 0), .int (nI 0)]))] H := hP
          have hD : va_D A [(jj, .inr (7, [.ref ((e.2.2.1 0)), .ref ((e.2.2.1 0)), .ref ((e.2.2.1 0)), .ref al, .null])), (ea, .inl (cO, cap, .inr (.inr (.inr (.inr fe))))), (al, .inr (2, [.int (nI mo), .ref ea, .int (nI nn)])), (sbd, .inr (1, [.null, .int (nI 0), .int (nI 0), .int (nI 0)]))] := hD
          have hs16 := hS.1
          refine W.widen (k := ((4 * i) + 1)) (n := ((24 * i) + 4)) (by omega) (by omega) ?_
          have zz_q := zz_q.at (hk_sbd _ zz_q.lta) (hk_sbd _ zz_q.ltv)
          refine lv_dup hx hb dX4_inside_19 rfl ?_
          have hFc := va_free (wc := [(sbd, .inr (1, [.null, .int (nI 0), .int (nI 0), .int (nI 0)]))]) hD hS hA [3] rfl
          have kc17 : ((4 * i) + 1) + (1) ≤ 4 * nn := by omega
          have ks18 : ((24 * i) + 4) + (16) ≤ 24 * nn := by omega
          refine z_callv (wr := [(jj, .inr (7, [.ref ((e.2.2.1 0)), .ref ((e.2.2.1 0)), .ref ((e.2.2.1 0)), .ref al, .null])), (ea, .inl (cO, cap, .inr (.inr (.inr (.inr fe))))), (al, .inr (2, [.int (nI mo), .ref ea, .int (nI nn)]))]) (va_runI (As := []) (rest := [.ref sbd]) ⟨hx, hb, hml, hown, hts⟩ (c_bini l D N0 e H.size (zw H) sbd ) (cwI 0 hts gX4_inside_J4_init_da8c8 rfl rfl rfl (hts (.initialized RJ4) (by decide +kernel)) (hts (.methodLink RX4 40 yJ4_init_da8c8) (by decide +kernel)) (hts (.instanceMethod yJ4_init_da8c8) (by decide +kernel)) rfl (by decide +kernel) ⟨Nat.le_of_ble_eq_true rfl, Nat.le_of_ble_eq_true rfl⟩) ⟨zP.blind, (z_pre hK hP hD hS hAN hN hG [3] (by decide) rfl [] rfl (fun q hq => absurd hq List.not_mem_nil))⟩ rfl rfl hl.1 rfl (lv_room (Nat.le_of_ble_eq_true rfl)) dX4_inside_20 ⟨kc17, ks18⟩) hK hP hD hS hA [3] rfl [0, 1, 2] rfl (by decide) (by decide) (fun u t H locs ht hvm hw_c19 hY_c19 hz_c19 hm_c19 hk_c19 hK hP hD hS => ?_)
          obtain ⟨va, cB⟩ := u
          try dsimp only at hw_c19 hY_c19
          have hP : va_P D vwCl [(jj, .inr (7, [.ref ((e.2.2.1 0)), .ref ((e.2.2.1 0)), .ref ((e.2.2.1 0)), .ref al, .null])), (ea, .inl (cO, cap, .inr (.inr (.inr (.inr fe))))), (al, .inr (2, [.int (nI mo), .ref ea, .int (nI nn)])), (sbd, .inr (1, [.ref va, .int (nI 0), .int (nI 0), .int (nI 0)])), (va, .inl (cB, 16, .inl (fun _ => 0)))] H := hP
          have hD : va_D A [(jj, .inr (7, [.ref ((e.2.2.1 0)), .ref ((e.2.2.1 0)), .ref ((e.2.2.1 0)), .ref al, .null])), (ea, .inl (cO, cap, .inr (.inr (.inr (.inr fe))))), (al, .inr (2, [.int (nI mo), .ref ea, .int (nI nn)])), (sbd, .inr (1, [.ref va, .int (nI 0), .int (nI 0), .int (nI 0)])), (va, .inl (cB, 16, .inl (fun _ => 0)))] := hD
          have hK : va_K D vwCl [(cO, .object "java/lang/Object"), (cB, .byte)] s := hK
          have hs21 := hS.1
          have zz_q := zz_q.at (hk_c19 _ zz_q.lta (z_out zz_q.lta (by intro x hx; simp at hx <;> omega))) (hk_c19 _ zz_q.ltv (z_out zz_q.ltv (by intro x hx; simp at hx <;> omega)))
          refine W.widen (k := (((4 * i) + 1) + 1)) (n := (((24 * i) + 4) + 16)) (by omega) (by omega) ?_
          refine lv_aload_n hx hb dX4_inside_23 rfl (lv_at hl 1 rfl) ?_
          have wl22 : jj < H.size := (hP 0 _ rfl).lt
          have wl23 : N0 ≤ jj := hAN _ (hD.2 0 _ rfl)
          have wl24 : ea < H.size := (hP 1 _ rfl).lt
          have wl25 : N0 ≤ ea := hAN _ (hD.2 1 _ rfl)
          have wl26 : al < H.size := (hP 2 _ rfl).lt
          have wl27 : N0 ≤ al := hAN _ (hD.2 2 _ rfl)
          have wl28 : sbd < H.size := (hP 3 _ rfl).lt
          have wl29 : N0 ≤ sbd := hAN _ (hD.2 3 _ rfl)
          have wl30 : va < H.size := (hP 4 _ rfl).lt
          have wl31 : N0 ≤ va := hAN _ (hD.2 4 _ rfl)
          have hFc := va_free (wc := [(sbd, .inr (1, [.ref va, .int (nI 0), .int (nI 0), .int (nI 0)])), (va, .inl (cB, 16, .inl (fun _ => 0)))]) hD hS hA [3, 4] rfl
          have kc32 : (((4 * i) + 1) + 1) + (0) ≤ 4 * nn := by omega
          have ks33 : (((24 * i) + 4) + 16) + (0) ≤ 24 * nn := by omega
          refine z_callr (wr := [(jj, .inr (7, [.ref ((e.2.2.1 0)), .ref ((e.2.2.1 0)), .ref ((e.2.2.1 0)), .ref al, .null])), (ea, .inl (cO, cap, .inr (.inr (.inr (.inr fe))))), (al, .inr (2, [.int (nI mo), .ref ea, .int (nI nn)]))]) (va_runV (As := [.ref q]) (rest := []) ⟨hx, hb, hml, hown, hts⟩ (c_app l D N0 e H.size (zw H) sbd va 0 cB ((fun _ => 0)) q v 0 (by omega) (by omega) (fun _ => rfl)) (cwV 1 hts gX4_inside_J4_append_15ec4 rfl rfl rfl (by decide +kernel) ⟨Nat.le_of_ble_eq_true rfl, Nat.le_of_ble_eq_true rfl⟩) ⟨zP.blind, (va_recv hK hP (ci := 1) (q0 := 3) rfl rfl), (z_pre hK hP hD hS hAN hN hG [3, 4] (by decide) rfl [1] rfl (List.forall_mem_cons.mpr ⟨(zz_q.wall (z_out zz_q.lta (by intro x hx; simp at hx <;> omega)) (z_out zz_q.ltv (by intro x hx; simp at hx <;> omega))), fun q hq => absurd hq List.not_mem_nil⟩))⟩ rfl rfl hl.1 rfl (lv_room (Nat.le_of_ble_eq_true rfl)) dX4_inside_24 ⟨kc32, ks33⟩) hK hP hD hS hA [3, 4] rfl [0, 1, 2] rfl (by decide) (by decide) (fun u r35 t H locs ht hvm hw_c34 hY_c34 hz_c34 hm_c34 hk_c34 hK hP hD hS => ?_)
          obtain ⟨f2, rfl⟩ : ∃ z, z = u := ⟨_, rfl⟩
          try dsimp only at hw_c34 hY_c34
          have hP : va_P D vwCl [(jj, .inr (7, [.ref ((e.2.2.1 0)), .ref ((e.2.2.1 0)), .ref ((e.2.2.1 0)), .ref al, .null])), (ea, .inl (cO, cap, .inr (.inr (.inr (.inr fe))))), (al, .inr (2, [.int (nI mo), .ref ea, .int (nI nn)])), (sbd, .inr (1, [.ref va, .int (nI 0), .int (nI 0), .int (nI 0)])), (va, .inl (cB, 16, .inl f2))] H := hP
          have hD : va_D A [(jj, .inr (7, [.ref ((e.2.2.1 0)), .ref ((e.2.2.1 0)), .ref ((e.2.2.1 0)), .ref al, .null])), (ea, .inl (cO, cap, .inr (.inr (.inr (.inr fe))))), (al, .inr (2, [.int (nI mo), .ref ea, .int (nI nn)])), (sbd, .inr (1, [.ref va, .int (nI 0), .int (nI 0), .int (nI 0)])), (va, .inl (cB, 16, .inl f2))] := hD
          have hK : va_K D vwCl [(cO, .object "java/lang/Object"), (cB, .byte)] s := hK
          have hs36 := hS.1
          have zz_q := zz_q.at (hk_c34 _ zz_q.lta (z_out zz_q.lta (by intro x hx; simp at hx <;> omega))) (hk_c34 _ zz_q.ltv (z_out zz_q.ltv (by intro x hx; simp at hx <;> omega)))
          refine W.widen (k := (((4 * i) + 1) + 1)) (n := (((24 * i) + 4) + 16)) (by omega) (by omega) ?_
          obtain rfl : sbd = r35 := Eq.symm hw_c34.1
          have hf2 := hw_c34.2
          refine lv_iload_n hx hb dX4_inside_27 rfl (lv_at hl 0 rfl) ?_
          refine lv_if_le (tgt := 38) hx hb dX4_inside_28 (by decide) (fun _ => ?_) (fun hq => absurd (show (nI i) ≤ (nI 0) from (nI_leI (by omega) (by omega)).mpr (by omega)) hq)
          refine va_ldcS hx hb hown (hG.2.2.2.2.2.1 ("JoinrowModel$Joiner", 36, "", 0) (by simp)) dX4_inside_38 ?_
          have hFc := va_free (wc := [(sbd, .inr (1, [.ref va, .int (nI 0), .int (nI 0), .int (nI 0)])), (va, .inl (cB, 16, .inl f2))]) hD hS hA [3, 4] rfl
          have hFN : ∀ q, va_A [(sbd, .inr (1, [.ref va, .int (nI 0), .int (nI 0), .int (nI 0)])), (va, .inl (cB, 16, .inl f2))] H.size q → N0 ≤ q := fun q hq => hAN q (hFc q hq)
          have kc37 : (((4 * i) + 1) + 1) + (0) ≤ 4 * nn := by omega
          have ks38 : (((24 * i) + 4) + 16) + (0) ≤ 24 * nn := by omega
          refine z_callr (wr := [(jj, .inr (7, [.ref ((e.2.2.1 0)), .ref ((e.2.2.1 0)), .ref ((e.2.2.1 0)), .ref al, .null])), (ea, .inl (cO, cap, .inr (.inr (.inr (.inr fe))))), (al, .inr (2, [.int (nI mo), .ref ea, .int (nI nn)]))]) (va_runV (As := [.ref ((e.2.2.1 0))]) (rest := []) ⟨hx, hb, hml, hown, hts⟩ (c_app l D N0 e H.size (zw H) sbd va 0 cB f2 ((e.2.2.1 0)) ((e.2.2.2 0)) 0 (by omega) (by omega) hf2) (cwV 1 hts gX4_inside_J4_append_15ec4 rfl rfl rfl (by decide +kernel) ⟨Nat.le_of_ble_eq_true rfl, Nat.le_of_ble_eq_true rfl⟩) ⟨zP.blind, (va_recv hK hP (ci := 1) (q0 := 3) rfl rfl), (z_pre hK hP hD hS hAN hN hG [3, 4] (by decide) rfl [1] rfl (List.forall_mem_cons.mpr ⟨((zkst hG 0 (by decide) hS hAN).wall (z_low (hG.2.2.2.2.1 0 (by decide)).na hFN) (z_low (hG.2.2.2.2.1 0 (by decide)).nv hFN)), fun q hq => absurd hq List.not_mem_nil⟩))⟩ rfl rfl hl.1 rfl (lv_room (Nat.le_of_ble_eq_true rfl)) dX4_inside_40 ⟨kc37, ks38⟩) hK hP hD hS hA [3, 4] rfl [0, 1, 2] rfl (by decide) (by decide) (fun u r40 t H locs ht hvm hw_c39 hY_c39 hz_c39 hm_c39 hk_c39 hK hP hD hS => ?_)
          obtain ⟨f3, rfl⟩ : ∃ z, z = u := ⟨_, rfl⟩
          try dsimp only at hw_c39 hY_c39
          have hP : va_P D vwCl [(jj, .inr (7, [.ref ((e.2.2.1 0)), .ref ((e.2.2.1 0)), .ref ((e.2.2.1 0)), .ref al, .null])), (ea, .inl (cO, cap, .inr (.inr (.inr (.inr fe))))), (al, .inr (2, [.int (nI mo), .ref ea, .int (nI nn)])), (sbd, .inr (1, [.ref va, .int (nI 0), .int (nI 0), .int (nI 0)])), (va, .inl (cB, 16, .inl f3))] H := hP
          have hD : va_D A [(jj, .inr (7, [.ref ((e.2.2.1 0)), .ref ((e.2.2.1 0)), .ref ((e.2.2.1 0)), .ref al, .null])), (ea, .inl (cO, cap, .inr (.inr (.inr (.inr fe))))), (al, .inr (2, [.int (nI mo), .ref ea, .int (nI nn)])), (sbd, .inr (1, [.ref va, .int (nI 0), .int (nI 0), .int (nI 0)])), (va, .inl (cB, 16, .inl f3))] := hD
          have hK : va_K D vwCl [(cO, .object "java/lang/Object"), (cB, .byte)] s := hK
          have hs41 := hS.1
          have zz_q := zz_q.at (hk_c39 _ zz_q.lta (z_out zz_q.lta (by intro x hx; simp at hx <;> omega))) (hk_c39 _ zz_q.ltv (z_out zz_q.ltv (by intro x hx; simp at hx <;> omega)))
          refine W.widen (k := (((4 * i) + 1) + 1)) (n := (((24 * i) + 4) + 16)) (by omega) (by omega) ?_
          obtain rfl : sbd = r40 := Eq.symm hw_c39.1
          have hf3 := hw_c39.2
          refine lv_aload_n hx hb dX4_inside_43 rfl (lv_at hl 2 rfl) ?_
          refine va_get (D := D) (ci := 7) (v := .ref al) (C := RX4) (T := TX4) (N := 5) hx hb hts (by decide +kernel) hown hK hP 0 rfl rfl 3 (by decide) (hts (.fieldLink RX4 28 "JoinrowModel$Joiner" "pieces" "Ljava/util/ArrayList;") (by decide +kernel)) (fun _ h9 => h9) rfl dX4_inside_44 ?_
          refine lv_iload_n hx hb dX4_inside_47 rfl (lv_at hl 0 rfl) ?_
          have hFc := va_free (wc := [(al, .inr (2, [.int (nI mo), .ref ea, .int (nI nn)])), (ea, .inl (cO, cap, .inr (.inr (.inr (.inr fe)))))]) hD hS hA [2, 1] rfl
          have kc42 : (((4 * i) + 1) + 1) + (0) ≤ 4 * nn := by omega
          have ks43 : (((24 * i) + 4) + 16) + (0) ≤ 24 * nn := by omega
          refine z_callr (wr := [(jj, .inr (7, [.ref ((e.2.2.1 0)), .ref ((e.2.2.1 0)), .ref ((e.2.2.1 0)), .ref al, .null])), (sbd, .inr (1, [.ref va, .int (nI 0), .int (nI 0), .int (nI 0)])), (va, .inl (cB, 16, .inl f3))]) (va_runV (As := [.int (nI i)]) (rest := [.ref sbd]) ⟨hx, hb, hml, hown, hts⟩ (c_get l D N0 e H.size (zw H) al mo ea nn cO cap fe i ((e.2.2.1 0)) hcap hn hlt (hzf.1 i hlt)) (cwV 1 hts gX4_inside_Jx4a65c_get_915e3 rfl rfl rfl (by decide +kernel) ⟨Nat.le_of_ble_eq_true rfl, Nat.le_of_ble_eq_true rfl⟩) ⟨zP.blind, (va_recv hK hP (ci := 2) (q0 := 2) rfl rfl), (z_pre hK hP hD hS hAN hN hG [2, 1] (by decide) rfl [0] rfl (fun q hq => absurd hq List.not_mem_nil))⟩ rfl rfl hl.1 rfl (lv_room (Nat.le_of_ble_eq_true rfl)) dX4_inside_48 ⟨kc42, ks43⟩) hK hP hD hS hA [2, 1] rfl [0, 3, 4] rfl (by decide) (by decide) (fun u r45 t H locs ht hvm hw_c44 hY_c44 hz_c44 hm_c44 hk_c44 hK hP hD hS => ?_)
          have hP : va_P D vwCl [(jj, .inr (7, [.ref ((e.2.2.1 0)), .ref ((e.2.2.1 0)), .ref ((e.2.2.1 0)), .ref al, .null])), (sbd, .inr (1, [.ref va, .int (nI 0), .int (nI 0), .int (nI 0)])), (va, .inl (cB, 16, .inl f3)), (al, .inr (2, [.int (nI mo), .ref ea, .int (nI nn)])), (ea, .inl (cO, cap, .inr (.inr (.inr (.inr fe)))))] H := hP
          have hD : va_D A [(jj, .inr (7, [.ref ((e.2.2.1 0)), .ref ((e.2.2.1 0)), .ref ((e.2.2.1 0)), .ref al, .null])), (sbd, .inr (1, [.ref va, .int (nI 0), .int (nI 0), .int (nI 0)])), (va, .inl (cB, 16, .inl f3)), (al, .inr (2, [.int (nI mo), .ref ea, .int (nI nn)])), (ea, .inl (cO, cap, .inr (.inr (.inr (.inr fe)))))] := hD
          have hK : va_K D vwCl [(cO, .object "java/lang/Object"), (cB, .byte)] s := hK
          have hs46 := hS.1
          have zz_q := zz_q.at (hk_c44 _ zz_q.lta (z_out zz_q.lta (by intro x hx; simp at hx <;> omega))) (hk_c44 _ zz_q.ltv (z_out zz_q.ltv (by intro x hx; simp at hx <;> omega)))
          refine W.widen (k := (((4 * i) + 1) + 1)) (n := (((24 * i) + 4) + 16)) (by omega) (by omega) ?_
          obtain rfl : (e.2.2.1 0) = r45 := Eq.symm hw_c44
          refine va_castE hx hb hown (hts (.classLink RX4 49 "java/lang/String") (by decide +kernel)) (zrecv (zkst hG 0 (by decide) hS hAN)) dX4_inside_51 ?_
          have hFc := va_free (wc := [(sbd, .inr (1, [.ref va, .int (nI 0), .int (nI 0), .int (nI 0)])), (va, .inl (cB, 16, .inl f3))]) hD hS hA [1, 2] rfl
          have hFN : ∀ q, va_A [(sbd, .inr (1, [.ref va, .int (nI 0), .int (nI 0), .int (nI 0)])), (va, .inl (cB, 16, .inl f3))] H.size q → N0 ≤ q := fun q hq => hAN q (hFc q hq)
          have kc47 : (((4 * i) + 1) + 1) + (0) ≤ 4 * nn := by omega
          have ks48 : (((24 * i) + 4) + 16) + (0) ≤ 24 * nn := by omega
          refine z_callr (wr := [(jj, .inr (7, [.ref ((e.2.2.1 0)), .ref ((e.2.2.1 0)), .ref ((e.2.2.1 0)), .ref al, .null])), (al, .inr (2, [.int (nI mo), .ref ea, .int (nI nn)])), (ea, .inl (cO, cap, .inr (.inr (.inr (.inr fe)))))]) (va_runV (As := [.ref ((e.2.2.1 0))]) (rest := []) ⟨hx, hb, hml, hown, hts⟩ (c_app l D N0 e H.size (zw H) sbd va 0 cB f3 ((e.2.2.1 0)) ((e.2.2.2 0)) 0 (by omega) (by omega) hf3) (cwV 1 hts gX4_inside_J4_append_15ec4 rfl rfl rfl (by decide +kernel) ⟨Nat.le_of_ble_eq_true rfl, Nat.le_of_ble_eq_true rfl⟩) ⟨zP.blind, (va_recv hK hP (ci := 1) (q0 := 1) rfl rfl), (z_pre hK hP hD hS hAN hN hG [1, 2] (by decide) rfl [1] rfl (List.forall_mem_cons.mpr ⟨((zkst hG 0 (by decide) hS hAN).wall (z_low (hG.2.2.2.2.1 0 (by decide)).na hFN) (z_low (hG.2.2.2.2.1 0 (by decide)).nv hFN)), fun q hq => absurd hq List.not_mem_nil⟩))⟩ rfl rfl hl.1 rfl (lv_room (Nat.le_of_ble_eq_true rfl)) dX4_inside_54 ⟨kc47, ks48⟩) hK hP hD hS hA [1, 2] rfl [0, 3, 4] rfl (by decide) (by decide) (fun u r50 t H locs ht hvm hw_c49 hY_c49 hz_c49 hm_c49 hk_c49 hK hP hD hS => ?_)
          obtain ⟨f4, rfl⟩ : ∃ z, z = u := ⟨_, rfl⟩
          try dsimp only at hw_c49 hY_c49
          have hP : va_P D vwCl [(jj, .inr (7, [.ref ((e.2.2.1 0)), .ref ((e.2.2.1 0)), .ref ((e.2.2.1 0)), .ref al, .null])), (al, .inr (2, [.int (nI mo), .ref ea, .int (nI nn)])), (ea, .inl (cO, cap, .inr (.inr (.inr (.inr fe))))), (sbd, .inr (1, [.ref va, .int (nI 0), .int (nI 0), .int (nI 0)])), (va, .inl (cB, 16, .inl f4))] H := hP
          have hD : va_D A [(jj, .inr (7, [.ref ((e.2.2.1 0)), .ref ((e.2.2.1 0)), .ref ((e.2.2.1 0)), .ref al, .null])), (al, .inr (2, [.int (nI mo), .ref ea, .int (nI nn)])), (ea, .inl (cO, cap, .inr (.inr (.inr (.inr fe))))), (sbd, .inr (1, [.ref va, .int (nI 0), .int (nI 0), .int (nI 0)])), (va, .inl (cB, 16, .inl f4))] := hD
          have hK : va_K D vwCl [(cO, .object "java/lang/Object"), (cB, .byte)] s := hK
          have hs51 := hS.1
          have zz_q := zz_q.at (hk_c49 _ zz_q.lta (z_out zz_q.lta (by intro x hx; simp at hx <;> omega))) (hk_c49 _ zz_q.ltv (z_out zz_q.ltv (by intro x hx; simp at hx <;> omega)))
          refine W.widen (k := (((4 * i) + 1) + 1)) (n := (((24 * i) + 4) + 16)) (by omega) (by omega) ?_
          obtain rfl : sbd = r50 := Eq.symm hw_c49.1
          have hf4 := hw_c49.2
          have hFc := va_free (wc := [(sbd, .inr (1, [.ref va, .int (nI 0), .int (nI 0), .int (nI 0)])), (va, .inl (cB, 16, .inl f4))]) hD hS hA [3, 4] rfl
          have kc52 : (((4 * i) + 1) + 1) + (2) ≤ 4 * nn := by omega
          have ks53 : (((24 * i) + 4) + 16) + (4 + 0) ≤ 24 * nn := by omega
          refine z_callr (wr := [(jj, .inr (7, [.ref ((e.2.2.1 0)), .ref ((e.2.2.1 0)), .ref ((e.2.2.1 0)), .ref al, .null])), (al, .inr (2, [.int (nI mo), .ref ea, .int (nI nn)])), (ea, .inl (cO, cap, .inr (.inr (.inr (.inr fe)))))]) (va_runV (As := []) (rest := []) ⟨hx, hb, hml, hown, hts⟩ (c_toS l D N0 e H.size (zw H) sbd va 0 cB f4 (by decide) hf4) (cwV 0 hts gX4_inside_J4_toString_0e30d rfl rfl rfl (by decide +kernel) ⟨Nat.le_of_ble_eq_true rfl, Nat.le_of_ble_eq_true rfl⟩) ⟨zP.blind, (va_recv hK hP (ci := 1) (q0 := 3) rfl rfl), (z_pre hK hP hD hS hAN hN hG [3, 4] (by decide) rfl [1] rfl (fun q hq => absurd hq List.not_mem_nil))⟩ rfl rfl hl.1 rfl (lv_room (Nat.le_of_ble_eq_true rfl)) dX4_inside_57 ⟨kc52, ks53⟩) hK hP hD hS hA [3, 4] rfl [0, 1, 2] rfl (by decide) (by decide) (fun u r55 t H locs ht hvm hw_c54 hY_c54 hz_c54 hm_c54 hk_c54 hK hP hD hS => ?_)
          obtain ⟨q2, v2⟩ := u
          try dsimp only at hw_c54 hY_c54
          have hP : va_P D vwCl [(jj, .inr (7, [.ref ((e.2.2.1 0)), .ref ((e.2.2.1 0)), .ref ((e.2.2.1 0)), .ref al, .null])), (al, .inr (2, [.int (nI mo), .ref ea, .int (nI nn)])), (ea, .inl (cO, cap, .inr (.inr (.inr (.inr fe))))), (sbd, .inr (1, [.ref va, .int (nI 0), .int (nI 0), .int (nI 0)])), (va, .inl (cB, 16, .inl f4))] H := hP
          have hD : va_D A [(jj, .inr (7, [.ref ((e.2.2.1 0)), .ref ((e.2.2.1 0)), .ref ((e.2.2.1 0)), .ref al, .null])), (al, .inr (2, [.int (nI mo), .ref ea, .int (nI nn)])), (ea, .inl (cO, cap, .inr (.inr (.inr (.inr fe))))), (sbd, .inr (1, [.ref va, .int (nI 0), .int (nI 0), .int (nI 0)])), (va, .inl (cB, 16, .inl f4))] := hD
          have hK : va_K D vwCl [(cO, .object "java/lang/Object"), (cB, .byte)] s := hK
          have hs56 := hS.1
          have zz_q := zz_q.at (hk_c54 _ zz_q.lta (z_out zz_q.lta (by intro x hx; simp at hx <;> omega))) (hk_c54 _ zz_q.ltv (z_out zz_q.ltv (by intro x hx; simp at hx <;> omega)))
          refine W.widen (k := ((((4 * i) + 1) + 1) + 2)) (n := ((((24 * i) + 4) + 16) + 4)) (by omega) (by omega) ?_
          obtain rfl : q2 = r55 := Eq.symm hw_c54
          have zz_q2 : zs q2 v2 (0) (fun _ => False) s H := by
            have hq := (hY_c54.1).moved hvm.symm
            rw [ht] at hq
            exact hq
          have hb_q2 := (hY_c54.2)
          refine lv_astore_n (lv' := [(1, .ref q2), (2, .int (nI i)), (0, .ref jj)]) hx hb dX4_inside_60 rfl hl (by decide) rfl (fun ls hl => ?_)
          refine lv_iinc (v := (nI (i + 1))) (lv' := [(2, .int (nI (i + 1))), (1, .ref q2), (0, .ref jj)]) hx hb dX4_inside_61 hl (k := 1) rfl (nI_add (i) 1) (by decide) rfl (fun ls hl => ?_)
          refine lv_goto (tgt := 5) hx hb dX4_inside_64 (by decide) ?_
          refine W.widen (k := (4 * (i + 1))) (n := (24 * (i + 1))) (by omega) (by omega) ?_
          exact ih (i + 1) hlt (by omega) q2 v2 _ _ (hP.pick [0, 1, 2] rfl) (hD.sub [0, 1, 2] (by decide) rfl) hS zz_q2 (by omega) (by omega) (by omega) ls hl
        · skip
          refine lv_iload_n hx hb dX4_inside_5 rfl (lv_at hl 0 rfl) ?_
          refine lv_aload_n hx hb dX4_inside_6 rfl (lv_at hl 2 rfl) ?_
          refine va_get (D := D) (ci := 7) (v := .ref al) (C := RX4) (T := TX4) (N := 5) hx hb hts (by decide +kernel) hown hK hP 0 rfl rfl 3 (by decide) (hts (.fieldLink RX4 28 "JoinrowModel$Joiner" "pieces" "Ljava/util/ArrayList;") (by decide +kernel)) (fun _ h9 => h9) rfl dX4_inside_7 ?_
          have hFc := va_free (wc := [(al, .inr (2, [.int (nI mo), .ref ea, .int (nI nn)]))]) hD hS hA [1] rfl
          have kc57 : (4 * i) + (0) ≤ 4 * nn := by omega
          have ks58 : (24 * i) + (0) ≤ 24 * nn := by omega
          refine z_calli (wr := [(jj, .inr (7, [.ref ((e.2.2.1 0)), .ref ((e.2.2.1 0)), .ref ((e.2.2.1 0)), .ref al, .null])), (ea, .inl (cO, cap, .inr (.inr (.inr (.inr fe)))))]) (va_runV (As := []) (rest := [.int (nI i)]) ⟨hx, hb, hml, hown, hts⟩ (c_alsize l D N0 e H.size (zw H) al mo ea nn ) (cwV 0 hts gX4_inside_Jx4a65c_size_8abf5 rfl rfl rfl (by decide +kernel) ⟨Nat.le_of_ble_eq_true rfl, Nat.le_of_ble_eq_true rfl⟩) ⟨zP.blind, (va_recv hK hP (ci := 2) (q0 := 1) rfl rfl), (z_pre hK hP hD hS hAN hN hG [1] (by decide) rfl [] rfl (fun q hq => absurd hq List.not_mem_nil))⟩ rfl rfl hl.1 rfl (lv_room (Nat.le_of_ble_eq_true rfl)) dX4_inside_10 ⟨kc57, ks58⟩) hK hP hD hS hA [1] rfl [0, 2] rfl (by decide) (by decide) (fun r60 u t H locs ht hvm hw_c59 hY_c59 hz_c59 hm_c59 hk_c59 hK hP hD hS => ?_)
          have hP : va_P D vwCl [(jj, .inr (7, [.ref ((e.2.2.1 0)), .ref ((e.2.2.1 0)), .ref ((e.2.2.1 0)), .ref al, .null])), (ea, .inl (cO, cap, .inr (.inr (.inr (.inr fe))))), (al, .inr (2, [.int (nI mo), .ref ea, .int (nI nn)]))] H := hP
          have hD : va_D A [(jj, .inr (7, [.ref ((e.2.2.1 0)), .ref ((e.2.2.1 0)), .ref ((e.2.2.1 0)), .ref al, .null])), (ea, .inl (cO, cap, .inr (.inr (.inr (.inr fe))))), (al, .inr (2, [.int (nI mo), .ref ea, .int (nI nn)]))] := hD
          have hK : va_K D vwCl [(cO, .object "java/lang/Object")] s := hK
          have hs61 := hS.1
          have zz_q := zz_q.at (hk_c59 _ zz_q.lta (z_out zz_q.lta (by intro x hx; simp at hx <;> omega))) (hk_c59 _ zz_q.ltv (z_out zz_q.ltv (by intro x hx; simp at hx <;> omega)))
          refine W.widen (k := (4 * i)) (n := (24 * i)) (by omega) (by omega) ?_
          subst hw_c59
          refine lv_icmp_ge (tgt := 67) hx hb dX4_inside_13 (by decide) (fun hq => absurd hq (show ¬ ((nI nn) ≤ (nI i)) from fun hq => absurd ((nI_leI (by omega) (by omega)).mp hq) (by omega))) (fun _ => ?_)
          have sl62 := zz_q.lta
          have sl63 := zz_q.ltv
          have kc64 : (4 * i) + 1 ≤ 4 * nn := by omega
          have ks65 : (24 * i) + 4 ≤ 24 * nn := by omega
          refine z_new (ci := 1) (fs := [.null, .int 0, .int 0, .int 0]) (C := RJ4) (T := TJ4) (N := 4) hx hb hts (by decide +kernel) tyJ4 tyJ4_ok hown (hts (.classLink RX4 38 RJ4) (by decide +kernel)) (hts (.instantiable RJ4 4) (by decide +kernel)) (hts (.initialized RJ4) (by decide +kernel)) hK hP hD hS hA rfl (fun j hj => by match j, hj with | 0, _ => rfl | 1, _ => rfl | 2, _ => rfl | 3, _ => rfl) kc64 ks65 dX4_inside_16 (fun sbd H hq_sbd hz_sbd hm_sbd hk_sbd hP hD hS => ?_)
          have hP : va_P D vwCl [(jj, .inr (7, [.ref ((e.2.2.1 0)), .ref ((e.2.2.1 0)), .ref ((e.2.2.1 0)), .ref al, .null])), (ea, .inl (cO, cap, .inr (.inr (.inr (.inr fe))))), (al, .inr (2, [.int (nI mo), .ref ea, .int (nI nn)])), (sbd, .inr (1, [.null, .int (nI 0), .int (nI 0), .int (nI 0)]))] H := hP
          have hD : va_D A [(jj, .inr (7, [.ref ((e.2.2.1 0)), .ref ((e.2.2.1 0)), .ref ((e.2.2.1 0)), .ref al, .null])), (ea, .inl (cO, cap, .inr (.inr (.inr (.inr fe))))), (al, .inr (2, [.int (nI mo), .ref ea, .int (nI nn)])), (sbd, .inr (1, [.null, .int (nI 0), .int (nI 0), .int (nI 0)]))] := hD
          have hs66 := hS.1
          refine W.widen (k := ((4 * i) + 1)) (n := ((24 * i) + 4)) (by omega) (by omega) ?_
          have zz_q := zz_q.at (hk_sbd _ zz_q.lta) (hk_sbd _ zz_q.ltv)
          refine lv_dup hx hb dX4_inside_19 rfl ?_
          have hFc := va_free (wc := [(sbd, .inr (1, [.null, .int (nI 0), .int (nI 0), .int (nI 0)]))]) hD hS hA [3] rfl
          have kc67 : ((4 * i) + 1) + (1) ≤ 4 * nn := by omega
          have ks68 : ((24 * i) + 4) + (16) ≤ 24 * nn := by omega
          refine z_callv (wr := [(jj, .inr (7, [.ref ((e.2.2.1 0)), .ref ((e.2.2.1 0)), .ref ((e.2.2.1 0)), .ref al, .null])), (ea, .inl (cO, cap, .inr (.inr (.inr (.inr fe))))), (al, .inr (2, [.int (nI mo), .ref ea, .int (nI nn)]))]) (va_runI (As := []) (rest := [.ref sbd]) ⟨hx, hb, hml, hown, hts⟩ (c_bini l D N0 e H.size (zw H) sbd ) (cwI 0 hts gX4_inside_J4_init_da8c8 rfl rfl rfl (hts (.initialized RJ4) (by decide +kernel)) (hts (.methodLink RX4 40 yJ4_init_da8c8) (by decide +kernel)) (hts (.instanceMethod yJ4_init_da8c8) (by decide +kernel)) rfl (by decide +kernel) ⟨Nat.le_of_ble_eq_true rfl, Nat.le_of_ble_eq_true rfl⟩) ⟨zP.blind, (z_pre hK hP hD hS hAN hN hG [3] (by decide) rfl [] rfl (fun q hq => absurd hq List.not_mem_nil))⟩ rfl rfl hl.1 rfl (lv_room (Nat.le_of_ble_eq_true rfl)) dX4_inside_20 ⟨kc67, ks68⟩) hK hP hD hS hA [3] rfl [0, 1, 2] rfl (by decide) (by decide) (fun u t H locs ht hvm hw_c69 hY_c69 hz_c69 hm_c69 hk_c69 hK hP hD hS => ?_)
          obtain ⟨va, cB⟩ := u
          try dsimp only at hw_c69 hY_c69
          have hP : va_P D vwCl [(jj, .inr (7, [.ref ((e.2.2.1 0)), .ref ((e.2.2.1 0)), .ref ((e.2.2.1 0)), .ref al, .null])), (ea, .inl (cO, cap, .inr (.inr (.inr (.inr fe))))), (al, .inr (2, [.int (nI mo), .ref ea, .int (nI nn)])), (sbd, .inr (1, [.ref va, .int (nI 0), .int (nI 0), .int (nI 0)])), (va, .inl (cB, 16, .inl (fun _ => 0)))] H := hP
          have hD : va_D A [(jj, .inr (7, [.ref ((e.2.2.1 0)), .ref ((e.2.2.1 0)), .ref ((e.2.2.1 0)), .ref al, .null])), (ea, .inl (cO, cap, .inr (.inr (.inr (.inr fe))))), (al, .inr (2, [.int (nI mo), .ref ea, .int (nI nn)])), (sbd, .inr (1, [.ref va, .int (nI 0), .int (nI 0), .int (nI 0)])), (va, .inl (cB, 16, .inl (fun _ => 0)))] := hD
          have hK : va_K D vwCl [(cO, .object "java/lang/Object"), (cB, .byte)] s := hK
          have hs71 := hS.1
          have zz_q := zz_q.at (hk_c69 _ zz_q.lta (z_out zz_q.lta (by intro x hx; simp at hx <;> omega))) (hk_c69 _ zz_q.ltv (z_out zz_q.ltv (by intro x hx; simp at hx <;> omega)))
          refine W.widen (k := (((4 * i) + 1) + 1)) (n := (((24 * i) + 4) + 16)) (by omega) (by omega) ?_
          refine lv_aload_n hx hb dX4_inside_23 rfl (lv_at hl 1 rfl) ?_
          have wl72 : jj < H.size := (hP 0 _ rfl).lt
          have wl73 : N0 ≤ jj := hAN _ (hD.2 0 _ rfl)
          have wl74 : ea < H.size := (hP 1 _ rfl).lt
          have wl75 : N0 ≤ ea := hAN _ (hD.2 1 _ rfl)
          have wl76 : al < H.size := (hP 2 _ rfl).lt
          have wl77 : N0 ≤ al := hAN _ (hD.2 2 _ rfl)
          have wl78 : sbd < H.size := (hP 3 _ rfl).lt
          have wl79 : N0 ≤ sbd := hAN _ (hD.2 3 _ rfl)
          have wl80 : va < H.size := (hP 4 _ rfl).lt
          have wl81 : N0 ≤ va := hAN _ (hD.2 4 _ rfl)
          have hFc := va_free (wc := [(sbd, .inr (1, [.ref va, .int (nI 0), .int (nI 0), .int (nI 0)])), (va, .inl (cB, 16, .inl (fun _ => 0)))]) hD hS hA [3, 4] rfl
          have kc82 : (((4 * i) + 1) + 1) + (0) ≤ 4 * nn := by omega
          have ks83 : (((24 * i) + 4) + 16) + (0) ≤ 24 * nn := by omega
          refine z_callr (wr := [(jj, .inr (7, [.ref ((e.2.2.1 0)), .ref ((e.2.2.1 0)), .ref ((e.2.2.1 0)), .ref al, .null])), (ea, .inl (cO, cap, .inr (.inr (.inr (.inr fe))))), (al, .inr (2, [.int (nI mo), .ref ea, .int (nI nn)]))]) (va_runV (As := [.ref q]) (rest := []) ⟨hx, hb, hml, hown, hts⟩ (c_app l D N0 e H.size (zw H) sbd va 0 cB ((fun _ => 0)) q v 0 (by omega) (by omega) (fun _ => rfl)) (cwV 1 hts gX4_inside_J4_append_15ec4 rfl rfl rfl (by decide +kernel) ⟨Nat.le_of_ble_eq_true rfl, Nat.le_of_ble_eq_true rfl⟩) ⟨zP.blind, (va_recv hK hP (ci := 1) (q0 := 3) rfl rfl), (z_pre hK hP hD hS hAN hN hG [3, 4] (by decide) rfl [1] rfl (List.forall_mem_cons.mpr ⟨(zz_q.wall (z_out zz_q.lta (by intro x hx; simp at hx <;> omega)) (z_out zz_q.ltv (by intro x hx; simp at hx <;> omega))), fun q hq => absurd hq List.not_mem_nil⟩))⟩ rfl rfl hl.1 rfl (lv_room (Nat.le_of_ble_eq_true rfl)) dX4_inside_24 ⟨kc82, ks83⟩) hK hP hD hS hA [3, 4] rfl [0, 1, 2] rfl (by decide) (by decide) (fun u r85 t H locs ht hvm hw_c84 hY_c84 hz_c84 hm_c84 hk_c84 hK hP hD hS => ?_)
          obtain ⟨f2, rfl⟩ : ∃ z, z = u := ⟨_, rfl⟩
          try dsimp only at hw_c84 hY_c84
          have hP : va_P D vwCl [(jj, .inr (7, [.ref ((e.2.2.1 0)), .ref ((e.2.2.1 0)), .ref ((e.2.2.1 0)), .ref al, .null])), (ea, .inl (cO, cap, .inr (.inr (.inr (.inr fe))))), (al, .inr (2, [.int (nI mo), .ref ea, .int (nI nn)])), (sbd, .inr (1, [.ref va, .int (nI 0), .int (nI 0), .int (nI 0)])), (va, .inl (cB, 16, .inl f2))] H := hP
          have hD : va_D A [(jj, .inr (7, [.ref ((e.2.2.1 0)), .ref ((e.2.2.1 0)), .ref ((e.2.2.1 0)), .ref al, .null])), (ea, .inl (cO, cap, .inr (.inr (.inr (.inr fe))))), (al, .inr (2, [.int (nI mo), .ref ea, .int (nI nn)])), (sbd, .inr (1, [.ref va, .int (nI 0), .int (nI 0), .int (nI 0)])), (va, .inl (cB, 16, .inl f2))] := hD
          have hK : va_K D vwCl [(cO, .object "java/lang/Object"), (cB, .byte)] s := hK
          have hs86 := hS.1
          have zz_q := zz_q.at (hk_c84 _ zz_q.lta (z_out zz_q.lta (by intro x hx; simp at hx <;> omega))) (hk_c84 _ zz_q.ltv (z_out zz_q.ltv (by intro x hx; simp at hx <;> omega)))
          refine W.widen (k := (((4 * i) + 1) + 1)) (n := (((24 * i) + 4) + 16)) (by omega) (by omega) ?_
          obtain rfl : sbd = r85 := Eq.symm hw_c84.1
          have hf2 := hw_c84.2
          refine lv_iload_n hx hb dX4_inside_27 rfl (lv_at hl 0 rfl) ?_
          refine lv_if_le (tgt := 38) hx hb dX4_inside_28 (by decide) (fun hq => absurd hq (show ¬ ((nI i) ≤ (nI 0)) from fun hq => absurd ((nI_leI (by omega) (by omega)).mp hq) (by omega))) (fun _ => ?_)
          refine lv_aload_n hx hb dX4_inside_31 rfl (lv_at hl 2 rfl) ?_
          refine va_get (D := D) (ci := 7) (v := .ref ((e.2.2.1 0))) (C := RX4) (T := TX4) (N := 5) hx hb hts (by decide +kernel) hown hK hP 0 rfl rfl 0 (by decide) (hts (.fieldLink RX4 9 "JoinrowModel$Joiner" "between" "Ljava/lang/String;") (by decide +kernel)) (fun _ h9 => h9) rfl dX4_inside_32 ?_
          refine lv_goto (tgt := 40) hx hb dX4_inside_35 (by decide) ?_
          have hFc := va_free (wc := [(sbd, .inr (1, [.ref va, .int (nI 0), .int (nI 0), .int (nI 0)])), (va, .inl (cB, 16, .inl f2))]) hD hS hA [3, 4] rfl
          have hFN : ∀ q, va_A [(sbd, .inr (1, [.ref va, .int (nI 0), .int (nI 0), .int (nI 0)])), (va, .inl (cB, 16, .inl f2))] H.size q → N0 ≤ q := fun q hq => hAN q (hFc q hq)
          have kc87 : (((4 * i) + 1) + 1) + (0) ≤ 4 * nn := by omega
          have ks88 : (((24 * i) + 4) + 16) + (0) ≤ 24 * nn := by omega
          refine z_callr (wr := [(jj, .inr (7, [.ref ((e.2.2.1 0)), .ref ((e.2.2.1 0)), .ref ((e.2.2.1 0)), .ref al, .null])), (ea, .inl (cO, cap, .inr (.inr (.inr (.inr fe))))), (al, .inr (2, [.int (nI mo), .ref ea, .int (nI nn)]))]) (va_runV (As := [.ref ((e.2.2.1 0))]) (rest := []) ⟨hx, hb, hml, hown, hts⟩ (c_app l D N0 e H.size (zw H) sbd va 0 cB f2 ((e.2.2.1 0)) ((e.2.2.2 0)) 0 (by omega) (by omega) hf2) (cwV 1 hts gX4_inside_J4_append_15ec4 rfl rfl rfl (by decide +kernel) ⟨Nat.le_of_ble_eq_true rfl, Nat.le_of_ble_eq_true rfl⟩) ⟨zP.blind, (va_recv hK hP (ci := 1) (q0 := 3) rfl rfl), (z_pre hK hP hD hS hAN hN hG [3, 4] (by decide) rfl [1] rfl (List.forall_mem_cons.mpr ⟨((zkst hG 0 (by decide) hS hAN).wall (z_low (hG.2.2.2.2.1 0 (by decide)).na hFN) (z_low (hG.2.2.2.2.1 0 (by decide)).nv hFN)), fun q hq => absurd hq List.not_mem_nil⟩))⟩ rfl rfl hl.1 rfl (lv_room (Nat.le_of_ble_eq_true rfl)) dX4_inside_40 ⟨kc87, ks88⟩) hK hP hD hS hA [3, 4] rfl [0, 1, 2] rfl (by decide) (by decide) (fun u r90 t H locs ht hvm hw_c89 hY_c89 hz_c89 hm_c89 hk_c89 hK hP hD hS => ?_)
          obtain ⟨f3, rfl⟩ : ∃ z, z = u := ⟨_, rfl⟩
          try dsimp only at hw_c89 hY_c89
          have hP : va_P D vwCl [(jj, .inr (7, [.ref ((e.2.2.1 0)), .ref ((e.2.2.1 0)), .ref ((e.2.2.1 0)), .ref al, .null])), (ea, .inl (cO, cap, .inr (.inr (.inr (.inr fe))))), (al, .inr (2, [.int (nI mo), .ref ea, .int (nI nn)])), (sbd, .inr (1, [.ref va, .int (nI 0), .int (nI 0), .int (nI 0)])), (va, .inl (cB, 16, .inl f3))] H := hP
          have hD : va_D A [(jj, .inr (7, [.ref ((e.2.2.1 0)), .ref ((e.2.2.1 0)), .ref ((e.2.2.1 0)), .ref al, .null])), (ea, .inl (cO, cap, .inr (.inr (.inr (.inr fe))))), (al, .inr (2, [.int (nI mo), .ref ea, .int (nI nn)])), (sbd, .inr (1, [.ref va, .int (nI 0), .int (nI 0), .int (nI 0)])), (va, .inl (cB, 16, .inl f3))] := hD
          have hK : va_K D vwCl [(cO, .object "java/lang/Object"), (cB, .byte)] s := hK
          have hs91 := hS.1
          have zz_q := zz_q.at (hk_c89 _ zz_q.lta (z_out zz_q.lta (by intro x hx; simp at hx <;> omega))) (hk_c89 _ zz_q.ltv (z_out zz_q.ltv (by intro x hx; simp at hx <;> omega)))
          refine W.widen (k := (((4 * i) + 1) + 1)) (n := (((24 * i) + 4) + 16)) (by omega) (by omega) ?_
          obtain rfl : sbd = r90 := Eq.symm hw_c89.1
          have hf3 := hw_c89.2
          refine lv_aload_n hx hb dX4_inside_43 rfl (lv_at hl 2 rfl) ?_
          refine va_get (D := D) (ci := 7) (v := .ref al) (C := RX4) (T := TX4) (N := 5) hx hb hts (by decide +kernel) hown hK hP 0 rfl rfl 3 (by decide) (hts (.fieldLink RX4 28 "JoinrowModel$Joiner" "pieces" "Ljava/util/ArrayList;") (by decide +kernel)) (fun _ h9 => h9) rfl dX4_inside_44 ?_
          refine lv_iload_n hx hb dX4_inside_47 rfl (lv_at hl 0 rfl) ?_
          have hFc := va_free (wc := [(al, .inr (2, [.int (nI mo), .ref ea, .int (nI nn)])), (ea, .inl (cO, cap, .inr (.inr (.inr (.inr fe)))))]) hD hS hA [2, 1] rfl
          have kc92 : (((4 * i) + 1) + 1) + (0) ≤ 4 * nn := by omega
          have ks93 : (((24 * i) + 4) + 16) + (0) ≤ 24 * nn := by omega
          refine z_callr (wr := [(jj, .inr (7, [.ref ((e.2.2.1 0)), .ref ((e.2.2.1 0)), .ref ((e.2.2.1 0)), .ref al, .null])), (sbd, .inr (1, [.ref va, .int (nI 0), .int (nI 0), .int (nI 0)])), (va, .inl (cB, 16, .inl f3))]) (va_runV (As := [.int (nI i)]) (rest := [.ref sbd]) ⟨hx, hb, hml, hown, hts⟩ (c_get l D N0 e H.size (zw H) al mo ea nn cO cap fe i ((e.2.2.1 0)) hcap hn hlt (hzf.1 i hlt)) (cwV 1 hts gX4_inside_Jx4a65c_get_915e3 rfl rfl rfl (by decide +kernel) ⟨Nat.le_of_ble_eq_true rfl, Nat.le_of_ble_eq_true rfl⟩) ⟨zP.blind, (va_recv hK hP (ci := 2) (q0 := 2) rfl rfl), (z_pre hK hP hD hS hAN hN hG [2, 1] (by decide) rfl [0] rfl (fun q hq => absurd hq List.not_mem_nil))⟩ rfl rfl hl.1 rfl (lv_room (Nat.le_of_ble_eq_true rfl)) dX4_inside_48 ⟨kc92, ks93⟩) hK hP hD hS hA [2, 1] rfl [0, 3, 4] rfl (by decide) (by decide) (fun u r95 t H locs ht hvm hw_c94 hY_c94 hz_c94 hm_c94 hk_c94 hK hP hD hS => ?_)
          have hP : va_P D vwCl [(jj, .inr (7, [.ref ((e.2.2.1 0)), .ref ((e.2.2.1 0)), .ref ((e.2.2.1 0)), .ref al, .null])), (sbd, .inr (1, [.ref va, .int (nI 0), .int (nI 0), .int (nI 0)])), (va, .inl (cB, 16, .inl f3)), (al, .inr (2, [.int (nI mo), .ref ea, .int (nI nn)])), (ea, .inl (cO, cap, .inr (.inr (.inr (.inr fe)))))] H := hP
          have hD : va_D A [(jj, .inr (7, [.ref ((e.2.2.1 0)), .ref ((e.2.2.1 0)), .ref ((e.2.2.1 0)), .ref al, .null])), (sbd, .inr (1, [.ref va, .int (nI 0), .int (nI 0), .int (nI 0)])), (va, .inl (cB, 16, .inl f3)), (al, .inr (2, [.int (nI mo), .ref ea, .int (nI nn)])), (ea, .inl (cO, cap, .inr (.inr (.inr (.inr fe)))))] := hD
          have hK : va_K D vwCl [(cO, .object "java/lang/Object"), (cB, .byte)] s := hK
          have hs96 := hS.1
          have zz_q := zz_q.at (hk_c94 _ zz_q.lta (z_out zz_q.lta (by intro x hx; simp at hx <;> omega))) (hk_c94 _ zz_q.ltv (z_out zz_q.ltv (by intro x hx; simp at hx <;> omega)))
          refine W.widen (k := (((4 * i) + 1) + 1)) (n := (((24 * i) + 4) + 16)) (by omega) (by omega) ?_
          obtain rfl : (e.2.2.1 0) = r95 := Eq.symm hw_c94
          refine va_castE hx hb hown (hts (.classLink RX4 49 "java/lang/String") (by decide +kernel)) (zrecv (zkst hG 0 (by decide) hS hAN)) dX4_inside_51 ?_
          have hFc := va_free (wc := [(sbd, .inr (1, [.ref va, .int (nI 0), .int (nI 0), .int (nI 0)])), (va, .inl (cB, 16, .inl f3))]) hD hS hA [1, 2] rfl
          have hFN : ∀ q, va_A [(sbd, .inr (1, [.ref va, .int (nI 0), .int (nI 0), .int (nI 0)])), (va, .inl (cB, 16, .inl f3))] H.size q → N0 ≤ q := fun q hq => hAN q (hFc q hq)
          have kc97 : (((4 * i) + 1) + 1) + (0) ≤ 4 * nn := by omega
          have ks98 : (((24 * i) + 4) + 16) + (0) ≤ 24 * nn := by omega
          refine z_callr (wr := [(jj, .inr (7, [.ref ((e.2.2.1 0)), .ref ((e.2.2.1 0)), .ref ((e.2.2.1 0)), .ref al, .null])), (al, .inr (2, [.int (nI mo), .ref ea, .int (nI nn)])), (ea, .inl (cO, cap, .inr (.inr (.inr (.inr fe)))))]) (va_runV (As := [.ref ((e.2.2.1 0))]) (rest := []) ⟨hx, hb, hml, hown, hts⟩ (c_app l D N0 e H.size (zw H) sbd va 0 cB f3 ((e.2.2.1 0)) ((e.2.2.2 0)) 0 (by omega) (by omega) hf3) (cwV 1 hts gX4_inside_J4_append_15ec4 rfl rfl rfl (by decide +kernel) ⟨Nat.le_of_ble_eq_true rfl, Nat.le_of_ble_eq_true rfl⟩) ⟨zP.blind, (va_recv hK hP (ci := 1) (q0 := 1) rfl rfl), (z_pre hK hP hD hS hAN hN hG [1, 2] (by decide) rfl [1] rfl (List.forall_mem_cons.mpr ⟨((zkst hG 0 (by decide) hS hAN).wall (z_low (hG.2.2.2.2.1 0 (by decide)).na hFN) (z_low (hG.2.2.2.2.1 0 (by decide)).nv hFN)), fun q hq => absurd hq List.not_mem_nil⟩))⟩ rfl rfl hl.1 rfl (lv_room (Nat.le_of_ble_eq_true rfl)) dX4_inside_54 ⟨kc97, ks98⟩) hK hP hD hS hA [1, 2] rfl [0, 3, 4] rfl (by decide) (by decide) (fun u r100 t H locs ht hvm hw_c99 hY_c99 hz_c99 hm_c99 hk_c99 hK hP hD hS => ?_)
          obtain ⟨f4, rfl⟩ : ∃ z, z = u := ⟨_, rfl⟩
          try dsimp only at hw_c99 hY_c99
          have hP : va_P D vwCl [(jj, .inr (7, [.ref ((e.2.2.1 0)), .ref ((e.2.2.1 0)), .ref ((e.2.2.1 0)), .ref al, .null])), (al, .inr (2, [.int (nI mo), .ref ea, .int (nI nn)])), (ea, .inl (cO, cap, .inr (.inr (.inr (.inr fe))))), (sbd, .inr (1, [.ref va, .int (nI 0), .int (nI 0), .int (nI 0)])), (va, .inl (cB, 16, .inl f4))] H := hP
          have hD : va_D A [(jj, .inr (7, [.ref ((e.2.2.1 0)), .ref ((e.2.2.1 0)), .ref ((e.2.2.1 0)), .ref al, .null])), (al, .inr (2, [.int (nI mo), .ref ea, .int (nI nn)])), (ea, .inl (cO, cap, .inr (.inr (.inr (.inr fe))))), (sbd, .inr (1, [.ref va, .int (nI 0), .int (nI 0), .int (nI 0)])), (va, .inl (cB, 16, .inl f4))] := hD
          have hK : va_K D vwCl [(cO, .object "java/lang/Object"), (cB, .byte)] s := hK
          have hs101 := hS.1
          have zz_q := zz_q.at (hk_c99 _ zz_q.lta (z_out zz_q.lta (by intro x hx; simp at hx <;> omega))) (hk_c99 _ zz_q.ltv (z_out zz_q.ltv (by intro x hx; simp at hx <;> omega)))
          refine W.widen (k := (((4 * i) + 1) + 1)) (n := (((24 * i) + 4) + 16)) (by omega) (by omega) ?_
          obtain rfl : sbd = r100 := Eq.symm hw_c99.1
          have hf4 := hw_c99.2
          have hFc := va_free (wc := [(sbd, .inr (1, [.ref va, .int (nI 0), .int (nI 0), .int (nI 0)])), (va, .inl (cB, 16, .inl f4))]) hD hS hA [3, 4] rfl
          have kc102 : (((4 * i) + 1) + 1) + (2) ≤ 4 * nn := by omega
          have ks103 : (((24 * i) + 4) + 16) + (4 + 0) ≤ 24 * nn := by omega
          refine z_callr (wr := [(jj, .inr (7, [.ref ((e.2.2.1 0)), .ref ((e.2.2.1 0)), .ref ((e.2.2.1 0)), .ref al, .null])), (al, .inr (2, [.int (nI mo), .ref ea, .int (nI nn)])), (ea, .inl (cO, cap, .inr (.inr (.inr (.inr fe)))))]) (va_runV (As := []) (rest := []) ⟨hx, hb, hml, hown, hts⟩ (c_toS l D N0 e H.size (zw H) sbd va 0 cB f4 (by decide) hf4) (cwV 0 hts gX4_inside_J4_toString_0e30d rfl rfl rfl (by decide +kernel) ⟨Nat.le_of_ble_eq_true rfl, Nat.le_of_ble_eq_true rfl⟩) ⟨zP.blind, (va_recv hK hP (ci := 1) (q0 := 3) rfl rfl), (z_pre hK hP hD hS hAN hN hG [3, 4] (by decide) rfl [1] rfl (fun q hq => absurd hq List.not_mem_nil))⟩ rfl rfl hl.1 rfl (lv_room (Nat.le_of_ble_eq_true rfl)) dX4_inside_57 ⟨kc102, ks103⟩) hK hP hD hS hA [3, 4] rfl [0, 1, 2] rfl (by decide) (by decide) (fun u r105 t H locs ht hvm hw_c104 hY_c104 hz_c104 hm_c104 hk_c104 hK hP hD hS => ?_)
          obtain ⟨q2, v2⟩ := u
          try dsimp only at hw_c104 hY_c104
          have hP : va_P D vwCl [(jj, .inr (7, [.ref ((e.2.2.1 0)), .ref ((e.2.2.1 0)), .ref ((e.2.2.1 0)), .ref al, .null])), (al, .inr (2, [.int (nI mo), .ref ea, .int (nI nn)])), (ea, .inl (cO, cap, .inr (.inr (.inr (.inr fe))))), (sbd, .inr (1, [.ref va, .int (nI 0), .int (nI 0), .int (nI 0)])), (va, .inl (cB, 16, .inl f4))] H := hP
          have hD : va_D A [(jj, .inr (7, [.ref ((e.2.2.1 0)), .ref ((e.2.2.1 0)), .ref ((e.2.2.1 0)), .ref al, .null])), (al, .inr (2, [.int (nI mo), .ref ea, .int (nI nn)])), (ea, .inl (cO, cap, .inr (.inr (.inr (.inr fe))))), (sbd, .inr (1, [.ref va, .int (nI 0), .int (nI 0), .int (nI 0)])), (va, .inl (cB, 16, .inl f4))] := hD
          have hK : va_K D vwCl [(cO, .object "java/lang/Object"), (cB, .byte)] s := hK
          have hs106 := hS.1
          have zz_q := zz_q.at (hk_c104 _ zz_q.lta (z_out zz_q.lta (by intro x hx; simp at hx <;> omega))) (hk_c104 _ zz_q.ltv (z_out zz_q.ltv (by intro x hx; simp at hx <;> omega)))
          refine W.widen (k := ((((4 * i) + 1) + 1) + 2)) (n := ((((24 * i) + 4) + 16) + 4)) (by omega) (by omega) ?_
          obtain rfl : q2 = r105 := Eq.symm hw_c104
          have zz_q2 : zs q2 v2 (0) (fun _ => False) s H := by
            have hq := (hY_c104.1).moved hvm.symm
            rw [ht] at hq
            exact hq
          have hb_q2 := (hY_c104.2)
          refine lv_astore_n (lv' := [(1, .ref q2), (2, .int (nI i)), (0, .ref jj)]) hx hb dX4_inside_60 rfl hl (by decide) rfl (fun ls hl => ?_)
          refine lv_iinc (v := (nI (i + 1))) (lv' := [(2, .int (nI (i + 1))), (1, .ref q2), (0, .ref jj)]) hx hb dX4_inside_61 hl (k := 1) rfl (nI_add (i) 1) (by decide) rfl (fun ls hl => ?_)
          refine lv_goto (tgt := 5) hx hb dX4_inside_64 (by decide) ?_
          refine W.widen (k := (4 * (i + 1))) (n := (24 * (i + 1))) (by omega) (by omega) ?_
          exact ih (i + 1) hlt (by omega) q2 v2 _ _ (hP.pick [0, 1, 2] rfl) (hD.sub [0, 1, 2] (by decide) rfl) hS zz_q2 (by omega) (by omega) (by omega) ls hl
      · skip
        refine lv_iload_n hx hb dX4_inside_5 rfl (lv_at hl 0 rfl) ?_
        refine lv_aload_n hx hb dX4_inside_6 rfl (lv_at hl 2 rfl) ?_
        refine va_get (D := D) (ci := 7) (v := .ref al) (C := RX4) (T := TX4) (N := 5) hx hb hts (by decide +kernel) hown hK hP 0 rfl rfl 3 (by decide) (hts (.fieldLink RX4 28 "JoinrowModel$Joiner" "pieces" "Ljava/util/ArrayList;") (by decide +kernel)) (fun _ h9 => h9) rfl dX4_inside_7 ?_
        have hFc := va_free (wc := [(al, .inr (2, [.int (nI mo), .ref ea, .int (nI nn)]))]) hD hS hA [1] rfl
        have kc107 : (4 * i) + (0) ≤ 4 * nn := by omega
        have ks108 : (24 * i) + (0) ≤ 24 * nn := by omega
        refine z_calli (wr := [(jj, .inr (7, [.ref ((e.2.2.1 0)), .ref ((e.2.2.1 0)), .ref ((e.2.2.1 0)), .ref al, .null])), (ea, .inl (cO, cap, .inr (.inr (.inr (.inr fe)))))]) (va_runV (As := []) (rest := [.int (nI i)]) ⟨hx, hb, hml, hown, hts⟩ (c_alsize l D N0 e H.size (zw H) al mo ea nn ) (cwV 0 hts gX4_inside_Jx4a65c_size_8abf5 rfl rfl rfl (by decide +kernel) ⟨Nat.le_of_ble_eq_true rfl, Nat.le_of_ble_eq_true rfl⟩) ⟨zP.blind, (va_recv hK hP (ci := 2) (q0 := 1) rfl rfl), (z_pre hK hP hD hS hAN hN hG [1] (by decide) rfl [] rfl (fun q hq => absurd hq List.not_mem_nil))⟩ rfl rfl hl.1 rfl (lv_room (Nat.le_of_ble_eq_true rfl)) dX4_inside_10 ⟨kc107, ks108⟩) hK hP hD hS hA [1] rfl [0, 2] rfl (by decide) (by decide) (fun r110 u t H locs ht hvm hw_c109 hY_c109 hz_c109 hm_c109 hk_c109 hK hP hD hS => ?_)
        have hP : va_P D vwCl [(jj, .inr (7, [.ref ((e.2.2.1 0)), .ref ((e.2.2.1 0)), .ref ((e.2.2.1 0)), .ref al, .null])), (ea, .inl (cO, cap, .inr (.inr (.inr (.inr fe))))), (al, .inr (2, [.int (nI mo), .ref ea, .int (nI nn)]))] H := hP
        have hD : va_D A [(jj, .inr (7, [.ref ((e.2.2.1 0)), .ref ((e.2.2.1 0)), .ref ((e.2.2.1 0)), .ref al, .null])), (ea, .inl (cO, cap, .inr (.inr (.inr (.inr fe))))), (al, .inr (2, [.int (nI mo), .ref ea, .int (nI nn)]))] := hD
        have hK : va_K D vwCl [(cO, .object "java/lang/Object")] s := hK
        have hs111 := hS.1
        have zz_q := zz_q.at (hk_c109 _ zz_q.lta (z_out zz_q.lta (by intro x hx; simp at hx <;> omega))) (hk_c109 _ zz_q.ltv (z_out zz_q.ltv (by intro x hx; simp at hx <;> omega)))
        refine W.widen (k := (4 * i)) (n := (24 * i)) (by omega) (by omega) ?_
        subst hw_c109
        refine lv_icmp_ge (tgt := 67) hx hb dX4_inside_13 (by decide) (fun _ => ?_) (fun hq => absurd (show (nI nn) ≤ (nI i) from (nI_leI (by omega) (by omega)).mpr (by omega)) hq)
        refine lv_aload_n hx hb dX4_inside_67 rfl (lv_at hl 1 rfl) ?_
        refine W.widen (k := (4 * nn)) (n := (24 * nn)) (by omega) (by omega) ?_
        have hz0 := hS.1
        have lt0 := (hP 0 _ rfl).lt
        dsimp only at lt0
        have lt1 := (hP 1 _ rfl).lt
        dsimp only at lt1
        have lt2 := (hP 2 _ rfl).lt
        dsimp only at lt2
        have hnn : i = nn := by omega
        exact z_retr (q := q) (q, v) hx hb hr (Or.inl ⟨_, rfl⟩) hlocks (show q = q from rfl) hK [] rfl hP hD hS [0, 2, 1] (by decide) rfl (by omega) (by omega) (fun t ht hW => ⟨by rw [ht]; exact zz_q.moved hW.alike, hqb⟩) dX4_inside_68
  refine va_ldcS hx hb hown (hG.2.2.2.2.2.1 ("JoinrowModel$Joiner", 36, "", 0) (by simp)) dX4_inside_0 ?_
  refine lv_astore_n (lv' := [(1, .ref ((e.2.2.1 0))), (0, .ref jj)]) hx hb dX4_inside_2 rfl hl (by decide) rfl (fun ls hl => ?_)
  refine lv_iconst (v := (nI 0)) hx hb dX4_inside_3 (by decide) ?_
  refine lv_istore_n (lv' := [(2, .int (nI 0)), (1, .ref ((e.2.2.1 0))), (0, .ref jj)]) hx hb dX4_inside_4 rfl hl (by decide) rfl (fun ls hl => ?_)
  exact loop (nn + 1) 0 (by omega) (by omega) (e.2.2.1 0) (e.2.2.2 0) _ _ hP hD hS ((zkst hG 0 (by decide) hS hAN).wall (fun h => h) (fun h => h)) (Or.inl ⟨Nat.lt_of_not_le (hG.2.2.2.2.1 0 (by decide)).na, Nat.lt_of_not_le (hG.2.2.2.2.1 0 (by decide)).nv⟩) (by omega) (by omega) ls hl
