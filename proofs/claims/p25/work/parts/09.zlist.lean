set_option maxRecDepth 100000 in
set_option maxHeartbeats 4000000 in
/-- AbstractCollection() -/
theorem c_alAC (l : Launch) (D : va_G) (N0 : Nat) (e : zE) (sz mz : Nat) (al : Nat)  : Met l yJxa1e45_init_da8c8 wsJxa1e45_init_da8c8 ({ frames := 1, cells := 0, slots := 0, locals := 16 }) (va_Pc [.ref al] (zP N0 e D [] [(al, .inr (2, [.int (nI 0), .null, .int (nI 0)]))] sz mz [])) (zQv (fun (_ : Unit) => True) D (fun (_ : Unit) => ([(al, .inr (2, [.int (nI 0), .null, .int (nI 0)]))] : va_W)) (fun (_ : Unit) => ([] : List (ClassId × FieldType))) sz (0) mz (0) (fun (_ : Unit) (t : State) => True) (va_A [(al, .inr (2, [.int (nI 0), .null, .int (nI 0)]))] sz)) (0) (0) (va_A [(al, .inr (2, [.int (nI 0), .null, .int (nI 0)]))] sz) := by
  refine z_met (Qc := fun A => zQv (fun (_ : Unit) => True) D (fun (_ : Unit) => ([(al, .inr (2, [.int (nI 0), .null, .int (nI 0)]))] : va_W)) (fun (_ : Unit) => ([] : List (ClassId × FieldType))) sz (0) mz (0) (fun (_ : Unit) (t : State) => True) A) (cc := cJxa1e45_init_da8c8) (maxL := 1) (ret := none) RJxa1e45 rfl (by decide) rfl (Nat.le_of_ble_eq_true rfl) ?_
  intro p ev s m below meth c ls A hx hb hr hml hown hts hlocks hnm hsz hmz hN hAe hA hAN hS hP hK hD hG hL hl
  subst hsz
  subst hmz
  have hl : lv_has ls 1 [(0, .ref al)] := hl
  refine lv_aload_n hx hb dJxa1e45_init_da8c8_0 rfl (lv_at hl 0 rfl) ?_
  refine W.objInit hx hb hown (hts (.methodLink RJxa1e45 1 objectInit) (by decide +kernel)) (hts (.instanceMethod objectInit) (by decide +kernel)) (hts (.code objectInit ⟨#[0xb1]⟩ 1 none) (by decide +kernel)) rfl (by rw [hml]; exact hl.1) rfl dJxa1e45_init_da8c8_1 (Nat.le_of_ble_eq_true rfl) (Nat.le_of_ble_eq_true rfl) ?_
  refine W.eq (g2 := F0 m 4 ls []) rfl ?_
  have hz0 := hS.1
  refine z_keepW (fun hkp => ?_)
  exact z_retv () hx hb hr hlocks trivial hK [] rfl hP hD hS [0] (by decide) rfl (by omega) (zw_keep hkp) (fun _ _ _ => trivial) dJxa1e45_init_da8c8_4
set_option maxRecDepth 100000 in
set_option maxHeartbeats 4000000 in
/-- AbstractList() -/
theorem c_alAL (l : Launch) (D : va_G) (N0 : Nat) (e : zE) (sz mz : Nat) (al : Nat)  : Met l yJxc12de_init_da8c8 wsJxc12de_init_da8c8 ({ frames := 2, cells := 0, slots := 0, locals := 36 }) (va_Pc [.ref al] (zP N0 e D [] [(al, .inr (2, [.int (nI 0), .null, .int (nI 0)]))] sz mz [])) (zQv (fun (_ : Unit) => True) D (fun (_ : Unit) => ([(al, .inr (2, [.int (nI 0), .null, .int (nI 0)]))] : va_W)) (fun (_ : Unit) => ([] : List (ClassId × FieldType))) sz (0) mz (0) (fun (_ : Unit) (t : State) => True) (va_A [(al, .inr (2, [.int (nI 0), .null, .int (nI 0)]))] sz)) (0) (0) (va_A [(al, .inr (2, [.int (nI 0), .null, .int (nI 0)]))] sz) := by
  refine z_met (Qc := fun A => zQv (fun (_ : Unit) => True) D (fun (_ : Unit) => ([(al, .inr (2, [.int (nI 0), .null, .int (nI 0)]))] : va_W)) (fun (_ : Unit) => ([] : List (ClassId × FieldType))) sz (0) mz (0) (fun (_ : Unit) (t : State) => True) A) (cc := cJxc12de_init_da8c8) (maxL := 1) (ret := none) RJxc12de rfl (by decide) rfl (Nat.le_of_ble_eq_true rfl) ?_
  intro p ev s m below meth c ls A hx hb hr hml hown hts hlocks hnm hsz hmz hN hAe hA hAN hS hP hK hD hG hL hl
  subst hsz
  subst hmz
  have hl : lv_has ls 1 [(0, .ref al)] := hl
  refine lv_aload_n hx hb dJxc12de_init_da8c8_0 rfl (lv_at hl 0 rfl) ?_
  have hFc := va_free (wc := [(al, .inr (2, [.int (nI 0), .null, .int (nI 0)]))]) hD hS hA [0] rfl
  have kc1 : 0 + (0) ≤ 0 := by omega
  have ks2 : 0 + (0) ≤ 0 := by omega
  refine z_callv (wr := []) (va_runI (As := []) (rest := []) ⟨hx, hb, hml, hown, hts⟩ (c_alAC l D N0 e s.heap.size (zw s.heap) al ) (cwI 0 hts gJxc12de_init_da8c8_Jxa1e45_init_da8c8 rfl rfl rfl (hts (.initialized RJxa1e45) (by decide +kernel)) (hts (.methodLink RJxc12de 1 yJxa1e45_init_da8c8) (by decide +kernel)) (hts (.instanceMethod yJxa1e45_init_da8c8) (by decide +kernel)) rfl (by decide +kernel) ⟨Nat.le_of_ble_eq_true rfl, Nat.le_of_ble_eq_true rfl⟩) ⟨zP.blind, (z_pre hK hP hD hS hAN hN hG [0] (by decide) rfl [] rfl (fun q hq => absurd hq List.not_mem_nil))⟩ rfl rfl hl.1 rfl (lv_room (Nat.le_of_ble_eq_true rfl)) dJxc12de_init_da8c8_1 ⟨kc1, ks2⟩) hK hP hD hS hA [0] rfl [] rfl (by decide) (by decide) (fun u t H locs ht hvm hw_c3 hY_c3 hz_c3 hm_c3 hk_c3 hK hP hD hS => ?_)
  have hP : va_P D vwCl [(al, .inr (2, [.int (nI 0), .null, .int (nI 0)]))] H := hP
  have hD : va_D A [(al, .inr (2, [.int (nI 0), .null, .int (nI 0)]))] := hD
  have hK : va_K D vwCl [] s := hK
  have hs5 := hS.1
  refine W.widen (k := 0) (n := 0) (by omega) (by omega) ?_
  refine lv_aload_n hx hb dJxc12de_init_da8c8_4 rfl (lv_at hl 0 rfl) ?_
  refine lv_iconst (v := (nI 0)) hx hb dJxc12de_init_da8c8_5 (by decide) ?_
  refine va_put (D := D) (ci := 2) (v := .int (nI 0)) (ty := .int) (C := RJx4a65c) (T := TJx4a65c) (N := 3) hx hb hts (by decide +kernel) tyJx4a65c tyJx4a65c_ok nmJx4a65c hown hK hP hD hS 0 rfl rfl 0 (by decide) (hts (.fieldLink RJxc12de 7 "java/util/AbstractList" "modCount" "I") (by decide +kernel)) (fun _ h9 => h9) rfl (by decide +kernel) rfl rfl (Nat.le_of_ble_eq_true rfl) dJxc12de_init_da8c8_6 (fun H locs hP hD hS => ?_)
  have hP : va_P D vwCl [(al, .inr (2, [.int (nI 0), .null, .int (nI 0)]))] H := hP
  have hD : va_D A [(al, .inr (2, [.int (nI 0), .null, .int (nI 0)]))] := hD
  have hs6 := hS.1
  have hz0 := hS.1
  refine z_keepW (fun hkp => ?_)
  exact z_retv () hx hb hr hlocks trivial hK [] rfl hP hD hS [0] (by decide) rfl (by omega) (zw_keep hkp) (fun _ _ _ => trivial) dJxc12de_init_da8c8_9
set_option maxRecDepth 100000 in
set_option maxHeartbeats 4000000 in
/-- ArrayList(): the shared empty row -/
theorem c_alini (l : Launch) (D : va_G) (N0 : Nat) (e : zE) (sz mz : Nat) (al : Nat)  : Met l yJx4a65c_init_da8c8 wsJx4a65c_init_da8c8 ({ frames := 3, cells := 0, slots := 0, locals := 56 }) (va_Pc [.ref al] (zP N0 e D [] [(al, .inr (2, [.int (nI 0), .null, .int (nI 0)]))] sz mz [])) (zQv (fun (_ : Unit) => True) D (fun (_ : Unit) => ([(al, .inr (2, [.int (nI 0), .ref e.1, .int (nI 0)]))] : va_W)) (fun (_ : Unit) => ([] : List (ClassId × FieldType))) sz (0) mz (0) (fun (_ : Unit) (t : State) => True) (va_A [(al, .inr (2, [.int (nI 0), .null, .int (nI 0)]))] sz)) (0) (0) (va_A [(al, .inr (2, [.int (nI 0), .null, .int (nI 0)]))] sz) := by
  refine z_met (Qc := fun A => zQv (fun (_ : Unit) => True) D (fun (_ : Unit) => ([(al, .inr (2, [.int (nI 0), .ref e.1, .int (nI 0)]))] : va_W)) (fun (_ : Unit) => ([] : List (ClassId × FieldType))) sz (0) mz (0) (fun (_ : Unit) (t : State) => True) A) (cc := cJx4a65c_init_da8c8) (maxL := 1) (ret := none) RJx4a65c rfl (by decide) rfl (Nat.le_of_ble_eq_true rfl) ?_
  intro p ev s m below meth c ls A hx hb hr hml hown hts hlocks hnm hsz hmz hN hAe hA hAN hS hP hK hD hG hL hl
  subst hsz
  subst hmz
  have hl : lv_has ls 1 [(0, .ref al)] := hl
  refine lv_aload_n hx hb dJx4a65c_init_da8c8_0 rfl (lv_at hl 0 rfl) ?_
  have hFc := va_free (wc := [(al, .inr (2, [.int (nI 0), .null, .int (nI 0)]))]) hD hS hA [0] rfl
  have kc1 : 0 + (0) ≤ 0 := by omega
  have ks2 : 0 + (0) ≤ 0 := by omega
  refine z_callv (wr := []) (va_runI (As := []) (rest := []) ⟨hx, hb, hml, hown, hts⟩ (c_alAL l D N0 e s.heap.size (zw s.heap) al ) (cwI 0 hts gJx4a65c_init_da8c8_Jxc12de_init_da8c8 rfl rfl rfl (hts (.initialized RJxc12de) (by decide +kernel)) (hts (.methodLink RJx4a65c 1 yJxc12de_init_da8c8) (by decide +kernel)) (hts (.instanceMethod yJxc12de_init_da8c8) (by decide +kernel)) rfl (by decide +kernel) ⟨Nat.le_of_ble_eq_true rfl, Nat.le_of_ble_eq_true rfl⟩) ⟨zP.blind, (z_pre hK hP hD hS hAN hN hG [0] (by decide) rfl [] rfl (fun q hq => absurd hq List.not_mem_nil))⟩ rfl rfl hl.1 rfl (lv_room (Nat.le_of_ble_eq_true rfl)) dJx4a65c_init_da8c8_1 ⟨kc1, ks2⟩) hK hP hD hS hA [0] rfl [] rfl (by decide) (by decide) (fun u t H locs ht hvm hw_c3 hY_c3 hz_c3 hm_c3 hk_c3 hK hP hD hS => ?_)
  have hP : va_P D vwCl [(al, .inr (2, [.int (nI 0), .null, .int (nI 0)]))] H := hP
  have hD : va_D A [(al, .inr (2, [.int (nI 0), .null, .int (nI 0)]))] := hD
  have hK : va_K D vwCl [] s := hK
  have hs5 := hS.1
  refine W.widen (k := 0) (n := 0) (by omega) (by omega) ?_
  refine lv_aload_n hx hb dJx4a65c_init_da8c8_4 rfl (lv_at hl 0 rfl) ?_
  refine va_gets hx hb (hG.2.1.narrow hAN) hS hown (hts (.fieldLink RJx4a65c 39 "java/util/ArrayList" "DEFAULTCAPACITY_EMPTY_ELEMENTDATA" "[Ljava/lang/Object;") (by decide +kernel)) (fun _ h9 => h9) dJx4a65c_init_da8c8_5 ?_
  refine va_put (D := D) (ci := 2) (v := .ref e.1) (ty := .array (.object "java/lang/Object")) (C := RJx4a65c) (T := TJx4a65c) (N := 3) hx hb hts (by decide +kernel) tyJx4a65c tyJx4a65c_ok nmJx4a65c hown hK hP hD hS 0 rfl rfl 1 (by decide) (hts (.fieldLink RJx4a65c 9 "java/util/ArrayList" "elementData" "[Ljava/lang/Object;") (by decide +kernel)) (fun _ h9 => h9) rfl (by decide +kernel) rfl rfl (Nat.le_of_ble_eq_true rfl) dJx4a65c_init_da8c8_8 (fun H locs hP hD hS => ?_)
  have hP : va_P D vwCl [(al, .inr (2, [.int (nI 0), .ref e.1, .int (nI 0)]))] H := hP
  have hD : va_D A [(al, .inr (2, [.int (nI 0), .ref e.1, .int (nI 0)]))] := hD
  have hs6 := hS.1
  have hz0 := hS.1
  refine z_keepW (fun hkp => ?_)
  exact z_retv () hx hb hr hlocks trivial hK [] rfl hP hD hS [0] (by decide) rfl (by omega) (zw_keep hkp) (fun _ _ _ => trivial) dJx4a65c_init_da8c8_11
set_option maxRecDepth 100000 in
set_option maxHeartbeats 4000000 in
/-- ArrayList.size -/
theorem c_alsize (l : Launch) (D : va_G) (N0 : Nat) (e : zE) (sz mz : Nat) (al : Nat) (mo : Nat) (ea : Nat) (nn : Nat)  : Met l yJx4a65c_size_8abf5 wsJx4a65c_size_8abf5 ({ frames := 0, cells := 0, slots := 0, locals := 0 }) (va_Pc [.ref al] (zP N0 e D [] [(al, .inr (2, [.int (nI mo), .ref ea, .int (nI nn)]))] sz mz [])) (zQi (fun (r : Int32) (_ : Unit) => r = (nI nn)) D (fun (_ : Unit) => ([(al, .inr (2, [.int (nI mo), .ref ea, .int (nI nn)]))] : va_W)) (fun (_ : Unit) => ([] : List (ClassId × FieldType))) sz (0) mz (0) (fun (_ : Unit) (t : State) => True) (va_A [(al, .inr (2, [.int (nI mo), .ref ea, .int (nI nn)]))] sz)) (0) (0) (va_A [(al, .inr (2, [.int (nI mo), .ref ea, .int (nI nn)]))] sz) := by
  refine z_met (Qc := fun A => zQi (fun (r : Int32) (_ : Unit) => r = (nI nn)) D (fun (_ : Unit) => ([(al, .inr (2, [.int (nI mo), .ref ea, .int (nI nn)]))] : va_W)) (fun (_ : Unit) => ([] : List (ClassId × FieldType))) sz (0) mz (0) (fun (_ : Unit) (t : State) => True) A) (cc := cJx4a65c_size_8abf5) (maxL := 1) (ret := (some .int)) RJx4a65c rfl (by decide) rfl (Nat.le_of_ble_eq_true rfl) ?_
  intro p ev s m below meth c ls A hx hb hr hml hown hts hlocks hnm hsz hmz hN hAe hA hAN hS hP hK hD hG hL hl
  subst hsz
  subst hmz
  have hl : lv_has ls 1 [(0, .ref al)] := hl
  refine lv_aload_n hx hb dJx4a65c_size_8abf5_0 rfl (lv_at hl 0 rfl) ?_
  refine va_get (D := D) (ci := 2) (v := .int (nI nn)) (C := RJx4a65c) (T := TJx4a65c) (N := 3) hx hb hts (by decide +kernel) hown hK hP 0 rfl rfl 2 (by decide) (hts (.fieldLink RJx4a65c 48 "java/util/ArrayList" "size" "I") (by decide +kernel)) (fun _ h9 => h9) rfl dJx4a65c_size_8abf5_1 ?_
  have hz0 := hS.1
  refine z_keepW (fun hkp => ?_)
  exact z_reti (v := (nI nn)) () hx hb hr (by first | rfl | decide) hlocks rfl hK [] rfl hP hD hS [0] (by decide) rfl (by omega) (zw_keep hkp) (fun _ _ _ => trivial) dJx4a65c_size_8abf5_4
set_option maxRecDepth 100000 in
set_option maxHeartbeats 4000000 in
/-- elementData(i) -/
theorem c_elem (l : Launch) (D : va_G) (N0 : Nat) (e : zE) (sz mz : Nat) (al : Nat) (mo : Nat) (ea : Nat) (nn : Nat) (cO : ClassId) (cap : Nat) (fe : Nat → Option Nat) (ii : Nat) (x0 : Nat) (hcap : cap ≤ 800) (hi : ii < cap) (hel : fe ii = some x0) : Met l yJx4a65c_elementData_915e3 wsJx4a65c_elementData_915e3 ({ frames := 0, cells := 0, slots := 0, locals := 0 }) (va_Pc [.ref al, .int (nI ii)] (zP N0 e D [(cO, .object "java/lang/Object")] [(al, .inr (2, [.int (nI mo), .ref ea, .int (nI nn)])), (ea, .inl (cO, cap, .inr (.inr (.inr (.inr fe)))))] sz mz [])) (zQr (fun (_ : Unit) (ra : Nat) => ra = x0) D (fun (_ : Unit) => ([(al, .inr (2, [.int (nI mo), .ref ea, .int (nI nn)])), (ea, .inl (cO, cap, .inr (.inr (.inr (.inr fe)))))] : va_W)) (fun (_ : Unit) => ([] : List (ClassId × FieldType))) sz (0) mz (0) (fun (_ : Unit) (t : State) => True) (va_A [(al, .inr (2, [.int (nI mo), .ref ea, .int (nI nn)])), (ea, .inl (cO, cap, .inr (.inr (.inr (.inr fe)))))] sz)) (0) (0) (va_A [(al, .inr (2, [.int (nI mo), .ref ea, .int (nI nn)])), (ea, .inl (cO, cap, .inr (.inr (.inr (.inr fe)))))] sz) := by
  refine z_met (Qc := fun A => zQr (fun (_ : Unit) (ra : Nat) => ra = x0) D (fun (_ : Unit) => ([(al, .inr (2, [.int (nI mo), .ref ea, .int (nI nn)])), (ea, .inl (cO, cap, .inr (.inr (.inr (.inr fe)))))] : va_W)) (fun (_ : Unit) => ([] : List (ClassId × FieldType))) sz (0) mz (0) (fun (_ : Unit) (t : State) => True) A) (cc := cJx4a65c_elementData_915e3) (maxL := 2) (ret := (some (.object "java/lang/Object"))) RJx4a65c rfl (by decide) rfl (Nat.le_of_ble_eq_true rfl) ?_
  intro p ev s m below meth c ls A hx hb hr hml hown hts hlocks hnm hsz hmz hN hAe hA hAN hS hP hK hD hG hL hl
  subst hsz
  subst hmz
  have hl : lv_has ls 2 [(0, .ref al), (1, .int (nI ii))] := hl
  refine lv_aload_n hx hb dJx4a65c_elementData_915e3_0 rfl (lv_at hl 0 rfl) ?_
  refine va_get (D := D) (ci := 2) (v := .ref ea) (C := RJx4a65c) (T := TJx4a65c) (N := 3) hx hb hts (by decide +kernel) hown hK hP 0 rfl rfl 1 (by decide) (hts (.fieldLink RJx4a65c 9 "java/util/ArrayList" "elementData" "[Ljava/lang/Object;") (by decide +kernel)) (fun _ h9 => h9) rfl dJx4a65c_elementData_915e3_1 ?_
  refine lv_iload_n hx hb dJx4a65c_elementData_915e3_4 rfl (lv_at hl 1 rfl) ?_
  have vi1 : vp_in (nI ii) cap := vp_in_nI (by omega) (by omega)
  refine va_aldq hx hb hK hP 1 0 rfl rfl vi1 dJx4a65c_elementData_915e3_5 ?_
  rw [nI_clamp (show ii < 2 ^ 31 by omega), (show fe (ii) = some x0 from hel)]
  refine W.eq (g2 := F0 m 6 ls [.ref x0]) rfl ?_
  have hz0 := hS.1
  refine z_keepW (fun hkp => ?_)
  exact z_retr (q := x0) () hx hb hr (Or.inl ⟨_, rfl⟩) hlocks rfl hK [] rfl hP hD hS [0, 1] (by decide) rfl (by omega) (zw_keep hkp) (fun _ _ _ => trivial) dJx4a65c_elementData_915e3_6
set_option maxRecDepth 100000 in
set_option maxHeartbeats 4000000 in
/-- Preconditions.checkIndex: it is in -/
theorem c_ckI3 (l : Launch) (D : va_G) (N0 : Nat) (e : zE) (sz mz : Nat) (ii : Nat) (nn : Nat) (hn : nn ≤ 65536) (hi : ii < nn) : Met l yJ3_checkIndex_8e157 wsJ3_checkIndex_8e157 ({ frames := 0, cells := 0, slots := 0, locals := 0 }) (va_Pc [.int (nI ii), .int (nI nn), .null] (zP N0 e D [] [] sz mz [])) (zQi (fun (r : Int32) (_ : Unit) => r = (nI ii)) D (fun (_ : Unit) => ([] : va_W)) (fun (_ : Unit) => ([] : List (ClassId × FieldType))) sz (0) mz (0) (fun (_ : Unit) (t : State) => True) (va_A [] sz)) (0) (0) (va_A [] sz) := by
  refine z_met (Qc := fun A => zQi (fun (r : Int32) (_ : Unit) => r = (nI ii)) D (fun (_ : Unit) => ([] : va_W)) (fun (_ : Unit) => ([] : List (ClassId × FieldType))) sz (0) mz (0) (fun (_ : Unit) (t : State) => True) A) (cc := cJ3_checkIndex_8e157) (maxL := 3) (ret := (some .int)) RJ3 rfl (by decide) rfl (Nat.le_of_ble_eq_true rfl) ?_
  intro p ev s m below meth c ls A hx hb hr hml hown hts hlocks hnm hsz hmz hN hAe hA hAN hS hP hK hD hG hL hl
  subst hsz
  subst hmz
  have hl : lv_has ls 3 [(0, .int (nI ii)), (1, .int (nI nn)), (2, .null)] := hl
  refine lv_iload_n hx hb dJ3_checkIndex_8e157_0 rfl (lv_at hl 0 rfl) ?_
  refine lv_if_lt (tgt := 9) hx hb dJ3_checkIndex_8e157_1 (by decide) (fun hq => absurd hq (show ¬ ((nI ii) < (nI 0)) from fun hq => absurd ((nI_ltI (by omega) (by omega)).mp hq) (by omega))) (fun _ => ?_)
  refine lv_iload_n hx hb dJ3_checkIndex_8e157_4 rfl (lv_at hl 0 rfl) ?_
  refine lv_iload_n hx hb dJ3_checkIndex_8e157_5 rfl (lv_at hl 1 rfl) ?_
  refine lv_icmp_lt (tgt := 16) hx hb dJ3_checkIndex_8e157_6 (by decide) (fun _ => ?_) (fun hq => absurd (show (nI ii) < (nI nn) from (nI_ltI (by omega) (by omega)).mpr (by omega)) hq)
  refine lv_iload_n hx hb dJ3_checkIndex_8e157_16 rfl (lv_at hl 0 rfl) ?_
  have hz0 := hS.1
  refine z_keepW (fun hkp => ?_)
  exact z_reti (v := (nI ii)) () hx hb hr (by first | rfl | decide) hlocks rfl hK [] rfl hP hD hS [] (by decide) rfl (by omega) (zw_keep hkp) (fun _ _ _ => trivial) dJ3_checkIndex_8e157_17
set_option maxRecDepth 100000 in
set_option maxHeartbeats 4000000 in
/-- Objects.checkIndex: it is in -/
theorem c_ckI (l : Launch) (D : va_G) (N0 : Nat) (e : zE) (sz mz : Nat) (ii : Nat) (nn : Nat) (hn : nn ≤ 65536) (hi : ii < nn) : Met l yJ15_checkIndex_7cf53 wsJ15_checkIndex_7cf53 ({ frames := 1, cells := 0, slots := 0, locals := 22 }) (va_Pc [.int (nI ii), .int (nI nn)] (zP N0 e D [] [] sz mz [])) (zQi (fun (r : Int32) (_ : Unit) => r = (nI ii)) D (fun (_ : Unit) => ([] : va_W)) (fun (_ : Unit) => ([] : List (ClassId × FieldType))) sz (0) mz (0) (fun (_ : Unit) (t : State) => True) (va_A [] sz)) (0) (0) (va_A [] sz) := by
  refine z_met (Qc := fun A => zQi (fun (r : Int32) (_ : Unit) => r = (nI ii)) D (fun (_ : Unit) => ([] : va_W)) (fun (_ : Unit) => ([] : List (ClassId × FieldType))) sz (0) mz (0) (fun (_ : Unit) (t : State) => True) A) (cc := cJ15_checkIndex_7cf53) (maxL := 2) (ret := (some .int)) RJ15 rfl (by decide) rfl (Nat.le_of_ble_eq_true rfl) ?_
  intro p ev s m below meth c ls A hx hb hr hml hown hts hlocks hnm hsz hmz hN hAe hA hAN hS hP hK hD hG hL hl
  subst hsz
  subst hmz
  have hl : lv_has ls 2 [(0, .int (nI ii)), (1, .int (nI nn))] := hl
  refine lv_iload_n hx hb dJ15_checkIndex_7cf53_0 rfl (lv_at hl 0 rfl) ?_
  refine lv_iload_n hx hb dJ15_checkIndex_7cf53_1 rfl (lv_at hl 1 rfl) ?_
  refine lv_null hx hb dJ15_checkIndex_7cf53_2 ?_
  have hFc := va_free (wc := []) hD hS hA [] rfl
  have kc1 : 0 + (0) ≤ 0 := by omega
  have ks2 : 0 + (0) ≤ 0 := by omega
  refine z_calli (wr := []) (va_runS (As := [.int (nI ii), .int (nI nn), .null]) (rest := []) ⟨hx, hb, hml, hown, hts⟩ (c_ckI3 l D N0 e s.heap.size (zw s.heap) ii nn hn hi) (va_cwS 3 hts gJ15_checkIndex_7cf53_J3_checkIndex_8e157 rfl rfl rfl (by decide +kernel) ⟨Nat.le_of_ble_eq_true rfl, Nat.le_of_ble_eq_true rfl⟩) ⟨zP.blind, (z_pre hK hP hD hS hAN hN hG [] (by decide) rfl [] rfl (fun q hq => absurd hq List.not_mem_nil))⟩ rfl rfl hl.1 rfl (lv_room (Nat.le_of_ble_eq_true rfl)) dJ15_checkIndex_7cf53_3 ⟨kc1, ks2⟩) hK hP hD hS hA [] rfl [] rfl (by decide) (by decide) (fun r4 u t H locs ht hvm hw_c3 hY_c3 hz_c3 hm_c3 hk_c3 hK hP hD hS => ?_)
  have hP : va_P D vwCl [] H := hP
  have hD : va_D A [] := hD
  have hK : va_K D vwCl [] s := hK
  have hs5 := hS.1
  refine W.widen (k := 0) (n := 0) (by omega) (by omega) ?_
  subst hw_c3
  have hz0 := hS.1
  refine z_keepW (fun hkp => ?_)
  exact z_reti (v := (nI ii)) () hx hb hr (by first | rfl | decide) hlocks rfl hK [] rfl hP hD hS [] (by decide) rfl (by omega) (zw_keep hkp) (fun _ _ _ => trivial) dJ15_checkIndex_7cf53_6
set_option maxRecDepth 100000 in
set_option maxHeartbeats 4000000 in
/-- ArrayList.get -/
theorem c_get (l : Launch) (D : va_G) (N0 : Nat) (e : zE) (sz mz : Nat) (al : Nat) (mo : Nat) (ea : Nat) (nn : Nat) (cO : ClassId) (cap : Nat) (fe : Nat → Option Nat) (ii : Nat) (x0 : Nat) (hcap : cap ≤ 800) (hn : nn ≤ cap) (hi : ii < nn) (hel : fe ii = some x0) : Met l yJx4a65c_get_915e3 wsJx4a65c_get_915e3 ({ frames := 2, cells := 0, slots := 0, locals := 43 }) (va_Pc [.ref al, .int (nI ii)] (zP N0 e D [(cO, .object "java/lang/Object")] [(al, .inr (2, [.int (nI mo), .ref ea, .int (nI nn)])), (ea, .inl (cO, cap, .inr (.inr (.inr (.inr fe)))))] sz mz [])) (zQr (fun (_ : Unit) (ra : Nat) => ra = x0) D (fun (_ : Unit) => ([(al, .inr (2, [.int (nI mo), .ref ea, .int (nI nn)])), (ea, .inl (cO, cap, .inr (.inr (.inr (.inr fe)))))] : va_W)) (fun (_ : Unit) => ([] : List (ClassId × FieldType))) sz (0) mz (0) (fun (_ : Unit) (t : State) => True) (va_A [(al, .inr (2, [.int (nI mo), .ref ea, .int (nI nn)])), (ea, .inl (cO, cap, .inr (.inr (.inr (.inr fe)))))] sz)) (0) (0) (va_A [(al, .inr (2, [.int (nI mo), .ref ea, .int (nI nn)])), (ea, .inl (cO, cap, .inr (.inr (.inr (.inr fe)))))] sz) := by
  refine z_met (Qc := fun A => zQr (fun (_ : Unit) (ra : Nat) => ra = x0) D (fun (_ : Unit) => ([(al, .inr (2, [.int (nI mo), .ref ea, .int (nI nn)])), (ea, .inl (cO, cap, .inr (.inr (.inr (.inr fe)))))] : va_W)) (fun (_ : Unit) => ([] : List (ClassId × FieldType))) sz (0) mz (0) (fun (_ : Unit) (t : State) => True) A) (cc := cJx4a65c_get_915e3) (maxL := 2) (ret := (some (.object "java/lang/Object"))) RJx4a65c rfl (by decide) rfl (Nat.le_of_ble_eq_true rfl) ?_
  intro p ev s m below meth c ls A hx hb hr hml hown hts hlocks hnm hsz hmz hN hAe hA hAN hS hP hK hD hG hL hl
  subst hsz
  subst hmz
  have hl : lv_has ls 2 [(0, .ref al), (1, .int (nI ii))] := hl
  refine lv_iload_n hx hb dJx4a65c_get_915e3_0 rfl (lv_at hl 1 rfl) ?_
  refine lv_aload_n hx hb dJx4a65c_get_915e3_1 rfl (lv_at hl 0 rfl) ?_
  refine va_get (D := D) (ci := 2) (v := .int (nI nn)) (C := RJx4a65c) (T := TJx4a65c) (N := 3) hx hb hts (by decide +kernel) hown hK hP 0 rfl rfl 2 (by decide) (hts (.fieldLink RJx4a65c 48 "java/util/ArrayList" "size" "I") (by decide +kernel)) (fun _ h9 => h9) rfl dJx4a65c_get_915e3_2 ?_
  have hFc := va_free (wc := []) hD hS hA [] rfl
  have kc1 : 0 + (0) ≤ 0 := by omega
  have ks2 : 0 + (0) ≤ 0 := by omega
  refine z_calli (wr := [(al, .inr (2, [.int (nI mo), .ref ea, .int (nI nn)])), (ea, .inl (cO, cap, .inr (.inr (.inr (.inr fe)))))]) (va_runS (As := [.int (nI ii), .int (nI nn)]) (rest := []) ⟨hx, hb, hml, hown, hts⟩ (c_ckI l D N0 e s.heap.size (zw s.heap) ii nn (by omega) (by omega)) (va_cwS 2 hts gJx4a65c_get_915e3_J15_checkIndex_7cf53 rfl rfl rfl (by decide +kernel) ⟨Nat.le_of_ble_eq_true rfl, Nat.le_of_ble_eq_true rfl⟩) ⟨zP.blind, (z_pre hK hP hD hS hAN hN hG [] (by decide) rfl [] rfl (fun q hq => absurd hq List.not_mem_nil))⟩ rfl rfl hl.1 rfl (lv_room (Nat.le_of_ble_eq_true rfl)) dJx4a65c_get_915e3_5 ⟨kc1, ks2⟩) hK hP hD hS hA [] rfl [0, 1] rfl (by decide) (by decide) (fun r4 u t H locs ht hvm hw_c3 hY_c3 hz_c3 hm_c3 hk_c3 hK hP hD hS => ?_)
  have hP : va_P D vwCl [(al, .inr (2, [.int (nI mo), .ref ea, .int (nI nn)])), (ea, .inl (cO, cap, .inr (.inr (.inr (.inr fe)))))] H := hP
  have hD : va_D A [(al, .inr (2, [.int (nI mo), .ref ea, .int (nI nn)])), (ea, .inl (cO, cap, .inr (.inr (.inr (.inr fe)))))] := hD
  have hK : va_K D vwCl [(cO, .object "java/lang/Object")] s := hK
  have hs5 := hS.1
  refine W.widen (k := 0) (n := 0) (by omega) (by omega) ?_
  subst hw_c3
  refine lv_pop hx hb dJx4a65c_get_915e3_8 rfl ?_
  refine lv_aload_n hx hb dJx4a65c_get_915e3_9 rfl (lv_at hl 0 rfl) ?_
  refine lv_iload_n hx hb dJx4a65c_get_915e3_10 rfl (lv_at hl 1 rfl) ?_
  have hFc := va_free (wc := [(al, .inr (2, [.int (nI mo), .ref ea, .int (nI nn)])), (ea, .inl (cO, cap, .inr (.inr (.inr (.inr fe)))))]) hD hS hA [0, 1] rfl
  have kc6 : 0 + (0) ≤ 0 := by omega
  have ks7 : 0 + (0) ≤ 0 := by omega
  refine z_callr (wr := []) (va_runV (As := [.int (nI ii)]) (rest := []) ⟨hx, hb, hml, hown, hts⟩ (c_elem l D N0 e H.size (zw H) al mo ea nn cO cap fe ii x0 hcap (by omega) hel) (cwV 1 hts gJx4a65c_get_915e3_Jx4a65c_elementData_915e3 rfl rfl rfl (by decide +kernel) ⟨Nat.le_of_ble_eq_true rfl, Nat.le_of_ble_eq_true rfl⟩) ⟨zP.blind, (va_recv hK hP (ci := 2) (q0 := 0) rfl rfl), (z_pre hK hP hD hS hAN hN hG [0, 1] (by decide) rfl [0] rfl (fun q hq => absurd hq List.not_mem_nil))⟩ rfl rfl hl.1 rfl (lv_room (Nat.le_of_ble_eq_true rfl)) dJx4a65c_get_915e3_11 ⟨kc6, ks7⟩) hK hP hD hS hA [0, 1] rfl [] rfl (by decide) (by decide) (fun u r9 t H locs ht hvm hw_c8 hY_c8 hz_c8 hm_c8 hk_c8 hK hP hD hS => ?_)
  have hP : va_P D vwCl [(al, .inr (2, [.int (nI mo), .ref ea, .int (nI nn)])), (ea, .inl (cO, cap, .inr (.inr (.inr (.inr fe)))))] H := hP
  have hD : va_D A [(al, .inr (2, [.int (nI mo), .ref ea, .int (nI nn)])), (ea, .inl (cO, cap, .inr (.inr (.inr (.inr fe)))))] := hD
  have hK : va_K D vwCl [(cO, .object "java/lang/Object")] s := hK
  have hs10 := hS.1
  refine W.widen (k := 0) (n := 0) (by omega) (by omega) ?_
  obtain rfl : x0 = r9 := Eq.symm hw_c8
  have hz0 := hS.1
  refine z_keepW (fun hkp => ?_)
  exact z_retr (q := x0) () hx hb hr (Or.inl ⟨_, rfl⟩) hlocks rfl hK [] rfl hP hD hS [0, 1] (by decide) rfl (by omega) (zw_keep hkp) (fun _ _ _ => trivial) dJx4a65c_get_915e3_14
set_option maxRecDepth 100000 in
set_option maxHeartbeats 4000000 in
/-- ArraysSupport.newLength: one half more -/
theorem c_newLen (l : Launch) (D : va_G) (N0 : Nat) (e : zE) (sz mz : Nat) (cap : Nat) (h10 : 10 ≤ cap) (hcap : cap ≤ 800) : Met l yJ8_newLength_cabcc wsJ8_newLength_cabcc ({ frames := 1, cells := 0, slots := 0, locals := 40 }) (va_Pc [.int (nI cap), .int (nI 1), .int (nI (cap / 2))] (zP N0 e D [] [] sz mz [])) (zQi (fun (r : Int32) (_ : Unit) => r = (nI (cap + cap / 2))) D (fun (_ : Unit) => ([] : va_W)) (fun (_ : Unit) => ([] : List (ClassId × FieldType))) sz (0) mz (0) (fun (_ : Unit) (t : State) => True) (va_A [] sz)) (0) (0) (va_A [] sz) := by
  refine z_met (Qc := fun A => zQi (fun (r : Int32) (_ : Unit) => r = (nI (cap + cap / 2))) D (fun (_ : Unit) => ([] : va_W)) (fun (_ : Unit) => ([] : List (ClassId × FieldType))) sz (0) mz (0) (fun (_ : Unit) (t : State) => True) A) (cc := cJ8_newLength_cabcc) (maxL := 4) (ret := (some .int)) RJ8 rfl (by decide) rfl (Nat.le_of_ble_eq_true rfl) ?_
  intro p ev s m below meth c ls A hx hb hr hml hown hts hlocks hnm hsz hmz hN hAe hA hAN hS hP hK hD hG hL hl
  subst hsz
  subst hmz
  have hl : lv_has ls 4 [(0, .int (nI cap)), (1, .int (nI 1)), (2, .int (nI (cap / 2)))] := hl
  refine lv_iload_n hx hb dJ8_newLength_cabcc_0 rfl (lv_at hl 0 rfl) ?_
  refine lv_iload_n hx hb dJ8_newLength_cabcc_1 rfl (lv_at hl 1 rfl) ?_
  refine lv_iload_n hx hb dJ8_newLength_cabcc_2 rfl (lv_at hl 2 rfl) ?_
  refine va_mmax hx hb (by rw [hml]; exact hl.1.symm) hown (hts (.methodLink RJ8 194 Lib.Math.max.name) (by decide +kernel)) (hts (.static Lib.Math.max.name) (by decide +kernel)) (hts (.initialized "java/lang/Math") (by decide +kernel)) (hts (.code Lib.Math.max.name Lib.Math.max.code 2 (some .int)) (by decide +kernel)) (Nat.le_of_ble_eq_true rfl) (Nat.le_of_ble_eq_true rfl) (show 0 ≤ 0 by omega) (show 0 ≤ 0 by omega) dJ8_newLength_cabcc_3 ?_
  refine lv_topi (fun t1 et1 => ?_)
  replace et1 := et1.trans (show (if (nI 1) < (nI (cap / 2)) then (nI (cap / 2)) else (nI 1)) = (nI (cap / 2)) from if_pos (nI_lt (by omega) (by omega)))
  subst et1
  refine lv_iadd hx hb dJ8_newLength_cabcc_6 ?_
  refine lv_topi (fun t2 et2 => ?_)
  replace et2 := et2.trans (show ((nI cap) + (nI (cap / 2))) = (nI (cap + cap / 2)) from nI_add _ _)
  subst et2
  refine lv_istore_n (lv' := [(3, .int (nI (cap + cap / 2))), (0, .int (nI cap)), (1, .int (nI 1)), (2, .int (nI (cap / 2)))]) hx hb dJ8_newLength_cabcc_7 rfl hl (by decide) rfl (fun ls hl => ?_)
  refine lv_iconst (v := (nI 0)) hx hb dJ8_newLength_cabcc_8 (by decide) ?_
  refine lv_iload_n hx hb dJ8_newLength_cabcc_9 rfl (lv_at hl 0 rfl) ?_
  refine lv_icmp_ge (tgt := 21) hx hb dJ8_newLength_cabcc_10 (by decide) (fun hq => absurd hq (show ¬ ((nI (cap + cap / 2)) ≤ (nI 0)) from fun hq => absurd ((nI_leI (by omega) (by omega)).mp hq) (by omega))) (fun _ => ?_)
  refine lv_iload_n hx hb dJ8_newLength_cabcc_13 rfl (lv_at hl 0 rfl) ?_
  refine lv_ldc (v := 2147483639) hx hb hown (hts (.constant RJ8 200 (2147483639)) (by decide +kernel)) dJ8_newLength_cabcc_14 ?_
  refine lv_topi (fun t3 et3 => ?_)
  replace et3 := et3.trans (show (2147483639) = (nI 2147483639) from by decide)
  subst et3
  refine lv_icmp_gt (tgt := 21) hx hb dJ8_newLength_cabcc_16 (by decide) (fun hq => absurd hq (show ¬ ((nI 2147483639) < (nI (cap + cap / 2))) from fun hq => absurd ((nI_ltI (by omega) (by omega)).mp hq) (by omega))) (fun _ => ?_)
  refine lv_iload_n hx hb dJ8_newLength_cabcc_19 rfl (lv_at hl 0 rfl) ?_
  have hz0 := hS.1
  refine z_keepW (fun hkp => ?_)
  exact z_reti (v := (nI (cap + cap / 2))) () hx hb hr (by first | rfl | decide) hlocks rfl hK [] rfl hP hD hS [] (by decide) rfl (by omega) (zw_keep hkp) (fun _ _ _ => trivial) dJ8_newLength_cabcc_20
set_option maxRecDepth 100000 in
set_option maxHeartbeats 4000000 in
/-- Arrays.copyOf of objects: a longer row -/
theorem c_cpo2 (l : Launch) (D : va_G) (N0 : Nat) (e : zE) (sz mz : Nat) (ea : Nat) (cO : ClassId) (cap : Nat) (fe : Nat → Option Nat) (nc : Nat) (sa : Nat) (sv : Nat) (sn : Nat) (hcap : cap ≤ 800) (hc1 : cap ≤ nc) (hc2 : nc ≤ 1200) (hall : ∀ i y, fe i = some y → y = sa) : Met l yJ7_copyOf_6403c wsJ7_copyOf_6403c ({ frames := 1, cells := 1, slots := nc, locals := 60 }) (va_Pc [.ref ea, .int (nI nc), .ref ((e.2.2.1 100))] (zP N0 e D [(cO, .object "java/lang/Object")] [(ea, .inl (cO, cap, .inr (.inr (.inr (.inr fe)))))] sz mz [(sa, sv, sn)])) (zQr (fun (u : Nat × ClassId × (Nat → Option Nat)) (ra : Nat) => ra = u.1 ∧ (∀ i, i < cap → u.2.2 i = fe i) ∧ (∀ i y, u.2.2 i = some y → y = sa)) D (fun (u : Nat × ClassId × (Nat → Option Nat)) => ([(ea, .inl (cO, cap, .inr (.inr (.inr (.inr fe))))), (u.1, .inl (u.2.1, nc, .inr (.inr (.inr (.inr u.2.2)))))] : va_W)) (fun (u : Nat × ClassId × (Nat → Option Nat)) => ([(u.2.1, .object "java/lang/Object")] : List (ClassId × FieldType))) sz (0) mz (0) (fun (u : Nat × ClassId × (Nat → Option Nat)) (t : State) => True) (va_A [(ea, .inl (cO, cap, .inr (.inr (.inr (.inr fe)))))] sz)) (1) (nc) (va_A [(ea, .inl (cO, cap, .inr (.inr (.inr (.inr fe)))))] sz) := by
  refine z_met (Qc := fun A => zQr (fun (u : Nat × ClassId × (Nat → Option Nat)) (ra : Nat) => ra = u.1 ∧ (∀ i, i < cap → u.2.2 i = fe i) ∧ (∀ i y, u.2.2 i = some y → y = sa)) D (fun (u : Nat × ClassId × (Nat → Option Nat)) => ([(ea, .inl (cO, cap, .inr (.inr (.inr (.inr fe))))), (u.1, .inl (u.2.1, nc, .inr (.inr (.inr (.inr u.2.2)))))] : va_W)) (fun (u : Nat × ClassId × (Nat → Option Nat)) => ([(u.2.1, .object "java/lang/Object")] : List (ClassId × FieldType))) sz (0) mz (0) (fun (u : Nat × ClassId × (Nat → Option Nat)) (t : State) => True) A) (cc := cJ7_copyOf_6403c) (maxL := 4) (ret := (some (.array (.object "java/lang/Object")))) RJ7 rfl (by decide) rfl (Nat.le_of_ble_eq_true rfl) ?_
  intro p ev s m below meth c ls A hx hb hr hml hown hts hlocks hnm hsz hmz hN hAe hA hAN hS hP hK hD hG hL hl
  subst hsz
  subst hmz
  have hl : lv_has ls 4 [(0, .ref ea), (1, .int (nI nc)), (2, .ref ((e.2.2.1 100)))] := hl
  have zH_sa : zs sa sv (sn) A s s.heap := hL (sa, sv, sn) (by simp)
  obtain ⟨z1_sa, z2_sa, z3_sa, zf_sa, z4_sa, z5_sa⟩ := id zH_sa
  have zna_sa := zH_sa.na
  have znv_sa := zH_sa.nv
  refine lv_aload_n hx hb dJ7_copyOf_6403c_0 rfl (lv_at hl 2 rfl) ?_
  refine va_ldcM hx hb hown (hts (.classLink RJ7 110 "[Ljava/lang/Object;") (by decide +kernel)) hG.mi dJ7_copyOf_6403c_1 ?_
  refine lv_acmp_ne (rx := some (e.2.2.1 100)) (ry := some (e.2.2.1 100)) (tgt := 13) hx hb dJ7_copyOf_6403c_3 (by decide) (fun hq => absurd rfl hq) (fun _ => ?_)
  refine lv_iload_n hx hb dJ7_copyOf_6403c_6 rfl (lv_at hl 1 rfl) ?_
  have kc1 : 0 + 1 ≤ 1 := by omega
  have ks2 : 0 + (nc) ≤ nc := by omega
  refine va_newq hx hb hown (hts (.classLink RJ7 2 "java/lang/Object") (by decide +kernel)) hG.ao hK hP hD hS hA (nI_pos (by omega)) (nI_clamp (by omega)) (by omega) kc1 ks2 dJ7_copyOf_6403c_7 (fun qn cn2 H hK hP hD hS => ?_)
  have hP : va_P D vwCl [(ea, .inl (cO, cap, .inr (.inr (.inr (.inr fe))))), (qn, .inl (cn2, nc, .inr (.inr (.inr (.inr (fun _ => none))))))] H := hP
  have hD : va_D A [(ea, .inl (cO, cap, .inr (.inr (.inr (.inr fe))))), (qn, .inl (cn2, nc, .inr (.inr (.inr (.inr (fun _ => none))))))] := hD
  have hK : va_K D vwCl [(cO, .object "java/lang/Object"), (cn2, .object "java/lang/Object")] s := hK
  have hs3 := hS.1
  refine W.widen (k := 1) (n := (nc)) (by omega) (by omega) ?_
  refine lv_goto (tgt := 24) hx hb dJ7_copyOf_6403c_10 (by decide) ?_
  refine lv_astore_n (lv' := [(3, .ref qn), (0, .ref ea), (1, .int (nI nc)), (2, .ref ((e.2.2.1 100)))]) hx hb dJ7_copyOf_6403c_24 rfl hl (by decide) rfl (fun ls hl => ?_)
  refine lv_aload_n hx hb dJ7_copyOf_6403c_25 rfl (lv_at hl 1 rfl) ?_
  refine lv_iconst (v := (nI 0)) hx hb dJ7_copyOf_6403c_26 (by decide) ?_
  refine lv_aload_n hx hb dJ7_copyOf_6403c_27 rfl (lv_at hl 0 rfl) ?_
  refine lv_iconst (v := (nI 0)) hx hb dJ7_copyOf_6403c_28 (by decide) ?_
  refine lv_aload_n hx hb dJ7_copyOf_6403c_29 rfl (lv_at hl 1 rfl) ?_
  refine va_alen (v := nI (cap)) hx hb hK hP 0 0 rfl rfl rfl dJ7_copyOf_6403c_30 ?_
  refine lv_iload_n hx hb dJ7_copyOf_6403c_31 rfl (lv_at hl 2 rfl) ?_
  refine va_mmin hx hb (by rw [hml]; exact hl.1.symm) hown (hts (.methodLink RJ7 304 Lib.Math.min.name) (by decide +kernel)) (hts (.static Lib.Math.min.name) (by decide +kernel)) (hts (.initialized "java/lang/Math") (by decide +kernel)) (hts (.code Lib.Math.min.name Lib.Math.min.code 2 (some .int)) (by decide +kernel)) (Nat.le_of_ble_eq_true rfl) (Nat.le_of_ble_eq_true rfl) (show 1 ≤ 1 by omega) (show (nc) ≤ nc by omega) dJ7_copyOf_6403c_32 ?_
  refine lv_topi (fun t4 et4 => ?_)
  replace et4 := et4.trans (show (if (nI nc) < (nI cap) then (nI nc) else (nI cap)) = (nI cap) from if_neg (nI_nlt (by omega) (by omega)))
  subst et4
  refine va_copyq (C := RJ0) hx hb (by rw [hml]; exact hl.1.symm) hown (hts (.methodLink RJ7 150 arraycopyName) (by decide +kernel)) (hts (.native arraycopyName) (by decide +kernel)) (hts (.static arraycopyName) (by decide +kernel)) (hts (.initialized "java/lang/System") (by decide +kernel)) hK hP hD hS 0 1 0 1 rfl rfl rfl rfl (nI_pos (by omega)) (nI_pos (by omega)) (nI_pos (by omega)) (by rw [nI_clamp (by omega), nI_clamp (by omega)]; omega) (by rw [nI_clamp (by omega), nI_clamp (by omega)]; omega) (fun i hi y hy => by rw [hall _ y hy]; exact zrecv (zstart zH_sa hS)) (vb_asgC hG.cast) (Nat.le_of_ble_eq_true rfl) (Nat.le_of_ble_eq_true rfl) dJ7_copyOf_6403c_35 (fun H locs hP hD hS => ?_)
  simp only [nI_clamp (show 0 < 2 ^ 31 by omega), nI_clamp (show 0 < 2 ^ 31 by omega), nI_clamp (show cap < 2 ^ 31 by omega)] at hP hD
  have hf2 : (∀ i, i < cap → va_cpy fe (fun _ => none) 0 0 cap i = fe i) ∧ (∀ i y, va_cpy fe (fun _ => none) 0 0 cap i = some y → y = sa) := z_cpyq hall
  generalize va_cpy fe (fun _ => none) 0 0 cap = f2 at hP hD hf2
  have hP : va_P D vwCl [(ea, .inl (cO, cap, .inr (.inr (.inr (.inr fe))))), (qn, .inl (cn2, nc, .inr (.inr (.inr (.inr f2)))))] H := hP
  have hD : va_D A [(ea, .inl (cO, cap, .inr (.inr (.inr (.inr fe))))), (qn, .inl (cn2, nc, .inr (.inr (.inr (.inr f2)))))] := hD
  have hs5 := hS.1
  refine lv_aload_n hx hb dJ7_copyOf_6403c_38 rfl (lv_at hl 0 rfl) ?_
  refine W.widen (k := (1)) (n := (nc)) (by omega) (by omega) ?_
  have hz0 := hS.1
  refine z_keepW (fun hkp => ?_)
  exact z_retr (q := qn) (qn, cn2, f2) hx hb hr (Or.inr ⟨_, rfl⟩) hlocks (show qn = qn ∧ (∀ i, i < cap → f2 i = fe i) ∧ (∀ i y, f2 i = some y → y = sa) from ⟨rfl, hf2⟩) hK [1] rfl hP hD hS [0, 1] (by decide) rfl (by omega) (zw_keep hkp) (fun _ _ _ => trivial) dJ7_copyOf_6403c_39
set_option maxRecDepth 100000 in
set_option maxHeartbeats 4000000 in
/-- Arrays.copyOf of objects -/
theorem c_cpo1 (l : Launch) (D : va_G) (N0 : Nat) (e : zE) (sz mz : Nat) (ea : Nat) (cO : ClassId) (cap : Nat) (fe : Nat → Option Nat) (nc : Nat) (sa : Nat) (sv : Nat) (sn : Nat) (hcap : cap ≤ 800) (hc1 : cap ≤ nc) (hc2 : nc ≤ 1200) (hall : ∀ i y, fe i = some y → y = sa) : Met l yJ7_copyOf_1904c wsJ7_copyOf_1904c ({ frames := 2, cells := 1, slots := nc, locals := 83 }) (va_Pc [.ref ea, .int (nI nc)] (zP N0 e D [(cO, .object "java/lang/Object")] [(ea, .inl (cO, cap, .inr (.inr (.inr (.inr fe)))))] sz mz [(sa, sv, sn)])) (zQr (fun (u : Nat × ClassId × (Nat → Option Nat)) (ra : Nat) => ra = u.1 ∧ (∀ i, i < cap → u.2.2 i = fe i) ∧ (∀ i y, u.2.2 i = some y → y = sa)) D (fun (u : Nat × ClassId × (Nat → Option Nat)) => ([(ea, .inl (cO, cap, .inr (.inr (.inr (.inr fe))))), (u.1, .inl (u.2.1, nc, .inr (.inr (.inr (.inr u.2.2)))))] : va_W)) (fun (u : Nat × ClassId × (Nat → Option Nat)) => ([(u.2.1, .object "java/lang/Object")] : List (ClassId × FieldType))) sz (0) mz (0) (fun (u : Nat × ClassId × (Nat → Option Nat)) (t : State) => True) (va_A [(ea, .inl (cO, cap, .inr (.inr (.inr (.inr fe)))))] sz)) (1) (nc) (va_A [(ea, .inl (cO, cap, .inr (.inr (.inr (.inr fe)))))] sz) := by
  refine z_met (Qc := fun A => zQr (fun (u : Nat × ClassId × (Nat → Option Nat)) (ra : Nat) => ra = u.1 ∧ (∀ i, i < cap → u.2.2 i = fe i) ∧ (∀ i y, u.2.2 i = some y → y = sa)) D (fun (u : Nat × ClassId × (Nat → Option Nat)) => ([(ea, .inl (cO, cap, .inr (.inr (.inr (.inr fe))))), (u.1, .inl (u.2.1, nc, .inr (.inr (.inr (.inr u.2.2)))))] : va_W)) (fun (u : Nat × ClassId × (Nat → Option Nat)) => ([(u.2.1, .object "java/lang/Object")] : List (ClassId × FieldType))) sz (0) mz (0) (fun (u : Nat × ClassId × (Nat → Option Nat)) (t : State) => True) A) (cc := cJ7_copyOf_1904c) (maxL := 2) (ret := (some (.array (.object "java/lang/Object")))) RJ7 rfl (by decide) rfl (Nat.le_of_ble_eq_true rfl) ?_
  intro p ev s m below meth c ls A hx hb hr hml hown hts hlocks hnm hsz hmz hN hAe hA hAN hS hP hK hD hG hL hl
  subst hsz
  subst hmz
  have hl : lv_has ls 2 [(0, .ref ea), (1, .int (nI nc))] := hl
  have zH_sa : zs sa sv (sn) A s s.heap := hL (sa, sv, sn) (by simp)
  obtain ⟨z1_sa, z2_sa, z3_sa, zf_sa, z4_sa, z5_sa⟩ := id zH_sa
  have zna_sa := zH_sa.na
  have znv_sa := zH_sa.nv
  refine lv_aload_n hx hb dJ7_copyOf_1904c_0 rfl (lv_at hl 0 rfl) ?_
  refine lv_iload_n hx hb dJ7_copyOf_1904c_1 rfl (lv_at hl 1 rfl) ?_
  refine lv_aload_n hx hb dJ7_copyOf_1904c_2 rfl (lv_at hl 0 rfl) ?_
  refine va_getC (C := "[Ljava/lang/Object;") hx hb (by rw [hml]; exact hl.1.symm) hown (hts (.methodLink RJ7 86 ⟨"java/lang/Object", "getClass", "()Ljava/lang/Class;"⟩) (by decide +kernel)) hG.dc.use (hts (.selects "[Ljava/lang/Object;" ⟨"java/lang/Object", "getClass", "()Ljava/lang/Class;"⟩ ⟨"java/lang/Object", "getClass", "()Ljava/lang/Class;"⟩) (by decide +kernel)) (hts (.instanceMethod ⟨"java/lang/Object", "getClass", "()Ljava/lang/Class;"⟩) (by decide +kernel)) (hts (.native ⟨"java/lang/Object", "getClass", "()Ljava/lang/Class;"⟩) (by decide +kernel)) hG.mi ⟨_, hP 0 _ rfl, rfl, (va_nmO (hK.2 0 _ rfl).2 rfl)⟩ (Nat.le_of_ble_eq_true rfl) (Nat.le_of_ble_eq_true rfl) dJ7_copyOf_1904c_3 ?_
  have hFc := va_free (wc := [(ea, .inl (cO, cap, .inr (.inr (.inr (.inr fe)))))]) hD hS hA [0] rfl
  have kc1 : 0 + (1) ≤ 1 := by omega
  have ks2 : 0 + (nc) ≤ nc := by omega
  refine z_callr (wr := []) (va_runS (As := [.ref ea, .int (nI nc), .ref ((e.2.2.1 100))]) (rest := []) ⟨hx, hb, hml, hown, hts⟩ (c_cpo2 l D N0 e s.heap.size (zw s.heap) ea cO cap fe nc sa sv sn hcap hc1 hc2 hall) (va_cwS 3 hts gJ7_copyOf_1904c_J7_copyOf_6403c rfl rfl rfl (by decide +kernel) ⟨Nat.le_of_ble_eq_true rfl, Nat.le_of_ble_eq_true rfl⟩) ⟨zP.blind, (z_pre hK hP hD hS hAN hN hG [0] (by decide) rfl [0] rfl (List.forall_mem_cons.mpr ⟨((zstart zH_sa hS).wall (z_inA zna_sa hFc) (z_inA znv_sa hFc)), fun q hq => absurd hq List.not_mem_nil⟩))⟩ rfl rfl hl.1 rfl (lv_room (Nat.le_of_ble_eq_true rfl)) dJ7_copyOf_1904c_6 ⟨kc1, ks2⟩) hK hP hD hS hA [0] rfl [] rfl (by decide) (by decide) (fun u r4 t H locs ht hvm hw_c3 hY_c3 hz_c3 hm_c3 hk_c3 hK hP hD hS => ?_)
  obtain ⟨qn, cn2, f2⟩ := u
  try dsimp only at hw_c3 hY_c3
  have hP : va_P D vwCl [(ea, .inl (cO, cap, .inr (.inr (.inr (.inr fe))))), (qn, .inl (cn2, nc, .inr (.inr (.inr (.inr f2)))))] H := hP
  have hD : va_D A [(ea, .inl (cO, cap, .inr (.inr (.inr (.inr fe))))), (qn, .inl (cn2, nc, .inr (.inr (.inr (.inr f2)))))] := hD
  have hK : va_K D vwCl [(cO, .object "java/lang/Object"), (cn2, .object "java/lang/Object")] s := hK
  have hs5 := hS.1
  refine W.widen (k := 1) (n := (nc)) (by omega) (by omega) ?_
  obtain rfl : qn = r4 := Eq.symm hw_c3.1
  have hf2 := hw_c3.2
  refine W.widen (k := (1)) (n := (nc)) (by omega) (by omega) ?_
  have hz0 := hS.1
  refine z_keepW (fun hkp => ?_)
  exact z_retr (q := qn) (qn, cn2, f2) hx hb hr (Or.inr ⟨_, rfl⟩) hlocks (show qn = qn ∧ (∀ i, i < cap → f2 i = fe i) ∧ (∀ i y, f2 i = some y → y = sa) from ⟨rfl, hf2⟩) hK [1] rfl hP hD hS [0, 1] (by decide) rfl (by omega) (zw_keep hkp) (fun _ _ _ => trivial) dJ7_copyOf_1904c_9
set_option maxRecDepth 100000 in
set_option maxHeartbeats 4000000 in
/-- grow(int): the row is full -/
theorem c_grow1 (l : Launch) (D : va_G) (N0 : Nat) (e : zE) (sz mz : Nat) (al : Nat) (mo : Nat) (ea : Nat) (cO : ClassId) (cap : Nat) (fe : Nat → Option Nat) (sa : Nat) (sv : Nat) (sn : Nat) (h10 : 10 ≤ cap) (hcap : cap ≤ 800) (hall : ∀ i y, fe i = some y → y = sa) : Met l yJx4a65c_grow_92f84 wsJx4a65c_grow_92f84 ({ frames := 3, cells := 1, slots := 1200, locals := 104 }) (va_Pc [.ref al, .int (nI (cap + 1))] (zP N0 e D [(cO, .object "java/lang/Object")] [(al, .inr (2, [.int (nI mo), .ref ea, .int (nI cap)])), (ea, .inl (cO, cap, .inr (.inr (.inr (.inr fe)))))] sz mz [(sa, sv, sn)])) (zQr (fun (u : Nat × ClassId × (Nat → Option Nat)) (ra : Nat) => ra = u.1 ∧ (∀ i, i < cap → u.2.2 i = fe i) ∧ (∀ i y, u.2.2 i = some y → y = sa)) D (fun (u : Nat × ClassId × (Nat → Option Nat)) => ([(al, .inr (2, [.int (nI mo), .ref u.1, .int (nI cap)])), (u.1, .inl (u.2.1, cap + cap / 2, .inr (.inr (.inr (.inr u.2.2)))))] : va_W)) (fun (u : Nat × ClassId × (Nat → Option Nat)) => ([(u.2.1, .object "java/lang/Object")] : List (ClassId × FieldType))) sz (0) mz (0) (fun (u : Nat × ClassId × (Nat → Option Nat)) (t : State) => True) (va_A [(al, .inr (2, [.int (nI mo), .ref ea, .int (nI cap)])), (ea, .inl (cO, cap, .inr (.inr (.inr (.inr fe)))))] sz)) (1) (1200) (va_A [(al, .inr (2, [.int (nI mo), .ref ea, .int (nI cap)])), (ea, .inl (cO, cap, .inr (.inr (.inr (.inr fe)))))] sz) := by
  refine z_met (Qc := fun A => zQr (fun (u : Nat × ClassId × (Nat → Option Nat)) (ra : Nat) => ra = u.1 ∧ (∀ i, i < cap → u.2.2 i = fe i) ∧ (∀ i y, u.2.2 i = some y → y = sa)) D (fun (u : Nat × ClassId × (Nat → Option Nat)) => ([(al, .inr (2, [.int (nI mo), .ref u.1, .int (nI cap)])), (u.1, .inl (u.2.1, cap + cap / 2, .inr (.inr (.inr (.inr u.2.2)))))] : va_W)) (fun (u : Nat × ClassId × (Nat → Option Nat)) => ([(u.2.1, .object "java/lang/Object")] : List (ClassId × FieldType))) sz (0) mz (0) (fun (u : Nat × ClassId × (Nat → Option Nat)) (t : State) => True) A) (cc := cJx4a65c_grow_92f84) (maxL := 4) (ret := (some (.array (.object "java/lang/Object")))) RJx4a65c rfl (by decide) rfl (Nat.le_of_ble_eq_true rfl) ?_
  intro p ev s m below meth c ls A hx hb hr hml hown hts hlocks hnm hsz hmz hN hAe hA hAN hS hP hK hD hG hL hl
  subst hsz
  subst hmz
  have hl : lv_has ls 4 [(0, .ref al), (1, .int (nI (cap + 1)))] := hl
  have zH_sa : zs sa sv (sn) A s s.heap := hL (sa, sv, sn) (by simp)
  obtain ⟨z1_sa, z2_sa, z3_sa, zf_sa, z4_sa, z5_sa⟩ := id zH_sa
  have zna_sa := zH_sa.na
  have znv_sa := zH_sa.nv
  refine lv_aload_n hx hb dJx4a65c_grow_92f84_0 rfl (lv_at hl 0 rfl) ?_
  refine va_get (D := D) (ci := 2) (v := .ref ea) (C := RJx4a65c) (T := TJx4a65c) (N := 3) hx hb hts (by decide +kernel) hown hK hP 0 rfl rfl 1 (by decide) (hts (.fieldLink RJx4a65c 9 "java/util/ArrayList" "elementData" "[Ljava/lang/Object;") (by decide +kernel)) (fun _ h9 => h9) rfl dJx4a65c_grow_92f84_1 ?_
  refine va_alen (v := nI (cap)) hx hb hK hP 1 0 rfl rfl rfl dJx4a65c_grow_92f84_4 ?_
  refine lv_istore_n (lv' := [(2, .int (nI cap)), (0, .ref al), (1, .int (nI (cap + 1)))]) hx hb dJx4a65c_grow_92f84_5 rfl hl (by decide) rfl (fun ls hl => ?_)
  refine lv_iload_n hx hb dJx4a65c_grow_92f84_6 rfl (lv_at hl 0 rfl) ?_
  refine lv_if_gt (tgt := 20) hx hb dJx4a65c_grow_92f84_7 (by decide) (fun _ => ?_) (fun hq => absurd (show (nI 0) < (nI cap) from (nI_ltI (by omega) (by omega)).mpr (by omega)) hq)
  refine lv_iload_n hx hb dJx4a65c_grow_92f84_20 rfl (lv_at hl 0 rfl) ?_
  refine lv_iload_n hx hb dJx4a65c_grow_92f84_21 rfl (lv_at hl 2 rfl) ?_
  refine lv_iload_n hx hb dJx4a65c_grow_92f84_22 rfl (lv_at hl 0 rfl) ?_
  refine lv_isub hx hb dJx4a65c_grow_92f84_23 ?_
  refine lv_topi (fun t1 et1 => ?_)
  replace et1 := et1.trans (show ((nI (cap + 1)) - (nI cap)) = (nI 1) from (z_sub (by omega)).trans (congrArg nI (by omega)))
  subst et1
  refine lv_iload_n hx hb dJx4a65c_grow_92f84_24 rfl (lv_at hl 0 rfl) ?_
  refine lv_iconst (v := (nI 1)) hx hb dJx4a65c_grow_92f84_25 (by decide) ?_
  refine lv_ishr hx hb dJx4a65c_grow_92f84_26 ?_
  refine lv_topi (fun t2 et2 => ?_)
  replace et2 := et2.trans (show ((nI cap) >>> ((nI 1) &&& 31)) = (nI (cap / 2)) from pk_shrN (by omega) _ 1 (by decide))
  subst et2
  have hFc := va_free (wc := []) hD hS hA [] rfl
  have kc3 : 0 + (0) ≤ 1 := by omega
  have ks4 : 0 + (0) ≤ 1200 := by omega
  refine z_calli (wr := [(al, .inr (2, [.int (nI mo), .ref ea, .int (nI cap)])), (ea, .inl (cO, cap, .inr (.inr (.inr (.inr fe)))))]) (va_runS (As := [.int (nI cap), .int (nI 1), .int (nI (cap / 2))]) (rest := []) ⟨hx, hb, hml, hown, hts⟩ (c_newLen l D N0 e s.heap.size (zw s.heap) cap h10 hcap) (va_cwS 3 hts gJx4a65c_grow_92f84_J8_newLength_cabcc rfl rfl rfl (by decide +kernel) ⟨Nat.le_of_ble_eq_true rfl, Nat.le_of_ble_eq_true rfl⟩) ⟨zP.blind, (z_pre hK hP hD hS hAN hN hG [] (by decide) rfl [] rfl (fun q hq => absurd hq List.not_mem_nil))⟩ rfl rfl hl.1 rfl (lv_room (Nat.le_of_ble_eq_true rfl)) dJx4a65c_grow_92f84_27 ⟨kc3, ks4⟩) hK hP hD hS hA [] rfl [0, 1] rfl (by decide) (by decide) (fun r6 u t H locs ht hvm hw_c5 hY_c5 hz_c5 hm_c5 hk_c5 hK hP hD hS => ?_)
  have hP : va_P D vwCl [(al, .inr (2, [.int (nI mo), .ref ea, .int (nI cap)])), (ea, .inl (cO, cap, .inr (.inr (.inr (.inr fe)))))] H := hP
  have hD : va_D A [(al, .inr (2, [.int (nI mo), .ref ea, .int (nI cap)])), (ea, .inl (cO, cap, .inr (.inr (.inr (.inr fe)))))] := hD
  have hK : va_K D vwCl [(cO, .object "java/lang/Object")] s := hK
  have hs7 := hS.1
  refine W.widen (k := 0) (n := 0) (by omega) (by omega) ?_
  subst hw_c5
  refine lv_istore_n (lv' := [(3, .int (nI (cap + cap / 2))), (2, .int (nI cap)), (0, .ref al), (1, .int (nI (cap + 1)))]) hx hb dJx4a65c_grow_92f84_30 rfl hl (by decide) rfl (fun ls hl => ?_)
  refine lv_aload_n hx hb dJx4a65c_grow_92f84_31 rfl (lv_at hl 2 rfl) ?_
  refine lv_aload_n hx hb dJx4a65c_grow_92f84_32 rfl (lv_at hl 2 rfl) ?_
  refine va_get (D := D) (ci := 2) (v := .ref ea) (C := RJx4a65c) (T := TJx4a65c) (N := 3) hx hb hts (by decide +kernel) hown hK hP 0 rfl rfl 1 (by decide) (hts (.fieldLink RJx4a65c 9 "java/util/ArrayList" "elementData" "[Ljava/lang/Object;") (by decide +kernel)) (fun _ h9 => h9) rfl dJx4a65c_grow_92f84_33 ?_
  refine lv_iload_n hx hb dJx4a65c_grow_92f84_36 rfl (lv_at hl 0 rfl) ?_
  have hFc := va_free (wc := [(ea, .inl (cO, cap, .inr (.inr (.inr (.inr fe)))))]) hD hS hA [1] rfl
  have kc8 : 0 + (1) ≤ 1 := by omega
  have ks9 : 0 + ((cap + cap / 2)) ≤ 1200 := by omega
  refine z_callr (wr := [(al, .inr (2, [.int (nI mo), .ref ea, .int (nI cap)]))]) (va_runS (As := [.ref ea, .int (nI (cap + cap / 2))]) (rest := [.ref al]) ⟨hx, hb, hml, hown, hts⟩ (c_cpo1 l D N0 e H.size (zw H) ea cO cap fe (cap + cap / 2) sa sv sn hcap (by omega) (by omega) hall) (va_cwS 2 hts gJx4a65c_grow_92f84_J7_copyOf_1904c rfl rfl rfl (by decide +kernel) ⟨Nat.le_of_ble_eq_true rfl, Nat.le_of_ble_eq_true rfl⟩) ⟨zP.blind, (z_pre hK hP hD hS hAN hN hG [1] (by decide) rfl [0] rfl (List.forall_mem_cons.mpr ⟨((zstart zH_sa hS).wall (z_inA zna_sa hFc) (z_inA znv_sa hFc)), fun q hq => absurd hq List.not_mem_nil⟩))⟩ rfl rfl hl.1 rfl (lv_room (Nat.le_of_ble_eq_true rfl)) dJx4a65c_grow_92f84_37 ⟨kc8, ks9⟩) hK hP hD hS hA [1] rfl [0] rfl (by decide) (by decide) (fun u r11 t H locs ht hvm hw_c10 hY_c10 hz_c10 hm_c10 hk_c10 hK hP hD hS => ?_)
  obtain ⟨qn, cn2, f2⟩ := u
  try dsimp only at hw_c10 hY_c10
  have hP : va_P D vwCl [(al, .inr (2, [.int (nI mo), .ref ea, .int (nI cap)])), (ea, .inl (cO, cap, .inr (.inr (.inr (.inr fe))))), (qn, .inl (cn2, cap + cap / 2, .inr (.inr (.inr (.inr f2)))))] H := hP
  have hD : va_D A [(al, .inr (2, [.int (nI mo), .ref ea, .int (nI cap)])), (ea, .inl (cO, cap, .inr (.inr (.inr (.inr fe))))), (qn, .inl (cn2, cap + cap / 2, .inr (.inr (.inr (.inr f2)))))] := hD
  have hK : va_K D vwCl [(cO, .object "java/lang/Object"), (cn2, .object "java/lang/Object")] s := hK
  have hs12 := hS.1
  refine W.widen (k := 1) (n := ((cap + cap / 2))) (by omega) (by omega) ?_
  obtain rfl : qn = r11 := Eq.symm hw_c10.1
  have hf2 := hw_c10.2
  refine lv_dup_x1 hx hb dJx4a65c_grow_92f84_40 rfl rfl ?_
  refine va_put (D := D) (ci := 2) (v := .ref qn) (ty := .array (.object "java/lang/Object")) (C := RJx4a65c) (T := TJx4a65c) (N := 3) hx hb hts (by decide +kernel) tyJx4a65c tyJx4a65c_ok nmJx4a65c hown hK hP hD hS 0 rfl rfl 1 (by decide) (hts (.fieldLink RJx4a65c 9 "java/util/ArrayList" "elementData" "[Ljava/lang/Object;") (by decide +kernel)) (fun _ h9 => h9) rfl (by decide +kernel) rfl rfl (Nat.le_of_ble_eq_true rfl) dJx4a65c_grow_92f84_41 (fun H locs hP hD hS => ?_)
  have hP : va_P D vwCl [(al, .inr (2, [.int (nI mo), .ref qn, .int (nI cap)])), (ea, .inl (cO, cap, .inr (.inr (.inr (.inr fe))))), (qn, .inl (cn2, cap + cap / 2, .inr (.inr (.inr (.inr f2)))))] H := hP
  have hD : va_D A [(al, .inr (2, [.int (nI mo), .ref qn, .int (nI cap)])), (ea, .inl (cO, cap, .inr (.inr (.inr (.inr fe))))), (qn, .inl (cn2, cap + cap / 2, .inr (.inr (.inr (.inr f2)))))] := hD
  have hs13 := hS.1
  refine W.widen (k := (1)) (n := (1200)) (by omega) (by omega) ?_
  have hz0 := hS.1
  refine z_keepW (fun hkp => ?_)
  exact z_retr (q := qn) (qn, cn2, f2) hx hb hr (Or.inr ⟨_, rfl⟩) hlocks (show qn = qn ∧ (∀ i, i < cap → f2 i = fe i) ∧ (∀ i y, f2 i = some y → y = sa) from ⟨rfl, hf2⟩) hK [1] rfl hP hD hS [0, 2] (by decide) rfl (by omega) (zw_keep hkp) (fun _ _ _ => trivial) dJx4a65c_grow_92f84_44
set_option maxRecDepth 100000 in
set_option maxHeartbeats 4000000 in
/-- grow(): the row is full -/
theorem c_grow0 (l : Launch) (D : va_G) (N0 : Nat) (e : zE) (sz mz : Nat) (al : Nat) (mo : Nat) (ea : Nat) (cO : ClassId) (cap : Nat) (fe : Nat → Option Nat) (sa : Nat) (sv : Nat) (sn : Nat) (h10 : 10 ≤ cap) (hcap : cap ≤ 800) (hall : ∀ i y, fe i = some y → y = sa) : Met l yJx4a65c_grow_d5877 wsJx4a65c_grow_d5877 ({ frames := 4, cells := 1, slots := 1200, locals := 127 }) (va_Pc [.ref al] (zP N0 e D [(cO, .object "java/lang/Object")] [(al, .inr (2, [.int (nI mo), .ref ea, .int (nI cap)])), (ea, .inl (cO, cap, .inr (.inr (.inr (.inr fe)))))] sz mz [(sa, sv, sn)])) (zQr (fun (u : Nat × ClassId × (Nat → Option Nat)) (ra : Nat) => ra = u.1 ∧ (∀ i, i < cap → u.2.2 i = fe i) ∧ (∀ i y, u.2.2 i = some y → y = sa)) D (fun (u : Nat × ClassId × (Nat → Option Nat)) => ([(al, .inr (2, [.int (nI mo), .ref u.1, .int (nI cap)])), (u.1, .inl (u.2.1, cap + cap / 2, .inr (.inr (.inr (.inr u.2.2)))))] : va_W)) (fun (u : Nat × ClassId × (Nat → Option Nat)) => ([(u.2.1, .object "java/lang/Object")] : List (ClassId × FieldType))) sz (0) mz (0) (fun (u : Nat × ClassId × (Nat → Option Nat)) (t : State) => True) (va_A [(al, .inr (2, [.int (nI mo), .ref ea, .int (nI cap)])), (ea, .inl (cO, cap, .inr (.inr (.inr (.inr fe)))))] sz)) (1) (1200) (va_A [(al, .inr (2, [.int (nI mo), .ref ea, .int (nI cap)])), (ea, .inl (cO, cap, .inr (.inr (.inr (.inr fe)))))] sz) := by
  refine z_met (Qc := fun A => zQr (fun (u : Nat × ClassId × (Nat → Option Nat)) (ra : Nat) => ra = u.1 ∧ (∀ i, i < cap → u.2.2 i = fe i) ∧ (∀ i y, u.2.2 i = some y → y = sa)) D (fun (u : Nat × ClassId × (Nat → Option Nat)) => ([(al, .inr (2, [.int (nI mo), .ref u.1, .int (nI cap)])), (u.1, .inl (u.2.1, cap + cap / 2, .inr (.inr (.inr (.inr u.2.2)))))] : va_W)) (fun (u : Nat × ClassId × (Nat → Option Nat)) => ([(u.2.1, .object "java/lang/Object")] : List (ClassId × FieldType))) sz (0) mz (0) (fun (u : Nat × ClassId × (Nat → Option Nat)) (t : State) => True) A) (cc := cJx4a65c_grow_d5877) (maxL := 1) (ret := (some (.array (.object "java/lang/Object")))) RJx4a65c rfl (by decide) rfl (Nat.le_of_ble_eq_true rfl) ?_
  intro p ev s m below meth c ls A hx hb hr hml hown hts hlocks hnm hsz hmz hN hAe hA hAN hS hP hK hD hG hL hl
  subst hsz
  subst hmz
  have hl : lv_has ls 1 [(0, .ref al)] := hl
  have zH_sa : zs sa sv (sn) A s s.heap := hL (sa, sv, sn) (by simp)
  obtain ⟨z1_sa, z2_sa, z3_sa, zf_sa, z4_sa, z5_sa⟩ := id zH_sa
  have zna_sa := zH_sa.na
  have znv_sa := zH_sa.nv
  refine lv_aload_n hx hb dJx4a65c_grow_d5877_0 rfl (lv_at hl 0 rfl) ?_
  refine lv_aload_n hx hb dJx4a65c_grow_d5877_1 rfl (lv_at hl 0 rfl) ?_
  refine va_get (D := D) (ci := 2) (v := .int (nI cap)) (C := RJx4a65c) (T := TJx4a65c) (N := 3) hx hb hts (by decide +kernel) hown hK hP 0 rfl rfl 2 (by decide) (hts (.fieldLink RJx4a65c 48 "java/util/ArrayList" "size" "I") (by decide +kernel)) (fun _ h9 => h9) rfl dJx4a65c_grow_d5877_2 ?_
  refine lv_iconst (v := (nI 1)) hx hb dJx4a65c_grow_d5877_5 (by decide) ?_
  refine lv_iadd hx hb dJx4a65c_grow_d5877_6 ?_
  refine lv_topi (fun t1 et1 => ?_)
  replace et1 := et1.trans (show ((nI cap) + (nI 1)) = (nI (cap + 1)) from nI_add _ _)
  subst et1
  have hFc := va_free (wc := [(al, .inr (2, [.int (nI mo), .ref ea, .int (nI cap)])), (ea, .inl (cO, cap, .inr (.inr (.inr (.inr fe)))))]) hD hS hA [0, 1] rfl
  have kc2 : 0 + (1) ≤ 1 := by omega
  have ks3 : 0 + (1200) ≤ 1200 := by omega
  refine z_callr (wr := []) (va_runV (As := [.int (nI (cap + 1))]) (rest := []) ⟨hx, hb, hml, hown, hts⟩ (c_grow1 l D N0 e s.heap.size (zw s.heap) al mo ea cO cap fe sa sv sn h10 hcap hall) (cwV 1 hts gJx4a65c_grow_d5877_Jx4a65c_grow_92f84 rfl rfl rfl (by decide +kernel) ⟨Nat.le_of_ble_eq_true rfl, Nat.le_of_ble_eq_true rfl⟩) ⟨zP.blind, (va_recv hK hP (ci := 2) (q0 := 0) rfl rfl), (z_pre hK hP hD hS hAN hN hG [0, 1] (by decide) rfl [0] rfl (List.forall_mem_cons.mpr ⟨((zstart zH_sa hS).wall (z_inA zna_sa hFc) (z_inA znv_sa hFc)), fun q hq => absurd hq List.not_mem_nil⟩))⟩ rfl rfl hl.1 rfl (lv_room (Nat.le_of_ble_eq_true rfl)) dJx4a65c_grow_d5877_7 ⟨kc2, ks3⟩) hK hP hD hS hA [0, 1] rfl [] rfl (by decide) (by decide) (fun u r5 t H locs ht hvm hw_c4 hY_c4 hz_c4 hm_c4 hk_c4 hK hP hD hS => ?_)
  obtain ⟨qn, cn2, f2⟩ := u
  try dsimp only at hw_c4 hY_c4
  have hP : va_P D vwCl [(al, .inr (2, [.int (nI mo), .ref qn, .int (nI cap)])), (qn, .inl (cn2, cap + cap / 2, .inr (.inr (.inr (.inr f2)))))] H := hP
  have hD : va_D A [(al, .inr (2, [.int (nI mo), .ref qn, .int (nI cap)])), (qn, .inl (cn2, cap + cap / 2, .inr (.inr (.inr (.inr f2)))))] := hD
  have hK : va_K D vwCl [(cO, .object "java/lang/Object"), (cn2, .object "java/lang/Object")] s := hK
  have hs6 := hS.1
  refine W.widen (k := 1) (n := 1200) (by omega) (by omega) ?_
  obtain rfl : qn = r5 := Eq.symm hw_c4.1
  have hf2 := hw_c4.2
  have hz0 := hS.1
  refine z_keepW (fun hkp => ?_)
  exact z_retr (q := qn) (qn, cn2, f2) hx hb hr (Or.inr ⟨_, rfl⟩) hlocks (show qn = qn ∧ (∀ i, i < cap → f2 i = fe i) ∧ (∀ i y, f2 i = some y → y = sa) from ⟨rfl, hf2⟩) hK [1] rfl hP hD hS [0, 1] (by decide) rfl (by omega) (zw_keep hkp) (fun _ _ _ => trivial) dJx4a65c_grow_d5877_10
