set_option maxRecDepth 100000 in
set_option maxHeartbeats 4000000 in
/-- Arrays.checkLength: it is none too small -/
theorem c_chkLen (l : Launch) (D : va_G) (N0 : Nat) (e : zE) (sz mz : Nat) (nn : Nat) (hnn : nn ≤ 65536) : Met l yJ7_checkLength_df160 wsJ7_checkLength_df160 ({ frames := 0, cells := 0, slots := 0, locals := 0 }) (va_Pc [.int (nI 0), .int (nI nn)] (zP N0 e D [] [] sz mz [])) (zQv (fun (_ : Unit) => True) D (fun (_ : Unit) => ([] : va_W)) (fun (_ : Unit) => ([] : List (ClassId × FieldType))) sz (0) mz (0) (fun (_ : Unit) (t : State) => True) (va_A [] sz)) (0) (0) (va_A [] sz) := by
  refine z_met (Qc := fun A => zQv (fun (_ : Unit) => True) D (fun (_ : Unit) => ([] : va_W)) (fun (_ : Unit) => ([] : List (ClassId × FieldType))) sz (0) mz (0) (fun (_ : Unit) (t : State) => True) A) (cc := cJ7_checkLength_df160) (maxL := 2) (ret := none) RJ7 rfl (by decide) rfl (Nat.le_of_ble_eq_true rfl) ?_
  intro p ev s m below meth c ls A hx hb hr hml hown hts hlocks hnm hsz hmz hN hAe hA hAN hS hP hK hD hG hL hl
  subst hsz
  subst hmz
  have hl : lv_has ls 2 [(0, .int (nI 0)), (1, .int (nI nn))] := hl
  refine lv_iload_n hx hb dJ7_checkLength_df160_0 rfl (lv_at hl 1 rfl) ?_
  refine lv_iload_n hx hb dJ7_checkLength_df160_1 rfl (lv_at hl 0 rfl) ?_
  refine lv_icmp_ge (tgt := 37) hx hb dJ7_checkLength_df160_2 (by decide) (fun _ => ?_) (fun hq => absurd (show (nI 0) ≤ (nI nn) from (nI_leI (by omega) (by omega)).mpr (by omega)) hq)
  have hz0 := hS.1
  refine z_keepW (fun hkp => ?_)
  exact z_retv () hx hb hr hlocks trivial hK [] rfl hP hD hS [] (by decide) rfl (by omega) (zw_keep hkp) (fun _ _ _ => trivial) dJ7_checkLength_df160_37
set_option maxRecDepth 100000 in
set_option maxHeartbeats 4000000 in
/-- Arrays.copyOfRange, below the whole row -/
theorem c_cpRB (l : Launch) (D : va_G) (N0 : Nat) (e : zE) (sz mz : Nat) (va : Nat) (nn : Nat) (cB : ClassId) (fb : Nat → Int32) (hlt : nn < 16) (hfb : (∀ j, fits .byte (.int (fb j)) = true)) : Met l yJ7_copyOfRangeByte_39247 wsJ7_copyOfRangeByte_39247 ({ frames := 1, cells := 1, slots := nn, locals := 60 }) (va_Pc [.ref va, .int (nI 0), .int (nI nn)] (zP N0 e D [(cB, .byte)] [(va, .inl (cB, 16, .inl fb))] sz mz [])) (zQr (fun (u : Nat × ClassId × (Nat → Int32)) (ra : Nat) => ra = u.1 ∧ (∀ j, fits .byte (.int (u.2.2 j)) = true) ∧ sz ≤ u.1) D (fun (u : Nat × ClassId × (Nat → Int32)) => ([(va, .inl (cB, 16, .inl fb)), (u.1, .inl (u.2.1, nn, .inl u.2.2))] : va_W)) (fun (u : Nat × ClassId × (Nat → Int32)) => ([(u.2.1, .byte)] : List (ClassId × FieldType))) sz (1) mz (24) (fun (u : Nat × ClassId × (Nat → Int32)) (t : State) => True) (va_A [(va, .inl (cB, 16, .inl fb))] sz)) (1) (nn) (va_A [(va, .inl (cB, 16, .inl fb))] sz) := by
  refine z_met (Qc := fun A => zQr (fun (u : Nat × ClassId × (Nat → Int32)) (ra : Nat) => ra = u.1 ∧ (∀ j, fits .byte (.int (u.2.2 j)) = true) ∧ sz ≤ u.1) D (fun (u : Nat × ClassId × (Nat → Int32)) => ([(va, .inl (cB, 16, .inl fb)), (u.1, .inl (u.2.1, nn, .inl u.2.2))] : va_W)) (fun (u : Nat × ClassId × (Nat → Int32)) => ([(u.2.1, .byte)] : List (ClassId × FieldType))) sz (1) mz (24) (fun (u : Nat × ClassId × (Nat → Int32)) (t : State) => True) A) (cc := cJ7_copyOfRangeByte_39247) (maxL := 5) (ret := (some (.array .byte))) RJ7 rfl (by decide) rfl (Nat.le_of_ble_eq_true rfl) ?_
  intro p ev s m below meth c ls A hx hb hr hml hown hts hlocks hnm hsz hmz hN hAe hA hAN hS hP hK hD hG hL hl
  subst hsz
  subst hmz
  have hl : lv_has ls 5 [(0, .ref va), (1, .int (nI 0)), (2, .int (nI nn))] := hl
  refine lv_iload_n hx hb dJ7_copyOfRangeByte_39247_0 rfl (lv_at hl 1 rfl) ?_
  refine lv_iload_n hx hb dJ7_copyOfRangeByte_39247_1 rfl (lv_at hl 2 rfl) ?_
  have hFc := va_free (wc := []) hD hS hA [] rfl
  have kc1 : 0 + (0) ≤ 1 := by omega
  have ks2 : 0 + (0) ≤ nn := by omega
  refine z_callv (wr := [(va, .inl (cB, 16, .inl fb))]) (va_runS (As := [.int (nI 0), .int (nI nn)]) (rest := []) ⟨hx, hb, hml, hown, hts⟩ (c_chkLen l D N0 e s.heap.size (zw s.heap) nn (by omega)) (va_cwS 2 hts gJ7_copyOfRangeByte_39247_J7_checkLength_df160 rfl rfl rfl (by decide +kernel) ⟨Nat.le_of_ble_eq_true rfl, Nat.le_of_ble_eq_true rfl⟩) ⟨zP.blind, (z_pre hK hP hD hS hAN hN hG [] (by decide) rfl [] rfl (fun q hq => absurd hq List.not_mem_nil))⟩ rfl rfl hl.1 rfl (lv_room (Nat.le_of_ble_eq_true rfl)) dJ7_copyOfRangeByte_39247_2 ⟨kc1, ks2⟩) hK hP hD hS hA [] rfl [0] rfl (by decide) (by decide) (fun u t H locs ht hvm hw_c3 hY_c3 hz_c3 hm_c3 hk_c3 hK hP hD hS => ?_)
  have hP : va_P D vwCl [(va, .inl (cB, 16, .inl fb))] H := hP
  have hD : va_D A [(va, .inl (cB, 16, .inl fb))] := hD
  have hK : va_K D vwCl [(cB, .byte)] s := hK
  have hs5 := hS.1
  refine W.widen (k := 0) (n := 0) (by omega) (by omega) ?_
  refine lv_iload_n hx hb dJ7_copyOfRangeByte_39247_5 rfl (lv_at hl 2 rfl) ?_
  refine lv_iload_n hx hb dJ7_copyOfRangeByte_39247_6 rfl (lv_at hl 1 rfl) ?_
  refine lv_isub hx hb dJ7_copyOfRangeByte_39247_7 ?_
  refine lv_topi (fun t6 et6 => ?_)
  replace et6 := et6.trans (show ((nI nn) - (nI 0)) = (nI nn) from z_sub0 _)
  subst et6
  refine lv_istore_n (lv' := [(3, .int (nI nn)), (0, .ref va), (1, .int (nI 0)), (2, .int (nI nn))]) hx hb dJ7_copyOfRangeByte_39247_8 rfl hl (by decide) rfl (fun ls hl => ?_)
  refine lv_iload_n hx hb dJ7_copyOfRangeByte_39247_9 rfl (lv_at hl 0 rfl) ?_
  have kc7 : 0 + 1 ≤ 1 := by omega
  have ks8 : 0 + (nn) ≤ nn := by omega
  refine z_newa (atype := .byte) (a0 := (nn, .inl (fun _ => 0))) hx hb (hts (.arrayClass .byte) (by decide +kernel)) rfl hK hP hD hS hA (fun _ => rfl) (nI_pos (by omega)) (nI_clamp (by omega)) (by first | exact Nat.le_of_ble_eq_true rfl | (show (_ : Nat) * 1 ≤ _; omega) | (show (_ : Nat) * 2 ≤ _; omega)) kc7 ks8 dJ7_copyOfRangeByte_39247_10 (fun qn cn2 H hq_qn hz_qn hm_qn hk_qn hK hP hD hS => ?_)
  have hP : va_P D vwCl [(va, .inl (cB, 16, .inl fb)), (qn, .inl (cn2, nn, .inl (fun _ => 0)))] H := hP
  have hD : va_D A [(va, .inl (cB, 16, .inl fb)), (qn, .inl (cn2, nn, .inl (fun _ => 0)))] := hD
  have hK : va_K D vwCl [(cB, .byte), (cn2, .byte)] s := hK
  have hs9 := hS.1
  refine W.widen (k := 1) (n := (nn)) (by omega) (by omega) ?_
  refine lv_astore (lv' := [(4, .ref qn), (3, .int (nI nn)), (0, .ref va), (1, .int (nI 0)), (2, .int (nI nn))]) hx hb dJ7_copyOfRangeByte_39247_12 hl (by decide) rfl (fun ls hl => ?_)
  refine lv_aload_n hx hb dJ7_copyOfRangeByte_39247_14 rfl (lv_at hl 2 rfl) ?_
  refine lv_iload_n hx hb dJ7_copyOfRangeByte_39247_15 rfl (lv_at hl 3 rfl) ?_
  refine lv_aload hx hb dJ7_copyOfRangeByte_39247_16 (lv_at hl 0 rfl) ?_
  refine lv_iconst (v := (nI 0)) hx hb dJ7_copyOfRangeByte_39247_18 (by decide) ?_
  refine lv_aload_n hx hb dJ7_copyOfRangeByte_39247_19 rfl (lv_at hl 2 rfl) ?_
  refine va_alen (v := nI (16)) hx hb hK hP 0 0 rfl rfl rfl dJ7_copyOfRangeByte_39247_20 ?_
  refine lv_iload_n hx hb dJ7_copyOfRangeByte_39247_21 rfl (lv_at hl 3 rfl) ?_
  refine lv_isub hx hb dJ7_copyOfRangeByte_39247_22 ?_
  refine lv_topi (fun t10 et10 => ?_)
  replace et10 := et10.trans (show ((nI 16) - (nI 0)) = (nI 16) from by decide)
  subst et10
  refine lv_iload_n hx hb dJ7_copyOfRangeByte_39247_23 rfl (lv_at hl 1 rfl) ?_
  refine va_mmin hx hb (by rw [hml]; exact hl.1.symm) hown (hts (.methodLink RJ7 304 Lib.Math.min.name) (by decide +kernel)) (hts (.static Lib.Math.min.name) (by decide +kernel)) (hts (.initialized "java/lang/Math") (by decide +kernel)) (hts (.code Lib.Math.min.name Lib.Math.min.code 2 (some .int)) (by decide +kernel)) (Nat.le_of_ble_eq_true rfl) (Nat.le_of_ble_eq_true rfl) (show 1 ≤ 1 by omega) (show (nn) ≤ nn by omega) dJ7_copyOfRangeByte_39247_24 ?_
  refine lv_topi (fun t11 et11 => ?_)
  replace et11 := et11.trans (show (if (nI nn) < (nI 16) then (nI nn) else (nI 16)) = (nI nn) from if_pos (nI_lt hlt (by decide)))
  subst et11
  refine z_mono (fun hkb => ?_)
  refine va_copyi hx hb (by rw [hml]; exact hl.1.symm) hown (hts (.methodLink RJ7 150 arraycopyName) (by decide +kernel)) (hts (.native arraycopyName) (by decide +kernel)) (hts (.static arraycopyName) (by decide +kernel)) (hts (.initialized "java/lang/System") (by decide +kernel)) hK hP hD hS 0 1 0 1 rfl rfl rfl rfl rfl (nI_pos (by omega)) (nI_pos (by omega)) (nI_pos (by omega)) (by rw [nI_clamp (by omega), nI_clamp (by omega)]; omega) (by rw [nI_clamp (by omega), nI_clamp (by omega)]; omega) (fun i hi => hfb _) (Nat.le_of_ble_eq_true rfl) (Nat.le_of_ble_eq_true rfl) dJ7_copyOfRangeByte_39247_27 (fun H locs hP hD hS => ?_)
  simp only [nI_clamp (show 0 < 2 ^ 31 by omega), nI_clamp (show 0 < 2 ^ 31 by omega), nI_clamp (show nn < 2 ^ 31 by omega)] at hP hD
  have hf2 : (∀ j, fits .byte (.int ((va_cpy fb (fun _ => 0) 0 0 nn) j)) = true) := z_cpyfit (sp := 0) (dp := 0) (n := nn) (fun j hj => hfb _) (fun _ => rfl)
  generalize va_cpy fb (fun _ => 0) 0 0 nn = f2 at hP hD hf2
  refine z_bad hkb (fun hwm12 => ?_)
  have hP : va_P D vwCl [(va, .inl (cB, 16, .inl fb)), (qn, .inl (cn2, nn, .inl f2))] H := hP
  have hD : va_D A [(va, .inl (cB, 16, .inl fb)), (qn, .inl (cn2, nn, .inl f2))] := hD
  have hs13 := hS.1
  refine lv_aload hx hb dJ7_copyOfRangeByte_39247_30 (lv_at hl 0 rfl) ?_
  refine W.widen (k := (1)) (n := (nn)) (by omega) (by omega) ?_
  have hz0 := hS.1
  have lt0 := (hP 0 _ rfl).lt
  dsimp only at lt0
  have lt1 := (hP 1 _ rfl).lt
  dsimp only at lt1
  exact z_retr (q := qn) (qn, cn2, f2) hx hb hr (Or.inr ⟨_, rfl⟩) hlocks (show qn = qn ∧ (∀ j, fits .byte (.int (f2 j)) = true) ∧ s.heap.size ≤ qn from ⟨rfl, hf2, by omega⟩) hK [1] rfl hP hD hS [0, 1] (by decide) rfl (by omega) (by omega) (fun _ _ _ => trivial) dJ7_copyOfRangeByte_39247_32
set_option maxRecDepth 100000 in
set_option maxHeartbeats 4000000 in
/-- Arrays.copyOfRange, below the whole row -/
theorem c_cpR (l : Launch) (D : va_G) (N0 : Nat) (e : zE) (sz mz : Nat) (va : Nat) (nn : Nat) (cB : ClassId) (fb : Nat → Int32) (hlt : nn < 16) (hfb : (∀ j, fits .byte (.int (fb j)) = true)) : Met l yJ7_copyOfRange_39247 wsJ7_copyOfRange_39247 ({ frames := 2, cells := 1, slots := nn, locals := 84 }) (va_Pc [.ref va, .int (nI 0), .int (nI nn)] (zP N0 e D [(cB, .byte)] [(va, .inl (cB, 16, .inl fb))] sz mz [])) (zQr (fun (u : Nat × ClassId × (Nat → Int32)) (ra : Nat) => ra = u.1 ∧ (∀ j, fits .byte (.int (u.2.2 j)) = true) ∧ sz ≤ u.1) D (fun (u : Nat × ClassId × (Nat → Int32)) => ([(va, .inl (cB, 16, .inl fb)), (u.1, .inl (u.2.1, nn, .inl u.2.2))] : va_W)) (fun (u : Nat × ClassId × (Nat → Int32)) => ([(u.2.1, .byte)] : List (ClassId × FieldType))) sz (1) mz (24) (fun (u : Nat × ClassId × (Nat → Int32)) (t : State) => True) (va_A [(va, .inl (cB, 16, .inl fb))] sz)) (1) (nn) (va_A [(va, .inl (cB, 16, .inl fb))] sz) := by
  refine z_met (Qc := fun A => zQr (fun (u : Nat × ClassId × (Nat → Int32)) (ra : Nat) => ra = u.1 ∧ (∀ j, fits .byte (.int (u.2.2 j)) = true) ∧ sz ≤ u.1) D (fun (u : Nat × ClassId × (Nat → Int32)) => ([(va, .inl (cB, 16, .inl fb)), (u.1, .inl (u.2.1, nn, .inl u.2.2))] : va_W)) (fun (u : Nat × ClassId × (Nat → Int32)) => ([(u.2.1, .byte)] : List (ClassId × FieldType))) sz (1) mz (24) (fun (u : Nat × ClassId × (Nat → Int32)) (t : State) => True) A) (cc := cJ7_copyOfRange_39247) (maxL := 3) (ret := (some (.array .byte))) RJ7 rfl (by decide) rfl (Nat.le_of_ble_eq_true rfl) ?_
  intro p ev s m below meth c ls A hx hb hr hml hown hts hlocks hnm hsz hmz hN hAe hA hAN hS hP hK hD hG hL hl
  subst hsz
  subst hmz
  have hl : lv_has ls 3 [(0, .ref va), (1, .int (nI 0)), (2, .int (nI nn))] := hl
  refine lv_iload_n hx hb dJ7_copyOfRange_39247_0 rfl (lv_at hl 1 rfl) ?_
  refine lv_if_ne (tgt := 10) hx hb dJ7_copyOfRange_39247_1 (by decide) (fun hq => absurd (show (nI 0) = (nI 0) from (nI_eq (by omega) (by omega)).mpr (by omega)) hq) (fun _ => ?_)
  refine lv_iload_n hx hb dJ7_copyOfRange_39247_4 rfl (lv_at hl 2 rfl) ?_
  refine lv_aload_n hx hb dJ7_copyOfRange_39247_5 rfl (lv_at hl 0 rfl) ?_
  refine va_alen (v := nI (16)) hx hb hK hP 0 0 rfl rfl rfl dJ7_copyOfRange_39247_6 ?_
  refine lv_icmp_eq (tgt := 17) hx hb dJ7_copyOfRange_39247_7 (by decide) (fun hq => absurd hq (show ¬ ((nI nn) = (nI 16)) from fun hq => absurd ((nI_eq (by omega) (by omega)).mp hq) (by omega))) (fun _ => ?_)
  refine lv_aload_n hx hb dJ7_copyOfRange_39247_10 rfl (lv_at hl 0 rfl) ?_
  refine lv_iload_n hx hb dJ7_copyOfRange_39247_11 rfl (lv_at hl 1 rfl) ?_
  refine lv_iload_n hx hb dJ7_copyOfRange_39247_12 rfl (lv_at hl 2 rfl) ?_
  have hFc := va_free (wc := [(va, .inl (cB, 16, .inl fb))]) hD hS hA [0] rfl
  have kc1 : 0 + (1) ≤ 1 := by omega
  have ks2 : 0 + (nn) ≤ nn := by omega
  refine z_callr (wr := []) (va_runS (As := [.ref va, .int (nI 0), .int (nI nn)]) (rest := []) ⟨hx, hb, hml, hown, hts⟩ (c_cpRB l D N0 e s.heap.size (zw s.heap) va nn cB fb hlt hfb) (va_cwS 3 hts gJ7_copyOfRange_39247_J7_copyOfRangeByte_39247 rfl rfl rfl (by decide +kernel) ⟨Nat.le_of_ble_eq_true rfl, Nat.le_of_ble_eq_true rfl⟩) ⟨zP.blind, (z_pre hK hP hD hS hAN hN hG [0] (by decide) rfl [0] rfl (fun q hq => absurd hq List.not_mem_nil))⟩ rfl rfl hl.1 rfl (lv_room (Nat.le_of_ble_eq_true rfl)) dJ7_copyOfRange_39247_13 ⟨kc1, ks2⟩) hK hP hD hS hA [0] rfl [] rfl (by decide) (by decide) (fun u r4 t H locs ht hvm hw_c3 hY_c3 hz_c3 hm_c3 hk_c3 hK hP hD hS => ?_)
  obtain ⟨qn, cn2, f2⟩ := u
  try dsimp only at hw_c3 hY_c3
  have hP : va_P D vwCl [(va, .inl (cB, 16, .inl fb)), (qn, .inl (cn2, nn, .inl f2))] H := hP
  have hD : va_D A [(va, .inl (cB, 16, .inl fb)), (qn, .inl (cn2, nn, .inl f2))] := hD
  have hK : va_K D vwCl [(cB, .byte), (cn2, .byte)] s := hK
  have hs5 := hS.1
  refine W.widen (k := 1) (n := (nn)) (by omega) (by omega) ?_
  obtain rfl : qn = r4 := Eq.symm hw_c3.1
  have hf2 := hw_c3.2.1
  have hq2 := hw_c3.2.2
  refine W.widen (k := (1)) (n := (nn)) (by omega) (by omega) ?_
  have hz0 := hS.1
  have lt0 := (hP 0 _ rfl).lt
  dsimp only at lt0
  have lt1 := (hP 1 _ rfl).lt
  dsimp only at lt1
  exact z_retr (q := qn) (qn, cn2, f2) hx hb hr (Or.inr ⟨_, rfl⟩) hlocks (show qn = qn ∧ (∀ j, fits .byte (.int (f2 j)) = true) ∧ s.heap.size ≤ qn from ⟨rfl, hf2, hq2⟩) hK [1] rfl hP hD hS [0, 1] (by decide) rfl (by omega) (by omega) (fun _ _ _ => trivial) dJ7_copyOfRange_39247_16
set_option maxRecDepth 100000 in
set_option maxHeartbeats 4000000 in
/-- String(builder): a row of its own -/
theorem c_stri (l : Launch) (D : va_G) (N0 : Nat) (e : zE) (sz mz : Nat) (st : Nat) (sbu : Nat) (va : Nat) (cnt : Nat) (cB : ClassId) (fb : Nat → Int32) (hlt : cnt < 16) (hfb : (∀ j, fits .byte (.int (fb j)) = true)) : Met l yJ0_init_db425 wsJ0_init_db425 ({ frames := 3, cells := 1, slots := cnt, locals := 106 }) (va_Pc [.ref st, .ref sbu, .null] (zP N0 e D [(cB, .byte)] [(st, .inr (0, [.null, .int (nI 0), .int (nI 0), .int (nI 0)])), (sbu, .inr (1, [.ref va, .int (nI 0), .int (nI 0), .int (nI cnt)])), (va, .inl (cB, 16, .inl fb))] sz mz [])) (zQv (fun (u : Nat × ClassId × (Nat → Int32)) => (∀ j, fits .byte (.int (u.2.2 j)) = true) ∧ sz ≤ u.1) D (fun (u : Nat × ClassId × (Nat → Int32)) => ([(st, .inr (0, [.ref u.1, .int (nI 0), .int (nI 0), .int (nI 0)])), (sbu, .inr (1, [.ref va, .int (nI 0), .int (nI 0), .int (nI cnt)])), (va, .inl (cB, 16, .inl fb)), (u.1, .inl (u.2.1, cnt, .inl u.2.2))] : va_W)) (fun (u : Nat × ClassId × (Nat → Int32)) => ([(u.2.1, .byte)] : List (ClassId × FieldType))) sz (1) mz (24) (fun (u : Nat × ClassId × (Nat → Int32)) (t : State) => True) (va_A [(st, .inr (0, [.null, .int (nI 0), .int (nI 0), .int (nI 0)])), (sbu, .inr (1, [.ref va, .int (nI 0), .int (nI 0), .int (nI cnt)])), (va, .inl (cB, 16, .inl fb))] sz)) (1) (cnt) (va_A [(st, .inr (0, [.null, .int (nI 0), .int (nI 0), .int (nI 0)])), (sbu, .inr (1, [.ref va, .int (nI 0), .int (nI 0), .int (nI cnt)])), (va, .inl (cB, 16, .inl fb))] sz) := by
  refine z_met (Qc := fun A => zQv (fun (u : Nat × ClassId × (Nat → Int32)) => (∀ j, fits .byte (.int (u.2.2 j)) = true) ∧ sz ≤ u.1) D (fun (u : Nat × ClassId × (Nat → Int32)) => ([(st, .inr (0, [.ref u.1, .int (nI 0), .int (nI 0), .int (nI 0)])), (sbu, .inr (1, [.ref va, .int (nI 0), .int (nI 0), .int (nI cnt)])), (va, .inl (cB, 16, .inl fb)), (u.1, .inl (u.2.1, cnt, .inl u.2.2))] : va_W)) (fun (u : Nat × ClassId × (Nat → Int32)) => ([(u.2.1, .byte)] : List (ClassId × FieldType))) sz (1) mz (24) (fun (u : Nat × ClassId × (Nat → Int32)) (t : State) => True) A) (cc := cJ0_init_db425) (maxL := 5) (ret := none) RJ0 rfl (by decide) rfl (Nat.le_of_ble_eq_true rfl) ?_
  intro p ev s m below meth c ls A hx hb hr hml hown hts hlocks hnm hsz hmz hN hAe hA hAN hS hP hK hD hG hL hl
  subst hsz
  subst hmz
  have hl : lv_has ls 5 [(0, .ref st), (1, .ref sbu), (2, .null)] := hl
  refine lv_aload_n hx hb dJ0_init_db425_0 rfl (lv_at hl 0 rfl) ?_
  refine W.objInit hx hb hown (hts (.methodLink RJ0 1 objectInit) (by decide +kernel)) (hts (.instanceMethod objectInit) (by decide +kernel)) (hts (.code objectInit ⟨#[0xb1]⟩ 1 none) (by decide +kernel)) rfl (by rw [hml]; exact hl.1) rfl dJ0_init_db425_1 (Nat.le_of_ble_eq_true rfl) (Nat.le_of_ble_eq_true rfl) ?_
  refine W.eq (g2 := F0 m 4 ls []) rfl ?_
  refine lv_aload_n hx hb dJ0_init_db425_4 rfl (lv_at hl 1 rfl) ?_
  have hFc := va_free (wc := [(sbu, .inr (1, [.ref va, .int (nI 0), .int (nI 0), .int (nI cnt)]))]) hD hS hA [1] rfl
  have kc1 : 0 + (0) ≤ 1 := by omega
  have ks2 : 0 + (0) ≤ cnt := by omega
  refine z_callr (wr := [(st, .inr (0, [.null, .int (nI 0), .int (nI 0), .int (nI 0)])), (va, .inl (cB, 16, .inl fb))]) (va_runU (As := []) (rest := []) ⟨hx, hb, hml, hown, hts⟩ (c_getV l D N0 e s.heap.size (zw s.heap) sbu va cnt ) (va_cwU 0 hts gJ0_init_db425_J5_getValue_6d5f1_u552J4 rfl rfl rfl rfl (by decide +kernel) ⟨Nat.le_of_ble_eq_true rfl, Nat.le_of_ble_eq_true rfl⟩) ⟨zP.blind, (va_recv hK hP (ci := 1) (q0 := 1) rfl rfl), (z_pre hK hP hD hS hAN hN hG [1] (by decide) rfl [] rfl (fun q hq => absurd hq List.not_mem_nil))⟩ rfl rfl hl.1 rfl (lv_room (Nat.le_of_ble_eq_true rfl)) dJ0_init_db425_5 ⟨kc1, ks2⟩) hK hP hD hS hA [1] rfl [0, 2] rfl (by decide) (by decide) (fun u r4 t H locs ht hvm hw_c3 hY_c3 hz_c3 hm_c3 hk_c3 hK hP hD hS => ?_)
  have hP : va_P D vwCl [(st, .inr (0, [.null, .int (nI 0), .int (nI 0), .int (nI 0)])), (va, .inl (cB, 16, .inl fb)), (sbu, .inr (1, [.ref va, .int (nI 0), .int (nI 0), .int (nI cnt)]))] H := hP
  have hD : va_D A [(st, .inr (0, [.null, .int (nI 0), .int (nI 0), .int (nI 0)])), (va, .inl (cB, 16, .inl fb)), (sbu, .inr (1, [.ref va, .int (nI 0), .int (nI 0), .int (nI cnt)]))] := hD
  have hK : va_K D vwCl [(cB, .byte)] s := hK
  have hs5 := hS.1
  refine W.widen (k := 0) (n := 0) (by omega) (by omega) ?_
  obtain rfl : va = r4 := Eq.symm hw_c3
  refine lv_astore_n (lv' := [(3, .ref va), (0, .ref st), (1, .ref sbu), (2, .null)]) hx hb dJ0_init_db425_8 rfl hl (by decide) rfl (fun ls hl => ?_)
  refine lv_aload_n hx hb dJ0_init_db425_9 rfl (lv_at hl 2 rfl) ?_
  have hFc := va_free (wc := [(sbu, .inr (1, [.ref va, .int (nI 0), .int (nI 0), .int (nI cnt)]))]) hD hS hA [2] rfl
  have kc6 : 0 + (0) ≤ 1 := by omega
  have ks7 : 0 + (0) ≤ cnt := by omega
  refine z_calli (wr := [(st, .inr (0, [.null, .int (nI 0), .int (nI 0), .int (nI 0)])), (va, .inl (cB, 16, .inl fb))]) (va_runU (As := []) (rest := []) ⟨hx, hb, hml, hown, hts⟩ (c_blen l D N0 e H.size (zw H) sbu va cnt ) (va_cwO 0 hts gJ0_init_db425_J4_length_8abf5_u549J4 rfl rfl rfl (show Cond.code ⟨"java/lang/AbstractStringBuilder", "length", "()I"⟩ cJ5_length_8abf5 1 (some .int) ∈ wsJ0_init_db425 from by decide +kernel) (by decide +kernel) ⟨Nat.le_of_ble_eq_true rfl, Nat.le_of_ble_eq_true rfl⟩) ⟨zP.blind, (va_recv hK hP (ci := 1) (q0 := 2) rfl rfl), (z_pre hK hP hD hS hAN hN hG [2] (by decide) rfl [] rfl (fun q hq => absurd hq List.not_mem_nil))⟩ rfl rfl hl.1 rfl (lv_room (Nat.le_of_ble_eq_true rfl)) dJ0_init_db425_10 ⟨kc6, ks7⟩) hK hP hD hS hA [2] rfl [0, 1] rfl (by decide) (by decide) (fun r9 u t H locs ht hvm hw_c8 hY_c8 hz_c8 hm_c8 hk_c8 hK hP hD hS => ?_)
  have hP : va_P D vwCl [(st, .inr (0, [.null, .int (nI 0), .int (nI 0), .int (nI 0)])), (va, .inl (cB, 16, .inl fb)), (sbu, .inr (1, [.ref va, .int (nI 0), .int (nI 0), .int (nI cnt)]))] H := hP
  have hD : va_D A [(st, .inr (0, [.null, .int (nI 0), .int (nI 0), .int (nI 0)])), (va, .inl (cB, 16, .inl fb)), (sbu, .inr (1, [.ref va, .int (nI 0), .int (nI 0), .int (nI cnt)]))] := hD
  have hK : va_K D vwCl [(cB, .byte)] s := hK
  have hs10 := hS.1
  refine W.widen (k := 0) (n := 0) (by omega) (by omega) ?_
  subst hw_c8
  refine lv_istore (lv' := [(4, .int (nI cnt)), (3, .ref va), (0, .ref st), (1, .ref sbu), (2, .null)]) hx hb dJ0_init_db425_13 hl (by decide) rfl (fun ls hl => ?_)
  refine lv_aload_n hx hb dJ0_init_db425_15 rfl (lv_at hl 3 rfl) ?_
  have hFc := va_free (wc := [(sbu, .inr (1, [.ref va, .int (nI 0), .int (nI 0), .int (nI cnt)]))]) hD hS hA [2] rfl
  have kc11 : 0 + (0) ≤ 1 := by omega
  have ks12 : 0 + (0) ≤ cnt := by omega
  refine z_calli (wr := [(st, .inr (0, [.null, .int (nI 0), .int (nI 0), .int (nI 0)])), (va, .inl (cB, 16, .inl fb))]) (va_runU (As := []) (rest := []) ⟨hx, hb, hml, hown, hts⟩ (c_isL1 l D N0 e H.size (zw H) sbu va cnt ) (va_cwU 0 hts gJ0_init_db425_J5_isLatin1_aae02_u1047J4 rfl rfl rfl rfl (by decide +kernel) ⟨Nat.le_of_ble_eq_true rfl, Nat.le_of_ble_eq_true rfl⟩) ⟨zP.blind, (va_recv hK hP (ci := 1) (q0 := 2) rfl rfl), (z_pre hK hP hD hS hAN hN hG [2] (by decide) rfl [] rfl (fun q hq => absurd hq List.not_mem_nil))⟩ rfl rfl hl.1 rfl (lv_room (Nat.le_of_ble_eq_true rfl)) dJ0_init_db425_16 ⟨kc11, ks12⟩) hK hP hD hS hA [2] rfl [0, 1] rfl (by decide) (by decide) (fun r14 u t H locs ht hvm hw_c13 hY_c13 hz_c13 hm_c13 hk_c13 hK hP hD hS => ?_)
  have hP : va_P D vwCl [(st, .inr (0, [.null, .int (nI 0), .int (nI 0), .int (nI 0)])), (va, .inl (cB, 16, .inl fb)), (sbu, .inr (1, [.ref va, .int (nI 0), .int (nI 0), .int (nI cnt)]))] H := hP
  have hD : va_D A [(st, .inr (0, [.null, .int (nI 0), .int (nI 0), .int (nI 0)])), (va, .inl (cB, 16, .inl fb)), (sbu, .inr (1, [.ref va, .int (nI 0), .int (nI 0), .int (nI cnt)]))] := hD
  have hK : va_K D vwCl [(cB, .byte)] s := hK
  have hs15 := hS.1
  refine W.widen (k := 0) (n := 0) (by omega) (by omega) ?_
  subst hw_c13
  refine lv_if_eq (tgt := 41) hx hb dJ0_init_db425_19 (by decide) (fun hq => absurd hq (show ¬ ((nI 1) = (nI 0)) from fun hq => absurd ((nI_eq (by omega) (by omega)).mp hq) (by omega))) (fun _ => ?_)
  refine lv_aload_n hx hb dJ0_init_db425_22 rfl (lv_at hl 2 rfl) ?_
  refine lv_iconst (v := (nI 0)) hx hb dJ0_init_db425_23 (by decide) ?_
  refine z_mono (fun hkb => ?_)
  refine va_putF (D := D) (ci := 0) (v := .int (nI 0)) (ty := .byte) (C := RJ0) (T := TJ0) (N := 4) hx hb hts (by decide +kernel) tyJ0 tyJ0_ok nmJ0 hown hK hP hD hS 0 rfl rfl 1 (by decide) (hts (.fieldLink RJ0 15 "java/lang/String" "coder" "B") (by decide +kernel)) (fun _ h9 => h9) rfl hnm rfl (by decide +kernel) rfl rfl (Nat.le_of_ble_eq_true rfl) dJ0_init_db425_24 (fun H locs hP hD hS => ?_)
  refine z_bad hkb (fun hwm16 => ?_)
  have hP : va_P D vwCl [(st, .inr (0, [.null, .int (nI 0), .int (nI 0), .int (nI 0)])), (va, .inl (cB, 16, .inl fb)), (sbu, .inr (1, [.ref va, .int (nI 0), .int (nI 0), .int (nI cnt)]))] H := hP
  have hD : va_D A [(st, .inr (0, [.null, .int (nI 0), .int (nI 0), .int (nI 0)])), (va, .inl (cB, 16, .inl fb)), (sbu, .inr (1, [.ref va, .int (nI 0), .int (nI 0), .int (nI cnt)]))] := hD
  have hs17 := hS.1
  refine lv_aload_n hx hb dJ0_init_db425_27 rfl (lv_at hl 2 rfl) ?_
  refine lv_aload_n hx hb dJ0_init_db425_28 rfl (lv_at hl 1 rfl) ?_
  refine lv_iconst (v := (nI 0)) hx hb dJ0_init_db425_29 (by decide) ?_
  refine lv_iload hx hb dJ0_init_db425_30 (lv_at hl 0 rfl) ?_
  have hFc := va_free (wc := [(va, .inl (cB, 16, .inl fb))]) hD hS hA [1] rfl
  have kc18 : 0 + (1) ≤ 1 := by omega
  have ks19 : 0 + (cnt) ≤ cnt := by omega
  refine z_callr (wr := [(st, .inr (0, [.null, .int (nI 0), .int (nI 0), .int (nI 0)])), (sbu, .inr (1, [.ref va, .int (nI 0), .int (nI 0), .int (nI cnt)]))]) (va_runS (As := [.ref va, .int (nI 0), .int (nI cnt)]) (rest := [.ref st]) ⟨hx, hb, hml, hown, hts⟩ (c_cpR l D N0 e H.size (zw H) va cnt cB fb hlt hfb) (va_cwS 3 hts gJ0_init_db425_J7_copyOfRange_39247 rfl rfl rfl (by decide +kernel) ⟨Nat.le_of_ble_eq_true rfl, Nat.le_of_ble_eq_true rfl⟩) ⟨zP.blind, (z_pre hK hP hD hS hAN hN hG [1] (by decide) rfl [0] rfl (fun q hq => absurd hq List.not_mem_nil))⟩ rfl rfl hl.1 rfl (lv_room (Nat.le_of_ble_eq_true rfl)) dJ0_init_db425_32 ⟨kc18, ks19⟩) hK hP hD hS hA [1] rfl [0, 2] rfl (by decide) (by decide) (fun u r21 t H locs ht hvm hw_c20 hY_c20 hz_c20 hm_c20 hk_c20 hK hP hD hS => ?_)
  obtain ⟨qn, cn2, f2⟩ := u
  try dsimp only at hw_c20 hY_c20
  have hP : va_P D vwCl [(st, .inr (0, [.null, .int (nI 0), .int (nI 0), .int (nI 0)])), (sbu, .inr (1, [.ref va, .int (nI 0), .int (nI 0), .int (nI cnt)])), (va, .inl (cB, 16, .inl fb)), (qn, .inl (cn2, cnt, .inl f2))] H := hP
  have hD : va_D A [(st, .inr (0, [.null, .int (nI 0), .int (nI 0), .int (nI 0)])), (sbu, .inr (1, [.ref va, .int (nI 0), .int (nI 0), .int (nI cnt)])), (va, .inl (cB, 16, .inl fb)), (qn, .inl (cn2, cnt, .inl f2))] := hD
  have hK : va_K D vwCl [(cB, .byte), (cn2, .byte)] s := hK
  have hs22 := hS.1
  refine W.widen (k := 1) (n := (cnt)) (by omega) (by omega) ?_
  obtain rfl : qn = r21 := Eq.symm hw_c20.1
  have hf2 := hw_c20.2.1
  have hq2 := hw_c20.2.2
  refine z_mono (fun hkb => ?_)
  refine va_putF (D := D) (ci := 0) (v := .ref qn) (ty := .array .byte) (C := RJ0) (T := TJ0) (N := 4) hx hb hts (by decide +kernel) tyJ0 tyJ0_ok nmJ0 hown hK hP hD hS 0 rfl rfl 0 (by decide) (hts (.fieldLink RJ0 9 "java/lang/String" "value" "[B") (by decide +kernel)) (fun _ h9 => h9) rfl hnm rfl (by decide +kernel) rfl rfl (Nat.le_of_ble_eq_true rfl) dJ0_init_db425_35 (fun H locs hP hD hS => ?_)
  refine z_bad hkb (fun hwm23 => ?_)
  have hP : va_P D vwCl [(st, .inr (0, [.ref qn, .int (nI 0), .int (nI 0), .int (nI 0)])), (sbu, .inr (1, [.ref va, .int (nI 0), .int (nI 0), .int (nI cnt)])), (va, .inl (cB, 16, .inl fb)), (qn, .inl (cn2, cnt, .inl f2))] H := hP
  have hD : va_D A [(st, .inr (0, [.ref qn, .int (nI 0), .int (nI 0), .int (nI 0)])), (sbu, .inr (1, [.ref va, .int (nI 0), .int (nI 0), .int (nI cnt)])), (va, .inl (cB, 16, .inl fb)), (qn, .inl (cn2, cnt, .inl f2))] := hD
  have hs24 := hS.1
  refine lv_goto (tgt := 97) hx hb dJ0_init_db425_38 (by decide) ?_
  refine W.widen (k := (1)) (n := (cnt)) (by omega) (by omega) ?_
  have hz0 := hS.1
  have lt0 := (hP 0 _ rfl).lt
  dsimp only at lt0
  have lt1 := (hP 1 _ rfl).lt
  dsimp only at lt1
  have lt2 := (hP 2 _ rfl).lt
  dsimp only at lt2
  have lt3 := (hP 3 _ rfl).lt
  dsimp only at lt3
  exact z_retv (qn, cn2, f2) hx hb hr hlocks (show (∀ j, fits .byte (.int (f2 j)) = true) ∧ s.heap.size ≤ qn from ⟨hf2, by omega⟩) hK [1] rfl hP hD hS [0, 1, 2, 3] (by decide) rfl (by omega) (by omega) (fun _ _ _ => trivial) dJ0_init_db425_97
set_option maxRecDepth 100000 in
set_option maxHeartbeats 4000000 in
/-- String(StringBuilder) -/
theorem c_stri1 (l : Launch) (D : va_G) (N0 : Nat) (e : zE) (sz mz : Nat) (st : Nat) (sbu : Nat) (va : Nat) (cnt : Nat) (cB : ClassId) (fb : Nat → Int32) (hlt : cnt < 16) (hfb : (∀ j, fits .byte (.int (fb j)) = true)) : Met l yJ0_init_81219 wsJ0_init_81219 ({ frames := 4, cells := 1, slots := cnt, locals := 130 }) (va_Pc [.ref st, .ref sbu] (zP N0 e D [(cB, .byte)] [(st, .inr (0, [.null, .int (nI 0), .int (nI 0), .int (nI 0)])), (sbu, .inr (1, [.ref va, .int (nI 0), .int (nI 0), .int (nI cnt)])), (va, .inl (cB, 16, .inl fb))] sz mz [])) (zQv (fun (u : Nat × ClassId × (Nat → Int32)) => (∀ j, fits .byte (.int (u.2.2 j)) = true) ∧ sz ≤ u.1) D (fun (u : Nat × ClassId × (Nat → Int32)) => ([(st, .inr (0, [.ref u.1, .int (nI 0), .int (nI 0), .int (nI 0)])), (sbu, .inr (1, [.ref va, .int (nI 0), .int (nI 0), .int (nI cnt)])), (va, .inl (cB, 16, .inl fb)), (u.1, .inl (u.2.1, cnt, .inl u.2.2))] : va_W)) (fun (u : Nat × ClassId × (Nat → Int32)) => ([(u.2.1, .byte)] : List (ClassId × FieldType))) sz (1) mz (24) (fun (u : Nat × ClassId × (Nat → Int32)) (t : State) => True) (va_A [(st, .inr (0, [.null, .int (nI 0), .int (nI 0), .int (nI 0)])), (sbu, .inr (1, [.ref va, .int (nI 0), .int (nI 0), .int (nI cnt)])), (va, .inl (cB, 16, .inl fb))] sz)) (1) (cnt) (va_A [(st, .inr (0, [.null, .int (nI 0), .int (nI 0), .int (nI 0)])), (sbu, .inr (1, [.ref va, .int (nI 0), .int (nI 0), .int (nI cnt)])), (va, .inl (cB, 16, .inl fb))] sz) := by
  refine z_met (Qc := fun A => zQv (fun (u : Nat × ClassId × (Nat → Int32)) => (∀ j, fits .byte (.int (u.2.2 j)) = true) ∧ sz ≤ u.1) D (fun (u : Nat × ClassId × (Nat → Int32)) => ([(st, .inr (0, [.ref u.1, .int (nI 0), .int (nI 0), .int (nI 0)])), (sbu, .inr (1, [.ref va, .int (nI 0), .int (nI 0), .int (nI cnt)])), (va, .inl (cB, 16, .inl fb)), (u.1, .inl (u.2.1, cnt, .inl u.2.2))] : va_W)) (fun (u : Nat × ClassId × (Nat → Int32)) => ([(u.2.1, .byte)] : List (ClassId × FieldType))) sz (1) mz (24) (fun (u : Nat × ClassId × (Nat → Int32)) (t : State) => True) A) (cc := cJ0_init_81219) (maxL := 2) (ret := none) RJ0 rfl (by decide) rfl (Nat.le_of_ble_eq_true rfl) ?_
  intro p ev s m below meth c ls A hx hb hr hml hown hts hlocks hnm hsz hmz hN hAe hA hAN hS hP hK hD hG hL hl
  subst hsz
  subst hmz
  have hl : lv_has ls 2 [(0, .ref st), (1, .ref sbu)] := hl
  refine lv_aload_n hx hb dJ0_init_81219_0 rfl (lv_at hl 0 rfl) ?_
  refine lv_aload_n hx hb dJ0_init_81219_1 rfl (lv_at hl 1 rfl) ?_
  refine lv_null hx hb dJ0_init_81219_2 ?_
  have hFc := va_free (wc := [(st, .inr (0, [.null, .int (nI 0), .int (nI 0), .int (nI 0)])), (sbu, .inr (1, [.ref va, .int (nI 0), .int (nI 0), .int (nI cnt)])), (va, .inl (cB, 16, .inl fb))]) hD hS hA [0, 1, 2] rfl
  have kc1 : 0 + (1) ≤ 1 := by omega
  have ks2 : 0 + (cnt) ≤ cnt := by omega
  refine z_callv (wr := []) (va_runI (As := [.ref sbu, .null]) (rest := []) ⟨hx, hb, hml, hown, hts⟩ (c_stri l D N0 e s.heap.size (zw s.heap) st sbu va cnt cB fb hlt hfb) (cwI 2 hts gJ0_init_81219_J0_init_db425 rfl rfl rfl (hts (.initialized RJ0) (by decide +kernel)) (hts (.methodLink RJ0 489 yJ0_init_db425) (by decide +kernel)) (hts (.instanceMethod yJ0_init_db425) (by decide +kernel)) rfl (by decide +kernel) ⟨Nat.le_of_ble_eq_true rfl, Nat.le_of_ble_eq_true rfl⟩) ⟨zP.blind, (z_pre hK hP hD hS hAN hN hG [0, 1, 2] (by decide) rfl [0] rfl (fun q hq => absurd hq List.not_mem_nil))⟩ rfl rfl hl.1 rfl (lv_room (Nat.le_of_ble_eq_true rfl)) dJ0_init_81219_3 ⟨kc1, ks2⟩) hK hP hD hS hA [0, 1, 2] rfl [] rfl (by decide) (by decide) (fun u t H locs ht hvm hw_c3 hY_c3 hz_c3 hm_c3 hk_c3 hK hP hD hS => ?_)
  obtain ⟨qn, cn2, f2⟩ := u
  try dsimp only at hw_c3 hY_c3
  have hP : va_P D vwCl [(st, .inr (0, [.ref qn, .int (nI 0), .int (nI 0), .int (nI 0)])), (sbu, .inr (1, [.ref va, .int (nI 0), .int (nI 0), .int (nI cnt)])), (va, .inl (cB, 16, .inl fb)), (qn, .inl (cn2, cnt, .inl f2))] H := hP
  have hD : va_D A [(st, .inr (0, [.ref qn, .int (nI 0), .int (nI 0), .int (nI 0)])), (sbu, .inr (1, [.ref va, .int (nI 0), .int (nI 0), .int (nI cnt)])), (va, .inl (cB, 16, .inl fb)), (qn, .inl (cn2, cnt, .inl f2))] := hD
  have hK : va_K D vwCl [(cB, .byte), (cn2, .byte)] s := hK
  have hs5 := hS.1
  refine W.widen (k := 1) (n := (cnt)) (by omega) (by omega) ?_
  refine W.widen (k := (1)) (n := (cnt)) (by omega) (by omega) ?_
  have hz0 := hS.1
  have lt0 := (hP 0 _ rfl).lt
  dsimp only at lt0
  have lt1 := (hP 1 _ rfl).lt
  dsimp only at lt1
  have lt2 := (hP 2 _ rfl).lt
  dsimp only at lt2
  have lt3 := (hP 3 _ rfl).lt
  dsimp only at lt3
  exact z_retv (qn, cn2, f2) hx hb hr hlocks (show (∀ j, fits .byte (.int (f2 j)) = true) ∧ s.heap.size ≤ qn from hw_c3) hK [1] rfl hP hD hS [0, 1, 2, 3] (by decide) rfl (by omega) (by omega) (fun _ _ _ => trivial) dJ0_init_81219_6
set_option maxRecDepth 100000 in
set_option maxHeartbeats 4000000 in
/-- StringBuilder.toString: a new text, two cells -/
theorem c_toS (l : Launch) (D : va_G) (N0 : Nat) (e : zE) (sz mz : Nat) (sbu : Nat) (va : Nat) (cnt : Nat) (cB : ClassId) (fb : Nat → Int32) (hlt : cnt < 16) (hfb : (∀ j, fits .byte (.int (fb j)) = true)) : Met l yJ4_toString_0e30d wsJ4_toString_0e30d ({ frames := 5, cells := 2, slots := 4 + cnt, locals := 151 }) (va_Pc [.ref sbu] (zP N0 e D [(cB, .byte)] [(sbu, .inr (1, [.ref va, .int (nI 0), .int (nI 0), .int (nI cnt)])), (va, .inl (cB, 16, .inl fb))] sz mz [])) (zQr (fun (u : Nat × Nat) (ra : Nat) => ra = u.1) D (fun (u : Nat × Nat) => ([(sbu, .inr (1, [.ref va, .int (nI 0), .int (nI 0), .int (nI cnt)])), (va, .inl (cB, 16, .inl fb))] : va_W)) (fun (u : Nat × Nat) => ([] : List (ClassId × FieldType))) sz (2) mz (80) (fun (u : Nat × Nat) (t : State) => zR N0 sz u.1 u.2 cnt t) (va_A [(sbu, .inr (1, [.ref va, .int (nI 0), .int (nI 0), .int (nI cnt)])), (va, .inl (cB, 16, .inl fb))] sz)) (2) (4 + cnt) (va_A [(sbu, .inr (1, [.ref va, .int (nI 0), .int (nI 0), .int (nI cnt)])), (va, .inl (cB, 16, .inl fb))] sz) := by
  refine z_met (Qc := fun A => zQr (fun (u : Nat × Nat) (ra : Nat) => ra = u.1) D (fun (u : Nat × Nat) => ([(sbu, .inr (1, [.ref va, .int (nI 0), .int (nI 0), .int (nI cnt)])), (va, .inl (cB, 16, .inl fb))] : va_W)) (fun (u : Nat × Nat) => ([] : List (ClassId × FieldType))) sz (2) mz (80) (fun (u : Nat × Nat) (t : State) => zR N0 sz u.1 u.2 cnt t) A) (cc := cJ4_toString_0e30d) (maxL := 1) (ret := (some (.object "java/lang/String"))) RJ4 rfl (by decide) rfl (Nat.le_of_ble_eq_true rfl) ?_
  intro p ev s m below meth c ls A hx hb hr hml hown hts hlocks hnm hsz hmz hN hAe hA hAN hS hP hK hD hG hL hl
  subst hsz
  subst hmz
  have hl : lv_has ls 1 [(0, .ref sbu)] := hl
  have kc1 : 0 + 1 ≤ 2 := by omega
  have ks2 : 0 + 4 ≤ 4 + cnt := by omega
  refine z_new (ci := 0) (fs := [.null, .int 0, .int 0, .int 0]) (C := RJ0) (T := TJ0) (N := 4) hx hb hts (by decide +kernel) tyJ0 tyJ0_ok hown (hts (.classLink RJ4 18 RJ0) (by decide +kernel)) (hts (.instantiable RJ0 4) (by decide +kernel)) (hts (.initialized RJ0) (by decide +kernel)) hK hP hD hS hA rfl (fun j hj => by match j, hj with | 0, _ => rfl | 1, _ => rfl | 2, _ => rfl | 3, _ => rfl) kc1 ks2 dJ4_toString_0e30d_0 (fun st H hq_st hz_st hm_st hk_st hP hD hS => ?_)
  have hP : va_P D vwCl [(sbu, .inr (1, [.ref va, .int (nI 0), .int (nI 0), .int (nI cnt)])), (va, .inl (cB, 16, .inl fb)), (st, .inr (0, [.null, .int (nI 0), .int (nI 0), .int (nI 0)]))] H := hP
  have hD : va_D A [(sbu, .inr (1, [.ref va, .int (nI 0), .int (nI 0), .int (nI cnt)])), (va, .inl (cB, 16, .inl fb)), (st, .inr (0, [.null, .int (nI 0), .int (nI 0), .int (nI 0)]))] := hD
  have hs3 := hS.1
  refine W.widen (k := 1) (n := 4) (by omega) (by omega) ?_
  refine lv_dup hx hb dJ4_toString_0e30d_3 rfl ?_
  refine lv_aload_n hx hb dJ4_toString_0e30d_4 rfl (lv_at hl 0 rfl) ?_
  have hFc := va_free (wc := [(st, .inr (0, [.null, .int (nI 0), .int (nI 0), .int (nI 0)])), (sbu, .inr (1, [.ref va, .int (nI 0), .int (nI 0), .int (nI cnt)])), (va, .inl (cB, 16, .inl fb))]) hD hS hA [2, 0, 1] rfl
  have kc4 : 1 + (1) ≤ 2 := by omega
  have ks5 : 4 + (cnt) ≤ 4 + cnt := by omega
  refine z_callv (wr := []) (va_runI (As := [.ref sbu]) (rest := [.ref st]) ⟨hx, hb, hml, hown, hts⟩ (c_stri1 l D N0 e H.size (zw H) st sbu va cnt cB fb hlt hfb) (cwI 1 hts gJ4_toString_0e30d_J0_init_81219 rfl rfl rfl (hts (.initialized RJ0) (by decide +kernel)) (hts (.methodLink RJ4 137 yJ0_init_81219) (by decide +kernel)) (hts (.instanceMethod yJ0_init_81219) (by decide +kernel)) rfl (by decide +kernel) ⟨Nat.le_of_ble_eq_true rfl, Nat.le_of_ble_eq_true rfl⟩) ⟨zP.blind, (z_pre hK hP hD hS hAN hN hG [2, 0, 1] (by decide) rfl [0] rfl (fun q hq => absurd hq List.not_mem_nil))⟩ rfl rfl hl.1 rfl (lv_room (Nat.le_of_ble_eq_true rfl)) dJ4_toString_0e30d_5 ⟨kc4, ks5⟩) hK hP hD hS hA [2, 0, 1] rfl [] rfl (by decide) (by decide) (fun u t H locs ht hvm hw_c6 hY_c6 hz_c6 hm_c6 hk_c6 hK hP hD hS => ?_)
  obtain ⟨qn, cn2, f2⟩ := u
  try dsimp only at hw_c6 hY_c6
  have hP : va_P D vwCl [(st, .inr (0, [.ref qn, .int (nI 0), .int (nI 0), .int (nI 0)])), (sbu, .inr (1, [.ref va, .int (nI 0), .int (nI 0), .int (nI cnt)])), (va, .inl (cB, 16, .inl fb)), (qn, .inl (cn2, cnt, .inl f2))] H := hP
  have hD : va_D A [(st, .inr (0, [.ref qn, .int (nI 0), .int (nI 0), .int (nI 0)])), (sbu, .inr (1, [.ref va, .int (nI 0), .int (nI 0), .int (nI cnt)])), (va, .inl (cB, 16, .inl fb)), (qn, .inl (cn2, cnt, .inl f2))] := hD
  have hK : va_K D vwCl [(cB, .byte), (cn2, .byte)] s := hK
  have hs8 := hS.1
  refine W.widen (k := 2) (n := (4 + (cnt))) (by omega) (by omega) ?_
  have hf2 := hw_c6.1
  have hq2 := hw_c6.2
  refine W.widen (k := (2)) (n := (4 + cnt)) (by omega) (by omega) ?_
  have hz0 := hS.1
  have lt0 := (hP 0 _ rfl).lt
  dsimp only at lt0
  have lt1 := (hP 1 _ rfl).lt
  dsimp only at lt1
  have lt2 := (hP 2 _ rfl).lt
  dsimp only at lt2
  have lt3 := (hP 3 _ rfl).lt
  dsimp only at lt3
  exact z_retr (q := st) (st, qn) hx hb hr (Or.inl ⟨_, rfl⟩) hlocks (show st = st from rfl) hK [] rfl hP hD hS [1, 2] (by decide) rfl (by omega) (by omega) (fun t ht hW => ⟨by rw [ht]; exact (zs_of hts (by decide +kernel) hK hP 0 3 1 rfl rfl rfl (fun j _ => hf2 j)).moved hW.alike, Or.inr ⟨by omega, by omega⟩⟩) dJ4_toString_0e30d_8
