set_option maxRecDepth 100000 in
set_option maxHeartbeats 4000000 in
/-- String.coder: 0 -/
theorem c_coder (l : Launch) (D : va_G) (N0 : Nat) (e : zE) (sz mz : Nat) (sa : Nat) (sv : Nat) (sn : Nat)  : Met l yJ0_coder_7d493 wsJ0_coder_7d493 ({ frames := 0, cells := 0, slots := 0, locals := 0 }) (va_Pc [.ref sa] (zP N0 e D [] [] sz mz [(sa, sv, sn)])) (zQi (fun (r : Int32) (_ : Unit) => r = (nI 0)) D (fun (_ : Unit) => ([] : va_W)) (fun (_ : Unit) => ([] : List (ClassId × FieldType))) sz (0) mz (0) (fun (_ : Unit) (t : State) => True) (va_A [] sz)) (0) (0) (va_A [] sz) := by
  refine z_met (Qc := fun A => zQi (fun (r : Int32) (_ : Unit) => r = (nI 0)) D (fun (_ : Unit) => ([] : va_W)) (fun (_ : Unit) => ([] : List (ClassId × FieldType))) sz (0) mz (0) (fun (_ : Unit) (t : State) => True) A) (cc := cJ0_coder_7d493) (maxL := 1) (ret := (some .byte)) RJ0 rfl (by decide) rfl (Nat.le_of_ble_eq_true rfl) ?_
  intro p ev s m below meth c ls A hx hb hr hml hown hts hlocks hnm hsz hmz hN hAe hA hAN hS hP hK hD hG hL hl
  subst hsz
  subst hmz
  have hl : lv_has ls 1 [(0, .ref sa)] := hl
  have zH_sa : zs sa sv (sn) A s s.heap := hL (sa, sv, sn) (by simp)
  obtain ⟨z1_sa, z2_sa, z3_sa, zf_sa, z4_sa, z5_sa⟩ := id zH_sa
  have zna_sa := zH_sa.na
  have znv_sa := zH_sa.nv
  refine va_gets hx hb (hG.1.narrow hAN) hS hown (hts (.fieldLink RJ0 38 "java/lang/String" "COMPACT_STRINGS" "Z") (by decide +kernel)) (fun _ h9 => h9) dJ0_coder_7d493_0 ?_
  refine W.eq (g2 := F0 m 3 ls [.int (nI 1)]) rfl ?_
  refine lv_if_eq (tgt := 13) hx hb dJ0_coder_7d493_3 (by decide) (fun hq => absurd hq (show ¬ ((nI 1) = (nI 0)) from fun hq => absurd ((nI_eq (by omega) (by omega)).mp hq) (by omega))) (fun _ => ?_)
  refine lv_aload_n hx hb dJ0_coder_7d493_6 rfl (lv_at hl 0 rfl) ?_
  refine vk_getf hx hb z2_sa hS hown (hts (.fieldLink RJ0 15 "java/lang/String" "coder" "B") (by decide +kernel)) (fun _ h9 => h9) dJ0_coder_7d493_7 ?_
  refine W.eq (g2 := F0 m 10 ls [.int (nI 0)]) rfl ?_
  refine lv_goto (tgt := 14) hx hb dJ0_coder_7d493_10 (by decide) ?_
  have hz0 := hS.1
  refine z_keepW (fun hkp => ?_)
  exact z_reti (v := (nI 0)) () hx hb hr (by first | rfl | decide) hlocks rfl hK [] rfl hP hD hS [] (by decide) rfl (by omega) (zw_keep hkp) (fun _ _ _ => trivial) dJ0_coder_7d493_14
set_option maxRecDepth 100000 in
set_option maxHeartbeats 4000000 in
/-- String.length -/
theorem c_slen (l : Launch) (D : va_G) (N0 : Nat) (e : zE) (sz mz : Nat) (sa : Nat) (sv : Nat) (sn : Nat) (hsn : sn < 65536) : Met l yJ0_length_8abf5 wsJ0_length_8abf5 ({ frames := 1, cells := 0, slots := 0, locals := 20 }) (va_Pc [.ref sa] (zP N0 e D [] [] sz mz [(sa, sv, sn)])) (zQi (fun (r : Int32) (_ : Unit) => r = (nI sn)) D (fun (_ : Unit) => ([] : va_W)) (fun (_ : Unit) => ([] : List (ClassId × FieldType))) sz (0) mz (0) (fun (_ : Unit) (t : State) => True) (va_A [] sz)) (0) (0) (va_A [] sz) := by
  refine z_met (Qc := fun A => zQi (fun (r : Int32) (_ : Unit) => r = (nI sn)) D (fun (_ : Unit) => ([] : va_W)) (fun (_ : Unit) => ([] : List (ClassId × FieldType))) sz (0) mz (0) (fun (_ : Unit) (t : State) => True) A) (cc := cJ0_length_8abf5) (maxL := 1) (ret := (some .int)) RJ0 rfl (by decide) rfl (Nat.le_of_ble_eq_true rfl) ?_
  intro p ev s m below meth c ls A hx hb hr hml hown hts hlocks hnm hsz hmz hN hAe hA hAN hS hP hK hD hG hL hl
  subst hsz
  subst hmz
  have hl : lv_has ls 1 [(0, .ref sa)] := hl
  have zH_sa : zs sa sv (sn) A s s.heap := hL (sa, sv, sn) (by simp)
  obtain ⟨z1_sa, z2_sa, z3_sa, zf_sa, z4_sa, z5_sa⟩ := id zH_sa
  have zna_sa := zH_sa.na
  have znv_sa := zH_sa.nv
  refine lv_aload_n hx hb dJ0_length_8abf5_0 rfl (lv_at hl 0 rfl) ?_
  refine vk_getf hx hb z3_sa hS hown (hts (.fieldLink RJ0 9 "java/lang/String" "value" "[B") (by decide +kernel)) (fun _ h9 => h9) dJ0_length_8abf5_1 ?_
  refine va_tlen (v := nI (sn)) hx hb z4_sa hS rfl dJ0_length_8abf5_4 ?_
  refine lv_aload_n hx hb dJ0_length_8abf5_5 rfl (lv_at hl 0 rfl) ?_
  have hFc := va_free (wc := []) hD hS hA [] rfl
  have kc1 : 0 + (0) ≤ 0 := by omega
  have ks2 : 0 + (0) ≤ 0 := by omega
  refine z_calli (wr := []) (va_runV (As := []) (rest := [.int (nI sn)]) ⟨hx, hb, hml, hown, hts⟩ (c_coder l D N0 e s.heap.size (zw s.heap) sa sv sn ) (cwV 0 hts gJ0_length_8abf5_J0_coder_7d493 rfl rfl rfl (by decide +kernel) ⟨Nat.le_of_ble_eq_true rfl, Nat.le_of_ble_eq_true rfl⟩) ⟨zP.blind, (zrecv (zstart zH_sa hS)), (z_pre hK hP hD hS hAN hN hG [] (by decide) rfl [] rfl (List.forall_mem_cons.mpr ⟨((zstart zH_sa hS).wall (z_inA zna_sa hFc) (z_inA znv_sa hFc)), fun q hq => absurd hq List.not_mem_nil⟩))⟩ rfl rfl hl.1 rfl (lv_room (Nat.le_of_ble_eq_true rfl)) dJ0_length_8abf5_6 ⟨kc1, ks2⟩) hK hP hD hS hA [] rfl [] rfl (by decide) (by decide) (fun r4 u t H locs ht hvm hw_c3 hY_c3 hz_c3 hm_c3 hk_c3 hK hP hD hS => ?_)
  have hP : va_P D vwCl [] H := hP
  have hD : va_D A [] := hD
  have hK : va_K D vwCl [] s := hK
  have hs5 := hS.1
  refine W.widen (k := 0) (n := 0) (by omega) (by omega) ?_
  subst hw_c3
  refine lv_ishr hx hb dJ0_length_8abf5_9 ?_
  refine lv_topi (fun t6 et6 => ?_)
  replace et6 := et6.trans (show ((nI sn) >>> ((nI 0) &&& 31)) = (nI sn) from z_shr0 _)
  subst et6
  have hz0 := hS.1
  refine z_keepW (fun hkp => ?_)
  exact z_reti (v := (nI sn)) () hx hb hr (by first | rfl | decide) hlocks rfl hK [] rfl hP hD hS [] (by decide) rfl (by omega) (zw_keep hkp) (fun _ _ _ => trivial) dJ0_length_8abf5_10
set_option maxRecDepth 100000 in
set_option maxHeartbeats 4000000 in
/-- AbstractStringBuilder.isLatin1: true -/
theorem c_isL1 (l : Launch) (D : va_G) (N0 : Nat) (e : zE) (sz mz : Nat) (sbu : Nat) (va : Nat) (cnt : Nat)  : Met l yJ5_isLatin1_aae02 wsJ5_isLatin1_aae02 ({ frames := 0, cells := 0, slots := 0, locals := 0 }) (va_Pc [.ref sbu] (zP N0 e D [] [(sbu, .inr (1, [.ref va, .int (nI 0), .int (nI 0), .int (nI cnt)]))] sz mz [])) (zQi (fun (r : Int32) (_ : Unit) => r = (nI 1)) D (fun (_ : Unit) => ([(sbu, .inr (1, [.ref va, .int (nI 0), .int (nI 0), .int (nI cnt)]))] : va_W)) (fun (_ : Unit) => ([] : List (ClassId × FieldType))) sz (0) mz (0) (fun (_ : Unit) (t : State) => True) (va_A [(sbu, .inr (1, [.ref va, .int (nI 0), .int (nI 0), .int (nI cnt)]))] sz)) (0) (0) (va_A [(sbu, .inr (1, [.ref va, .int (nI 0), .int (nI 0), .int (nI cnt)]))] sz) := by
  refine z_met (Qc := fun A => zQi (fun (r : Int32) (_ : Unit) => r = (nI 1)) D (fun (_ : Unit) => ([(sbu, .inr (1, [.ref va, .int (nI 0), .int (nI 0), .int (nI cnt)]))] : va_W)) (fun (_ : Unit) => ([] : List (ClassId × FieldType))) sz (0) mz (0) (fun (_ : Unit) (t : State) => True) A) (cc := cJ5_isLatin1_aae02) (maxL := 1) (ret := (some .boolean)) RJ5 rfl (by decide) rfl (Nat.le_of_ble_eq_true rfl) ?_
  intro p ev s m below meth c ls A hx hb hr hml hown hts hlocks hnm hsz hmz hN hAe hA hAN hS hP hK hD hG hL hl
  subst hsz
  subst hmz
  have hl : lv_has ls 1 [(0, .ref sbu)] := hl
  refine va_gets hx hb (hG.1.narrow hAN) hS hown (hts (.fieldLink RJ5 18 "java/lang/String" "COMPACT_STRINGS" "Z") (by decide +kernel)) (fun _ h9 => h9) dJ5_isLatin1_aae02_0 ?_
  refine W.eq (g2 := F0 m 3 ls [.int (nI 1)]) rfl ?_
  refine lv_if_eq (tgt := 17) hx hb dJ5_isLatin1_aae02_3 (by decide) (fun hq => absurd hq (show ¬ ((nI 1) = (nI 0)) from fun hq => absurd ((nI_eq (by omega) (by omega)).mp hq) (by omega))) (fun _ => ?_)
  refine lv_aload_n hx hb dJ5_isLatin1_aae02_6 rfl (lv_at hl 0 rfl) ?_
  refine va_get (D := D) (ci := 1) (v := .int (nI 0)) (C := RJ4) (T := TJ4) (N := 4) hx hb hts (by decide +kernel) hown hK hP 0 rfl rfl 1 (by decide) (hts (.fieldLink RJ5 22 "java/lang/AbstractStringBuilder" "coder" "B") (by decide +kernel)) (fun _ h9 => h9) rfl dJ5_isLatin1_aae02_7 ?_
  refine lv_if_ne (tgt := 17) hx hb dJ5_isLatin1_aae02_10 (by decide) (fun hq => absurd (show (nI 0) = (nI 0) from (nI_eq (by omega) (by omega)).mpr (by omega)) hq) (fun _ => ?_)
  refine lv_iconst (v := (nI 1)) hx hb dJ5_isLatin1_aae02_13 (by decide) ?_
  refine lv_goto (tgt := 18) hx hb dJ5_isLatin1_aae02_14 (by decide) ?_
  have hz0 := hS.1
  refine z_keepW (fun hkp => ?_)
  exact z_reti (v := (nI 1)) () hx hb hr (by first | rfl | decide) hlocks rfl hK [] rfl hP hD hS [0] (by decide) rfl (by omega) (zw_keep hkp) (fun _ _ _ => trivial) dJ5_isLatin1_aae02_18
set_option maxRecDepth 100000 in
set_option maxHeartbeats 4000000 in
/-- getValue -/
theorem c_getV (l : Launch) (D : va_G) (N0 : Nat) (e : zE) (sz mz : Nat) (sbu : Nat) (va : Nat) (cnt : Nat)  : Met l yJ5_getValue_6d5f1 wsJ5_getValue_6d5f1 ({ frames := 0, cells := 0, slots := 0, locals := 0 }) (va_Pc [.ref sbu] (zP N0 e D [] [(sbu, .inr (1, [.ref va, .int (nI 0), .int (nI 0), .int (nI cnt)]))] sz mz [])) (zQr (fun (_ : Unit) (ra : Nat) => ra = va) D (fun (_ : Unit) => ([(sbu, .inr (1, [.ref va, .int (nI 0), .int (nI 0), .int (nI cnt)]))] : va_W)) (fun (_ : Unit) => ([] : List (ClassId × FieldType))) sz (0) mz (0) (fun (_ : Unit) (t : State) => True) (va_A [(sbu, .inr (1, [.ref va, .int (nI 0), .int (nI 0), .int (nI cnt)]))] sz)) (0) (0) (va_A [(sbu, .inr (1, [.ref va, .int (nI 0), .int (nI 0), .int (nI cnt)]))] sz) := by
  refine z_met (Qc := fun A => zQr (fun (_ : Unit) (ra : Nat) => ra = va) D (fun (_ : Unit) => ([(sbu, .inr (1, [.ref va, .int (nI 0), .int (nI 0), .int (nI cnt)]))] : va_W)) (fun (_ : Unit) => ([] : List (ClassId × FieldType))) sz (0) mz (0) (fun (_ : Unit) (t : State) => True) A) (cc := cJ5_getValue_6d5f1) (maxL := 1) (ret := (some (.array .byte))) RJ5 rfl (by decide) rfl (Nat.le_of_ble_eq_true rfl) ?_
  intro p ev s m below meth c ls A hx hb hr hml hown hts hlocks hnm hsz hmz hN hAe hA hAN hS hP hK hD hG hL hl
  subst hsz
  subst hmz
  have hl : lv_has ls 1 [(0, .ref sbu)] := hl
  refine lv_aload_n hx hb dJ5_getValue_6d5f1_0 rfl (lv_at hl 0 rfl) ?_
  refine va_get (D := D) (ci := 1) (v := .ref va) (C := RJ4) (T := TJ4) (N := 4) hx hb hts (by decide +kernel) hown hK hP 0 rfl rfl 0 (by decide) (hts (.fieldLink RJ5 15 "java/lang/AbstractStringBuilder" "value" "[B") (by decide +kernel)) (fun _ h9 => h9) rfl dJ5_getValue_6d5f1_1 ?_
  have hz0 := hS.1
  refine z_keepW (fun hkp => ?_)
  exact z_retr (q := va) () hx hb hr (Or.inr ⟨_, rfl⟩) hlocks rfl hK [] rfl hP hD hS [0] (by decide) rfl (by omega) (zw_keep hkp) (fun _ _ _ => trivial) dJ5_getValue_6d5f1_4
set_option maxRecDepth 100000 in
set_option maxHeartbeats 4000000 in
/-- AbstractStringBuilder.length -/
theorem c_blen5 (l : Launch) (D : va_G) (N0 : Nat) (e : zE) (sz mz : Nat) (sbu : Nat) (va : Nat) (cnt : Nat)  : Met l yJ5_length_8abf5 wsJ5_length_8abf5 ({ frames := 0, cells := 0, slots := 0, locals := 0 }) (va_Pc [.ref sbu] (zP N0 e D [] [(sbu, .inr (1, [.ref va, .int (nI 0), .int (nI 0), .int (nI cnt)]))] sz mz [])) (zQi (fun (r : Int32) (_ : Unit) => r = (nI cnt)) D (fun (_ : Unit) => ([(sbu, .inr (1, [.ref va, .int (nI 0), .int (nI 0), .int (nI cnt)]))] : va_W)) (fun (_ : Unit) => ([] : List (ClassId × FieldType))) sz (0) mz (0) (fun (_ : Unit) (t : State) => True) (va_A [(sbu, .inr (1, [.ref va, .int (nI 0), .int (nI 0), .int (nI cnt)]))] sz)) (0) (0) (va_A [(sbu, .inr (1, [.ref va, .int (nI 0), .int (nI 0), .int (nI cnt)]))] sz) := by
  refine z_met (Qc := fun A => zQi (fun (r : Int32) (_ : Unit) => r = (nI cnt)) D (fun (_ : Unit) => ([(sbu, .inr (1, [.ref va, .int (nI 0), .int (nI 0), .int (nI cnt)]))] : va_W)) (fun (_ : Unit) => ([] : List (ClassId × FieldType))) sz (0) mz (0) (fun (_ : Unit) (t : State) => True) A) (cc := cJ5_length_8abf5) (maxL := 1) (ret := (some .int)) RJ5 rfl (by decide) rfl (Nat.le_of_ble_eq_true rfl) ?_
  intro p ev s m below meth c ls A hx hb hr hml hown hts hlocks hnm hsz hmz hN hAe hA hAN hS hP hK hD hG hL hl
  subst hsz
  subst hmz
  have hl : lv_has ls 1 [(0, .ref sbu)] := hl
  refine lv_aload_n hx hb dJ5_length_8abf5_0 rfl (lv_at hl 0 rfl) ?_
  refine va_get (D := D) (ci := 1) (v := .int (nI cnt)) (C := RJ4) (T := TJ4) (N := 4) hx hb hts (by decide +kernel) hown hK hP 0 rfl rfl 3 (by decide) (hts (.fieldLink RJ5 79 "java/lang/AbstractStringBuilder" "count" "I") (by decide +kernel)) (fun _ h9 => h9) rfl dJ5_length_8abf5_1 ?_
  have hz0 := hS.1
  refine z_keepW (fun hkp => ?_)
  exact z_reti (v := (nI cnt)) () hx hb hr (by first | rfl | decide) hlocks rfl hK [] rfl hP hD hS [0] (by decide) rfl (by omega) (zw_keep hkp) (fun _ _ _ => trivial) dJ5_length_8abf5_4
set_option maxRecDepth 100000 in
set_option maxHeartbeats 4000000 in
/-- StringBuilder.length -/
theorem c_blen (l : Launch) (D : va_G) (N0 : Nat) (e : zE) (sz mz : Nat) (sbu : Nat) (va : Nat) (cnt : Nat)  : Met l yJ4_length_8abf5 wsJ4_length_8abf5 ({ frames := 1, cells := 0, slots := 0, locals := 20 }) (va_Pc [.ref sbu] (zP N0 e D [] [(sbu, .inr (1, [.ref va, .int (nI 0), .int (nI 0), .int (nI cnt)]))] sz mz [])) (zQi (fun (r : Int32) (_ : Unit) => r = (nI cnt)) D (fun (_ : Unit) => ([(sbu, .inr (1, [.ref va, .int (nI 0), .int (nI 0), .int (nI cnt)]))] : va_W)) (fun (_ : Unit) => ([] : List (ClassId × FieldType))) sz (0) mz (0) (fun (_ : Unit) (t : State) => True) (va_A [(sbu, .inr (1, [.ref va, .int (nI 0), .int (nI 0), .int (nI cnt)]))] sz)) (0) (0) (va_A [(sbu, .inr (1, [.ref va, .int (nI 0), .int (nI 0), .int (nI cnt)]))] sz) := by
  refine z_met (Qc := fun A => zQi (fun (r : Int32) (_ : Unit) => r = (nI cnt)) D (fun (_ : Unit) => ([(sbu, .inr (1, [.ref va, .int (nI 0), .int (nI 0), .int (nI cnt)]))] : va_W)) (fun (_ : Unit) => ([] : List (ClassId × FieldType))) sz (0) mz (0) (fun (_ : Unit) (t : State) => True) A) (cc := cJ4_length_8abf5) (maxL := 1) (ret := (some .int)) RJ4 rfl (by decide) rfl (Nat.le_of_ble_eq_true rfl) ?_
  intro p ev s m below meth c ls A hx hb hr hml hown hts hlocks hnm hsz hmz hN hAe hA hAN hS hP hK hD hG hL hl
  subst hsz
  subst hmz
  have hl : lv_has ls 1 [(0, .ref sbu)] := hl
  refine lv_aload_n hx hb dJ4_length_8abf5_0 rfl (lv_at hl 0 rfl) ?_
  have hFc := va_free (wc := [(sbu, .inr (1, [.ref va, .int (nI 0), .int (nI 0), .int (nI cnt)]))]) hD hS hA [0] rfl
  have kc1 : 0 + (0) ≤ 0 := by omega
  have ks2 : 0 + (0) ≤ 0 := by omega
  refine z_calli (wr := []) (va_runSU (As := []) (rest := []) (hK.1 1 _ rfl).2 ⟨hx, hb, hml, hown, hts⟩ (c_blen5 l D N0 e s.heap.size (zw s.heap) sbu va cnt ) (va_cwSU 0 hts gJ4_length_8abf5_J5_length_8abf5_s343 rfl rfl rfl (by decide +kernel) ⟨Nat.le_of_ble_eq_true rfl, Nat.le_of_ble_eq_true rfl⟩) ⟨zP.blind, (va_recv hK hP (ci := 1) (q0 := 0) rfl rfl), (z_pre hK hP hD hS hAN hN hG [0] (by decide) rfl [] rfl (fun q hq => absurd hq List.not_mem_nil))⟩ rfl rfl hl.1 rfl (lv_room (Nat.le_of_ble_eq_true rfl)) dJ4_length_8abf5_1 ⟨kc1, ks2⟩) hK hP hD hS hA [0] rfl [] rfl (by decide) (by decide) (fun r4 u t H locs ht hvm hw_c3 hY_c3 hz_c3 hm_c3 hk_c3 hK hP hD hS => ?_)
  have hP : va_P D vwCl [(sbu, .inr (1, [.ref va, .int (nI 0), .int (nI 0), .int (nI cnt)]))] H := hP
  have hD : va_D A [(sbu, .inr (1, [.ref va, .int (nI 0), .int (nI 0), .int (nI cnt)]))] := hD
  have hK : va_K D vwCl [] s := hK
  have hs5 := hS.1
  refine W.widen (k := 0) (n := 0) (by omega) (by omega) ?_
  subst hw_c3
  have hz0 := hS.1
  refine z_keepW (fun hkp => ?_)
  exact z_reti (v := (nI cnt)) () hx hb hr (by first | rfl | decide) hlocks rfl hK [] rfl hP hD hS [0] (by decide) rfl (by omega) (zw_keep hkp) (fun _ _ _ => trivial) dJ4_length_8abf5_4
set_option maxRecDepth 100000 in
set_option maxHeartbeats 4000000 in
/-- ensureCapacityInternal: there is room -/
theorem c_ensure (l : Launch) (D : va_G) (N0 : Nat) (e : zE) (sz mz : Nat) (sbu : Nat) (va : Nat) (cnt : Nat) (cB : ClassId) (fb : Nat → Int32) (qq : Nat) (hqq : qq ≤ 16) : Met l yJ5_ensureCapacityInternal_d00df wsJ5_ensureCapacityInternal_d00df ({ frames := 0, cells := 0, slots := 0, locals := 0 }) (va_Pc [.ref sbu, .int (nI qq)] (zP N0 e D [(cB, .byte)] [(sbu, .inr (1, [.ref va, .int (nI 0), .int (nI 0), .int (nI cnt)])), (va, .inl (cB, 16, .inl fb))] sz mz [])) (zQv (fun (_ : Unit) => True) D (fun (_ : Unit) => ([(sbu, .inr (1, [.ref va, .int (nI 0), .int (nI 0), .int (nI cnt)])), (va, .inl (cB, 16, .inl fb))] : va_W)) (fun (_ : Unit) => ([] : List (ClassId × FieldType))) sz (0) mz (0) (fun (_ : Unit) (t : State) => True) (va_A [(sbu, .inr (1, [.ref va, .int (nI 0), .int (nI 0), .int (nI cnt)])), (va, .inl (cB, 16, .inl fb))] sz)) (0) (0) (va_A [(sbu, .inr (1, [.ref va, .int (nI 0), .int (nI 0), .int (nI cnt)])), (va, .inl (cB, 16, .inl fb))] sz) := by
  refine z_met (Qc := fun A => zQv (fun (_ : Unit) => True) D (fun (_ : Unit) => ([(sbu, .inr (1, [.ref va, .int (nI 0), .int (nI 0), .int (nI cnt)])), (va, .inl (cB, 16, .inl fb))] : va_W)) (fun (_ : Unit) => ([] : List (ClassId × FieldType))) sz (0) mz (0) (fun (_ : Unit) (t : State) => True) A) (cc := cJ5_ensureCapacityInternal_d00df) (maxL := 3) (ret := none) RJ5 rfl (by decide) rfl (Nat.le_of_ble_eq_true rfl) ?_
  intro p ev s m below meth c ls A hx hb hr hml hown hts hlocks hnm hsz hmz hN hAe hA hAN hS hP hK hD hG hL hl
  subst hsz
  subst hmz
  have hl : lv_has ls 3 [(0, .ref sbu), (1, .int (nI qq))] := hl
  refine lv_aload_n hx hb dJ5_ensureCapacityInternal_d00df_0 rfl (lv_at hl 0 rfl) ?_
  refine va_get (D := D) (ci := 1) (v := .ref va) (C := RJ4) (T := TJ4) (N := 4) hx hb hts (by decide +kernel) hown hK hP 0 rfl rfl 0 (by decide) (hts (.fieldLink RJ5 15 "java/lang/AbstractStringBuilder" "value" "[B") (by decide +kernel)) (fun _ h9 => h9) rfl dJ5_ensureCapacityInternal_d00df_1 ?_
  refine va_alen (v := nI (16)) hx hb hK hP 1 0 rfl rfl rfl dJ5_ensureCapacityInternal_d00df_4 ?_
  refine lv_aload_n hx hb dJ5_ensureCapacityInternal_d00df_5 rfl (lv_at hl 0 rfl) ?_
  refine va_get (D := D) (ci := 1) (v := .int (nI 0)) (C := RJ4) (T := TJ4) (N := 4) hx hb hts (by decide +kernel) hown hK hP 0 rfl rfl 1 (by decide) (hts (.fieldLink RJ5 22 "java/lang/AbstractStringBuilder" "coder" "B") (by decide +kernel)) (fun _ h9 => h9) rfl dJ5_ensureCapacityInternal_d00df_6 ?_
  refine lv_ishr hx hb dJ5_ensureCapacityInternal_d00df_9 ?_
  refine lv_topi (fun t1 et1 => ?_)
  replace et1 := et1.trans (show ((nI 16) >>> ((nI 0) &&& 31)) = (nI 16) from by decide)
  subst et1
  refine lv_istore_n (lv' := [(2, .int (nI 16)), (0, .ref sbu), (1, .int (nI qq))]) hx hb dJ5_ensureCapacityInternal_d00df_10 rfl hl (by decide) rfl (fun ls hl => ?_)
  refine lv_iload_n hx hb dJ5_ensureCapacityInternal_d00df_11 rfl (lv_at hl 2 rfl) ?_
  refine lv_iload_n hx hb dJ5_ensureCapacityInternal_d00df_12 rfl (lv_at hl 0 rfl) ?_
  refine lv_isub hx hb dJ5_ensureCapacityInternal_d00df_13 ?_
  refine lv_topi (fun t2 et2 => ?_)
  replace et2 := et2.trans (show ((nI qq) - (nI 16)) = (nI qq - nI 16) from rfl)
  subst et2
  refine lv_if_le (tgt := 38) hx hb dJ5_ensureCapacityInternal_d00df_14 (by decide) (fun _ => ?_) (fun hq => absurd (show nI qq - nI 16 ≤ nI 0 from z_suble hqq (by decide)) hq)
  have hz0 := hS.1
  refine z_keepW (fun hkp => ?_)
  exact z_retv () hx hb hr hlocks trivial hK [] rfl hP hD hS [0, 1] (by decide) rfl (by omega) (zw_keep hkp) (fun _ _ _ => trivial) dJ5_ensureCapacityInternal_d00df_38
set_option maxRecDepth 100000 in
set_option maxHeartbeats 4000000 in
/-- inflateIfNeededFor: nothing to do -/
theorem c_inflN (l : Launch) (D : va_G) (N0 : Nat) (e : zE) (sz mz : Nat) (sbu : Nat) (va : Nat) (cnt : Nat) (sa : Nat) (sv : Nat) (sn : Nat)  : Met l yJ5_inflateIfNeededFor_a7421 wsJ5_inflateIfNeededFor_a7421 ({ frames := 1, cells := 0, slots := 0, locals := 20 }) (va_Pc [.ref sbu, .ref sa] (zP N0 e D [] [(sbu, .inr (1, [.ref va, .int (nI 0), .int (nI 0), .int (nI cnt)]))] sz mz [(sa, sv, sn)])) (zQv (fun (_ : Unit) => True) D (fun (_ : Unit) => ([(sbu, .inr (1, [.ref va, .int (nI 0), .int (nI 0), .int (nI cnt)]))] : va_W)) (fun (_ : Unit) => ([] : List (ClassId × FieldType))) sz (0) mz (0) (fun (_ : Unit) (t : State) => True) (va_A [(sbu, .inr (1, [.ref va, .int (nI 0), .int (nI 0), .int (nI cnt)]))] sz)) (0) (0) (va_A [(sbu, .inr (1, [.ref va, .int (nI 0), .int (nI 0), .int (nI cnt)]))] sz) := by
  refine z_met (Qc := fun A => zQv (fun (_ : Unit) => True) D (fun (_ : Unit) => ([(sbu, .inr (1, [.ref va, .int (nI 0), .int (nI 0), .int (nI cnt)]))] : va_W)) (fun (_ : Unit) => ([] : List (ClassId × FieldType))) sz (0) mz (0) (fun (_ : Unit) (t : State) => True) A) (cc := cJ5_inflateIfNeededFor_a7421) (maxL := 2) (ret := none) RJ5 rfl (by decide) rfl (Nat.le_of_ble_eq_true rfl) ?_
  intro p ev s m below meth c ls A hx hb hr hml hown hts hlocks hnm hsz hmz hN hAe hA hAN hS hP hK hD hG hL hl
  subst hsz
  subst hmz
  have hl : lv_has ls 2 [(0, .ref sbu), (1, .ref sa)] := hl
  have zH_sa : zs sa sv (sn) A s s.heap := hL (sa, sv, sn) (by simp)
  obtain ⟨z1_sa, z2_sa, z3_sa, zf_sa, z4_sa, z5_sa⟩ := id zH_sa
  have zna_sa := zH_sa.na
  have znv_sa := zH_sa.nv
  refine va_gets hx hb (hG.1.narrow hAN) hS hown (hts (.fieldLink RJ5 18 "java/lang/String" "COMPACT_STRINGS" "Z") (by decide +kernel)) (fun _ h9 => h9) dJ5_inflateIfNeededFor_a7421_0 ?_
  refine W.eq (g2 := F0 m 3 ls [.int (nI 1)]) rfl ?_
  refine lv_if_eq (tgt := 21) hx hb dJ5_inflateIfNeededFor_a7421_3 (by decide) (fun hq => absurd hq (show ¬ ((nI 1) = (nI 0)) from fun hq => absurd ((nI_eq (by omega) (by omega)).mp hq) (by omega))) (fun _ => ?_)
  refine lv_aload_n hx hb dJ5_inflateIfNeededFor_a7421_6 rfl (lv_at hl 0 rfl) ?_
  refine va_get (D := D) (ci := 1) (v := .int (nI 0)) (C := RJ4) (T := TJ4) (N := 4) hx hb hts (by decide +kernel) hown hK hP 0 rfl rfl 1 (by decide) (hts (.fieldLink RJ5 22 "java/lang/AbstractStringBuilder" "coder" "B") (by decide +kernel)) (fun _ h9 => h9) rfl dJ5_inflateIfNeededFor_a7421_7 ?_
  refine lv_aload_n hx hb dJ5_inflateIfNeededFor_a7421_10 rfl (lv_at hl 1 rfl) ?_
  have hFc := va_free (wc := []) hD hS hA [] rfl
  have kc1 : 0 + (0) ≤ 0 := by omega
  have ks2 : 0 + (0) ≤ 0 := by omega
  refine z_calli (wr := [(sbu, .inr (1, [.ref va, .int (nI 0), .int (nI 0), .int (nI cnt)]))]) (va_runV (As := []) (rest := [.int (nI 0)]) ⟨hx, hb, hml, hown, hts⟩ (c_coder l D N0 e s.heap.size (zw s.heap) sa sv sn ) (cwV 0 hts gJ5_inflateIfNeededFor_a7421_J0_coder_7d493 rfl rfl rfl (by decide +kernel) ⟨Nat.le_of_ble_eq_true rfl, Nat.le_of_ble_eq_true rfl⟩) ⟨zP.blind, (zrecv (zstart zH_sa hS)), (z_pre hK hP hD hS hAN hN hG [] (by decide) rfl [] rfl (List.forall_mem_cons.mpr ⟨((zstart zH_sa hS).wall (z_inA zna_sa hFc) (z_inA znv_sa hFc)), fun q hq => absurd hq List.not_mem_nil⟩))⟩ rfl rfl hl.1 rfl (lv_room (Nat.le_of_ble_eq_true rfl)) dJ5_inflateIfNeededFor_a7421_11 ⟨kc1, ks2⟩) hK hP hD hS hA [] rfl [0] rfl (by decide) (by decide) (fun r4 u t H locs ht hvm hw_c3 hY_c3 hz_c3 hm_c3 hk_c3 hK hP hD hS => ?_)
  have hP : va_P D vwCl [(sbu, .inr (1, [.ref va, .int (nI 0), .int (nI 0), .int (nI cnt)]))] H := hP
  have hD : va_D A [(sbu, .inr (1, [.ref va, .int (nI 0), .int (nI 0), .int (nI cnt)]))] := hD
  have hK : va_K D vwCl [] s := hK
  have hs5 := hS.1
  refine W.widen (k := 0) (n := 0) (by omega) (by omega) ?_
  subst hw_c3
  refine lv_icmp_eq (tgt := 21) hx hb dJ5_inflateIfNeededFor_a7421_14 (by decide) (fun _ => ?_) (fun hq => absurd (show (nI 0) = (nI 0) from (nI_eq (by omega) (by omega)).mpr (by omega)) hq)
  have hz0 := hS.1
  refine z_keepW (fun hkp => ?_)
  exact z_retv () hx hb hr hlocks trivial hK [] rfl hP hD hS [0] (by decide) rfl (by omega) (zw_keep hkp) (fun _ _ _ => trivial) dJ5_inflateIfNeededFor_a7421_21
set_option maxRecDepth 100000 in
set_option maxHeartbeats 4000000 in
/-- String.getBytes: the text lies in the row -/
theorem c_getB (l : Launch) (D : va_G) (N0 : Nat) (e : zE) (sz mz : Nat) (sa : Nat) (sv : Nat) (sn : Nat) (va : Nat) (kk : Nat) (cB : ClassId) (fb : Nat → Int32) (hsn : sn < 65536) (hfit : kk + sn ≤ 16) (hfb : (∀ j, fits .byte (.int (fb j)) = true)) : Met l yJ0_getBytes_840e7 wsJ0_getBytes_840e7 ({ frames := 1, cells := 0, slots := 0, locals := 60 }) (va_Pc [.ref sa, .ref va, .int (nI kk), .int (nI 0)] (zP N0 e D [(cB, .byte)] [(va, .inl (cB, 16, .inl fb))] sz mz [(sa, sv, sn)])) (zQv (fun (f3 : Nat → Int32) => (∀ j, fits .byte (.int (f3 j)) = true)) D (fun (f3 : Nat → Int32) => ([(va, .inl (cB, 16, .inl f3))] : va_W)) (fun (f3 : Nat → Int32) => ([] : List (ClassId × FieldType))) sz (0) mz (0) (fun (f3 : Nat → Int32) (t : State) => True) (va_A [(va, .inl (cB, 16, .inl fb))] sz)) (0) (0) (va_A [(va, .inl (cB, 16, .inl fb))] sz) := by
  refine z_met (Qc := fun A => zQv (fun (f3 : Nat → Int32) => (∀ j, fits .byte (.int (f3 j)) = true)) D (fun (f3 : Nat → Int32) => ([(va, .inl (cB, 16, .inl f3))] : va_W)) (fun (f3 : Nat → Int32) => ([] : List (ClassId × FieldType))) sz (0) mz (0) (fun (f3 : Nat → Int32) (t : State) => True) A) (cc := cJ0_getBytes_840e7) (maxL := 4) (ret := none) RJ0 rfl (by decide) rfl (Nat.le_of_ble_eq_true rfl) ?_
  intro p ev s m below meth c ls A hx hb hr hml hown hts hlocks hnm hsz hmz hN hAe hA hAN hS hP hK hD hG hL hl
  subst hsz
  subst hmz
  have hl : lv_has ls 4 [(0, .ref sa), (1, .ref va), (2, .int (nI kk)), (3, .int (nI 0))] := hl
  have zH_sa : zs sa sv (sn) A s s.heap := hL (sa, sv, sn) (by simp)
  obtain ⟨z1_sa, z2_sa, z3_sa, zf_sa, z4_sa, z5_sa⟩ := id zH_sa
  have zna_sa := zH_sa.na
  have znv_sa := zH_sa.nv
  refine lv_aload_n hx hb dJ0_getBytes_840e7_0 rfl (lv_at hl 0 rfl) ?_
  have hFc := va_free (wc := []) hD hS hA [] rfl
  have kc1 : 0 + (0) ≤ 0 := by omega
  have ks2 : 0 + (0) ≤ 0 := by omega
  refine z_calli (wr := [(va, .inl (cB, 16, .inl fb))]) (va_runV (As := []) (rest := []) ⟨hx, hb, hml, hown, hts⟩ (c_coder l D N0 e s.heap.size (zw s.heap) sa sv sn ) (cwV 0 hts gJ0_getBytes_840e7_J0_coder_7d493 rfl rfl rfl (by decide +kernel) ⟨Nat.le_of_ble_eq_true rfl, Nat.le_of_ble_eq_true rfl⟩) ⟨zP.blind, (zrecv (zstart zH_sa hS)), (z_pre hK hP hD hS hAN hN hG [] (by decide) rfl [] rfl (List.forall_mem_cons.mpr ⟨((zstart zH_sa hS).wall (z_inA zna_sa hFc) (z_inA znv_sa hFc)), fun q hq => absurd hq List.not_mem_nil⟩))⟩ rfl rfl hl.1 rfl (lv_room (Nat.le_of_ble_eq_true rfl)) dJ0_getBytes_840e7_1 ⟨kc1, ks2⟩) hK hP hD hS hA [] rfl [0] rfl (by decide) (by decide) (fun r4 u t H locs ht hvm hw_c3 hY_c3 hz_c3 hm_c3 hk_c3 hK hP hD hS => ?_)
  have hP : va_P D vwCl [(va, .inl (cB, 16, .inl fb))] H := hP
  have hD : va_D A [(va, .inl (cB, 16, .inl fb))] := hD
  have hK : va_K D vwCl [(cB, .byte)] s := hK
  have hs5 := hS.1
  refine W.widen (k := 0) (n := 0) (by omega) (by omega) ?_
  subst hw_c3
  refine lv_iload_n hx hb dJ0_getBytes_840e7_4 rfl (lv_at hl 3 rfl) ?_
  refine lv_icmp_ne (tgt := 28) hx hb dJ0_getBytes_840e7_5 (by decide) (fun hq => absurd (show (nI 0) = (nI 0) from (nI_eq (by omega) (by omega)).mpr (by omega)) hq) (fun _ => ?_)
  refine lv_aload_n hx hb dJ0_getBytes_840e7_8 rfl (lv_at hl 0 rfl) ?_
  refine vk_getf hx hb z3_sa hS hown (hts (.fieldLink RJ0 9 "java/lang/String" "value" "[B") (by decide +kernel)) (fun _ h9 => h9) dJ0_getBytes_840e7_9 ?_
  refine lv_iconst (v := (nI 0)) hx hb dJ0_getBytes_840e7_12 (by decide) ?_
  refine lv_aload_n hx hb dJ0_getBytes_840e7_13 rfl (lv_at hl 1 rfl) ?_
  refine lv_iload_n hx hb dJ0_getBytes_840e7_14 rfl (lv_at hl 2 rfl) ?_
  refine lv_iload_n hx hb dJ0_getBytes_840e7_15 rfl (lv_at hl 3 rfl) ?_
  refine lv_ishl hx hb dJ0_getBytes_840e7_16 ?_
  refine lv_topi (fun t6 et6 => ?_)
  replace et6 := et6.trans (show ((nI kk) <<< ((nI 0) &&& 31)) = (nI kk) from z_shl0 _)
  subst et6
  refine lv_aload_n hx hb dJ0_getBytes_840e7_17 rfl (lv_at hl 0 rfl) ?_
  refine vk_getf hx hb z3_sa hS hown (hts (.fieldLink RJ0 9 "java/lang/String" "value" "[B") (by decide +kernel)) (fun _ h9 => h9) dJ0_getBytes_840e7_18 ?_
  refine va_tlen (v := nI (sn)) hx hb z4_sa hS rfl dJ0_getBytes_840e7_21 ?_
  refine vk_copyt hx hb (by rw [hml]; exact hl.1.symm) hown (hts (.methodLink RJ0 212 arraycopyName) (by decide +kernel)) (hts (.native arraycopyName) (by decide +kernel)) (hts (.static arraycopyName) (by decide +kernel)) (hts (.initialized "java/lang/System") (by decide +kernel)) hK hP hD hS z4_sa 0 0 rfl rfl (nI_pos (by omega)) (nI_pos (by omega)) (nI_pos (by omega)) (by rw [nI_clamp (by omega), nI_clamp (by omega)]; omega) (by rw [nI_clamp (by omega), nI_clamp (by omega)]; omega) (fun i hi => by rw [nI_clamp (by omega)] at hi ⊢; rw [Nat.zero_add]; exact z5_sa i hi) (Nat.le_of_ble_eq_true rfl) (Nat.le_of_ble_eq_true rfl) dJ0_getBytes_840e7_22 (fun H locs hP hD hS => ?_)
  rw [nI_clamp (show 0 < 2 ^ 31 by omega), nI_clamp (show kk < 2 ^ 31 by omega), nI_clamp (show sn < 2 ^ 31 by omega)] at hP hD
  have hf2 : (∀ j, fits .byte (.int ((va_cpy zf_sa fb 0 kk sn) j)) = true) := z_cpyfit (sp := 0) (dp := kk) (n := sn) (fun j hj => by rw [Nat.zero_add]; exact z5_sa j hj) hfb
  generalize va_cpy zf_sa fb 0 kk sn = f2 at hP hD hf2
  have hP : va_P D vwCl [(va, .inl (cB, 16, .inl f2))] H := hP
  have hD : va_D A [(va, .inl (cB, 16, .inl f2))] := hD
  have hs7 := hS.1
  refine lv_goto (tgt := 43) hx hb dJ0_getBytes_840e7_25 (by decide) ?_
  have hz0 := hS.1
  refine z_keepW (fun hkp => ?_)
  exact z_retv (f2) hx hb hr hlocks (show (∀ j, fits .byte (.int (f2 j)) = true) from hf2) hK [] rfl hP hD hS [0] (by decide) rfl (by omega) (zw_keep hkp) (fun _ _ _ => trivial) dJ0_getBytes_840e7_43
set_option maxRecDepth 100000 in
set_option maxHeartbeats 4000000 in
/-- putStringAt -/
theorem c_putAt (l : Launch) (D : va_G) (N0 : Nat) (e : zE) (sz mz : Nat) (sbu : Nat) (va : Nat) (cnt : Nat) (cB : ClassId) (fb : Nat → Int32) (sa : Nat) (sv : Nat) (sn : Nat) (kk : Nat) (hsn : sn < 65536) (hfit : kk + sn ≤ 16) (hfb : (∀ j, fits .byte (.int (fb j)) = true)) : Met l yJ5_putStringAt_47b60 wsJ5_putStringAt_47b60 ({ frames := 2, cells := 0, slots := 0, locals := 83 }) (va_Pc [.ref sbu, .int (nI kk), .ref sa] (zP N0 e D [(cB, .byte)] [(sbu, .inr (1, [.ref va, .int (nI 0), .int (nI 0), .int (nI cnt)])), (va, .inl (cB, 16, .inl fb))] sz mz [(sa, sv, sn)])) (zQv (fun (f3 : Nat → Int32) => (∀ j, fits .byte (.int (f3 j)) = true)) D (fun (f3 : Nat → Int32) => ([(sbu, .inr (1, [.ref va, .int (nI 0), .int (nI 0), .int (nI cnt)])), (va, .inl (cB, 16, .inl f3))] : va_W)) (fun (f3 : Nat → Int32) => ([] : List (ClassId × FieldType))) sz (0) mz (0) (fun (f3 : Nat → Int32) (t : State) => True) (va_A [(sbu, .inr (1, [.ref va, .int (nI 0), .int (nI 0), .int (nI cnt)])), (va, .inl (cB, 16, .inl fb))] sz)) (0) (0) (va_A [(sbu, .inr (1, [.ref va, .int (nI 0), .int (nI 0), .int (nI cnt)])), (va, .inl (cB, 16, .inl fb))] sz) := by
  refine z_met (Qc := fun A => zQv (fun (f3 : Nat → Int32) => (∀ j, fits .byte (.int (f3 j)) = true)) D (fun (f3 : Nat → Int32) => ([(sbu, .inr (1, [.ref va, .int (nI 0), .int (nI 0), .int (nI cnt)])), (va, .inl (cB, 16, .inl f3))] : va_W)) (fun (f3 : Nat → Int32) => ([] : List (ClassId × FieldType))) sz (0) mz (0) (fun (f3 : Nat → Int32) (t : State) => True) A) (cc := cJ5_putStringAt_47b60) (maxL := 3) (ret := none) RJ5 rfl (by decide) rfl (Nat.le_of_ble_eq_true rfl) ?_
  intro p ev s m below meth c ls A hx hb hr hml hown hts hlocks hnm hsz hmz hN hAe hA hAN hS hP hK hD hG hL hl
  subst hsz
  subst hmz
  have hl : lv_has ls 3 [(0, .ref sbu), (1, .int (nI kk)), (2, .ref sa)] := hl
  have zH_sa : zs sa sv (sn) A s s.heap := hL (sa, sv, sn) (by simp)
  obtain ⟨z1_sa, z2_sa, z3_sa, zf_sa, z4_sa, z5_sa⟩ := id zH_sa
  have zna_sa := zH_sa.na
  have znv_sa := zH_sa.nv
  refine lv_aload_n hx hb dJ5_putStringAt_47b60_0 rfl (lv_at hl 0 rfl) ?_
  refine lv_aload_n hx hb dJ5_putStringAt_47b60_1 rfl (lv_at hl 2 rfl) ?_
  have hFc := va_free (wc := [(sbu, .inr (1, [.ref va, .int (nI 0), .int (nI 0), .int (nI cnt)]))]) hD hS hA [0] rfl
  have kc1 : 0 + (0) ≤ 0 := by omega
  have ks2 : 0 + (0) ≤ 0 := by omega
  refine z_callv (wr := [(va, .inl (cB, 16, .inl fb))]) (va_runU (As := [.ref sa]) (rest := []) ⟨hx, hb, hml, hown, hts⟩ (c_inflN l D N0 e s.heap.size (zw s.heap) sbu va cnt sa sv sn ) (va_cwU 1 hts gJ5_putStringAt_47b60_J5_inflateIfNeededFor_a7421_u397J4 rfl rfl rfl rfl (by decide +kernel) ⟨Nat.le_of_ble_eq_true rfl, Nat.le_of_ble_eq_true rfl⟩) ⟨zP.blind, (va_recv hK hP (ci := 1) (q0 := 0) rfl rfl), (z_pre hK hP hD hS hAN hN hG [0] (by decide) rfl [] rfl (List.forall_mem_cons.mpr ⟨((zstart zH_sa hS).wall (z_inA zna_sa hFc) (z_inA znv_sa hFc)), fun q hq => absurd hq List.not_mem_nil⟩))⟩ rfl rfl hl.1 rfl (lv_room (Nat.le_of_ble_eq_true rfl)) dJ5_putStringAt_47b60_2 ⟨kc1, ks2⟩) hK hP hD hS hA [0] rfl [1] rfl (by decide) (by decide) (fun u t H locs ht hvm hw_c3 hY_c3 hz_c3 hm_c3 hk_c3 hK hP hD hS => ?_)
  have hP : va_P D vwCl [(va, .inl (cB, 16, .inl fb)), (sbu, .inr (1, [.ref va, .int (nI 0), .int (nI 0), .int (nI cnt)]))] H := hP
  have hD : va_D A [(va, .inl (cB, 16, .inl fb)), (sbu, .inr (1, [.ref va, .int (nI 0), .int (nI 0), .int (nI cnt)]))] := hD
  have hK : va_K D vwCl [(cB, .byte)] s := hK
  have hs5 := hS.1
  refine W.widen (k := 0) (n := 0) (by omega) (by omega) ?_
  refine lv_aload_n hx hb dJ5_putStringAt_47b60_5 rfl (lv_at hl 2 rfl) ?_
  refine lv_aload_n hx hb dJ5_putStringAt_47b60_6 rfl (lv_at hl 0 rfl) ?_
  refine va_get (D := D) (ci := 1) (v := .ref va) (C := RJ4) (T := TJ4) (N := 4) hx hb hts (by decide +kernel) hown hK hP 1 rfl rfl 0 (by decide) (hts (.fieldLink RJ5 15 "java/lang/AbstractStringBuilder" "value" "[B") (by decide +kernel)) (fun _ h9 => h9) rfl dJ5_putStringAt_47b60_7 ?_
  refine lv_iload_n hx hb dJ5_putStringAt_47b60_10 rfl (lv_at hl 1 rfl) ?_
  refine lv_aload_n hx hb dJ5_putStringAt_47b60_11 rfl (lv_at hl 0 rfl) ?_
  refine va_get (D := D) (ci := 1) (v := .int (nI 0)) (C := RJ4) (T := TJ4) (N := 4) hx hb hts (by decide +kernel) hown hK hP 1 rfl rfl 1 (by decide) (hts (.fieldLink RJ5 22 "java/lang/AbstractStringBuilder" "coder" "B") (by decide +kernel)) (fun _ h9 => h9) rfl dJ5_putStringAt_47b60_12 ?_
  have hFc := va_free (wc := [(va, .inl (cB, 16, .inl fb))]) hD hS hA [0] rfl
  have kc6 : 0 + (0) ≤ 0 := by omega
  have ks7 : 0 + (0) ≤ 0 := by omega
  refine z_callv (wr := [(sbu, .inr (1, [.ref va, .int (nI 0), .int (nI 0), .int (nI cnt)]))]) (va_runV (As := [.ref va, .int (nI kk), .int (nI 0)]) (rest := []) ⟨hx, hb, hml, hown, hts⟩ (c_getB l D N0 e H.size (zw H) sa sv sn va kk cB fb hsn hfit hfb) (cwV 3 hts gJ5_putStringAt_47b60_J0_getBytes_840e7 rfl rfl rfl (by decide +kernel) ⟨Nat.le_of_ble_eq_true rfl, Nat.le_of_ble_eq_true rfl⟩) ⟨zP.blind, (zrecv (zstart zH_sa hS)), (z_pre hK hP hD hS hAN hN hG [0] (by decide) rfl [0] rfl (List.forall_mem_cons.mpr ⟨((zstart zH_sa hS).wall (z_inA zna_sa hFc) (z_inA znv_sa hFc)), fun q hq => absurd hq List.not_mem_nil⟩))⟩ rfl rfl hl.1 rfl (lv_room (Nat.le_of_ble_eq_true rfl)) dJ5_putStringAt_47b60_15 ⟨kc6, ks7⟩) hK hP hD hS hA [0] rfl [1] rfl (by decide) (by decide) (fun u t H locs ht hvm hw_c8 hY_c8 hz_c8 hm_c8 hk_c8 hK hP hD hS => ?_)
  obtain ⟨f2, rfl⟩ : ∃ z, z = u := ⟨_, rfl⟩
  try dsimp only at hw_c8 hY_c8
  have hP : va_P D vwCl [(sbu, .inr (1, [.ref va, .int (nI 0), .int (nI 0), .int (nI cnt)])), (va, .inl (cB, 16, .inl f2))] H := hP
  have hD : va_D A [(sbu, .inr (1, [.ref va, .int (nI 0), .int (nI 0), .int (nI cnt)])), (va, .inl (cB, 16, .inl f2))] := hD
  have hK : va_K D vwCl [(cB, .byte)] s := hK
  have hs10 := hS.1
  refine W.widen (k := 0) (n := 0) (by omega) (by omega) ?_
  have hz0 := hS.1
  refine z_keepW (fun hkp => ?_)
  exact z_retv (f2) hx hb hr hlocks (show (∀ j, fits .byte (.int (f2 j)) = true) from hw_c8) hK [] rfl hP hD hS [0, 1] (by decide) rfl (by omega) (zw_keep hkp) (fun _ _ _ => trivial) dJ5_putStringAt_47b60_18
set_option maxRecDepth 100000 in
set_option maxHeartbeats 4000000 in
/-- append(String): the count grows by the text's length -/
theorem c_app5 (l : Launch) (D : va_G) (N0 : Nat) (e : zE) (sz mz : Nat) (sbu : Nat) (va : Nat) (cnt : Nat) (cB : ClassId) (fb : Nat → Int32) (sa : Nat) (sv : Nat) (sn : Nat) (hsn : sn < 65536) (hfit : cnt + sn ≤ 16) (hfb : (∀ j, fits .byte (.int (fb j)) = true)) : Met l yJ5_append_cf1ce wsJ5_append_cf1ce ({ frames := 3, cells := 0, slots := 0, locals := 105 }) (va_Pc [.ref sbu, .ref sa] (zP N0 e D [(cB, .byte)] [(sbu, .inr (1, [.ref va, .int (nI 0), .int (nI 0), .int (nI cnt)])), (va, .inl (cB, 16, .inl fb))] sz mz [(sa, sv, sn)])) (zQr (fun (f3 : Nat → Int32) (ra : Nat) => ra = sbu ∧ (∀ j, fits .byte (.int (f3 j)) = true)) D (fun (f3 : Nat → Int32) => ([(sbu, .inr (1, [.ref va, .int (nI 0), .int (nI 0), .int (nI (cnt + sn))])), (va, .inl (cB, 16, .inl f3))] : va_W)) (fun (f3 : Nat → Int32) => ([] : List (ClassId × FieldType))) sz (0) mz (0) (fun (f3 : Nat → Int32) (t : State) => True) (va_A [(sbu, .inr (1, [.ref va, .int (nI 0), .int (nI 0), .int (nI cnt)])), (va, .inl (cB, 16, .inl fb))] sz)) (0) (0) (va_A [(sbu, .inr (1, [.ref va, .int (nI 0), .int (nI 0), .int (nI cnt)])), (va, .inl (cB, 16, .inl fb))] sz) := by
  refine z_met (Qc := fun A => zQr (fun (f3 : Nat → Int32) (ra : Nat) => ra = sbu ∧ (∀ j, fits .byte (.int (f3 j)) = true)) D (fun (f3 : Nat → Int32) => ([(sbu, .inr (1, [.ref va, .int (nI 0), .int (nI 0), .int (nI (cnt + sn))])), (va, .inl (cB, 16, .inl f3))] : va_W)) (fun (f3 : Nat → Int32) => ([] : List (ClassId × FieldType))) sz (0) mz (0) (fun (f3 : Nat → Int32) (t : State) => True) A) (cc := cJ5_append_cf1ce) (maxL := 3) (ret := (some (.object "java/lang/AbstractStringBuilder"))) RJ5 rfl (by decide) rfl (Nat.le_of_ble_eq_true rfl) ?_
  intro p ev s m below meth c ls A hx hb hr hml hown hts hlocks hnm hsz hmz hN hAe hA hAN hS hP hK hD hG hL hl
  subst hsz
  subst hmz
  have hl : lv_has ls 3 [(0, .ref sbu), (1, .ref sa)] := hl
  have zH_sa : zs sa sv (sn) A s s.heap := hL (sa, sv, sn) (by simp)
  obtain ⟨z1_sa, z2_sa, z3_sa, zf_sa, z4_sa, z5_sa⟩ := id zH_sa
  have zna_sa := zH_sa.na
  have znv_sa := zH_sa.nv
  refine lv_aload_n hx hb dJ5_append_cf1ce_0 rfl (lv_at hl 1 rfl) ?_
  refine lv_ifnonnull (tgt := 9) hx hb dJ5_append_cf1ce_1 (by decide) ?_
  refine lv_aload_n hx hb dJ5_append_cf1ce_9 rfl (lv_at hl 1 rfl) ?_
  have hFc := va_free (wc := []) hD hS hA [] rfl
  have kc1 : 0 + (0) ≤ 0 := by omega
  have ks2 : 0 + (0) ≤ 0 := by omega
  refine z_calli (wr := [(sbu, .inr (1, [.ref va, .int (nI 0), .int (nI 0), .int (nI cnt)])), (va, .inl (cB, 16, .inl fb))]) (va_runV (As := []) (rest := []) ⟨hx, hb, hml, hown, hts⟩ (c_slen l D N0 e s.heap.size (zw s.heap) sa sv sn hsn) (cwV 0 hts gJ5_append_cf1ce_J0_length_8abf5 rfl rfl rfl (by decide +kernel) ⟨Nat.le_of_ble_eq_true rfl, Nat.le_of_ble_eq_true rfl⟩) ⟨zP.blind, (zrecv (zstart zH_sa hS)), (z_pre hK hP hD hS hAN hN hG [] (by decide) rfl [] rfl (List.forall_mem_cons.mpr ⟨((zstart zH_sa hS).wall (z_inA zna_sa hFc) (z_inA znv_sa hFc)), fun q hq => absurd hq List.not_mem_nil⟩))⟩ rfl rfl hl.1 rfl (lv_room (Nat.le_of_ble_eq_true rfl)) dJ5_append_cf1ce_10 ⟨kc1, ks2⟩) hK hP hD hS hA [] rfl [0, 1] rfl (by decide) (by decide) (fun r4 u t H locs ht hvm hw_c3 hY_c3 hz_c3 hm_c3 hk_c3 hK hP hD hS => ?_)
  have hP : va_P D vwCl [(sbu, .inr (1, [.ref va, .int (nI 0), .int (nI 0), .int (nI cnt)])), (va, .inl (cB, 16, .inl fb))] H := hP
  have hD : va_D A [(sbu, .inr (1, [.ref va, .int (nI 0), .int (nI 0), .int (nI cnt)])), (va, .inl (cB, 16, .inl fb))] := hD
  have hK : va_K D vwCl [(cB, .byte)] s := hK
  have hs5 := hS.1
  refine W.widen (k := 0) (n := 0) (by omega) (by omega) ?_
  subst hw_c3
  refine lv_istore_n (lv' := [(2, .int (nI sn)), (0, .ref sbu), (1, .ref sa)]) hx hb dJ5_append_cf1ce_13 rfl hl (by decide) rfl (fun ls hl => ?_)
  refine lv_aload_n hx hb dJ5_append_cf1ce_14 rfl (lv_at hl 1 rfl) ?_
  refine lv_aload_n hx hb dJ5_append_cf1ce_15 rfl (lv_at hl 1 rfl) ?_
  refine va_get (D := D) (ci := 1) (v := .int (nI cnt)) (C := RJ4) (T := TJ4) (N := 4) hx hb hts (by decide +kernel) hown hK hP 0 rfl rfl 3 (by decide) (hts (.fieldLink RJ5 79 "java/lang/AbstractStringBuilder" "count" "I") (by decide +kernel)) (fun _ h9 => h9) rfl dJ5_append_cf1ce_16 ?_
  refine lv_iload_n hx hb dJ5_append_cf1ce_19 rfl (lv_at hl 0 rfl) ?_
  refine lv_iadd hx hb dJ5_append_cf1ce_20 ?_
  refine lv_topi (fun t6 et6 => ?_)
  replace et6 := et6.trans (show ((nI cnt) + (nI sn)) = (nI (cnt + sn)) from nI_add _ _)
  subst et6
  have hFc := va_free (wc := [(sbu, .inr (1, [.ref va, .int (nI 0), .int (nI 0), .int (nI cnt)])), (va, .inl (cB, 16, .inl fb))]) hD hS hA [0, 1] rfl
  have kc7 : 0 + (0) ≤ 0 := by omega
  have ks8 : 0 + (0) ≤ 0 := by omega
  refine z_callv (wr := []) (va_runU (As := [.int (nI (cnt + sn))]) (rest := []) ⟨hx, hb, hml, hown, hts⟩ (c_ensure l D N0 e H.size (zw H) sbu va cnt cB fb (cnt + sn) hfit) (va_cwU 1 hts gJ5_append_cf1ce_J5_ensureCapacityInternal_d00df_u100J4 rfl rfl rfl rfl (by decide +kernel) ⟨Nat.le_of_ble_eq_true rfl, Nat.le_of_ble_eq_true rfl⟩) ⟨zP.blind, (va_recv hK hP (ci := 1) (q0 := 0) rfl rfl), (z_pre hK hP hD hS hAN hN hG [0, 1] (by decide) rfl [0] rfl (fun q hq => absurd hq List.not_mem_nil))⟩ rfl rfl hl.1 rfl (lv_room (Nat.le_of_ble_eq_true rfl)) dJ5_append_cf1ce_21 ⟨kc7, ks8⟩) hK hP hD hS hA [0, 1] rfl [] rfl (by decide) (by decide) (fun u t H locs ht hvm hw_c9 hY_c9 hz_c9 hm_c9 hk_c9 hK hP hD hS => ?_)
  have hP : va_P D vwCl [(sbu, .inr (1, [.ref va, .int (nI 0), .int (nI 0), .int (nI cnt)])), (va, .inl (cB, 16, .inl fb))] H := hP
  have hD : va_D A [(sbu, .inr (1, [.ref va, .int (nI 0), .int (nI 0), .int (nI cnt)])), (va, .inl (cB, 16, .inl fb))] := hD
  have hK : va_K D vwCl [(cB, .byte)] s := hK
  have hs11 := hS.1
  refine W.widen (k := 0) (n := 0) (by omega) (by omega) ?_
  refine lv_aload_n hx hb dJ5_append_cf1ce_24 rfl (lv_at hl 1 rfl) ?_
  refine lv_aload_n hx hb dJ5_append_cf1ce_25 rfl (lv_at hl 1 rfl) ?_
  refine va_get (D := D) (ci := 1) (v := .int (nI cnt)) (C := RJ4) (T := TJ4) (N := 4) hx hb hts (by decide +kernel) hown hK hP 0 rfl rfl 3 (by decide) (hts (.fieldLink RJ5 79 "java/lang/AbstractStringBuilder" "count" "I") (by decide +kernel)) (fun _ h9 => h9) rfl dJ5_append_cf1ce_26 ?_
  refine lv_aload_n hx hb dJ5_append_cf1ce_29 rfl (lv_at hl 2 rfl) ?_
  have hFc := va_free (wc := [(sbu, .inr (1, [.ref va, .int (nI 0), .int (nI 0), .int (nI cnt)])), (va, .inl (cB, 16, .inl fb))]) hD hS hA [0, 1] rfl
  have kc12 : 0 + (0) ≤ 0 := by omega
  have ks13 : 0 + (0) ≤ 0 := by omega
  refine z_callv (wr := []) (va_runU (As := [.int (nI cnt), .ref sa]) (rest := []) ⟨hx, hb, hml, hown, hts⟩ (c_putAt l D N0 e H.size (zw H) sbu va cnt cB fb sa sv sn cnt hsn hfit hfb) (va_cwU 2 hts gJ5_append_cf1ce_J5_putStringAt_47b60_u208J4 rfl rfl rfl rfl (by decide +kernel) ⟨Nat.le_of_ble_eq_true rfl, Nat.le_of_ble_eq_true rfl⟩) ⟨zP.blind, (va_recv hK hP (ci := 1) (q0 := 0) rfl rfl), (z_pre hK hP hD hS hAN hN hG [0, 1] (by decide) rfl [0] rfl (List.forall_mem_cons.mpr ⟨((zstart zH_sa hS).wall (z_inA zna_sa hFc) (z_inA znv_sa hFc)), fun q hq => absurd hq List.not_mem_nil⟩))⟩ rfl rfl hl.1 rfl (lv_room (Nat.le_of_ble_eq_true rfl)) dJ5_append_cf1ce_30 ⟨kc12, ks13⟩) hK hP hD hS hA [0, 1] rfl [] rfl (by decide) (by decide) (fun u t H locs ht hvm hw_c14 hY_c14 hz_c14 hm_c14 hk_c14 hK hP hD hS => ?_)
  obtain ⟨f2, rfl⟩ : ∃ z, z = u := ⟨_, rfl⟩
  try dsimp only at hw_c14 hY_c14
  have hP : va_P D vwCl [(sbu, .inr (1, [.ref va, .int (nI 0), .int (nI 0), .int (nI cnt)])), (va, .inl (cB, 16, .inl f2))] H := hP
  have hD : va_D A [(sbu, .inr (1, [.ref va, .int (nI 0), .int (nI 0), .int (nI cnt)])), (va, .inl (cB, 16, .inl f2))] := hD
  have hK : va_K D vwCl [(cB, .byte)] s := hK
  have hs16 := hS.1
  refine W.widen (k := 0) (n := 0) (by omega) (by omega) ?_
  have hf2 := hw_c14
  refine lv_aload_n hx hb dJ5_append_cf1ce_33 rfl (lv_at hl 1 rfl) ?_
  refine lv_dup hx hb dJ5_append_cf1ce_34 rfl ?_
  refine va_get (D := D) (ci := 1) (v := .int (nI cnt)) (C := RJ4) (T := TJ4) (N := 4) hx hb hts (by decide +kernel) hown hK hP 0 rfl rfl 3 (by decide) (hts (.fieldLink RJ5 79 "java/lang/AbstractStringBuilder" "count" "I") (by decide +kernel)) (fun _ h9 => h9) rfl dJ5_append_cf1ce_35 ?_
  refine lv_iload_n hx hb dJ5_append_cf1ce_38 rfl (lv_at hl 0 rfl) ?_
  refine lv_iadd hx hb dJ5_append_cf1ce_39 ?_
  refine lv_topi (fun t17 et17 => ?_)
  replace et17 := et17.trans (show ((nI cnt) + (nI sn)) = (nI (cnt + sn)) from nI_add _ _)
  subst et17
  refine va_put (D := D) (ci := 1) (v := .int (nI (cnt + sn))) (ty := .int) (C := RJ4) (T := TJ4) (N := 4) hx hb hts (by decide +kernel) tyJ4 tyJ4_ok nmJ4 hown hK hP hD hS 0 rfl rfl 3 (by decide) (hts (.fieldLink RJ5 79 "java/lang/AbstractStringBuilder" "count" "I") (by decide +kernel)) (fun _ h9 => h9) rfl (by decide +kernel) rfl rfl (Nat.le_of_ble_eq_true rfl) dJ5_append_cf1ce_40 (fun H locs hP hD hS => ?_)
  have hP : va_P D vwCl [(sbu, .inr (1, [.ref va, .int (nI 0), .int (nI 0), .int (nI (cnt + sn))])), (va, .inl (cB, 16, .inl f2))] H := hP
  have hD : va_D A [(sbu, .inr (1, [.ref va, .int (nI 0), .int (nI 0), .int (nI (cnt + sn))])), (va, .inl (cB, 16, .inl f2))] := hD
  have hs18 := hS.1
  refine lv_aload_n hx hb dJ5_append_cf1ce_43 rfl (lv_at hl 1 rfl) ?_
  have hz0 := hS.1
  refine z_keepW (fun hkp => ?_)
  exact z_retr (q := sbu) (f2) hx hb hr (Or.inl ⟨_, rfl⟩) hlocks (show sbu = sbu ∧ (∀ j, fits .byte (.int (f2 j)) = true) from ⟨rfl, hf2⟩) hK [] rfl hP hD hS [0, 1] (by decide) rfl (by omega) (zw_keep hkp) (fun _ _ _ => trivial) dJ5_append_cf1ce_44
set_option maxRecDepth 100000 in
set_option maxHeartbeats 4000000 in
/-- append(String): the count grows by the text's length -/
theorem c_app (l : Launch) (D : va_G) (N0 : Nat) (e : zE) (sz mz : Nat) (sbu : Nat) (va : Nat) (cnt : Nat) (cB : ClassId) (fb : Nat → Int32) (sa : Nat) (sv : Nat) (sn : Nat) (hsn : sn < 65536) (hfit : cnt + sn ≤ 16) (hfb : (∀ j, fits .byte (.int (fb j)) = true)) : Met l yJ4_append_15ec4 wsJ4_append_15ec4 ({ frames := 4, cells := 0, slots := 0, locals := 127 }) (va_Pc [.ref sbu, .ref sa] (zP N0 e D [(cB, .byte)] [(sbu, .inr (1, [.ref va, .int (nI 0), .int (nI 0), .int (nI cnt)])), (va, .inl (cB, 16, .inl fb))] sz mz [(sa, sv, sn)])) (zQr (fun (f3 : Nat → Int32) (ra : Nat) => ra = sbu ∧ (∀ j, fits .byte (.int (f3 j)) = true)) D (fun (f3 : Nat → Int32) => ([(sbu, .inr (1, [.ref va, .int (nI 0), .int (nI 0), .int (nI (cnt + sn))])), (va, .inl (cB, 16, .inl f3))] : va_W)) (fun (f3 : Nat → Int32) => ([] : List (ClassId × FieldType))) sz (0) mz (0) (fun (f3 : Nat → Int32) (t : State) => True) (va_A [(sbu, .inr (1, [.ref va, .int (nI 0), .int (nI 0), .int (nI cnt)])), (va, .inl (cB, 16, .inl fb))] sz)) (0) (0) (va_A [(sbu, .inr (1, [.ref va, .int (nI 0), .int (nI 0), .int (nI cnt)])), (va, .inl (cB, 16, .inl fb))] sz) := by
  refine z_met (Qc := fun A => zQr (fun (f3 : Nat → Int32) (ra : Nat) => ra = sbu ∧ (∀ j, fits .byte (.int (f3 j)) = true)) D (fun (f3 : Nat → Int32) => ([(sbu, .inr (1, [.ref va, .int (nI 0), .int (nI 0), .int (nI (cnt + sn))])), (va, .inl (cB, 16, .inl f3))] : va_W)) (fun (f3 : Nat → Int32) => ([] : List (ClassId × FieldType))) sz (0) mz (0) (fun (f3 : Nat → Int32) (t : State) => True) A) (cc := cJ4_append_15ec4) (maxL := 2) (ret := (some (.object "java/lang/StringBuilder"))) RJ4 rfl (by decide) rfl (Nat.le_of_ble_eq_true rfl) ?_
  intro p ev s m below meth c ls A hx hb hr hml hown hts hlocks hnm hsz hmz hN hAe hA hAN hS hP hK hD hG hL hl
  subst hsz
  subst hmz
  have hl : lv_has ls 2 [(0, .ref sbu), (1, .ref sa)] := hl
  have zH_sa : zs sa sv (sn) A s s.heap := hL (sa, sv, sn) (by simp)
  obtain ⟨z1_sa, z2_sa, z3_sa, zf_sa, z4_sa, z5_sa⟩ := id zH_sa
  have zna_sa := zH_sa.na
  have znv_sa := zH_sa.nv
  refine lv_aload_n hx hb dJ4_append_15ec4_0 rfl (lv_at hl 0 rfl) ?_
  refine lv_aload_n hx hb dJ4_append_15ec4_1 rfl (lv_at hl 1 rfl) ?_
  have hFc := va_free (wc := [(sbu, .inr (1, [.ref va, .int (nI 0), .int (nI 0), .int (nI cnt)])), (va, .inl (cB, 16, .inl fb))]) hD hS hA [0, 1] rfl
  have kc1 : 0 + (0) ≤ 0 := by omega
  have ks2 : 0 + (0) ≤ 0 := by omega
  refine z_callr (wr := []) (va_runSU (As := [.ref sa]) (rest := []) (hK.1 1 _ rfl).2 ⟨hx, hb, hml, hown, hts⟩ (c_app5 l D N0 e s.heap.size (zw s.heap) sbu va cnt cB fb sa sv sn hsn hfit hfb) (va_cwSU 1 hts gJ4_append_15ec4_J5_append_cf1ce_s29 rfl rfl rfl (by decide +kernel) ⟨Nat.le_of_ble_eq_true rfl, Nat.le_of_ble_eq_true rfl⟩) ⟨zP.blind, (va_recv hK hP (ci := 1) (q0 := 0) rfl rfl), (z_pre hK hP hD hS hAN hN hG [0, 1] (by decide) rfl [0] rfl (List.forall_mem_cons.mpr ⟨((zstart zH_sa hS).wall (z_inA zna_sa hFc) (z_inA znv_sa hFc)), fun q hq => absurd hq List.not_mem_nil⟩))⟩ rfl rfl hl.1 rfl (lv_room (Nat.le_of_ble_eq_true rfl)) dJ4_append_15ec4_2 ⟨kc1, ks2⟩) hK hP hD hS hA [0, 1] rfl [] rfl (by decide) (by decide) (fun u r4 t H locs ht hvm hw_c3 hY_c3 hz_c3 hm_c3 hk_c3 hK hP hD hS => ?_)
  obtain ⟨f2, rfl⟩ : ∃ z, z = u := ⟨_, rfl⟩
  try dsimp only at hw_c3 hY_c3
  have hP : va_P D vwCl [(sbu, .inr (1, [.ref va, .int (nI 0), .int (nI 0), .int (nI (cnt + sn))])), (va, .inl (cB, 16, .inl f2))] H := hP
  have hD : va_D A [(sbu, .inr (1, [.ref va, .int (nI 0), .int (nI 0), .int (nI (cnt + sn))])), (va, .inl (cB, 16, .inl f2))] := hD
  have hK : va_K D vwCl [(cB, .byte)] s := hK
  have hs5 := hS.1
  refine W.widen (k := 0) (n := 0) (by omega) (by omega) ?_
  obtain rfl : sbu = r4 := Eq.symm hw_c3.1
  have hf2 := hw_c3.2
  refine lv_pop hx hb dJ4_append_15ec4_5 rfl ?_
  refine lv_aload_n hx hb dJ4_append_15ec4_6 rfl (lv_at hl 0 rfl) ?_
  have hz0 := hS.1
  refine z_keepW (fun hkp => ?_)
  exact z_retr (q := sbu) (f2) hx hb hr (Or.inl ⟨_, rfl⟩) hlocks (show sbu = sbu ∧ (∀ j, fits .byte (.int (f2 j)) = true) from ⟨rfl, hf2⟩) hK [] rfl hP hD hS [0, 1] (by decide) rfl (by omega) (zw_keep hkp) (fun _ _ _ => trivial) dJ4_append_15ec4_7
set_option maxRecDepth 100000 in
set_option maxHeartbeats 4000000 in
/-- StringBuilder(): a row of 16 -/
theorem c_bini5 (l : Launch) (D : va_G) (N0 : Nat) (e : zE) (sz mz : Nat) (sbu : Nat)  : Met l yJ5_init_d00df wsJ5_init_d00df ({ frames := 1, cells := 1, slots := 16, locals := 16 }) (va_Pc [.ref sbu, .int (nI 16)] (zP N0 e D [] [(sbu, .inr (1, [.null, .int (nI 0), .int (nI 0), .int (nI 0)]))] sz mz [])) (zQv (fun (u : Nat × ClassId) => sz ≤ u.1) D (fun (u : Nat × ClassId) => ([(sbu, .inr (1, [.ref u.1, .int (nI 0), .int (nI 0), .int (nI 0)])), (u.1, .inl (u.2, 16, .inl (fun _ => 0)))] : va_W)) (fun (u : Nat × ClassId) => ([(u.2, .byte)] : List (ClassId × FieldType))) sz (1) mz (152) (fun (u : Nat × ClassId) (t : State) => True) (va_A [(sbu, .inr (1, [.null, .int (nI 0), .int (nI 0), .int (nI 0)]))] sz)) (1) (16) (va_A [(sbu, .inr (1, [.null, .int (nI 0), .int (nI 0), .int (nI 0)]))] sz) := by
  refine z_met (Qc := fun A => zQv (fun (u : Nat × ClassId) => sz ≤ u.1) D (fun (u : Nat × ClassId) => ([(sbu, .inr (1, [.ref u.1, .int (nI 0), .int (nI 0), .int (nI 0)])), (u.1, .inl (u.2, 16, .inl (fun _ => 0)))] : va_W)) (fun (u : Nat × ClassId) => ([(u.2, .byte)] : List (ClassId × FieldType))) sz (1) mz (152) (fun (u : Nat × ClassId) (t : State) => True) A) (cc := cJ5_init_d00df) (maxL := 2) (ret := none) RJ5 rfl (by decide) rfl (Nat.le_of_ble_eq_true rfl) ?_
  intro p ev s m below meth c ls A hx hb hr hml hown hts hlocks hnm hsz hmz hN hAe hA hAN hS hP hK hD hG hL hl
  subst hsz
  subst hmz
  have hl : lv_has ls 2 [(0, .ref sbu), (1, .int (nI 16))] := hl
  refine lv_aload_n hx hb dJ5_init_d00df_0 rfl (lv_at hl 0 rfl) ?_
  refine W.objInit hx hb hown (hts (.methodLink RJ5 3 objectInit) (by decide +kernel)) (hts (.instanceMethod objectInit) (by decide +kernel)) (hts (.code objectInit ⟨#[0xb1]⟩ 1 none) (by decide +kernel)) rfl (by rw [hml]; exact hl.1) rfl dJ5_init_d00df_1 (Nat.le_of_ble_eq_true rfl) (Nat.le_of_ble_eq_true rfl) ?_
  refine W.eq (g2 := F0 m 4 ls []) rfl ?_
  refine va_gets hx hb (hG.1.narrow hAN) hS hown (hts (.fieldLink RJ5 18 "java/lang/String" "COMPACT_STRINGS" "Z") (by decide +kernel)) (fun _ h9 => h9) dJ5_init_d00df_4 ?_
  refine W.eq (g2 := F0 m 7 ls [.int (nI 1)]) rfl ?_
  refine lv_if_eq (tgt := 25) hx hb dJ5_init_d00df_7 (by decide) (fun hq => absurd hq (show ¬ ((nI 1) = (nI 0)) from fun hq => absurd ((nI_eq (by omega) (by omega)).mp hq) (by omega))) (fun _ => ?_)
  refine lv_aload_n hx hb dJ5_init_d00df_10 rfl (lv_at hl 0 rfl) ?_
  refine lv_iload_n hx hb dJ5_init_d00df_11 rfl (lv_at hl 1 rfl) ?_
  have kc1 : 0 + 1 ≤ 1 := by omega
  have ks2 : 0 + 16 ≤ 16 := by omega
  refine z_newa (atype := .byte) (a0 := (16, .inl (fun _ => 0))) hx hb (hts (.arrayClass .byte) (by decide +kernel)) rfl hK hP hD hS hA (fun _ => rfl) (nI_pos (by omega)) (nI_clamp (by omega)) (by first | exact Nat.le_of_ble_eq_true rfl | (show (_ : Nat) * 1 ≤ _; omega) | (show (_ : Nat) * 2 ≤ _; omega)) kc1 ks2 dJ5_init_d00df_12 (fun va cB H hq_va hz_va hm_va hk_va hK hP hD hS => ?_)
  have hP : va_P D vwCl [(sbu, .inr (1, [.null, .int (nI 0), .int (nI 0), .int (nI 0)])), (va, .inl (cB, 16, .inl (fun _ => 0)))] H := hP
  have hD : va_D A [(sbu, .inr (1, [.null, .int (nI 0), .int (nI 0), .int (nI 0)])), (va, .inl (cB, 16, .inl (fun _ => 0)))] := hD
  have hK : va_K D vwCl [(cB, .byte)] s := hK
  have hs3 := hS.1
  refine W.widen (k := 1) (n := 16) (by omega) (by omega) ?_
  refine z_mono (fun hkb => ?_)
  refine va_put (D := D) (ci := 1) (v := .ref va) (ty := .array .byte) (C := RJ4) (T := TJ4) (N := 4) hx hb hts (by decide +kernel) tyJ4 tyJ4_ok nmJ4 hown hK hP hD hS 0 rfl rfl 0 (by decide) (hts (.fieldLink RJ5 15 "java/lang/AbstractStringBuilder" "value" "[B") (by decide +kernel)) (fun _ h9 => h9) rfl (by decide +kernel) rfl rfl (Nat.le_of_ble_eq_true rfl) dJ5_init_d00df_14 (fun H locs hP hD hS => ?_)
  refine z_bad hkb (fun hwm4 => ?_)
  have hP : va_P D vwCl [(sbu, .inr (1, [.ref va, .int (nI 0), .int (nI 0), .int (nI 0)])), (va, .inl (cB, 16, .inl (fun _ => 0)))] H := hP
  have hD : va_D A [(sbu, .inr (1, [.ref va, .int (nI 0), .int (nI 0), .int (nI 0)])), (va, .inl (cB, 16, .inl (fun _ => 0)))] := hD
  have hs5 := hS.1
  refine lv_aload_n hx hb dJ5_init_d00df_17 rfl (lv_at hl 0 rfl) ?_
  refine lv_iconst (v := (nI 0)) hx hb dJ5_init_d00df_18 (by decide) ?_
  refine z_mono (fun hkb => ?_)
  refine va_put (D := D) (ci := 1) (v := .int (nI 0)) (ty := .byte) (C := RJ4) (T := TJ4) (N := 4) hx hb hts (by decide +kernel) tyJ4 tyJ4_ok nmJ4 hown hK hP hD hS 0 rfl rfl 1 (by decide) (hts (.fieldLink RJ5 22 "java/lang/AbstractStringBuilder" "coder" "B") (by decide +kernel)) (fun _ h9 => h9) rfl (by decide +kernel) rfl rfl (Nat.le_of_ble_eq_true rfl) dJ5_init_d00df_19 (fun H locs hP hD hS => ?_)
  refine z_bad hkb (fun hwm6 => ?_)
  have hP : va_P D vwCl [(sbu, .inr (1, [.ref va, .int (nI 0), .int (nI 0), .int (nI 0)])), (va, .inl (cB, 16, .inl (fun _ => 0)))] H := hP
  have hD : va_D A [(sbu, .inr (1, [.ref va, .int (nI 0), .int (nI 0), .int (nI 0)])), (va, .inl (cB, 16, .inl (fun _ => 0)))] := hD
  have hs7 := hS.1
  refine lv_goto (tgt := 38) hx hb dJ5_init_d00df_22 (by decide) ?_
  have hz0 := hS.1
  have lt0 := (hP 0 _ rfl).lt
  dsimp only at lt0
  have lt1 := (hP 1 _ rfl).lt
  dsimp only at lt1
  exact z_retv (va, cB) hx hb hr hlocks (show s.heap.size ≤ va from (by omega)) hK [0] rfl hP hD hS [0, 1] (by decide) rfl (by omega) (by omega) (fun _ _ _ => trivial) dJ5_init_d00df_38
set_option maxRecDepth 100000 in
set_option maxHeartbeats 4000000 in
/-- StringBuilder(): a row of 16 -/
theorem c_bini (l : Launch) (D : va_G) (N0 : Nat) (e : zE) (sz mz : Nat) (sbu : Nat)  : Met l yJ4_init_da8c8 wsJ4_init_da8c8 ({ frames := 2, cells := 1, slots := 16, locals := 37 }) (va_Pc [.ref sbu] (zP N0 e D [] [(sbu, .inr (1, [.null, .int (nI 0), .int (nI 0), .int (nI 0)]))] sz mz [])) (zQv (fun (u : Nat × ClassId) => sz ≤ u.1) D (fun (u : Nat × ClassId) => ([(sbu, .inr (1, [.ref u.1, .int (nI 0), .int (nI 0), .int (nI 0)])), (u.1, .inl (u.2, 16, .inl (fun _ => 0)))] : va_W)) (fun (u : Nat × ClassId) => ([(u.2, .byte)] : List (ClassId × FieldType))) sz (1) mz (152) (fun (u : Nat × ClassId) (t : State) => True) (va_A [(sbu, .inr (1, [.null, .int (nI 0), .int (nI 0), .int (nI 0)]))] sz)) (1) (16) (va_A [(sbu, .inr (1, [.null, .int (nI 0), .int (nI 0), .int (nI 0)]))] sz) := by
  refine z_met (Qc := fun A => zQv (fun (u : Nat × ClassId) => sz ≤ u.1) D (fun (u : Nat × ClassId) => ([(sbu, .inr (1, [.ref u.1, .int (nI 0), .int (nI 0), .int (nI 0)])), (u.1, .inl (u.2, 16, .inl (fun _ => 0)))] : va_W)) (fun (u : Nat × ClassId) => ([(u.2, .byte)] : List (ClassId × FieldType))) sz (1) mz (152) (fun (u : Nat × ClassId) (t : State) => True) A) (cc := cJ4_init_da8c8) (maxL := 1) (ret := none) RJ4 rfl (by decide) rfl (Nat.le_of_ble_eq_true rfl) ?_
  intro p ev s m below meth c ls A hx hb hr hml hown hts hlocks hnm hsz hmz hN hAe hA hAN hS hP hK hD hG hL hl
  subst hsz
  subst hmz
  have hl : lv_has ls 1 [(0, .ref sbu)] := hl
  refine lv_aload_n hx hb dJ4_init_da8c8_0 rfl (lv_at hl 0 rfl) ?_
  refine lv_bipush (v := (nI 16)) hx hb dJ4_init_da8c8_1 (by decide) ?_
  have hFc := va_free (wc := [(sbu, .inr (1, [.null, .int (nI 0), .int (nI 0), .int (nI 0)]))]) hD hS hA [0] rfl
  have kc1 : 0 + (1) ≤ 1 := by omega
  have ks2 : 0 + (16) ≤ 16 := by omega
  refine z_callv (wr := []) (va_runI (As := [.int (nI 16)]) (rest := []) ⟨hx, hb, hml, hown, hts⟩ (c_bini5 l D N0 e s.heap.size (zw s.heap) sbu ) (cwI 1 hts gJ4_init_da8c8_J5_init_d00df rfl rfl rfl (hts (.initialized RJ5) (by decide +kernel)) (hts (.methodLink RJ4 1 yJ5_init_d00df) (by decide +kernel)) (hts (.instanceMethod yJ5_init_d00df) (by decide +kernel)) rfl (by decide +kernel) ⟨Nat.le_of_ble_eq_true rfl, Nat.le_of_ble_eq_true rfl⟩) ⟨zP.blind, (z_pre hK hP hD hS hAN hN hG [0] (by decide) rfl [] rfl (fun q hq => absurd hq List.not_mem_nil))⟩ rfl rfl hl.1 rfl (lv_room (Nat.le_of_ble_eq_true rfl)) dJ4_init_da8c8_3 ⟨kc1, ks2⟩) hK hP hD hS hA [0] rfl [] rfl (by decide) (by decide) (fun u t H locs ht hvm hw_c3 hY_c3 hz_c3 hm_c3 hk_c3 hK hP hD hS => ?_)
  obtain ⟨va, cB⟩ := u
  try dsimp only at hw_c3 hY_c3
  have hP : va_P D vwCl [(sbu, .inr (1, [.ref va, .int (nI 0), .int (nI 0), .int (nI 0)])), (va, .inl (cB, 16, .inl (fun _ => 0)))] H := hP
  have hD : va_D A [(sbu, .inr (1, [.ref va, .int (nI 0), .int (nI 0), .int (nI 0)])), (va, .inl (cB, 16, .inl (fun _ => 0)))] := hD
  have hK : va_K D vwCl [(cB, .byte)] s := hK
  have hs5 := hS.1
  refine W.widen (k := 1) (n := 16) (by omega) (by omega) ?_
  have hz0 := hS.1
  have lt0 := (hP 0 _ rfl).lt
  dsimp only at lt0
  have lt1 := (hP 1 _ rfl).lt
  dsimp only at lt1
  exact z_retv (va, cB) hx hb hr hlocks (show s.heap.size ≤ va from hw_c3) hK [0] rfl hP hD hS [0, 1] (by decide) rfl (by omega) (by omega) (fun _ _ _ => trivial) dJ4_init_da8c8_6
