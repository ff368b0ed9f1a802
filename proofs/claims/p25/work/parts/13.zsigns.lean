set_option maxRecDepth 100000 in
set_option maxHeartbeats 4000000 in
/-- Signs(room) -/
theorem c_signs (l : Launch) (D : va_G) (N0 : Nat) (e : zE) (sz mz : Nat) (hh : Nat) (room : Nat) (hr2 : room ≤ 1000) : Met l yX1_init wsX1_init ({ frames := 1, cells := 1, slots := room, locals := 16 }) (va_Pc [.ref hh, .int (nI room)] (zP N0 e D [] [(hh, .inr (4, [.null, .int (nI 0)]))] sz mz [])) (zQv (fun (u : Nat × ClassId) => True) D (fun (u : Nat × ClassId) => ([(hh, .inr (4, [.ref u.1, .int (nI 0)])), (u.1, .inl (u.2, room, .inl (fun _ => 0)))] : va_W)) (fun (u : Nat × ClassId) => ([(u.2, .char)] : List (ClassId × FieldType))) sz (0) mz (0) (fun (u : Nat × ClassId) (t : State) => True) (va_A [(hh, .inr (4, [.null, .int (nI 0)]))] sz)) (1) (room) (va_A [(hh, .inr (4, [.null, .int (nI 0)]))] sz) := by
  refine z_met (Qc := fun A => zQv (fun (u : Nat × ClassId) => True) D (fun (u : Nat × ClassId) => ([(hh, .inr (4, [.ref u.1, .int (nI 0)])), (u.1, .inl (u.2, room, .inl (fun _ => 0)))] : va_W)) (fun (u : Nat × ClassId) => ([(u.2, .char)] : List (ClassId × FieldType))) sz (0) mz (0) (fun (u : Nat × ClassId) (t : State) => True) A) (cc := cX1_init) (maxL := 2) (ret := none) RX1 rfl (by decide) rfl (Nat.le_of_ble_eq_true rfl) ?_
  intro p ev s m below meth c ls A hx hb hr hml hown hts hlocks hnm hsz hmz hN hAe hA hAN hS hP hK hD hG hL hl
  subst hsz
  subst hmz
  have hl : lv_has ls 2 [(0, .ref hh), (1, .int (nI room))] := hl
  refine lv_aload_n hx hb dX1_init_0 rfl (lv_at hl 0 rfl) ?_
  refine W.objInit hx hb hown (hts (.methodLink RX1 3 objectInit) (by decide +kernel)) (hts (.instanceMethod objectInit) (by decide +kernel)) (hts (.code objectInit ⟨#[0xb1]⟩ 1 none) (by decide +kernel)) rfl (by rw [hml]; exact hl.1) rfl dX1_init_1 (Nat.le_of_ble_eq_true rfl) (Nat.le_of_ble_eq_true rfl) ?_
  refine W.eq (g2 := F0 m 4 ls []) rfl ?_
  refine lv_aload_n hx hb dX1_init_4 rfl (lv_at hl 0 rfl) ?_
  refine lv_iconst (v := (nI 0)) hx hb dX1_init_5 (by decide) ?_
  refine va_put (D := D) (ci := 4) (v := .int (nI 0)) (ty := .int) (C := RX1) (T := TX1) (N := 2) hx hb hts (by decide +kernel) tyX1 tyX1_ok nmX1 hown hK hP hD hS 0 rfl rfl 1 (by decide) (hts (.fieldLink RX1 9 "Joinrow$Signs" "count" "I") (by decide +kernel)) (fun _ h9 => h9) rfl (by decide +kernel) rfl rfl (Nat.le_of_ble_eq_true rfl) dX1_init_6 (fun H locs hP hD hS => ?_)
  have hP : va_P D vwCl [(hh, .inr (4, [.null, .int (nI 0)]))] H := hP
  have hD : va_D A [(hh, .inr (4, [.null, .int (nI 0)]))] := hD
  have hs1 := hS.1
  refine lv_aload_n hx hb dX1_init_9 rfl (lv_at hl 0 rfl) ?_
  refine lv_iload_n hx hb dX1_init_10 rfl (lv_at hl 1 rfl) ?_
  refine lv_if_ge (tgt := 18) hx hb dX1_init_11 (by decide) (fun _ => ?_) (fun hq => absurd (show (nI 0) ≤ (nI room) from (nI_leI (by omega) (by omega)).mpr (by omega)) hq)
  refine lv_iload_n hx hb dX1_init_18 rfl (lv_at hl 1 rfl) ?_
  have kc2 : 0 + 1 ≤ 1 := by omega
  have ks3 : 0 + (room) ≤ room := by omega
  refine z_newa (atype := .char) (a0 := (room, .inl (fun _ => 0))) hx hb (hts (.arrayClass .char) (by decide +kernel)) rfl hK hP hD hS hA (fun _ => rfl) (nI_pos (by omega)) (nI_clamp (by omega)) (by first | exact Nat.le_of_ble_eq_true rfl | (show (_ : Nat) * 1 ≤ _; omega) | (show (_ : Nat) * 2 ≤ _; omega)) kc2 ks3 dX1_init_19 (fun row cR H hq_row hz_row hm_row hk_row hK hP hD hS => ?_)
  have hP : va_P D vwCl [(hh, .inr (4, [.null, .int (nI 0)])), (row, .inl (cR, room, .inl (fun _ => 0)))] H := hP
  have hD : va_D A [(hh, .inr (4, [.null, .int (nI 0)])), (row, .inl (cR, room, .inl (fun _ => 0)))] := hD
  have hK : va_K D vwCl [(cR, .char)] s := hK
  have hs4 := hS.1
  refine W.widen (k := 1) (n := (room)) (by omega) (by omega) ?_
  refine va_putF (D := D) (ci := 4) (v := .ref row) (ty := .array .char) (C := RX1) (T := TX1) (N := 2) hx hb hts (by decide +kernel) tyX1 tyX1_ok nmX1 hown hK hP hD hS 0 rfl rfl 0 (by decide) (hts (.fieldLink RX1 15 "Joinrow$Signs" "signs" "[C") (by decide +kernel)) (fun _ h9 => h9) rfl hnm rfl (by decide +kernel) rfl rfl (Nat.le_of_ble_eq_true rfl) dX1_init_21 (fun H locs hP hD hS => ?_)
  have hP : va_P D vwCl [(hh, .inr (4, [.ref row, .int (nI 0)])), (row, .inl (cR, room, .inl (fun _ => 0)))] H := hP
  have hD : va_D A [(hh, .inr (4, [.ref row, .int (nI 0)])), (row, .inl (cR, room, .inl (fun _ => 0)))] := hD
  have hs5 := hS.1
  refine W.widen (k := (1)) (n := (room)) (by omega) (by omega) ?_
  have hz0 := hS.1
  refine z_keepW (fun hkp => ?_)
  exact z_retv (row, cR) hx hb hr hlocks trivial hK [0] rfl hP hD hS [0, 1] (by decide) rfl (by omega) (zw_keep hkp) (fun _ _ _ => trivial) dX1_init_24
set_option maxRecDepth 100000 in
set_option maxHeartbeats 4000000 in
/-- Signs.put, with room -/
theorem c_put (l : Launch) (D : va_G) (N0 : Nat) (e : zE) (sz mz : Nat) (hh : Nat) (row : Nat) (cnt : Nat) (cR : ClassId) (fr : Nat → Int32) (cx : Int32) (hc : cnt < 4) : Met l yX1_put wsX1_put ({ frames := 0, cells := 0, slots := 0, locals := 0 }) (va_Pc [.ref hh, .int (cx)] (zP N0 e D [(cR, .char)] [(hh, .inr (4, [.ref row, .int (nI cnt)])), (row, .inl (cR, 4, .inl fr))] sz mz [])) (zQv (fun (f2 : Nat → Int32) => True) D (fun (f2 : Nat → Int32) => ([(hh, .inr (4, [.ref row, .int (nI (cnt + 1))])), (row, .inl (cR, 4, .inl f2))] : va_W)) (fun (f2 : Nat → Int32) => ([] : List (ClassId × FieldType))) sz (0) mz (0) (fun (f2 : Nat → Int32) (t : State) => True) (va_A [(hh, .inr (4, [.ref row, .int (nI cnt)])), (row, .inl (cR, 4, .inl fr))] sz)) (0) (0) (va_A [(hh, .inr (4, [.ref row, .int (nI cnt)])), (row, .inl (cR, 4, .inl fr))] sz) := by
  refine z_met (Qc := fun A => zQv (fun (f2 : Nat → Int32) => True) D (fun (f2 : Nat → Int32) => ([(hh, .inr (4, [.ref row, .int (nI (cnt + 1))])), (row, .inl (cR, 4, .inl f2))] : va_W)) (fun (f2 : Nat → Int32) => ([] : List (ClassId × FieldType))) sz (0) mz (0) (fun (f2 : Nat → Int32) (t : State) => True) A) (cc := cX1_put) (maxL := 2) (ret := none) RX1 rfl (by decide) rfl (Nat.le_of_ble_eq_true rfl) ?_
  intro p ev s m below meth c ls A hx hb hr hml hown hts hlocks hnm hsz hmz hN hAe hA hAN hS hP hK hD hG hL hl
  subst hsz
  subst hmz
  have hl : lv_has ls 2 [(0, .ref hh), (1, .int (cx))] := hl
  refine lv_aload_n hx hb dX1_put_0 rfl (lv_at hl 0 rfl) ?_
  refine va_get (D := D) (ci := 4) (v := .int (nI cnt)) (C := RX1) (T := TX1) (N := 2) hx hb hts (by decide +kernel) hown hK hP 0 rfl rfl 1 (by decide) (hts (.fieldLink RX1 9 "Joinrow$Signs" "count" "I") (by decide +kernel)) (fun _ h9 => h9) rfl dX1_put_1 ?_
  refine lv_if_lt (tgt := 39) hx hb dX1_put_4 (by decide) (fun hq => absurd hq (show ¬ ((nI cnt) < (nI 0)) from fun hq => absurd ((nI_ltI (by omega) (by omega)).mp hq) (by omega))) (fun _ => ?_)
  refine lv_aload_n hx hb dX1_put_7 rfl (lv_at hl 0 rfl) ?_
  refine va_get (D := D) (ci := 4) (v := .int (nI cnt)) (C := RX1) (T := TX1) (N := 2) hx hb hts (by decide +kernel) hown hK hP 0 rfl rfl 1 (by decide) (hts (.fieldLink RX1 9 "Joinrow$Signs" "count" "I") (by decide +kernel)) (fun _ h9 => h9) rfl dX1_put_8 ?_
  refine lv_aload_n hx hb dX1_put_11 rfl (lv_at hl 0 rfl) ?_
  refine va_get (D := D) (ci := 4) (v := .ref row) (C := RX1) (T := TX1) (N := 2) hx hb hts (by decide +kernel) hown hK hP 0 rfl rfl 0 (by decide) (hts (.fieldLink RX1 15 "Joinrow$Signs" "signs" "[C") (by decide +kernel)) (fun _ h9 => h9) rfl dX1_put_12 ?_
  refine va_alen (v := nI (4)) hx hb hK hP 1 0 rfl rfl rfl dX1_put_15 ?_
  refine lv_icmp_ge (tgt := 39) hx hb dX1_put_16 (by decide) (fun hq => absurd hq (show ¬ ((nI 4) ≤ (nI cnt)) from fun hq => absurd ((nI_leI (by omega) (by omega)).mp hq) (by omega))) (fun _ => ?_)
  refine lv_aload_n hx hb dX1_put_19 rfl (lv_at hl 0 rfl) ?_
  refine va_get (D := D) (ci := 4) (v := .ref row) (C := RX1) (T := TX1) (N := 2) hx hb hts (by decide +kernel) hown hK hP 0 rfl rfl 0 (by decide) (hts (.fieldLink RX1 15 "Joinrow$Signs" "signs" "[C") (by decide +kernel)) (fun _ h9 => h9) rfl dX1_put_20 ?_
  refine lv_aload_n hx hb dX1_put_23 rfl (lv_at hl 0 rfl) ?_
  refine va_get (D := D) (ci := 4) (v := .int (nI cnt)) (C := RX1) (T := TX1) (N := 2) hx hb hts (by decide +kernel) hown hK hP 0 rfl rfl 1 (by decide) (hts (.fieldLink RX1 9 "Joinrow$Signs" "count" "I") (by decide +kernel)) (fun _ h9 => h9) rfl dX1_put_24 ?_
  refine lv_iload_n hx hb dX1_put_27 rfl (lv_at hl 1 rfl) ?_
  have vi1 : vp_in (nI cnt) (4) := vp_in_nI (by omega) (by omega)
  refine va_cast hx hb hK hP hD hS 1 0 rfl rfl vi1 dX1_put_28 (fun H locs hP hD hS => ?_)
  generalize upd fr ((nI cnt)).toNatClampNeg (vp_nar .char (cx)) = g2 at hP hD
  have hP : va_P D vwCl [(hh, .inr (4, [.ref row, .int (nI cnt)])), (row, .inl (cR, 4, .inl g2))] H := hP
  have hD : va_D A [(hh, .inr (4, [.ref row, .int (nI cnt)])), (row, .inl (cR, 4, .inl g2))] := hD
  have hs2 := hS.1
  refine lv_aload_n hx hb dX1_put_29 rfl (lv_at hl 0 rfl) ?_
  refine lv_dup hx hb dX1_put_30 rfl ?_
  refine va_get (D := D) (ci := 4) (v := .int (nI cnt)) (C := RX1) (T := TX1) (N := 2) hx hb hts (by decide +kernel) hown hK hP 0 rfl rfl 1 (by decide) (hts (.fieldLink RX1 9 "Joinrow$Signs" "count" "I") (by decide +kernel)) (fun _ h9 => h9) rfl dX1_put_31 ?_
  refine lv_iconst (v := (nI 1)) hx hb dX1_put_34 (by decide) ?_
  refine lv_iadd hx hb dX1_put_35 ?_
  refine lv_topi (fun t3 et3 => ?_)
  replace et3 := et3.trans (show ((nI cnt) + (nI 1)) = (nI (cnt + 1)) from nI_add _ _)
  subst et3
  refine va_put (D := D) (ci := 4) (v := .int (nI (cnt + 1))) (ty := .int) (C := RX1) (T := TX1) (N := 2) hx hb hts (by decide +kernel) tyX1 tyX1_ok nmX1 hown hK hP hD hS 0 rfl rfl 1 (by decide) (hts (.fieldLink RX1 9 "Joinrow$Signs" "count" "I") (by decide +kernel)) (fun _ h9 => h9) rfl (by decide +kernel) rfl rfl (Nat.le_of_ble_eq_true rfl) dX1_put_36 (fun H locs hP hD hS => ?_)
  have hP : va_P D vwCl [(hh, .inr (4, [.ref row, .int (nI (cnt + 1))])), (row, .inl (cR, 4, .inl g2))] H := hP
  have hD : va_D A [(hh, .inr (4, [.ref row, .int (nI (cnt + 1))])), (row, .inl (cR, 4, .inl g2))] := hD
  have hs4 := hS.1
  have hz0 := hS.1
  refine z_keepW (fun hkp => ?_)
  exact z_retv (g2) hx hb hr hlocks trivial hK [] rfl hP hD hS [0, 1] (by decide) rfl (by omega) (zw_keep hkp) (fun _ _ _ => trivial) dX1_put_39
set_option maxRecDepth 100000 in
set_option maxHeartbeats 4000000 in
/-- String.isLatin1 -/
theorem c_sL1 (l : Launch) (D : va_G) (N0 : Nat) (e : zE) (sz mz : Nat) (sa : Nat) (sv : Nat) (sn : Nat)  : Met l yJ0_isLatin1_aae02 wsJ0_isLatin1_aae02 ({ frames := 0, cells := 0, slots := 0, locals := 0 }) (va_Pc [.ref sa] (zP N0 e D [] [] sz mz [(sa, sv, sn)])) (zQi (fun (r : Int32) (_ : Unit) => r = (nI 1)) D (fun (_ : Unit) => ([] : va_W)) (fun (_ : Unit) => ([] : List (ClassId × FieldType))) sz (0) mz (0) (fun (_ : Unit) (t : State) => True) (va_A [] sz)) (0) (0) (va_A [] sz) := by
  refine z_met (Qc := fun A => zQi (fun (r : Int32) (_ : Unit) => r = (nI 1)) D (fun (_ : Unit) => ([] : va_W)) (fun (_ : Unit) => ([] : List (ClassId × FieldType))) sz (0) mz (0) (fun (_ : Unit) (t : State) => True) A) (cc := cJ0_isLatin1_aae02) (maxL := 1) (ret := (some .boolean)) RJ0 rfl (by decide) rfl (Nat.le_of_ble_eq_true rfl) ?_
  intro p ev s m below meth c ls A hx hb hr hml hown hts hlocks hnm hsz hmz hN hAe hA hAN hS hP hK hD hG hL hl
  subst hsz
  subst hmz
  have hl : lv_has ls 1 [(0, .ref sa)] := hl
  have zH_sa : zs sa sv (sn) A s s.heap := hL (sa, sv, sn) (by simp)
  obtain ⟨z1_sa, z2_sa, z3_sa, zf_sa, z4_sa, z5_sa⟩ := id zH_sa
  have zna_sa := zH_sa.na
  have znv_sa := zH_sa.nv
  refine va_gets hx hb (hG.1.narrow hAN) hS hown (hts (.fieldLink RJ0 38 "java/lang/String" "COMPACT_STRINGS" "Z") (by decide +kernel)) (fun _ h9 => h9) dJ0_isLatin1_aae02_0 ?_
  refine W.eq (g2 := F0 m 3 ls [.int (nI 1)]) rfl ?_
  refine lv_if_eq (tgt := 17) hx hb dJ0_isLatin1_aae02_3 (by decide) (fun hq => absurd hq (show ¬ ((nI 1) = (nI 0)) from fun hq => absurd ((nI_eq (by omega) (by omega)).mp hq) (by omega))) (fun _ => ?_)
  refine lv_aload_n hx hb dJ0_isLatin1_aae02_6 rfl (lv_at hl 0 rfl) ?_
  refine vk_getf hx hb z2_sa hS hown (hts (.fieldLink RJ0 15 "java/lang/String" "coder" "B") (by decide +kernel)) (fun _ h9 => h9) dJ0_isLatin1_aae02_7 ?_
  refine W.eq (g2 := F0 m 10 ls [.int (nI 0)]) rfl ?_
  refine lv_if_ne (tgt := 17) hx hb dJ0_isLatin1_aae02_10 (by decide) (fun hq => absurd (show (nI 0) = (nI 0) from (nI_eq (by omega) (by omega)).mpr (by omega)) hq) (fun _ => ?_)
  refine lv_iconst (v := (nI 1)) hx hb dJ0_isLatin1_aae02_13 (by decide) ?_
  refine lv_goto (tgt := 18) hx hb dJ0_isLatin1_aae02_14 (by decide) ?_
  have hz0 := hS.1
  refine z_keepW (fun hkp => ?_)
  exact z_reti (v := (nI 1)) () hx hb hr (by first | rfl | decide) hlocks rfl hK [] rfl hP hD hS [] (by decide) rfl (by omega) (zw_keep hkp) (fun _ _ _ => trivial) dJ0_isLatin1_aae02_18
set_option maxRecDepth 100000 in
set_option maxHeartbeats 4000000 in
/-- Preconditions.checkIndex: it is in -/
theorem c_ckI3x (l : Launch) (D : va_G) (N0 : Nat) (e : zE) (sz mz : Nat) (ii : Nat) (nn : Nat) (fm : Nat) (hn : nn ≤ 65536) (hi : ii < nn) : Met l yJ3_checkIndex_8e157 wsJ3_checkIndex_8e157 ({ frames := 0, cells := 0, slots := 0, locals := 0 }) (va_Pc [.int (nI ii), .int (nI nn), .ref fm] (zP N0 e D [] [] sz mz [])) (zQi (fun (r : Int32) (_ : Unit) => r = (nI ii)) D (fun (_ : Unit) => ([] : va_W)) (fun (_ : Unit) => ([] : List (ClassId × FieldType))) sz (0) mz (0) (fun (_ : Unit) (t : State) => True) (va_A [] sz)) (0) (0) (va_A [] sz) := by
  refine z_met (Qc := fun A => zQi (fun (r : Int32) (_ : Unit) => r = (nI ii)) D (fun (_ : Unit) => ([] : va_W)) (fun (_ : Unit) => ([] : List (ClassId × FieldType))) sz (0) mz (0) (fun (_ : Unit) (t : State) => True) A) (cc := cJ3_checkIndex_8e157) (maxL := 3) (ret := (some .int)) RJ3 rfl (by decide) rfl (Nat.le_of_ble_eq_true rfl) ?_
  intro p ev s m below meth c ls A hx hb hr hml hown hts hlocks hnm hsz hmz hN hAe hA hAN hS hP hK hD hG hL hl
  subst hsz
  subst hmz
  have hl : lv_has ls 3 [(0, .int (nI ii)), (1, .int (nI nn)), (2, .ref fm)] := hl
  refine lv_iload_n hx hb dJ3_checkIndex_8e157_0 rfl (lv_at hl 0 rfl) ?_
  refine lv_if_lt (tgt := 9) hx hb dJ3_checkIndex_8e157_1 (by decide) (fun hq => absurd hq (show ¬ ((nI ii) < (nI 0)) from fun hq => absurd ((nI_ltI (by omega) (by omega)).mp hq) (by omega))) (fun _ => ?_)
  refine lv_iload_n hx hb dJ3_checkIndex_8e157_4 rfl (lv_at hl 0 rfl) ?_
  refine lv_iload_n hx hb dJ3_checkIndex_8e157_5 rfl (lv_at hl 1 rfl) ?_
  refine lv_icmp_lt (tgt := 16) hx hb dJ3_checkIndex_8e157_6 (by decide) (fun _ => ?_) (fun hq => absurd (show (nI ii) < (nI nn) from (nI_ltI (by omega) (by omega)).mpr (by omega)) hq)
  refine lv_iload_n hx hb dJ3_checkIndex_8e157_16 rfl (lv_at hl 0 rfl) ?_
  have hz0 := hS.1
  refine z_keepW (fun hkp => ?_)
  exact z_reti (v := (nI ii)) () hx hb hr (by first | rfl | decide) hlocks rfl hK [] rfl hP hD hS [] (by decide) rfl (by omega) (zw_keep hkp) (fun _ _ _ => trivial) dJ3_checkIndex_8e157_17
set_option maxRecDepth 100000 in
set_option maxHeartbeats 4000000 in
/-- String.checkIndex -/
theorem c_sck (l : Launch) (D : va_G) (N0 : Nat) (e : zE) (sz mz : Nat) (ii : Nat) (nn : Nat) (hn : nn ≤ 65536) (hi : ii < nn) : Met l yJ0_checkIndex_df160 wsJ0_checkIndex_df160 ({ frames := 1, cells := 0, slots := 0, locals := 22 }) (va_Pc [.int (nI ii), .int (nI nn)] (zP N0 e D [] [] sz mz [])) (zQv (fun (_ : Unit) => True) D (fun (_ : Unit) => ([] : va_W)) (fun (_ : Unit) => ([] : List (ClassId × FieldType))) sz (0) mz (0) (fun (_ : Unit) (t : State) => True) (va_A [] sz)) (0) (0) (va_A [] sz) := by
  refine z_met (Qc := fun A => zQv (fun (_ : Unit) => True) D (fun (_ : Unit) => ([] : va_W)) (fun (_ : Unit) => ([] : List (ClassId × FieldType))) sz (0) mz (0) (fun (_ : Unit) (t : State) => True) A) (cc := cJ0_checkIndex_df160) (maxL := 2) (ret := none) RJ0 rfl (by decide) rfl (Nat.le_of_ble_eq_true rfl) ?_
  intro p ev s m below meth c ls A hx hb hr hml hown hts hlocks hnm hsz hmz hN hAe hA hAN hS hP hK hD hG hL hl
  subst hsz
  subst hmz
  have hl : lv_has ls 2 [(0, .int (nI ii)), (1, .int (nI nn))] := hl
  refine lv_iload_n hx hb dJ0_checkIndex_df160_0 rfl (lv_at hl 0 rfl) ?_
  refine lv_iload_n hx hb dJ0_checkIndex_df160_1 rfl (lv_at hl 1 rfl) ?_
  rcases hG.2.2.2.1.narrow hAN with hzn | ⟨fm, hzr⟩
  · skip
    refine va_gets hx hb hzn hS hown (hts (.fieldLink RJ0 1053 "jdk/internal/util/Preconditions" "SIOOBE_FORMATTER" "Ljava/util/function/BiFunction;") (by decide +kernel)) (fun _ h9 => h9) dJ0_checkIndex_df160_2 ?_
    have hFc := va_free (wc := []) hD hS hA [] rfl
    have kc1 : 0 + (0) ≤ 0 := by omega
    have ks2 : 0 + (0) ≤ 0 := by omega
    refine z_calli (wr := []) (va_runS (As := [.int (nI ii), .int (nI nn), .null]) (rest := []) ⟨hx, hb, hml, hown, hts⟩ (c_ckI3 l D N0 e s.heap.size (zw s.heap) ii nn hn hi) (va_cwS 3 hts gJ0_checkIndex_df160_J3_checkIndex_8e157 rfl rfl rfl (by decide +kernel) ⟨Nat.le_of_ble_eq_true rfl, Nat.le_of_ble_eq_true rfl⟩) ⟨zP.blind, (z_pre hK hP hD hS hAN hN hG [] (by decide) rfl [] rfl (fun q hq => absurd hq List.not_mem_nil))⟩ rfl rfl hl.1 rfl (lv_room (Nat.le_of_ble_eq_true rfl)) dJ0_checkIndex_df160_5 ⟨kc1, ks2⟩) hK hP hD hS hA [] rfl [] rfl (by decide) (by decide) (fun r4 u t H locs ht hvm hw_c3 hY_c3 hz_c3 hm_c3 hk_c3 hK hP hD hS => ?_)
    have hP : va_P D vwCl [] H := hP
    have hD : va_D A [] := hD
    have hK : va_K D vwCl [] s := hK
    have hs5 := hS.1
    refine W.widen (k := 0) (n := 0) (by omega) (by omega) ?_
    subst hw_c3
    refine lv_pop hx hb dJ0_checkIndex_df160_8 rfl ?_
    have hz0 := hS.1
    refine z_keepW (fun hkp => ?_)
    exact z_retv () hx hb hr hlocks trivial hK [] rfl hP hD hS [] (by decide) rfl (by omega) (zw_keep hkp) (fun _ _ _ => trivial) dJ0_checkIndex_df160_9
  · skip
    refine va_gets hx hb hzr hS hown (hts (.fieldLink RJ0 1053 "jdk/internal/util/Preconditions" "SIOOBE_FORMATTER" "Ljava/util/function/BiFunction;") (by decide +kernel)) (fun _ h9 => h9) dJ0_checkIndex_df160_2 ?_
    have hFc := va_free (wc := []) hD hS hA [] rfl
    have kc6 : 0 + (0) ≤ 0 := by omega
    have ks7 : 0 + (0) ≤ 0 := by omega
    refine z_calli (wr := []) (va_runS (As := [.int (nI ii), .int (nI nn), .ref fm]) (rest := []) ⟨hx, hb, hml, hown, hts⟩ (c_ckI3x l D N0 e s.heap.size (zw s.heap) ii nn fm hn hi) (va_cwS 3 hts gJ0_checkIndex_df160_J3_checkIndex_8e157 rfl rfl rfl (by decide +kernel) ⟨Nat.le_of_ble_eq_true rfl, Nat.le_of_ble_eq_true rfl⟩) ⟨zP.blind, (z_pre hK hP hD hS hAN hN hG [] (by decide) rfl [] rfl (fun q hq => absurd hq List.not_mem_nil))⟩ rfl rfl hl.1 rfl (lv_room (Nat.le_of_ble_eq_true rfl)) dJ0_checkIndex_df160_5 ⟨kc6, ks7⟩) hK hP hD hS hA [] rfl [] rfl (by decide) (by decide) (fun r9 u t H locs ht hvm hw_c8 hY_c8 hz_c8 hm_c8 hk_c8 hK hP hD hS => ?_)
    have hP : va_P D vwCl [] H := hP
    have hD : va_D A [] := hD
    have hK : va_K D vwCl [] s := hK
    have hs10 := hS.1
    refine W.widen (k := 0) (n := 0) (by omega) (by omega) ?_
    subst hw_c8
    refine lv_pop hx hb dJ0_checkIndex_df160_8 rfl ?_
    have hz0 := hS.1
    refine z_keepW (fun hkp => ?_)
    exact z_retv () hx hb hr hlocks trivial hK [] rfl hP hD hS [] (by decide) rfl (by omega) (zw_keep hkp) (fun _ _ _ => trivial) dJ0_checkIndex_df160_9
set_option maxRecDepth 100000 in
set_option maxHeartbeats 4000000 in
/-- StringLatin1.charAt -/
theorem c_ch1 (l : Launch) (D : va_G) (N0 : Nat) (e : zE) (sz mz : Nat) (sa : Nat) (sv : Nat) (sn : Nat) (ii : Nat) (hsn : sn < 65536) (hi : ii < sn) : Met l yJ1_charAt_3b067 wsJ1_charAt_3b067 ({ frames := 2, cells := 0, slots := 0, locals := 43 }) (va_Pc [.ref sv, .int (nI ii)] (zP N0 e D [] [] sz mz [(sa, sv, sn)])) (zQi (fun (r : Int32) (_ : Unit) => ∃ w, w < 65536 ∧ r = nI w) D (fun (_ : Unit) => ([] : va_W)) (fun (_ : Unit) => ([] : List (ClassId × FieldType))) sz (0) mz (0) (fun (_ : Unit) (t : State) => True) (va_A [] sz)) (0) (0) (va_A [] sz) := by
  refine z_met (Qc := fun A => zQi (fun (r : Int32) (_ : Unit) => ∃ w, w < 65536 ∧ r = nI w) D (fun (_ : Unit) => ([] : va_W)) (fun (_ : Unit) => ([] : List (ClassId × FieldType))) sz (0) mz (0) (fun (_ : Unit) (t : State) => True) A) (cc := cJ1_charAt_3b067) (maxL := 2) (ret := (some .char)) RJ1 rfl (by decide) rfl (Nat.le_of_ble_eq_true rfl) ?_
  intro p ev s m below meth c ls A hx hb hr hml hown hts hlocks hnm hsz hmz hN hAe hA hAN hS hP hK hD hG hL hl
  subst hsz
  subst hmz
  have hl : lv_has ls 2 [(0, .ref sv), (1, .int (nI ii))] := hl
  have zH_sa : zs sa sv (sn) A s s.heap := hL (sa, sv, sn) (by simp)
  obtain ⟨z1_sa, z2_sa, z3_sa, zf_sa, z4_sa, z5_sa⟩ := id zH_sa
  have zna_sa := zH_sa.na
  have znv_sa := zH_sa.nv
  refine lv_iload_n hx hb dJ1_charAt_3b067_0 rfl (lv_at hl 1 rfl) ?_
  refine lv_aload_n hx hb dJ1_charAt_3b067_1 rfl (lv_at hl 0 rfl) ?_
  refine va_tlen (v := nI (sn)) hx hb z4_sa hS rfl dJ1_charAt_3b067_2 ?_
  have hFc := va_free (wc := []) hD hS hA [] rfl
  have kc1 : 0 + (0) ≤ 0 := by omega
  have ks2 : 0 + (0) ≤ 0 := by omega
  refine z_callv (wr := []) (va_runS (As := [.int (nI ii), .int (nI sn)]) (rest := []) ⟨hx, hb, hml, hown, hts⟩ (c_sck l D N0 e s.heap.size (zw s.heap) ii sn (by omega) (by omega)) (va_cwS 2 hts gJ1_charAt_3b067_J0_checkIndex_df160 rfl rfl rfl (by decide +kernel) ⟨Nat.le_of_ble_eq_true rfl, Nat.le_of_ble_eq_true rfl⟩) ⟨zP.blind, (z_pre hK hP hD hS hAN hN hG [] (by decide) rfl [] rfl (fun q hq => absurd hq List.not_mem_nil))⟩ rfl rfl hl.1 rfl (lv_room (Nat.le_of_ble_eq_true rfl)) dJ1_charAt_3b067_3 ⟨kc1, ks2⟩) hK hP hD hS hA [] rfl [] rfl (by decide) (by decide) (fun u t H locs ht hvm hw_c3 hY_c3 hz_c3 hm_c3 hk_c3 hK hP hD hS => ?_)
  have hP : va_P D vwCl [] H := hP
  have hD : va_D A [] := hD
  have hK : va_K D vwCl [] s := hK
  have hs5 := hS.1
  refine W.widen (k := 0) (n := 0) (by omega) (by omega) ?_
  refine lv_aload_n hx hb dJ1_charAt_3b067_6 rfl (lv_at hl 0 rfl) ?_
  refine lv_iload_n hx hb dJ1_charAt_3b067_7 rfl (lv_at hl 1 rfl) ?_
  have vi6 : vp_in (nI ii) (sn) := vp_in_nI (by omega) (by omega)
  refine va_tb hx hb z4_sa hS vi6 rfl dJ1_charAt_3b067_8 ?_
  refine lv_sipush (v := (nI 255)) hx hb dJ1_charAt_3b067_9 (by decide) ?_
  refine lv_iand hx hb dJ1_charAt_3b067_12 ?_
  obtain ⟨cw, hcw, ecw⟩ : ∃ cw : Nat, cw < 65536 ∧ (((zf_sa ((nI ii)).toNatClampNeg) &&& (nI 255)).toUInt32 % 65536).toInt32 = nI cw := ⟨_, Nat.mod_lt _ (by decide), pk_char ((zf_sa ((nI ii)).toNatClampNeg) &&& (nI 255))⟩
  refine lv_i2c (v := nI cw) hx hb dJ1_charAt_3b067_13 ecw ?_
  have hz0 := hS.1
  refine z_keepW (fun hkp => ?_)
  exact z_reti (v := (nI cw)) () hx hb hr (z_nchar hcw) hlocks ⟨cw, hcw, rfl⟩ hK [] rfl hP hD hS [] (by decide) rfl (by omega) (zw_keep hkp) (fun _ _ _ => trivial) dJ1_charAt_3b067_14
set_option maxRecDepth 100000 in
set_option maxHeartbeats 4000000 in
/-- String.charAt -/
theorem c_ch (l : Launch) (D : va_G) (N0 : Nat) (e : zE) (sz mz : Nat) (sa : Nat) (sv : Nat) (sn : Nat) (ii : Nat) (hsn : sn < 65536) (hi : ii < sn) : Met l yJ0_charAt_5068e wsJ0_charAt_5068e ({ frames := 3, cells := 0, slots := 0, locals := 64 }) (va_Pc [.ref sa, .int (nI ii)] (zP N0 e D [] [] sz mz [(sa, sv, sn)])) (zQi (fun (r : Int32) (_ : Unit) => ∃ w, w < 65536 ∧ r = nI w) D (fun (_ : Unit) => ([] : va_W)) (fun (_ : Unit) => ([] : List (ClassId × FieldType))) sz (0) mz (0) (fun (_ : Unit) (t : State) => True) (va_A [] sz)) (0) (0) (va_A [] sz) := by
  refine z_met (Qc := fun A => zQi (fun (r : Int32) (_ : Unit) => ∃ w, w < 65536 ∧ r = nI w) D (fun (_ : Unit) => ([] : va_W)) (fun (_ : Unit) => ([] : List (ClassId × FieldType))) sz (0) mz (0) (fun (_ : Unit) (t : State) => True) A) (cc := cJ0_charAt_5068e) (maxL := 2) (ret := (some .char)) RJ0 rfl (by decide) rfl (Nat.le_of_ble_eq_true rfl) ?_
  intro p ev s m below meth c ls A hx hb hr hml hown hts hlocks hnm hsz hmz hN hAe hA hAN hS hP hK hD hG hL hl
  subst hsz
  subst hmz
  have hl : lv_has ls 2 [(0, .ref sa), (1, .int (nI ii))] := hl
  have zH_sa : zs sa sv (sn) A s s.heap := hL (sa, sv, sn) (by simp)
  obtain ⟨z1_sa, z2_sa, z3_sa, zf_sa, z4_sa, z5_sa⟩ := id zH_sa
  have zna_sa := zH_sa.na
  have znv_sa := zH_sa.nv
  refine lv_aload_n hx hb dJ0_charAt_5068e_0 rfl (lv_at hl 0 rfl) ?_
  have hFc := va_free (wc := []) hD hS hA [] rfl
  have kc1 : 0 + (0) ≤ 0 := by omega
  have ks2 : 0 + (0) ≤ 0 := by omega
  refine z_calli (wr := []) (va_runV (As := []) (rest := []) ⟨hx, hb, hml, hown, hts⟩ (c_sL1 l D N0 e s.heap.size (zw s.heap) sa sv sn ) (cwV 0 hts gJ0_charAt_5068e_J0_isLatin1_aae02 rfl rfl rfl (by decide +kernel) ⟨Nat.le_of_ble_eq_true rfl, Nat.le_of_ble_eq_true rfl⟩) ⟨zP.blind, (zrecv (zstart zH_sa hS)), (z_pre hK hP hD hS hAN hN hG [] (by decide) rfl [] rfl (List.forall_mem_cons.mpr ⟨((zstart zH_sa hS).wall (z_inA zna_sa hFc) (z_inA znv_sa hFc)), fun q hq => absurd hq List.not_mem_nil⟩))⟩ rfl rfl hl.1 rfl (lv_room (Nat.le_of_ble_eq_true rfl)) dJ0_charAt_5068e_1 ⟨kc1, ks2⟩) hK hP hD hS hA [] rfl [] rfl (by decide) (by decide) (fun r4 u t H locs ht hvm hw_c3 hY_c3 hz_c3 hm_c3 hk_c3 hK hP hD hS => ?_)
  have hP : va_P D vwCl [] H := hP
  have hD : va_D A [] := hD
  have hK : va_K D vwCl [] s := hK
  have hs5 := hS.1
  refine W.widen (k := 0) (n := 0) (by omega) (by omega) ?_
  subst hw_c3
  refine lv_if_eq (tgt := 16) hx hb dJ0_charAt_5068e_4 (by decide) (fun hq => absurd hq (show ¬ ((nI 1) = (nI 0)) from fun hq => absurd ((nI_eq (by omega) (by omega)).mp hq) (by omega))) (fun _ => ?_)
  refine lv_aload_n hx hb dJ0_charAt_5068e_7 rfl (lv_at hl 0 rfl) ?_
  refine vk_getf hx hb z3_sa hS hown (hts (.fieldLink RJ0 9 "java/lang/String" "value" "[B") (by decide +kernel)) (fun _ h9 => h9) dJ0_charAt_5068e_8 ?_
  refine lv_iload_n hx hb dJ0_charAt_5068e_11 rfl (lv_at hl 1 rfl) ?_
  have hFc := va_free (wc := []) hD hS hA [] rfl
  have kc6 : 0 + (0) ≤ 0 := by omega
  have ks7 : 0 + (0) ≤ 0 := by omega
  refine z_calli (wr := []) (va_runS (As := [.ref sv, .int (nI ii)]) (rest := []) ⟨hx, hb, hml, hown, hts⟩ (c_ch1 l D N0 e H.size (zw H) sa sv sn ii hsn hi) (va_cwS 2 hts gJ0_charAt_5068e_J1_charAt_3b067 rfl rfl rfl (by decide +kernel) ⟨Nat.le_of_ble_eq_true rfl, Nat.le_of_ble_eq_true rfl⟩) ⟨zP.blind, (z_pre hK hP hD hS hAN hN hG [] (by decide) rfl [] rfl (List.forall_mem_cons.mpr ⟨((zstart zH_sa hS).wall (z_inA zna_sa hFc) (z_inA znv_sa hFc)), fun q hq => absurd hq List.not_mem_nil⟩))⟩ rfl rfl hl.1 rfl (lv_room (Nat.le_of_ble_eq_true rfl)) dJ0_charAt_5068e_12 ⟨kc6, ks7⟩) hK hP hD hS hA [] rfl [] rfl (by decide) (by decide) (fun r_c u t H locs ht hvm hw_c8 hY_c8 hz_c8 hm_c8 hk_c8 hK hP hD hS => ?_)
  have hP : va_P D vwCl [] H := hP
  have hD : va_D A [] := hD
  have hK : va_K D vwCl [] s := hK
  have hs9 := hS.1
  refine W.widen (k := 0) (n := 0) (by omega) (by omega) ?_
  have hz0 := hS.1
  refine z_keepW (fun hkp => ?_)
  exact z_reti (v := (r_c)) () hx hb hr (by obtain ⟨w, hw, rfl⟩ := hw_c8; exact z_nchar hw) hlocks hw_c8 hK [] rfl hP hD hS [] (by decide) rfl (by omega) (zw_keep hkp) (fun _ _ _ => trivial) dJ0_charAt_5068e_15
set_option maxRecDepth 100000 in
set_option maxHeartbeats 4000000 in
/-- Joiner(room, ..) -/
theorem c_jini (l : Launch) (D : va_G) (N0 : Nat) (e : zE) (sz mz : Nat) (j : Nat) (room : Nat) (bw : Nat) (pf : Nat) (sf : Nat) (hr2 : room ≤ 1000) : Met l yX0_init wsX0_init ({ frames := 2, cells := 4, slots := 4 + 2 * room, locals := 37 }) (va_Pc [.ref j, .int (nI room), .ref bw, .ref pf, .ref sf] (zP N0 e D [] [(j, .inr (3, [.null, .null, .null, .null, .null, .int (nI 0), .int (nI 0)]))] sz mz [])) (zQv (fun (u : Nat × Nat × Nat × ClassId) => True) D (fun (u : Nat × Nat × Nat × ClassId) => ([(j, .inr (3, [.ref u.1, .ref u.2.1, .ref bw, .ref pf, .ref sf, .int (nI 0), .int (nI 0)])), (u.1, .inr (4, [.ref u.2.2.1, .int (nI 0)])), (u.2.2.1, .inl (u.2.2.2, room, .inl (fun _ => 0)))] : va_W)) (fun (u : Nat × Nat × Nat × ClassId) => ([(u.2.2.2, .char)] : List (ClassId × FieldType))) sz (0) mz (0) (fun (u : Nat × Nat × Nat × ClassId) (t : State) => True) (va_A [(j, .inr (3, [.null, .null, .null, .null, .null, .int (nI 0), .int (nI 0)]))] sz)) (4) (4 + 2 * room) (va_A [(j, .inr (3, [.null, .null, .null, .null, .null, .int (nI 0), .int (nI 0)]))] sz) := by
  refine z_met (Qc := fun A => zQv (fun (u : Nat × Nat × Nat × ClassId) => True) D (fun (u : Nat × Nat × Nat × ClassId) => ([(j, .inr (3, [.ref u.1, .ref u.2.1, .ref bw, .ref pf, .ref sf, .int (nI 0), .int (nI 0)])), (u.1, .inr (4, [.ref u.2.2.1, .int (nI 0)])), (u.2.2.1, .inl (u.2.2.2, room, .inl (fun _ => 0)))] : va_W)) (fun (u : Nat × Nat × Nat × ClassId) => ([(u.2.2.2, .char)] : List (ClassId × FieldType))) sz (0) mz (0) (fun (u : Nat × Nat × Nat × ClassId) (t : State) => True) A) (cc := cX0_init) (maxL := 5) (ret := none) RX0 rfl (by decide) rfl (Nat.le_of_ble_eq_true rfl) ?_
  intro p ev s m below meth c ls A hx hb hr hml hown hts hlocks hnm hsz hmz hN hAe hA hAN hS hP hK hD hG hL hl
  subst hsz
  subst hmz
  have hl : lv_has ls 5 [(0, .ref j), (1, .int (nI room)), (2, .ref bw), (3, .ref pf), (4, .ref sf)] := hl
  refine lv_aload_n hx hb dX0_init_0 rfl (lv_at hl 0 rfl) ?_
  refine W.objInit hx hb hown (hts (.methodLink RX0 1 objectInit) (by decide +kernel)) (hts (.instanceMethod objectInit) (by decide +kernel)) (hts (.code objectInit ⟨#[0xb1]⟩ 1 none) (by decide +kernel)) rfl (by rw [hml]; exact hl.1) rfl dX0_init_1 (Nat.le_of_ble_eq_true rfl) (Nat.le_of_ble_eq_true rfl) ?_
  refine W.eq (g2 := F0 m 4 ls []) rfl ?_
  refine lv_aload_n hx hb dX0_init_4 rfl (lv_at hl 0 rfl) ?_
  refine lv_iconst (v := (nI 0)) hx hb dX0_init_5 (by decide) ?_
  refine va_put (D := D) (ci := 3) (v := .int (nI 0)) (ty := .boolean) (C := RX0) (T := TX0) (N := 7) hx hb hts (by decide +kernel) tyX0 tyX0_ok nmX0 hown hK hP hD hS 0 rfl rfl 5 (by decide) (hts (.fieldLink RX0 7 "Joinrow$Joiner" "isFilled" "Z") (by decide +kernel)) (fun _ h9 => h9) rfl (by decide +kernel) rfl rfl (Nat.le_of_ble_eq_true rfl) dX0_init_6 (fun H locs hP hD hS => ?_)
  have hP : va_P D vwCl [(j, .inr (3, [.null, .null, .null, .null, .null, .int (nI 0), .int (nI 0)]))] H := hP
  have hD : va_D A [(j, .inr (3, [.null, .null, .null, .null, .null, .int (nI 0), .int (nI 0)]))] := hD
  have hs1 := hS.1
  refine lv_aload_n hx hb dX0_init_9 rfl (lv_at hl 0 rfl) ?_
  refine lv_iconst (v := (nI 0)) hx hb dX0_init_10 (by decide) ?_
  refine va_put (D := D) (ci := 3) (v := .int (nI 0)) (ty := .boolean) (C := RX0) (T := TX0) (N := 7) hx hb hts (by decide +kernel) tyX0 tyX0_ok nmX0 hown hK hP hD hS 0 rfl rfl 6 (by decide) (hts (.fieldLink RX0 13 "Joinrow$Joiner" "hasEmptyText" "Z") (by decide +kernel)) (fun _ h9 => h9) rfl (by decide +kernel) rfl rfl (Nat.le_of_ble_eq_true rfl) dX0_init_11 (fun H locs hP hD hS => ?_)
  have hP : va_P D vwCl [(j, .inr (3, [.null, .null, .null, .null, .null, .int (nI 0), .int (nI 0)]))] H := hP
  have hD : va_D A [(j, .inr (3, [.null, .null, .null, .null, .null, .int (nI 0), .int (nI 0)]))] := hD
  have hs2 := hS.1
  refine lv_aload_n hx hb dX0_init_14 rfl (lv_at hl 0 rfl) ?_
  have kc3 : 0 + 1 ≤ 4 := by omega
  have ks4 : 0 + 2 ≤ 4 + 2 * room := by omega
  refine z_new (ci := 4) (fs := [.null, .int 0]) (C := RX1) (T := TX1) (N := 2) hx hb hts (by decide +kernel) tyX1 tyX1_ok hown (hts (.classLink RX0 16 RX1) (by decide +kernel)) (hts (.instantiable RX1 2) (by decide +kernel)) (hts (.initialized RX1) (by decide +kernel)) hK hP hD hS hA rfl (fun j hj => by match j, hj with | 0, _ => rfl | 1, _ => rfl) kc3 ks4 dX0_init_15 (fun ins H hq_ins hz_ins hm_ins hk_ins hP hD hS => ?_)
  have hP : va_P D vwCl [(j, .inr (3, [.null, .null, .null, .null, .null, .int (nI 0), .int (nI 0)])), (ins, .inr (4, [.null, .int (nI 0)]))] H := hP
  have hD : va_D A [(j, .inr (3, [.null, .null, .null, .null, .null, .int (nI 0), .int (nI 0)])), (ins, .inr (4, [.null, .int (nI 0)]))] := hD
  have hs5 := hS.1
  refine W.widen (k := 1) (n := 2) (by omega) (by omega) ?_
  refine lv_dup hx hb dX0_init_18 rfl ?_
  refine lv_iload_n hx hb dX0_init_19 rfl (lv_at hl 1 rfl) ?_
  have hFc := va_free (wc := [(ins, .inr (4, [.null, .int (nI 0)]))]) hD hS hA [1] rfl
  have kc6 : 1 + (1) ≤ 4 := by omega
  have ks7 : 2 + (room) ≤ 4 + 2 * room := by omega
  refine z_callv (wr := [(j, .inr (3, [.null, .null, .null, .null, .null, .int (nI 0), .int (nI 0)]))]) (va_runI (As := [.int (nI room)]) (rest := [.ref ins, .ref j]) ⟨hx, hb, hml, hown, hts⟩ (c_signs l D N0 e H.size (zw H) ins room hr2) (cwI 1 hts gX0_init_X1_init rfl rfl rfl (hts (.initialized RX1) (by decide +kernel)) (hts (.methodLink RX0 18 yX1_init) (by decide +kernel)) (hts (.instanceMethod yX1_init) (by decide +kernel)) rfl (by decide +kernel) ⟨Nat.le_of_ble_eq_true rfl, Nat.le_of_ble_eq_true rfl⟩) ⟨zP.blind, (z_pre hK hP hD hS hAN hN hG [1] (by decide) rfl [] rfl (fun q hq => absurd hq List.not_mem_nil))⟩ rfl rfl hl.1 rfl (lv_room (Nat.le_of_ble_eq_true rfl)) dX0_init_20 ⟨kc6, ks7⟩) hK hP hD hS hA [1] rfl [0] rfl (by decide) (by decide) (fun u t H locs ht hvm hw_c8 hY_c8 hz_c8 hm_c8 hk_c8 hK hP hD hS => ?_)
  obtain ⟨ri, cR⟩ := u
  try dsimp only at hw_c8 hY_c8
  have hP : va_P D vwCl [(j, .inr (3, [.null, .null, .null, .null, .null, .int (nI 0), .int (nI 0)])), (ins, .inr (4, [.ref ri, .int (nI 0)])), (ri, .inl (cR, room, .inl (fun _ => 0)))] H := hP
  have hD : va_D A [(j, .inr (3, [.null, .null, .null, .null, .null, .int (nI 0), .int (nI 0)])), (ins, .inr (4, [.ref ri, .int (nI 0)])), (ri, .inl (cR, room, .inl (fun _ => 0)))] := hD
  have hK : va_K D vwCl [(cR, .char)] s := hK
  have hs10 := hS.1
  refine W.widen (k := 2) (n := (2 + (room))) (by omega) (by omega) ?_
  refine va_putF (D := D) (ci := 3) (v := .ref ins) (ty := .object "Joinrow$Signs") (C := RX0) (T := TX0) (N := 7) hx hb hts (by decide +kernel) tyX0 tyX0_ok nmX0 hown hK hP hD hS 0 rfl rfl 0 (by decide) (hts (.fieldLink RX0 21 "Joinrow$Joiner" "inside" "LJoinrow$Signs;") (by decide +kernel)) (fun _ h9 => h9) rfl hnm rfl (by decide +kernel) rfl rfl (Nat.le_of_ble_eq_true rfl) dX0_init_23 (fun H locs hP hD hS => ?_)
  have hP : va_P D vwCl [(j, .inr (3, [.ref ins, .null, .null, .null, .null, .int (nI 0), .int (nI 0)])), (ins, .inr (4, [.ref ri, .int (nI 0)])), (ri, .inl (cR, room, .inl (fun _ => 0)))] H := hP
  have hD : va_D A [(j, .inr (3, [.ref ins, .null, .null, .null, .null, .int (nI 0), .int (nI 0)])), (ins, .inr (4, [.ref ri, .int (nI 0)])), (ri, .inl (cR, room, .inl (fun _ => 0)))] := hD
  have hs11 := hS.1
  refine lv_aload_n hx hb dX0_init_26 rfl (lv_at hl 0 rfl) ?_
  have kc12 : 2 + 1 ≤ 4 := by omega
  have ks13 : (2 + (room)) + 2 ≤ 4 + 2 * room := by omega
  refine z_new (ci := 4) (fs := [.null, .int 0]) (C := RX1) (T := TX1) (N := 2) hx hb hts (by decide +kernel) tyX1 tyX1_ok hown (hts (.classLink RX0 16 RX1) (by decide +kernel)) (hts (.instantiable RX1 2) (by decide +kernel)) (hts (.initialized RX1) (by decide +kernel)) hK hP hD hS hA rfl (fun j hj => by match j, hj with | 0, _ => rfl | 1, _ => rfl) kc12 ks13 dX0_init_27 (fun em H hq_em hz_em hm_em hk_em hP hD hS => ?_)
  have hP : va_P D vwCl [(j, .inr (3, [.ref ins, .null, .null, .null, .null, .int (nI 0), .int (nI 0)])), (ins, .inr (4, [.ref ri, .int (nI 0)])), (ri, .inl (cR, room, .inl (fun _ => 0))), (em, .inr (4, [.null, .int (nI 0)]))] H := hP
  have hD : va_D A [(j, .inr (3, [.ref ins, .null, .null, .null, .null, .int (nI 0), .int (nI 0)])), (ins, .inr (4, [.ref ri, .int (nI 0)])), (ri, .inl (cR, room, .inl (fun _ => 0))), (em, .inr (4, [.null, .int (nI 0)]))] := hD
  have hs14 := hS.1
  refine W.widen (k := 3) (n := ((2 + (room)) + 2)) (by omega) (by omega) ?_
  refine lv_dup hx hb dX0_init_30 rfl ?_
  refine lv_iload_n hx hb dX0_init_31 rfl (lv_at hl 1 rfl) ?_
  have hFc := va_free (wc := [(em, .inr (4, [.null, .int (nI 0)]))]) hD hS hA [3] rfl
  have kc15 : 3 + (1) ≤ 4 := by omega
  have ks16 : ((2 + (room)) + 2) + (room) ≤ 4 + 2 * room := by omega
  refine z_callv (wr := [(j, .inr (3, [.ref ins, .null, .null, .null, .null, .int (nI 0), .int (nI 0)])), (ins, .inr (4, [.ref ri, .int (nI 0)])), (ri, .inl (cR, room, .inl (fun _ => 0)))]) (va_runI (As := [.int (nI room)]) (rest := [.ref em, .ref j]) ⟨hx, hb, hml, hown, hts⟩ (c_signs l D N0 e H.size (zw H) em room hr2) (cwI 1 hts gX0_init_X1_init rfl rfl rfl (hts (.initialized RX1) (by decide +kernel)) (hts (.methodLink RX0 18 yX1_init) (by decide +kernel)) (hts (.instanceMethod yX1_init) (by decide +kernel)) rfl (by decide +kernel) ⟨Nat.le_of_ble_eq_true rfl, Nat.le_of_ble_eq_true rfl⟩) ⟨zP.blind, (z_pre hK hP hD hS hAN hN hG [3] (by decide) rfl [] rfl (fun q hq => absurd hq List.not_mem_nil))⟩ rfl rfl hl.1 rfl (lv_room (Nat.le_of_ble_eq_true rfl)) dX0_init_32 ⟨kc15, ks16⟩) hK hP hD hS hA [3] rfl [0, 1, 2] rfl (by decide) (by decide) (fun u t H locs ht hvm hw_c17 hY_c17 hz_c17 hm_c17 hk_c17 hK hP hD hS => ?_)
  obtain ⟨re, cE⟩ := u
  try dsimp only at hw_c17 hY_c17
  have hP : va_P D vwCl [(j, .inr (3, [.ref ins, .null, .null, .null, .null, .int (nI 0), .int (nI 0)])), (ins, .inr (4, [.ref ri, .int (nI 0)])), (ri, .inl (cR, room, .inl (fun _ => 0))), (em, .inr (4, [.ref re, .int (nI 0)])), (re, .inl (cE, room, .inl (fun _ => 0)))] H := hP
  have hD : va_D A [(j, .inr (3, [.ref ins, .null, .null, .null, .null, .int (nI 0), .int (nI 0)])), (ins, .inr (4, [.ref ri, .int (nI 0)])), (ri, .inl (cR, room, .inl (fun _ => 0))), (em, .inr (4, [.ref re, .int (nI 0)])), (re, .inl (cE, room, .inl (fun _ => 0)))] := hD
  have hK : va_K D vwCl [(cR, .char), (cE, .char)] s := hK
  have hs19 := hS.1
  refine W.widen (k := 4) (n := (((2 + (room)) + 2) + (room))) (by omega) (by omega) ?_
  refine va_putF (D := D) (ci := 3) (v := .ref em) (ty := .object "Joinrow$Signs") (C := RX0) (T := TX0) (N := 7) hx hb hts (by decide +kernel) tyX0 tyX0_ok nmX0 hown hK hP hD hS 0 rfl rfl 1 (by decide) (hts (.fieldLink RX0 25 "Joinrow$Joiner" "emptyText" "LJoinrow$Signs;") (by decide +kernel)) (fun _ h9 => h9) rfl hnm rfl (by decide +kernel) rfl rfl (Nat.le_of_ble_eq_true rfl) dX0_init_35 (fun H locs hP hD hS => ?_)
  have hP : va_P D vwCl [(j, .inr (3, [.ref ins, .ref em, .null, .null, .null, .int (nI 0), .int (nI 0)])), (ins, .inr (4, [.ref ri, .int (nI 0)])), (ri, .inl (cR, room, .inl (fun _ => 0))), (em, .inr (4, [.ref re, .int (nI 0)])), (re, .inl (cE, room, .inl (fun _ => 0)))] H := hP
  have hD : va_D A [(j, .inr (3, [.ref ins, .ref em, .null, .null, .null, .int (nI 0), .int (nI 0)])), (ins, .inr (4, [.ref ri, .int (nI 0)])), (ri, .inl (cR, room, .inl (fun _ => 0))), (em, .inr (4, [.ref re, .int (nI 0)])), (re, .inl (cE, room, .inl (fun _ => 0)))] := hD
  have hs20 := hS.1
  refine lv_aload_n hx hb dX0_init_38 rfl (lv_at hl 0 rfl) ?_
  refine lv_aload_n hx hb dX0_init_39 rfl (lv_at hl 2 rfl) ?_
  refine va_put (D := D) (ci := 3) (v := .ref bw) (ty := .object "Joinrow$Signs") (C := RX0) (T := TX0) (N := 7) hx hb hts (by decide +kernel) tyX0 tyX0_ok nmX0 hown hK hP hD hS 0 rfl rfl 2 (by decide) (hts (.fieldLink RX0 28 "Joinrow$Joiner" "between" "LJoinrow$Signs;") (by decide +kernel)) (fun _ h9 => h9) rfl (by decide +kernel) rfl rfl (Nat.le_of_ble_eq_true rfl) dX0_init_40 (fun H locs hP hD hS => ?_)
  have hP : va_P D vwCl [(j, .inr (3, [.ref ins, .ref em, .ref bw, .null, .null, .int (nI 0), .int (nI 0)])), (ins, .inr (4, [.ref ri, .int (nI 0)])), (ri, .inl (cR, room, .inl (fun _ => 0))), (em, .inr (4, [.ref re, .int (nI 0)])), (re, .inl (cE, room, .inl (fun _ => 0)))] H := hP
  have hD : va_D A [(j, .inr (3, [.ref ins, .ref em, .ref bw, .null, .null, .int (nI 0), .int (nI 0)])), (ins, .inr (4, [.ref ri, .int (nI 0)])), (ri, .inl (cR, room, .inl (fun _ => 0))), (em, .inr (4, [.ref re, .int (nI 0)])), (re, .inl (cE, room, .inl (fun _ => 0)))] := hD
  have hs21 := hS.1
  refine lv_aload_n hx hb dX0_init_43 rfl (lv_at hl 0 rfl) ?_
  refine lv_aload_n hx hb dX0_init_44 rfl (lv_at hl 3 rfl) ?_
  refine va_put (D := D) (ci := 3) (v := .ref pf) (ty := .object "Joinrow$Signs") (C := RX0) (T := TX0) (N := 7) hx hb hts (by decide +kernel) tyX0 tyX0_ok nmX0 hown hK hP hD hS 0 rfl rfl 3 (by decide) (hts (.fieldLink RX0 31 "Joinrow$Joiner" "prefix" "LJoinrow$Signs;") (by decide +kernel)) (fun _ h9 => h9) rfl (by decide +kernel) rfl rfl (Nat.le_of_ble_eq_true rfl) dX0_init_45 (fun H locs hP hD hS => ?_)
  have hP : va_P D vwCl [(j, .inr (3, [.ref ins, .ref em, .ref bw, .ref pf, .null, .int (nI 0), .int (nI 0)])), (ins, .inr (4, [.ref ri, .int (nI 0)])), (ri, .inl (cR, room, .inl (fun _ => 0))), (em, .inr (4, [.ref re, .int (nI 0)])), (re, .inl (cE, room, .inl (fun _ => 0)))] H := hP
  have hD : va_D A [(j, .inr (3, [.ref ins, .ref em, .ref bw, .ref pf, .null, .int (nI 0), .int (nI 0)])), (ins, .inr (4, [.ref ri, .int (nI 0)])), (ri, .inl (cR, room, .inl (fun _ => 0))), (em, .inr (4, [.ref re, .int (nI 0)])), (re, .inl (cE, room, .inl (fun _ => 0)))] := hD
  have hs22 := hS.1
  refine lv_aload_n hx hb dX0_init_48 rfl (lv_at hl 0 rfl) ?_
  refine lv_aload hx hb dX0_init_49 (lv_at hl 4 rfl) ?_
  refine va_put (D := D) (ci := 3) (v := .ref sf) (ty := .object "Joinrow$Signs") (C := RX0) (T := TX0) (N := 7) hx hb hts (by decide +kernel) tyX0 tyX0_ok nmX0 hown hK hP hD hS 0 rfl rfl 4 (by decide) (hts (.fieldLink RX0 34 "Joinrow$Joiner" "suffix" "LJoinrow$Signs;") (by decide +kernel)) (fun _ h9 => h9) rfl (by decide +kernel) rfl rfl (Nat.le_of_ble_eq_true rfl) dX0_init_51 (fun H locs hP hD hS => ?_)
  have hP : va_P D vwCl [(j, .inr (3, [.ref ins, .ref em, .ref bw, .ref pf, .ref sf, .int (nI 0), .int (nI 0)])), (ins, .inr (4, [.ref ri, .int (nI 0)])), (ri, .inl (cR, room, .inl (fun _ => 0))), (em, .inr (4, [.ref re, .int (nI 0)])), (re, .inl (cE, room, .inl (fun _ => 0)))] H := hP
  have hD : va_D A [(j, .inr (3, [.ref ins, .ref em, .ref bw, .ref pf, .ref sf, .int (nI 0), .int (nI 0)])), (ins, .inr (4, [.ref ri, .int (nI 0)])), (ri, .inl (cR, room, .inl (fun _ => 0))), (em, .inr (4, [.ref re, .int (nI 0)])), (re, .inl (cE, room, .inl (fun _ => 0)))] := hD
  have hs23 := hS.1
  refine W.widen (k := (4)) (n := (4 + 2 * room)) (by omega) (by omega) ?_
  have hz0 := hS.1
  refine z_keepW (fun hkp => ?_)
  exact z_retv (ins, em, ri, cR) hx hb hr hlocks trivial hK [0] rfl hP hD hS [0, 1, 2] (by decide) rfl (by omega) (zw_keep hkp) (fun _ _ _ => trivial) dX0_init_54
