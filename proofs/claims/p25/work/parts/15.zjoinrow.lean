set_option maxRecDepth 100000 in
set_option maxHeartbeats 4000000 in
/-- putFirst of no signs -/
theorem c_putF (l : Launch) (D : va_G) (N0 : Nat) (e : zE) (sz mz : Nat) (ins : Nat) (w : Nat) (ri : Nat) (rw : Nat) (cI : ClassId) (cW : ClassId) (fi : Nat → Int32) (fw : Nat → Int32) (room : Nat) (hroom : room ≤ 1000) : Met l yX1_putFirst wsX1_putFirst ({ frames := 1, cells := 0, slots := 0, locals := 60 }) (va_Pc [.ref ins, .ref w, .int (nI 0)] (zP N0 e D [(cI, .char), (cW, .char)] [(ins, .inr (4, [.ref ri, .int (nI 0)])), (w, .inr (4, [.ref rw, .int (nI 0)])), (ri, .inl (cI, room, .inl fi)), (rw, .inl (cW, 4, .inl fw))] sz mz [])) (zQv (fun (f3 : Nat → Int32) => True) D (fun (f3 : Nat → Int32) => ([(ins, .inr (4, [.ref ri, .int (nI 0)])), (w, .inr (4, [.ref rw, .int (nI 0)])), (ri, .inl (cI, room, .inl f3)), (rw, .inl (cW, 4, .inl fw))] : va_W)) (fun (f3 : Nat → Int32) => ([] : List (ClassId × FieldType))) sz (0) mz (0) (fun (f3 : Nat → Int32) (t : State) => True) (va_A [(ins, .inr (4, [.ref ri, .int (nI 0)])), (w, .inr (4, [.ref rw, .int (nI 0)])), (ri, .inl (cI, room, .inl fi)), (rw, .inl (cW, 4, .inl fw))] sz)) (0) (0) (va_A [(ins, .inr (4, [.ref ri, .int (nI 0)])), (w, .inr (4, [.ref rw, .int (nI 0)])), (ri, .inl (cI, room, .inl fi)), (rw, .inl (cW, 4, .inl fw))] sz) := by
  refine z_met (Qc := fun A => zQv (fun (f3 : Nat → Int32) => True) D (fun (f3 : Nat → Int32) => ([(ins, .inr (4, [.ref ri, .int (nI 0)])), (w, .inr (4, [.ref rw, .int (nI 0)])), (ri, .inl (cI, room, .inl f3)), (rw, .inl (cW, 4, .inl fw))] : va_W)) (fun (f3 : Nat → Int32) => ([] : List (ClassId × FieldType))) sz (0) mz (0) (fun (f3 : Nat → Int32) (t : State) => True) A) (cc := cX1_putFirst) (maxL := 3) (ret := none) RX1 rfl (by decide) rfl (Nat.le_of_ble_eq_true rfl) ?_
  intro p ev s m below meth c ls A hx hb hr hml hown hts hlocks hnm hsz hmz hN hAe hA hAN hS hP hK hD hG hL hl
  subst hsz
  subst hmz
  have hl : lv_has ls 3 [(0, .ref ins), (1, .ref w), (2, .int (nI 0))] := hl
  refine lv_iload_n hx hb dX1_putFirst_0 rfl (lv_at hl 2 rfl) ?_
  refine lv_if_lt (tgt := 27) hx hb dX1_putFirst_1 (by decide) (fun hq => absurd hq (show ¬ ((nI 0) < (nI 0)) from fun hq => absurd ((nI_ltI (by omega) (by omega)).mp hq) (by omega))) (fun _ => ?_)
  refine lv_iload_n hx hb dX1_putFirst_4 rfl (lv_at hl 2 rfl) ?_
  refine lv_aload_n hx hb dX1_putFirst_5 rfl (lv_at hl 1 rfl) ?_
  refine va_get (D := D) (ci := 4) (v := .ref rw) (C := RX1) (T := TX1) (N := 2) hx hb hts (by decide +kernel) hown hK hP 1 rfl rfl 0 (by decide) (hts (.fieldLink RX1 15 "Joinrow$Signs" "signs" "[C") (by decide +kernel)) (fun _ h9 => h9) rfl dX1_putFirst_6 ?_
  refine va_alen (v := nI (4)) hx hb hK hP 3 1 rfl rfl rfl dX1_putFirst_9 ?_
  refine lv_icmp_gt (tgt := 27) hx hb dX1_putFirst_10 (by decide) (fun hq => absurd hq (show ¬ ((nI 4) < (nI 0)) from fun hq => absurd ((nI_ltI (by omega) (by omega)).mp hq) (by omega))) (fun _ => ?_)
  refine lv_iload_n hx hb dX1_putFirst_13 rfl (lv_at hl 2 rfl) ?_
  refine lv_aload_n hx hb dX1_putFirst_14 rfl (lv_at hl 0 rfl) ?_
  refine va_get (D := D) (ci := 4) (v := .ref ri) (C := RX1) (T := TX1) (N := 2) hx hb hts (by decide +kernel) hown hK hP 0 rfl rfl 0 (by decide) (hts (.fieldLink RX1 15 "Joinrow$Signs" "signs" "[C") (by decide +kernel)) (fun _ h9 => h9) rfl dX1_putFirst_15 ?_
  refine va_alen (v := nI (room)) hx hb hK hP 2 0 rfl rfl rfl dX1_putFirst_18 ?_
  refine lv_aload_n hx hb dX1_putFirst_19 rfl (lv_at hl 0 rfl) ?_
  refine va_get (D := D) (ci := 4) (v := .int (nI 0)) (C := RX1) (T := TX1) (N := 2) hx hb hts (by decide +kernel) hown hK hP 0 rfl rfl 1 (by decide) (hts (.fieldLink RX1 9 "Joinrow$Signs" "count" "I") (by decide +kernel)) (fun _ h9 => h9) rfl dX1_putFirst_20 ?_
  refine lv_isub hx hb dX1_putFirst_23 ?_
  refine lv_topi (fun t1 et1 => ?_)
  replace et1 := et1.trans (show ((nI room) - (nI 0)) = (nI room) from z_sub0 _)
  subst et1
  refine lv_icmp_le (tgt := 28) hx hb dX1_putFirst_24 (by decide) (fun _ => ?_) (fun hq => absurd (show (nI 0) ≤ (nI room) from (nI_leI (by omega) (by omega)).mpr (by omega)) hq)
  refine lv_aload_n hx hb dX1_putFirst_28 rfl (lv_at hl 1 rfl) ?_
  refine va_get (D := D) (ci := 4) (v := .ref rw) (C := RX1) (T := TX1) (N := 2) hx hb hts (by decide +kernel) hown hK hP 1 rfl rfl 0 (by decide) (hts (.fieldLink RX1 15 "Joinrow$Signs" "signs" "[C") (by decide +kernel)) (fun _ h9 => h9) rfl dX1_putFirst_29 ?_
  refine lv_iconst (v := (nI 0)) hx hb dX1_putFirst_32 (by decide) ?_
  refine lv_aload_n hx hb dX1_putFirst_33 rfl (lv_at hl 0 rfl) ?_
  refine va_get (D := D) (ci := 4) (v := .ref ri) (C := RX1) (T := TX1) (N := 2) hx hb hts (by decide +kernel) hown hK hP 0 rfl rfl 0 (by decide) (hts (.fieldLink RX1 15 "Joinrow$Signs" "signs" "[C") (by decide +kernel)) (fun _ h9 => h9) rfl dX1_putFirst_34 ?_
  refine lv_aload_n hx hb dX1_putFirst_37 rfl (lv_at hl 0 rfl) ?_
  refine va_get (D := D) (ci := 4) (v := .int (nI 0)) (C := RX1) (T := TX1) (N := 2) hx hb hts (by decide +kernel) hown hK hP 0 rfl rfl 1 (by decide) (hts (.fieldLink RX1 9 "Joinrow$Signs" "count" "I") (by decide +kernel)) (fun _ h9 => h9) rfl dX1_putFirst_38 ?_
  refine lv_iload_n hx hb dX1_putFirst_41 rfl (lv_at hl 2 rfl) ?_
  refine va_copyi hx hb (by rw [hml]; exact hl.1.symm) hown (hts (.methodLink RX1 37 arraycopyName) (by decide +kernel)) (hts (.native arraycopyName) (by decide +kernel)) (hts (.static arraycopyName) (by decide +kernel)) (hts (.initialized "java/lang/System") (by decide +kernel)) hK hP hD hS 3 2 1 0 rfl rfl rfl rfl rfl (nI_pos (by omega)) (nI_pos (by omega)) (nI_pos (by omega)) (by simp only [nI_clamp (show 0 < 2 ^ 31 by omega)]; omega) (by simp only [nI_clamp (show 0 < 2 ^ 31 by omega)]; omega) (fun i hi => by rw [nI_clamp (by omega)] at hi; exact absurd hi (Nat.not_lt_zero i)) (Nat.le_of_ble_eq_true rfl) (Nat.le_of_ble_eq_true rfl) dX1_putFirst_42 (fun H locs hP hD hS => ?_)
  generalize va_cpy fw fi ((nI 0)).toNatClampNeg ((nI 0)).toNatClampNeg ((nI 0)).toNatClampNeg = f2 at hP hD
  have hP : va_P D vwCl [(ins, .inr (4, [.ref ri, .int (nI 0)])), (w, .inr (4, [.ref rw, .int (nI 0)])), (ri, .inl (cI, room, .inl f2)), (rw, .inl (cW, 4, .inl fw))] H := hP
  have hD : va_D A [(ins, .inr (4, [.ref ri, .int (nI 0)])), (w, .inr (4, [.ref rw, .int (nI 0)])), (ri, .inl (cI, room, .inl f2)), (rw, .inl (cW, 4, .inl fw))] := hD
  have hs2 := hS.1
  refine lv_aload_n hx hb dX1_putFirst_45 rfl (lv_at hl 0 rfl) ?_
  refine lv_dup hx hb dX1_putFirst_46 rfl ?_
  refine va_get (D := D) (ci := 4) (v := .int (nI 0)) (C := RX1) (T := TX1) (N := 2) hx hb hts (by decide +kernel) hown hK hP 0 rfl rfl 1 (by decide) (hts (.fieldLink RX1 9 "Joinrow$Signs" "count" "I") (by decide +kernel)) (fun _ h9 => h9) rfl dX1_putFirst_47 ?_
  refine lv_iload_n hx hb dX1_putFirst_50 rfl (lv_at hl 2 rfl) ?_
  refine lv_iadd hx hb dX1_putFirst_51 ?_
  refine lv_topi (fun t3 et3 => ?_)
  replace et3 := et3.trans (show ((nI 0) + (nI 0)) = (nI 0) from by decide)
  subst et3
  refine va_put (D := D) (ci := 4) (v := .int (nI 0)) (ty := .int) (C := RX1) (T := TX1) (N := 2) hx hb hts (by decide +kernel) tyX1 tyX1_ok nmX1 hown hK hP hD hS 0 rfl rfl 1 (by decide) (hts (.fieldLink RX1 9 "Joinrow$Signs" "count" "I") (by decide +kernel)) (fun _ h9 => h9) rfl (by decide +kernel) rfl rfl (Nat.le_of_ble_eq_true rfl) dX1_putFirst_52 (fun H locs hP hD hS => ?_)
  have hP : va_P D vwCl [(ins, .inr (4, [.ref ri, .int (nI 0)])), (w, .inr (4, [.ref rw, .int (nI 0)])), (ri, .inl (cI, room, .inl f2)), (rw, .inl (cW, 4, .inl fw))] H := hP
  have hD : va_D A [(ins, .inr (4, [.ref ri, .int (nI 0)])), (w, .inr (4, [.ref rw, .int (nI 0)])), (ri, .inl (cI, room, .inl f2)), (rw, .inl (cW, 4, .inl fw))] := hD
  have hs4 := hS.1
  have hz0 := hS.1
  refine z_keepW (fun hkp => ?_)
  exact z_retv (f2) hx hb hr hlocks trivial hK [] rfl hP hD hS [0, 1, 2, 3] (by decide) rfl (by omega) (zw_keep hkp) (fun _ _ _ => trivial) dX1_putFirst_55
set_option maxRecDepth 100000 in
set_option maxHeartbeats 4000000 in
/-- putAll of an empty row -/
theorem c_putA (l : Launch) (D : va_G) (N0 : Nat) (e : zE) (sz mz : Nat) (ins : Nat) (w : Nat) (ri : Nat) (rw : Nat) (cI : ClassId) (cW : ClassId) (fi : Nat → Int32) (fw : Nat → Int32) (room : Nat) (hroom : room ≤ 1000) : Met l yX1_putAll wsX1_putAll ({ frames := 2, cells := 0, slots := 0, locals := 82 }) (va_Pc [.ref ins, .ref w] (zP N0 e D [(cI, .char), (cW, .char)] [(ins, .inr (4, [.ref ri, .int (nI 0)])), (w, .inr (4, [.ref rw, .int (nI 0)])), (ri, .inl (cI, room, .inl fi)), (rw, .inl (cW, 4, .inl fw))] sz mz [])) (zQv (fun (f3 : Nat → Int32) => True) D (fun (f3 : Nat → Int32) => ([(ins, .inr (4, [.ref ri, .int (nI 0)])), (w, .inr (4, [.ref rw, .int (nI 0)])), (ri, .inl (cI, room, .inl f3)), (rw, .inl (cW, 4, .inl fw))] : va_W)) (fun (f3 : Nat → Int32) => ([] : List (ClassId × FieldType))) sz (0) mz (0) (fun (f3 : Nat → Int32) (t : State) => True) (va_A [(ins, .inr (4, [.ref ri, .int (nI 0)])), (w, .inr (4, [.ref rw, .int (nI 0)])), (ri, .inl (cI, room, .inl fi)), (rw, .inl (cW, 4, .inl fw))] sz)) (0) (0) (va_A [(ins, .inr (4, [.ref ri, .int (nI 0)])), (w, .inr (4, [.ref rw, .int (nI 0)])), (ri, .inl (cI, room, .inl fi)), (rw, .inl (cW, 4, .inl fw))] sz) := by
  refine z_met (Qc := fun A => zQv (fun (f3 : Nat → Int32) => True) D (fun (f3 : Nat → Int32) => ([(ins, .inr (4, [.ref ri, .int (nI 0)])), (w, .inr (4, [.ref rw, .int (nI 0)])), (ri, .inl (cI, room, .inl f3)), (rw, .inl (cW, 4, .inl fw))] : va_W)) (fun (f3 : Nat → Int32) => ([] : List (ClassId × FieldType))) sz (0) mz (0) (fun (f3 : Nat → Int32) (t : State) => True) A) (cc := cX1_putAll) (maxL := 2) (ret := none) RX1 rfl (by decide) rfl (Nat.le_of_ble_eq_true rfl) ?_
  intro p ev s m below meth c ls A hx hb hr hml hown hts hlocks hnm hsz hmz hN hAe hA hAN hS hP hK hD hG hL hl
  subst hsz
  subst hmz
  have hl : lv_has ls 2 [(0, .ref ins), (1, .ref w)] := hl
  refine lv_aload_n hx hb dX1_putAll_0 rfl (lv_at hl 0 rfl) ?_
  refine lv_aload_n hx hb dX1_putAll_1 rfl (lv_at hl 1 rfl) ?_
  refine lv_aload_n hx hb dX1_putAll_2 rfl (lv_at hl 1 rfl) ?_
  refine va_get (D := D) (ci := 4) (v := .int (nI 0)) (C := RX1) (T := TX1) (N := 2) hx hb hts (by decide +kernel) hown hK hP 1 rfl rfl 1 (by decide) (hts (.fieldLink RX1 9 "Joinrow$Signs" "count" "I") (by decide +kernel)) (fun _ h9 => h9) rfl dX1_putAll_3 ?_
  have hFc := va_free (wc := [(ins, .inr (4, [.ref ri, .int (nI 0)])), (w, .inr (4, [.ref rw, .int (nI 0)])), (ri, .inl (cI, room, .inl fi)), (rw, .inl (cW, 4, .inl fw))]) hD hS hA [0, 1, 2, 3] rfl
  have kc1 : 0 + (0) ≤ 0 := by omega
  have ks2 : 0 + (0) ≤ 0 := by omega
  refine z_callv (wr := []) (va_runV (As := [.ref w, .int (nI 0)]) (rest := []) ⟨hx, hb, hml, hown, hts⟩ (c_putF l D N0 e s.heap.size (zw s.heap) ins w ri rw cI cW fi fw room hroom) (cwV 2 hts gX1_putAll_X1_putFirst rfl rfl rfl (by decide +kernel) ⟨Nat.le_of_ble_eq_true rfl, Nat.le_of_ble_eq_true rfl⟩) ⟨zP.blind, (va_recv hK hP (ci := 4) (q0 := 0) rfl rfl), (z_pre hK hP hD hS hAN hN hG [0, 1, 2, 3] (by decide) rfl [0, 1] rfl (fun q hq => absurd hq List.not_mem_nil))⟩ rfl rfl hl.1 rfl (lv_room (Nat.le_of_ble_eq_true rfl)) dX1_putAll_6 ⟨kc1, ks2⟩) hK hP hD hS hA [0, 1, 2, 3] rfl [] rfl (by decide) (by decide) (fun u t H locs ht hvm hw_c3 hY_c3 hz_c3 hm_c3 hk_c3 hK hP hD hS => ?_)
  obtain ⟨f2, rfl⟩ : ∃ z, z = u := ⟨_, rfl⟩
  try dsimp only at hw_c3 hY_c3
  have hP : va_P D vwCl [(ins, .inr (4, [.ref ri, .int (nI 0)])), (w, .inr (4, [.ref rw, .int (nI 0)])), (ri, .inl (cI, room, .inl f2)), (rw, .inl (cW, 4, .inl fw))] H := hP
  have hD : va_D A [(ins, .inr (4, [.ref ri, .int (nI 0)])), (w, .inr (4, [.ref rw, .int (nI 0)])), (ri, .inl (cI, room, .inl f2)), (rw, .inl (cW, 4, .inl fw))] := hD
  have hK : va_K D vwCl [(cI, .char), (cW, .char)] s := hK
  have hs5 := hS.1
  refine W.widen (k := 0) (n := 0) (by omega) (by omega) ?_
  have hz0 := hS.1
  refine z_keepW (fun hkp => ?_)
  exact z_retv (f2) hx hb hr hlocks trivial hK [] rfl hP hD hS [0, 1, 2, 3] (by decide) rfl (by omega) (zw_keep hkp) (fun _ _ _ => trivial) dX1_putAll_9
set_option maxRecDepth 100000 in
set_option maxHeartbeats 4000000 in
/-- lay of an empty word -/
theorem c_lay_0 (l : Launch) (D : va_G) (N0 : Nat) (e : zE) (sz mz : Nat) (j : Nat) (ins : Nat) (em : Nat) (w : Nat) (g : Nat) (ri : Nat) (rw : Nat) (cI : ClassId) (cW : ClassId) (fi : Nat → Int32) (fw : Nat → Int32) (room : Nat) (hroom : room ≤ 1000) : Met l yX0_lay wsX0_lay ({ frames := 2, cells := 0, slots := 0, locals := 82 }) (va_Pc [.ref j, .ref w] (zP N0 e D [(cI, .char), (cW, .char)] [(j, .inr (3, [.ref ins, .ref em, .ref w, .ref w, .ref w, .int (nI 0), .int (nI g)])), (ins, .inr (4, [.ref ri, .int (nI 0)])), (w, .inr (4, [.ref rw, .int (nI 0)])), (ri, .inl (cI, room, .inl fi)), (rw, .inl (cW, 4, .inl fw))] sz mz [])) (zQv (fun (f3 : Nat → Int32) => True) D (fun (f3 : Nat → Int32) => ([(j, .inr (3, [.ref ins, .ref em, .ref w, .ref w, .ref w, .int (nI 1), .int (nI g)])), (ins, .inr (4, [.ref ri, .int (nI 0)])), (w, .inr (4, [.ref rw, .int (nI 0)])), (ri, .inl (cI, room, .inl f3)), (rw, .inl (cW, 4, .inl fw))] : va_W)) (fun (f3 : Nat → Int32) => ([] : List (ClassId × FieldType))) sz (0) mz (0) (fun (f3 : Nat → Int32) (t : State) => True) (va_A [(j, .inr (3, [.ref ins, .ref em, .ref w, .ref w, .ref w, .int (nI 0), .int (nI g)])), (ins, .inr (4, [.ref ri, .int (nI 0)])), (w, .inr (4, [.ref rw, .int (nI 0)])), (ri, .inl (cI, room, .inl fi)), (rw, .inl (cW, 4, .inl fw))] sz)) (0) (0) (va_A [(j, .inr (3, [.ref ins, .ref em, .ref w, .ref w, .ref w, .int (nI 0), .int (nI g)])), (ins, .inr (4, [.ref ri, .int (nI 0)])), (w, .inr (4, [.ref rw, .int (nI 0)])), (ri, .inl (cI, room, .inl fi)), (rw, .inl (cW, 4, .inl fw))] sz) := by
  refine z_met (Qc := fun A => zQv (fun (f3 : Nat → Int32) => True) D (fun (f3 : Nat → Int32) => ([(j, .inr (3, [.ref ins, .ref em, .ref w, .ref w, .ref w, .int (nI 1), .int (nI g)])), (ins, .inr (4, [.ref ri, .int (nI 0)])), (w, .inr (4, [.ref rw, .int (nI 0)])), (ri, .inl (cI, room, .inl f3)), (rw, .inl (cW, 4, .inl fw))] : va_W)) (fun (f3 : Nat → Int32) => ([] : List (ClassId × FieldType))) sz (0) mz (0) (fun (f3 : Nat → Int32) (t : State) => True) A) (cc := cX0_lay) (maxL := 3) (ret := none) RX0 rfl (by decide) rfl (Nat.le_of_ble_eq_true rfl) ?_
  intro p ev s m below meth c ls A hx hb hr hml hown hts hlocks hnm hsz hmz hN hAe hA hAN hS hP hK hD hG hL hl
  subst hsz
  subst hmz
  have hl : lv_has ls 3 [(0, .ref j), (1, .ref w)] := hl
  refine lv_aload_n hx hb dX0_lay_0 rfl (lv_at hl 1 rfl) ?_
  refine va_getN (D := D) (ci := 4) (v := .int (nI 0)) (C := RX1) (T := TX1) (N := 2) hx hb hts (by decide +kernel) hown hK hP 2 rfl rfl 1 (by decide) (hG.nest ("Joinrow$Joiner", 40, "Joinrow$Signs", "count", "I", "Joinrow") (by simp)) (fun _ h9 => h9) rfl dX0_lay_1 ?_
  refine lv_istore_n (lv' := [(2, .int (nI 0)), (0, .ref j), (1, .ref w)]) hx hb dX0_lay_4 rfl hl (by decide) rfl (fun ls hl => ?_)
  refine lv_aload_n hx hb dX0_lay_5 rfl (lv_at hl 1 rfl) ?_
  refine va_get (D := D) (ci := 3) (v := .int (nI 0)) (C := RX0) (T := TX0) (N := 7) hx hb hts (by decide +kernel) hown hK hP 0 rfl rfl 5 (by decide) (hts (.fieldLink RX0 7 "Joinrow$Joiner" "isFilled" "Z") (by decide +kernel)) (fun _ h9 => h9) rfl dX0_lay_6 ?_
  refine lv_if_eq (tgt := 23) hx hb dX0_lay_9 (by decide) (fun _ => ?_) (fun hq => absurd (show (nI 0) = (nI 0) from (nI_eq (by omega) (by omega)).mpr (by omega)) hq)
  refine lv_aload_n hx hb dX0_lay_23 rfl (lv_at hl 1 rfl) ?_
  refine va_get (D := D) (ci := 3) (v := .ref ins) (C := RX0) (T := TX0) (N := 7) hx hb hts (by decide +kernel) hown hK hP 0 rfl rfl 0 (by decide) (hts (.fieldLink RX0 21 "Joinrow$Joiner" "inside" "LJoinrow$Signs;") (by decide +kernel)) (fun _ h9 => h9) rfl dX0_lay_24 ?_
  refine lv_aload_n hx hb dX0_lay_27 rfl (lv_at hl 2 rfl) ?_
  refine lv_iload_n hx hb dX0_lay_28 rfl (lv_at hl 0 rfl) ?_
  have hFc := va_free (wc := [(ins, .inr (4, [.ref ri, .int (nI 0)])), (w, .inr (4, [.ref rw, .int (nI 0)])), (ri, .inl (cI, room, .inl fi)), (rw, .inl (cW, 4, .inl fw))]) hD hS hA [1, 2, 3, 4] rfl
  have kc1 : 0 + (0) ≤ 0 := by omega
  have ks2 : 0 + (0) ≤ 0 := by omega
  refine z_callv (wr := [(j, .inr (3, [.ref ins, .ref em, .ref w, .ref w, .ref w, .int (nI 0), .int (nI g)]))]) (va_runV (As := [.ref w, .int (nI 0)]) (rest := []) ⟨hx, hb, hml, hown, hts⟩ (c_putF l D N0 e s.heap.size (zw s.heap) ins w ri rw cI cW fi fw room hroom) (cwV 2 hts gX0_lay_X1_putFirst rfl rfl rfl (by decide +kernel) ⟨Nat.le_of_ble_eq_true rfl, Nat.le_of_ble_eq_true rfl⟩) ⟨zP.blind, (va_recv hK hP (ci := 4) (q0 := 1) rfl rfl), (z_pre hK hP hD hS hAN hN hG [1, 2, 3, 4] (by decide) rfl [0, 1] rfl (fun q hq => absurd hq List.not_mem_nil))⟩ rfl rfl hl.1 rfl (lv_room (Nat.le_of_ble_eq_true rfl)) dX0_lay_29 ⟨kc1, ks2⟩) hK hP hD hS hA [1, 2, 3, 4] rfl [0] rfl (by decide) (by decide) (fun u t H locs ht hvm hw_c3 hY_c3 hz_c3 hm_c3 hk_c3 hK hP hD hS => ?_)
  obtain ⟨f2, rfl⟩ : ∃ z, z = u := ⟨_, rfl⟩
  try dsimp only at hw_c3 hY_c3
  have hP : va_P D vwCl [(j, .inr (3, [.ref ins, .ref em, .ref w, .ref w, .ref w, .int (nI 0), .int (nI g)])), (ins, .inr (4, [.ref ri, .int (nI 0)])), (w, .inr (4, [.ref rw, .int (nI 0)])), (ri, .inl (cI, room, .inl f2)), (rw, .inl (cW, 4, .inl fw))] H := hP
  have hD : va_D A [(j, .inr (3, [.ref ins, .ref em, .ref w, .ref w, .ref w, .int (nI 0), .int (nI g)])), (ins, .inr (4, [.ref ri, .int (nI 0)])), (w, .inr (4, [.ref rw, .int (nI 0)])), (ri, .inl (cI, room, .inl f2)), (rw, .inl (cW, 4, .inl fw))] := hD
  have hK : va_K D vwCl [(cI, .char), (cW, .char)] s := hK
  have hs5 := hS.1
  refine W.widen (k := 0) (n := 0) (by omega) (by omega) ?_
  refine lv_aload_n hx hb dX0_lay_32 rfl (lv_at hl 1 rfl) ?_
  refine lv_iconst (v := (nI 1)) hx hb dX0_lay_33 (by decide) ?_
  refine va_put (D := D) (ci := 3) (v := .int (nI 1)) (ty := .boolean) (C := RX0) (T := TX0) (N := 7) hx hb hts (by decide +kernel) tyX0 tyX0_ok nmX0 hown hK hP hD hS 0 rfl rfl 5 (by decide) (hts (.fieldLink RX0 7 "Joinrow$Joiner" "isFilled" "Z") (by decide +kernel)) (fun _ h9 => h9) rfl (by decide +kernel) rfl rfl (Nat.le_of_ble_eq_true rfl) dX0_lay_34 (fun H locs hP hD hS => ?_)
  have hP : va_P D vwCl [(j, .inr (3, [.ref ins, .ref em, .ref w, .ref w, .ref w, .int (nI 1), .int (nI g)])), (ins, .inr (4, [.ref ri, .int (nI 0)])), (w, .inr (4, [.ref rw, .int (nI 0)])), (ri, .inl (cI, room, .inl f2)), (rw, .inl (cW, 4, .inl fw))] H := hP
  have hD : va_D A [(j, .inr (3, [.ref ins, .ref em, .ref w, .ref w, .ref w, .int (nI 1), .int (nI g)])), (ins, .inr (4, [.ref ri, .int (nI 0)])), (w, .inr (4, [.ref rw, .int (nI 0)])), (ri, .inl (cI, room, .inl f2)), (rw, .inl (cW, 4, .inl fw))] := hD
  have hs6 := hS.1
  have hz0 := hS.1
  refine z_keepW (fun hkp => ?_)
  exact z_retv (f2) hx hb hr hlocks trivial hK [] rfl hP hD hS [0, 1, 2, 3, 4] (by decide) rfl (by omega) (zw_keep hkp) (fun _ _ _ => trivial) dX0_lay_37
set_option maxRecDepth 100000 in
set_option maxHeartbeats 4000000 in
/-- layPiece of an empty word: the answer is 0 -/
theorem c_lp0 (l : Launch) (D : va_G) (N0 : Nat) (e : zE) (sz mz : Nat) (j : Nat) (ins : Nat) (em : Nat) (w : Nat) (g : Nat) (ri : Nat) (rw : Nat) (cI : ClassId) (cW : ClassId) (fi : Nat → Int32) (fw : Nat → Int32) (room : Nat) (hroom : room ≤ 1000) : Met l yX2_layPiece wsX2_layPiece ({ frames := 3, cells := 0, slots := 0, locals := 104 }) (va_Pc [.ref j, .ref w] (zP N0 e D [(cI, .char), (cW, .char)] [(j, .inr (3, [.ref ins, .ref em, .ref w, .ref w, .ref w, .int (nI 0), .int (nI g)])), (ins, .inr (4, [.ref ri, .int (nI 0)])), (w, .inr (4, [.ref rw, .int (nI 0)])), (ri, .inl (cI, room, .inl fi)), (rw, .inl (cW, 4, .inl fw))] sz mz [])) (zQi (fun (r : Int32) (f3 : Nat → Int32) => r = (nI 0)) D (fun (f3 : Nat → Int32) => ([(j, .inr (3, [.ref ins, .ref em, .ref w, .ref w, .ref w, .int (nI 1), .int (nI g)])), (ins, .inr (4, [.ref ri, .int (nI 0)])), (w, .inr (4, [.ref rw, .int (nI 0)])), (ri, .inl (cI, room, .inl f3)), (rw, .inl (cW, 4, .inl fw))] : va_W)) (fun (f3 : Nat → Int32) => ([] : List (ClassId × FieldType))) sz (0) mz (0) (fun (f3 : Nat → Int32) (t : State) => True) (va_A [(j, .inr (3, [.ref ins, .ref em, .ref w, .ref w, .ref w, .int (nI 0), .int (nI g)])), (ins, .inr (4, [.ref ri, .int (nI 0)])), (w, .inr (4, [.ref rw, .int (nI 0)])), (ri, .inl (cI, room, .inl fi)), (rw, .inl (cW, 4, .inl fw))] sz)) (0) (0) (va_A [(j, .inr (3, [.ref ins, .ref em, .ref w, .ref w, .ref w, .int (nI 0), .int (nI g)])), (ins, .inr (4, [.ref ri, .int (nI 0)])), (w, .inr (4, [.ref rw, .int (nI 0)])), (ri, .inl (cI, room, .inl fi)), (rw, .inl (cW, 4, .inl fw))] sz) := by
  refine z_met (Qc := fun A => zQi (fun (r : Int32) (f3 : Nat → Int32) => r = (nI 0)) D (fun (f3 : Nat → Int32) => ([(j, .inr (3, [.ref ins, .ref em, .ref w, .ref w, .ref w, .int (nI 1), .int (nI g)])), (ins, .inr (4, [.ref ri, .int (nI 0)])), (w, .inr (4, [.ref rw, .int (nI 0)])), (ri, .inl (cI, room, .inl f3)), (rw, .inl (cW, 4, .inl fw))] : va_W)) (fun (f3 : Nat → Int32) => ([] : List (ClassId × FieldType))) sz (0) mz (0) (fun (f3 : Nat → Int32) (t : State) => True) A) (cc := cX2_layPiece) (maxL := 2) (ret := (some .int)) RX2 rfl (by decide) rfl (Nat.le_of_ble_eq_true rfl) ?_
  intro p ev s m below meth c ls A hx hb hr hml hown hts hlocks hnm hsz hmz hN hAe hA hAN hS hP hK hD hG hL hl
  subst hsz
  subst hmz
  have hl : lv_has ls 2 [(0, .ref j), (1, .ref w)] := hl
  refine lv_aload_n hx hb dX2_layPiece_0 rfl (lv_at hl 0 rfl) ?_
  refine lv_aload_n hx hb dX2_layPiece_1 rfl (lv_at hl 1 rfl) ?_
  refine va_getN (D := D) (ci := 4) (v := .int (nI 0)) (C := RX1) (T := TX1) (N := 2) hx hb hts (by decide +kernel) hown hK hP 2 rfl rfl 1 (by decide) (hG.nest ("Joinrow", 139, "Joinrow$Signs", "count", "I", "Joinrow") (by simp)) (fun _ h9 => h9) rfl dX2_layPiece_2 ?_
  have hFc := va_free (wc := [(j, .inr (3, [.ref ins, .ref em, .ref w, .ref w, .ref w, .int (nI 0), .int (nI g)])), (ins, .inr (4, [.ref ri, .int (nI 0)])), (w, .inr (4, [.ref rw, .int (nI 0)]))]) hD hS hA [0, 1, 2] rfl
  have kc1 : 0 + (0) ≤ 0 := by omega
  have ks2 : 0 + (0) ≤ 0 := by omega
  refine z_calli (wr := [(ri, .inl (cI, room, .inl fi)), (rw, .inl (cW, 4, .inl fw))]) (va_runV (As := [.int (nI 0)]) (rest := []) ⟨hx, hb, hml, hown, hts⟩ (c_sizeWith0 l D N0 e s.heap.size (zw s.heap) j ins em w ri rw g ) (cwV 1 hts gX2_layPiece_X0_sizeWith rfl rfl rfl (by decide +kernel) ⟨Nat.le_of_ble_eq_true rfl, Nat.le_of_ble_eq_true rfl⟩) ⟨zP.blind, (va_recv hK hP (ci := 3) (q0 := 0) rfl rfl), (z_pre hK hP hD hS hAN hN hG [0, 1, 2] (by decide) rfl [] rfl (fun q hq => absurd hq List.not_mem_nil))⟩ rfl rfl hl.1 rfl (lv_room (Nat.le_of_ble_eq_true rfl)) dX2_layPiece_5 ⟨kc1, ks2⟩) hK hP hD hS hA [0, 1, 2] rfl [3, 4] rfl (by decide) (by decide) (fun r4 u t H locs ht hvm hw_c3 hY_c3 hz_c3 hm_c3 hk_c3 hK hP hD hS => ?_)
  have hP : va_P D vwCl [(ri, .inl (cI, room, .inl fi)), (rw, .inl (cW, 4, .inl fw)), (j, .inr (3, [.ref ins, .ref em, .ref w, .ref w, .ref w, .int (nI 0), .int (nI g)])), (ins, .inr (4, [.ref ri, .int (nI 0)])), (w, .inr (4, [.ref rw, .int (nI 0)]))] H := hP
  have hD : va_D A [(ri, .inl (cI, room, .inl fi)), (rw, .inl (cW, 4, .inl fw)), (j, .inr (3, [.ref ins, .ref em, .ref w, .ref w, .ref w, .int (nI 0), .int (nI g)])), (ins, .inr (4, [.ref ri, .int (nI 0)])), (w, .inr (4, [.ref rw, .int (nI 0)]))] := hD
  have hK : va_K D vwCl [(cI, .char), (cW, .char)] s := hK
  have hs5 := hS.1
  refine W.widen (k := 0) (n := 0) (by omega) (by omega) ?_
  subst hw_c3
  refine lv_sipush (v := (nI 300)) hx hb dX2_layPiece_8 (by decide) ?_
  refine lv_icmp_le (tgt := 25) hx hb dX2_layPiece_11 (by decide) (fun _ => ?_) (fun hq => absurd (show (nI 0) ≤ (nI 300) from (nI_leI (by omega) (by omega)).mpr (by omega)) hq)
  refine lv_aload_n hx hb dX2_layPiece_25 rfl (lv_at hl 0 rfl) ?_
  refine lv_aload_n hx hb dX2_layPiece_26 rfl (lv_at hl 1 rfl) ?_
  have hFc := va_free (wc := [(j, .inr (3, [.ref ins, .ref em, .ref w, .ref w, .ref w, .int (nI 0), .int (nI g)])), (ins, .inr (4, [.ref ri, .int (nI 0)])), (w, .inr (4, [.ref rw, .int (nI 0)])), (ri, .inl (cI, room, .inl fi)), (rw, .inl (cW, 4, .inl fw))]) hD hS hA [2, 3, 4, 0, 1] rfl
  have kc6 : 0 + (0) ≤ 0 := by omega
  have ks7 : 0 + (0) ≤ 0 := by omega
  refine z_callv (wr := []) (va_runV (As := [.ref w]) (rest := []) ⟨hx, hb, hml, hown, hts⟩ (c_lay_0 l D N0 e H.size (zw H) j ins em w g ri rw cI cW fi fw room hroom) (cwV 1 hts gX2_layPiece_X0_lay rfl rfl rfl (by decide +kernel) ⟨Nat.le_of_ble_eq_true rfl, Nat.le_of_ble_eq_true rfl⟩) ⟨zP.blind, (va_recv hK hP (ci := 3) (q0 := 2) rfl rfl), (z_pre hK hP hD hS hAN hN hG [2, 3, 4, 0, 1] (by decide) rfl [0, 1] rfl (fun q hq => absurd hq List.not_mem_nil))⟩ rfl rfl hl.1 rfl (lv_room (Nat.le_of_ble_eq_true rfl)) dX2_layPiece_27 ⟨kc6, ks7⟩) hK hP hD hS hA [2, 3, 4, 0, 1] rfl [] rfl (by decide) (by decide) (fun u t H locs ht hvm hw_c8 hY_c8 hz_c8 hm_c8 hk_c8 hK hP hD hS => ?_)
  obtain ⟨f2, rfl⟩ : ∃ z, z = u := ⟨_, rfl⟩
  try dsimp only at hw_c8 hY_c8
  have hP : va_P D vwCl [(j, .inr (3, [.ref ins, .ref em, .ref w, .ref w, .ref w, .int (nI 1), .int (nI g)])), (ins, .inr (4, [.ref ri, .int (nI 0)])), (w, .inr (4, [.ref rw, .int (nI 0)])), (ri, .inl (cI, room, .inl f2)), (rw, .inl (cW, 4, .inl fw))] H := hP
  have hD : va_D A [(j, .inr (3, [.ref ins, .ref em, .ref w, .ref w, .ref w, .int (nI 1), .int (nI g)])), (ins, .inr (4, [.ref ri, .int (nI 0)])), (w, .inr (4, [.ref rw, .int (nI 0)])), (ri, .inl (cI, room, .inl f2)), (rw, .inl (cW, 4, .inl fw))] := hD
  have hK : va_K D vwCl [(cI, .char), (cW, .char)] s := hK
  have hs10 := hS.1
  refine W.widen (k := 0) (n := 0) (by omega) (by omega) ?_
  refine lv_aload_n hx hb dX2_layPiece_30 rfl (lv_at hl 0 rfl) ?_
  have hFc := va_free (wc := [(j, .inr (3, [.ref ins, .ref em, .ref w, .ref w, .ref w, .int (nI 1), .int (nI g)])), (ins, .inr (4, [.ref ri, .int (nI 0)])), (w, .inr (4, [.ref rw, .int (nI 0)]))]) hD hS hA [0, 1, 2] rfl
  have kc11 : 0 + (0) ≤ 0 := by omega
  have ks12 : 0 + (0) ≤ 0 := by omega
  refine z_calli (wr := [(ri, .inl (cI, room, .inl f2)), (rw, .inl (cW, 4, .inl fw))]) (va_runV (As := []) (rest := []) ⟨hx, hb, hml, hown, hts⟩ (c_size1 l D N0 e H.size (zw H) j ins em w ri rw g ) (cwV 0 hts gX2_layPiece_X0_size rfl rfl rfl (by decide +kernel) ⟨Nat.le_of_ble_eq_true rfl, Nat.le_of_ble_eq_true rfl⟩) ⟨zP.blind, (va_recv hK hP (ci := 3) (q0 := 0) rfl rfl), (z_pre hK hP hD hS hAN hN hG [0, 1, 2] (by decide) rfl [] rfl (fun q hq => absurd hq List.not_mem_nil))⟩ rfl rfl hl.1 rfl (lv_room (Nat.le_of_ble_eq_true rfl)) dX2_layPiece_31 ⟨kc11, ks12⟩) hK hP hD hS hA [0, 1, 2] rfl [3, 4] rfl (by decide) (by decide) (fun r14 u t H locs ht hvm hw_c13 hY_c13 hz_c13 hm_c13 hk_c13 hK hP hD hS => ?_)
  have hP : va_P D vwCl [(ri, .inl (cI, room, .inl f2)), (rw, .inl (cW, 4, .inl fw)), (j, .inr (3, [.ref ins, .ref em, .ref w, .ref w, .ref w, .int (nI 1), .int (nI g)])), (ins, .inr (4, [.ref ri, .int (nI 0)])), (w, .inr (4, [.ref rw, .int (nI 0)]))] H := hP
  have hD : va_D A [(ri, .inl (cI, room, .inl f2)), (rw, .inl (cW, 4, .inl fw)), (j, .inr (3, [.ref ins, .ref em, .ref w, .ref w, .ref w, .int (nI 1), .int (nI g)])), (ins, .inr (4, [.ref ri, .int (nI 0)])), (w, .inr (4, [.ref rw, .int (nI 0)]))] := hD
  have hK : va_K D vwCl [(cI, .char), (cW, .char)] s := hK
  have hs15 := hS.1
  refine W.widen (k := 0) (n := 0) (by omega) (by omega) ?_
  subst hw_c13
  have hz0 := hS.1
  refine z_keepW (fun hkp => ?_)
  exact z_reti (v := (nI 0)) (f2) hx hb hr (by first | rfl | decide) hlocks (show (nI 0) = (nI 0) from rfl) hK [] rfl hP hD hS [2, 3, 4, 0, 1] (by decide) rfl (by omega) (zw_keep hkp) (fun _ _ _ => trivial) dX2_layPiece_34
set_option maxRecDepth 100000 in
set_option maxHeartbeats 4000000 in
/-- lay of an empty word -/
theorem c_lay_1 (l : Launch) (D : va_G) (N0 : Nat) (e : zE) (sz mz : Nat) (j : Nat) (ins : Nat) (em : Nat) (w : Nat) (g : Nat) (ri : Nat) (rw : Nat) (cI : ClassId) (cW : ClassId) (fi : Nat → Int32) (fw : Nat → Int32) (room : Nat) (hroom : room ≤ 1000) : Met l yX0_lay wsX0_lay ({ frames := 3, cells := 0, slots := 0, locals := 103 }) (va_Pc [.ref j, .ref w] (zP N0 e D [(cI, .char), (cW, .char)] [(j, .inr (3, [.ref ins, .ref em, .ref w, .ref w, .ref w, .int (nI 1), .int (nI g)])), (ins, .inr (4, [.ref ri, .int (nI 0)])), (w, .inr (4, [.ref rw, .int (nI 0)])), (ri, .inl (cI, room, .inl fi)), (rw, .inl (cW, 4, .inl fw))] sz mz [])) (zQv (fun (f3 : Nat → Int32) => True) D (fun (f3 : Nat → Int32) => ([(j, .inr (3, [.ref ins, .ref em, .ref w, .ref w, .ref w, .int (nI 1), .int (nI g)])), (ins, .inr (4, [.ref ri, .int (nI 0)])), (w, .inr (4, [.ref rw, .int (nI 0)])), (ri, .inl (cI, room, .inl f3)), (rw, .inl (cW, 4, .inl fw))] : va_W)) (fun (f3 : Nat → Int32) => ([] : List (ClassId × FieldType))) sz (0) mz (0) (fun (f3 : Nat → Int32) (t : State) => True) (va_A [(j, .inr (3, [.ref ins, .ref em, .ref w, .ref w, .ref w, .int (nI 1), .int (nI g)])), (ins, .inr (4, [.ref ri, .int (nI 0)])), (w, .inr (4, [.ref rw, .int (nI 0)])), (ri, .inl (cI, room, .inl fi)), (rw, .inl (cW, 4, .inl fw))] sz)) (0) (0) (va_A [(j, .inr (3, [.ref ins, .ref em, .ref w, .ref w, .ref w, .int (nI 1), .int (nI g)])), (ins, .inr (4, [.ref ri, .int (nI 0)])), (w, .inr (4, [.ref rw, .int (nI 0)])), (ri, .inl (cI, room, .inl fi)), (rw, .inl (cW, 4, .inl fw))] sz) := by
  refine z_met (Qc := fun A => zQv (fun (f3 : Nat → Int32) => True) D (fun (f3 : Nat → Int32) => ([(j, .inr (3, [.ref ins, .ref em, .ref w, .ref w, .ref w, .int (nI 1), .int (nI g)])), (ins, .inr (4, [.ref ri, .int (nI 0)])), (w, .inr (4, [.ref rw, .int (nI 0)])), (ri, .inl (cI, room, .inl f3)), (rw, .inl (cW, 4, .inl fw))] : va_W)) (fun (f3 : Nat → Int32) => ([] : List (ClassId × FieldType))) sz (0) mz (0) (fun (f3 : Nat → Int32) (t : State) => True) A) (cc := cX0_lay) (maxL := 3) (ret := none) RX0 rfl (by decide) rfl (Nat.le_of_ble_eq_true rfl) ?_
  intro p ev s m below meth c ls A hx hb hr hml hown hts hlocks hnm hsz hmz hN hAe hA hAN hS hP hK hD hG hL hl
  subst hsz
  subst hmz
  have hl : lv_has ls 3 [(0, .ref j), (1, .ref w)] := hl
  refine lv_aload_n hx hb dX0_lay_0 rfl (lv_at hl 1 rfl) ?_
  refine va_getN (D := D) (ci := 4) (v := .int (nI 0)) (C := RX1) (T := TX1) (N := 2) hx hb hts (by decide +kernel) hown hK hP 2 rfl rfl 1 (by decide) (hG.nest ("Joinrow$Joiner", 40, "Joinrow$Signs", "count", "I", "Joinrow") (by simp)) (fun _ h9 => h9) rfl dX0_lay_1 ?_
  refine lv_istore_n (lv' := [(2, .int (nI 0)), (0, .ref j), (1, .ref w)]) hx hb dX0_lay_4 rfl hl (by decide) rfl (fun ls hl => ?_)
  refine lv_aload_n hx hb dX0_lay_5 rfl (lv_at hl 1 rfl) ?_
  refine va_get (D := D) (ci := 3) (v := .int (nI 1)) (C := RX0) (T := TX0) (N := 7) hx hb hts (by decide +kernel) hown hK hP 0 rfl rfl 5 (by decide) (hts (.fieldLink RX0 7 "Joinrow$Joiner" "isFilled" "Z") (by decide +kernel)) (fun _ h9 => h9) rfl dX0_lay_6 ?_
  refine lv_if_eq (tgt := 23) hx hb dX0_lay_9 (by decide) (fun hq => absurd hq (show ¬ ((nI 1) = (nI 0)) from fun hq => absurd ((nI_eq (by omega) (by omega)).mp hq) (by omega))) (fun _ => ?_)
  refine lv_aload_n hx hb dX0_lay_12 rfl (lv_at hl 1 rfl) ?_
  refine va_get (D := D) (ci := 3) (v := .ref ins) (C := RX0) (T := TX0) (N := 7) hx hb hts (by decide +kernel) hown hK hP 0 rfl rfl 0 (by decide) (hts (.fieldLink RX0 21 "Joinrow$Joiner" "inside" "LJoinrow$Signs;") (by decide +kernel)) (fun _ h9 => h9) rfl dX0_lay_13 ?_
  refine lv_aload_n hx hb dX0_lay_16 rfl (lv_at hl 1 rfl) ?_
  refine va_get (D := D) (ci := 3) (v := .ref w) (C := RX0) (T := TX0) (N := 7) hx hb hts (by decide +kernel) hown hK hP 0 rfl rfl 2 (by decide) (hts (.fieldLink RX0 28 "Joinrow$Joiner" "between" "LJoinrow$Signs;") (by decide +kernel)) (fun _ h9 => h9) rfl dX0_lay_17 ?_
  have hFc := va_free (wc := [(ins, .inr (4, [.ref ri, .int (nI 0)])), (w, .inr (4, [.ref rw, .int (nI 0)])), (ri, .inl (cI, room, .inl fi)), (rw, .inl (cW, 4, .inl fw))]) hD hS hA [1, 2, 3, 4] rfl
  have kc1 : 0 + (0) ≤ 0 := by omega
  have ks2 : 0 + (0) ≤ 0 := by omega
  refine z_callv (wr := [(j, .inr (3, [.ref ins, .ref em, .ref w, .ref w, .ref w, .int (nI 1), .int (nI g)]))]) (va_runV (As := [.ref w]) (rest := []) ⟨hx, hb, hml, hown, hts⟩ (c_putA l D N0 e s.heap.size (zw s.heap) ins w ri rw cI cW fi fw room hroom) (cwV 1 hts gX0_lay_X1_putAll rfl rfl rfl (by decide +kernel) ⟨Nat.le_of_ble_eq_true rfl, Nat.le_of_ble_eq_true rfl⟩) ⟨zP.blind, (va_recv hK hP (ci := 4) (q0 := 1) rfl rfl), (z_pre hK hP hD hS hAN hN hG [1, 2, 3, 4] (by decide) rfl [0, 1] rfl (fun q hq => absurd hq List.not_mem_nil))⟩ rfl rfl hl.1 rfl (lv_room (Nat.le_of_ble_eq_true rfl)) dX0_lay_20 ⟨kc1, ks2⟩) hK hP hD hS hA [1, 2, 3, 4] rfl [0] rfl (by decide) (by decide) (fun u t H locs ht hvm hw_c3 hY_c3 hz_c3 hm_c3 hk_c3 hK hP hD hS => ?_)
  obtain ⟨fa, rfl⟩ : ∃ z, z = u := ⟨_, rfl⟩
  try dsimp only at hw_c3 hY_c3
  have hP : va_P D vwCl [(j, .inr (3, [.ref ins, .ref em, .ref w, .ref w, .ref w, .int (nI 1), .int (nI g)])), (ins, .inr (4, [.ref ri, .int (nI 0)])), (w, .inr (4, [.ref rw, .int (nI 0)])), (ri, .inl (cI, room, .inl fa)), (rw, .inl (cW, 4, .inl fw))] H := hP
  have hD : va_D A [(j, .inr (3, [.ref ins, .ref em, .ref w, .ref w, .ref w, .int (nI 1), .int (nI g)])), (ins, .inr (4, [.ref ri, .int (nI 0)])), (w, .inr (4, [.ref rw, .int (nI 0)])), (ri, .inl (cI, room, .inl fa)), (rw, .inl (cW, 4, .inl fw))] := hD
  have hK : va_K D vwCl [(cI, .char), (cW, .char)] s := hK
  have hs5 := hS.1
  refine W.widen (k := 0) (n := 0) (by omega) (by omega) ?_
  refine lv_aload_n hx hb dX0_lay_23 rfl (lv_at hl 1 rfl) ?_
  refine va_get (D := D) (ci := 3) (v := .ref ins) (C := RX0) (T := TX0) (N := 7) hx hb hts (by decide +kernel) hown hK hP 0 rfl rfl 0 (by decide) (hts (.fieldLink RX0 21 "Joinrow$Joiner" "inside" "LJoinrow$Signs;") (by decide +kernel)) (fun _ h9 => h9) rfl dX0_lay_24 ?_
  refine lv_aload_n hx hb dX0_lay_27 rfl (lv_at hl 2 rfl) ?_
  refine lv_iload_n hx hb dX0_lay_28 rfl (lv_at hl 0 rfl) ?_
  have hFc := va_free (wc := [(ins, .inr (4, [.ref ri, .int (nI 0)])), (w, .inr (4, [.ref rw, .int (nI 0)])), (ri, .inl (cI, room, .inl fa)), (rw, .inl (cW, 4, .inl fw))]) hD hS hA [1, 2, 3, 4] rfl
  have kc6 : 0 + (0) ≤ 0 := by omega
  have ks7 : 0 + (0) ≤ 0 := by omega
  refine z_callv (wr := [(j, .inr (3, [.ref ins, .ref em, .ref w, .ref w, .ref w, .int (nI 1), .int (nI g)]))]) (va_runV (As := [.ref w, .int (nI 0)]) (rest := []) ⟨hx, hb, hml, hown, hts⟩ (c_putF l D N0 e H.size (zw H) ins w ri rw cI cW fa fw room hroom) (cwV 2 hts gX0_lay_X1_putFirst rfl rfl rfl (by decide +kernel) ⟨Nat.le_of_ble_eq_true rfl, Nat.le_of_ble_eq_true rfl⟩) ⟨zP.blind, (va_recv hK hP (ci := 4) (q0 := 1) rfl rfl), (z_pre hK hP hD hS hAN hN hG [1, 2, 3, 4] (by decide) rfl [0, 1] rfl (fun q hq => absurd hq List.not_mem_nil))⟩ rfl rfl hl.1 rfl (lv_room (Nat.le_of_ble_eq_true rfl)) dX0_lay_29 ⟨kc6, ks7⟩) hK hP hD hS hA [1, 2, 3, 4] rfl [0] rfl (by decide) (by decide) (fun u t H locs ht hvm hw_c8 hY_c8 hz_c8 hm_c8 hk_c8 hK hP hD hS => ?_)
  obtain ⟨f2, rfl⟩ : ∃ z, z = u := ⟨_, rfl⟩
  try dsimp only at hw_c8 hY_c8
  have hP : va_P D vwCl [(j, .inr (3, [.ref ins, .ref em, .ref w, .ref w, .ref w, .int (nI 1), .int (nI g)])), (ins, .inr (4, [.ref ri, .int (nI 0)])), (w, .inr (4, [.ref rw, .int (nI 0)])), (ri, .inl (cI, room, .inl f2)), (rw, .inl (cW, 4, .inl fw))] H := hP
  have hD : va_D A [(j, .inr (3, [.ref ins, .ref em, .ref w, .ref w, .ref w, .int (nI 1), .int (nI g)])), (ins, .inr (4, [.ref ri, .int (nI 0)])), (w, .inr (4, [.ref rw, .int (nI 0)])), (ri, .inl (cI, room, .inl f2)), (rw, .inl (cW, 4, .inl fw))] := hD
  have hK : va_K D vwCl [(cI, .char), (cW, .char)] s := hK
  have hs10 := hS.1
  refine W.widen (k := 0) (n := 0) (by omega) (by omega) ?_
  refine lv_aload_n hx hb dX0_lay_32 rfl (lv_at hl 1 rfl) ?_
  refine lv_iconst (v := (nI 1)) hx hb dX0_lay_33 (by decide) ?_
  refine va_put (D := D) (ci := 3) (v := .int (nI 1)) (ty := .boolean) (C := RX0) (T := TX0) (N := 7) hx hb hts (by decide +kernel) tyX0 tyX0_ok nmX0 hown hK hP hD hS 0 rfl rfl 5 (by decide) (hts (.fieldLink RX0 7 "Joinrow$Joiner" "isFilled" "Z") (by decide +kernel)) (fun _ h9 => h9) rfl (by decide +kernel) rfl rfl (Nat.le_of_ble_eq_true rfl) dX0_lay_34 (fun H locs hP hD hS => ?_)
  have hP : va_P D vwCl [(j, .inr (3, [.ref ins, .ref em, .ref w, .ref w, .ref w, .int (nI 1), .int (nI g)])), (ins, .inr (4, [.ref ri, .int (nI 0)])), (w, .inr (4, [.ref rw, .int (nI 0)])), (ri, .inl (cI, room, .inl f2)), (rw, .inl (cW, 4, .inl fw))] H := hP
  have hD : va_D A [(j, .inr (3, [.ref ins, .ref em, .ref w, .ref w, .ref w, .int (nI 1), .int (nI g)])), (ins, .inr (4, [.ref ri, .int (nI 0)])), (w, .inr (4, [.ref rw, .int (nI 0)])), (ri, .inl (cI, room, .inl f2)), (rw, .inl (cW, 4, .inl fw))] := hD
  have hs11 := hS.1
  have hz0 := hS.1
  refine z_keepW (fun hkp => ?_)
  exact z_retv (f2) hx hb hr hlocks trivial hK [] rfl hP hD hS [0, 1, 2, 3, 4] (by decide) rfl (by omega) (zw_keep hkp) (fun _ _ _ => trivial) dX0_lay_37
set_option maxRecDepth 100000 in
set_option maxHeartbeats 4000000 in
/-- layPiece of an empty word: the answer is 0 -/
theorem c_lp1 (l : Launch) (D : va_G) (N0 : Nat) (e : zE) (sz mz : Nat) (j : Nat) (ins : Nat) (em : Nat) (w : Nat) (g : Nat) (ri : Nat) (rw : Nat) (cI : ClassId) (cW : ClassId) (fi : Nat → Int32) (fw : Nat → Int32) (room : Nat) (hroom : room ≤ 1000) : Met l yX2_layPiece wsX2_layPiece ({ frames := 4, cells := 0, slots := 0, locals := 125 }) (va_Pc [.ref j, .ref w] (zP N0 e D [(cI, .char), (cW, .char)] [(j, .inr (3, [.ref ins, .ref em, .ref w, .ref w, .ref w, .int (nI 1), .int (nI g)])), (ins, .inr (4, [.ref ri, .int (nI 0)])), (w, .inr (4, [.ref rw, .int (nI 0)])), (ri, .inl (cI, room, .inl fi)), (rw, .inl (cW, 4, .inl fw))] sz mz [])) (zQi (fun (r : Int32) (f3 : Nat → Int32) => r = (nI 0)) D (fun (f3 : Nat → Int32) => ([(j, .inr (3, [.ref ins, .ref em, .ref w, .ref w, .ref w, .int (nI 1), .int (nI g)])), (ins, .inr (4, [.ref ri, .int (nI 0)])), (w, .inr (4, [.ref rw, .int (nI 0)])), (ri, .inl (cI, room, .inl f3)), (rw, .inl (cW, 4, .inl fw))] : va_W)) (fun (f3 : Nat → Int32) => ([] : List (ClassId × FieldType))) sz (0) mz (0) (fun (f3 : Nat → Int32) (t : State) => True) (va_A [(j, .inr (3, [.ref ins, .ref em, .ref w, .ref w, .ref w, .int (nI 1), .int (nI g)])), (ins, .inr (4, [.ref ri, .int (nI 0)])), (w, .inr (4, [.ref rw, .int (nI 0)])), (ri, .inl (cI, room, .inl fi)), (rw, .inl (cW, 4, .inl fw))] sz)) (0) (0) (va_A [(j, .inr (3, [.ref ins, .ref em, .ref w, .ref w, .ref w, .int (nI 1), .int (nI g)])), (ins, .inr (4, [.ref ri, .int (nI 0)])), (w, .inr (4, [.ref rw, .int (nI 0)])), (ri, .inl (cI, room, .inl fi)), (rw, .inl (cW, 4, .inl fw))] sz) := by
  refine z_met (Qc := fun A => zQi (fun (r : Int32) (f3 : Nat → Int32) => r = (nI 0)) D (fun (f3 : Nat → Int32) => ([(j, .inr (3, [.ref ins, .ref em, .ref w, .ref w, .ref w, .int (nI 1), .int (nI g)])), (ins, .inr (4, [.ref ri, .int (nI 0)])), (w, .inr (4, [.ref rw, .int (nI 0)])), (ri, .inl (cI, room, .inl f3)), (rw, .inl (cW, 4, .inl fw))] : va_W)) (fun (f3 : Nat → Int32) => ([] : List (ClassId × FieldType))) sz (0) mz (0) (fun (f3 : Nat → Int32) (t : State) => True) A) (cc := cX2_layPiece) (maxL := 2) (ret := (some .int)) RX2 rfl (by decide) rfl (Nat.le_of_ble_eq_true rfl) ?_
  intro p ev s m below meth c ls A hx hb hr hml hown hts hlocks hnm hsz hmz hN hAe hA hAN hS hP hK hD hG hL hl
  subst hsz
  subst hmz
  have hl : lv_has ls 2 [(0, .ref j), (1, .ref w)] := hl
  refine lv_aload_n hx hb dX2_layPiece_0 rfl (lv_at hl 0 rfl) ?_
  refine lv_aload_n hx hb dX2_layPiece_1 rfl (lv_at hl 1 rfl) ?_
  refine va_getN (D := D) (ci := 4) (v := .int (nI 0)) (C := RX1) (T := TX1) (N := 2) hx hb hts (by decide +kernel) hown hK hP 2 rfl rfl 1 (by decide) (hG.nest ("Joinrow", 139, "Joinrow$Signs", "count", "I", "Joinrow") (by simp)) (fun _ h9 => h9) rfl dX2_layPiece_2 ?_
  have hFc := va_free (wc := [(j, .inr (3, [.ref ins, .ref em, .ref w, .ref w, .ref w, .int (nI 1), .int (nI g)])), (ins, .inr (4, [.ref ri, .int (nI 0)])), (w, .inr (4, [.ref rw, .int (nI 0)]))]) hD hS hA [0, 1, 2] rfl
  have kc1 : 0 + (0) ≤ 0 := by omega
  have ks2 : 0 + (0) ≤ 0 := by omega
  refine z_calli (wr := [(ri, .inl (cI, room, .inl fi)), (rw, .inl (cW, 4, .inl fw))]) (va_runV (As := [.int (nI 0)]) (rest := []) ⟨hx, hb, hml, hown, hts⟩ (c_sizeWith1 l D N0 e s.heap.size (zw s.heap) j ins em w ri rw g ) (cwV 1 hts gX2_layPiece_X0_sizeWith rfl rfl rfl (by decide +kernel) ⟨Nat.le_of_ble_eq_true rfl, Nat.le_of_ble_eq_true rfl⟩) ⟨zP.blind, (va_recv hK hP (ci := 3) (q0 := 0) rfl rfl), (z_pre hK hP hD hS hAN hN hG [0, 1, 2] (by decide) rfl [] rfl (fun q hq => absurd hq List.not_mem_nil))⟩ rfl rfl hl.1 rfl (lv_room (Nat.le_of_ble_eq_true rfl)) dX2_layPiece_5 ⟨kc1, ks2⟩) hK hP hD hS hA [0, 1, 2] rfl [3, 4] rfl (by decide) (by decide) (fun r4 u t H locs ht hvm hw_c3 hY_c3 hz_c3 hm_c3 hk_c3 hK hP hD hS => ?_)
  have hP : va_P D vwCl [(ri, .inl (cI, room, .inl fi)), (rw, .inl (cW, 4, .inl fw)), (j, .inr (3, [.ref ins, .ref em, .ref w, .ref w, .ref w, .int (nI 1), .int (nI g)])), (ins, .inr (4, [.ref ri, .int (nI 0)])), (w, .inr (4, [.ref rw, .int (nI 0)]))] H := hP
  have hD : va_D A [(ri, .inl (cI, room, .inl fi)), (rw, .inl (cW, 4, .inl fw)), (j, .inr (3, [.ref ins, .ref em, .ref w, .ref w, .ref w, .int (nI 1), .int (nI g)])), (ins, .inr (4, [.ref ri, .int (nI 0)])), (w, .inr (4, [.ref rw, .int (nI 0)]))] := hD
  have hK : va_K D vwCl [(cI, .char), (cW, .char)] s := hK
  have hs5 := hS.1
  refine W.widen (k := 0) (n := 0) (by omega) (by omega) ?_
  subst hw_c3
  refine lv_sipush (v := (nI 300)) hx hb dX2_layPiece_8 (by decide) ?_
  refine lv_icmp_le (tgt := 25) hx hb dX2_layPiece_11 (by decide) (fun _ => ?_) (fun hq => absurd (show (nI 0) ≤ (nI 300) from (nI_leI (by omega) (by omega)).mpr (by omega)) hq)
  refine lv_aload_n hx hb dX2_layPiece_25 rfl (lv_at hl 0 rfl) ?_
  refine lv_aload_n hx hb dX2_layPiece_26 rfl (lv_at hl 1 rfl) ?_
  have hFc := va_free (wc := [(j, .inr (3, [.ref ins, .ref em, .ref w, .ref w, .ref w, .int (nI 1), .int (nI g)])), (ins, .inr (4, [.ref ri, .int (nI 0)])), (w, .inr (4, [.ref rw, .int (nI 0)])), (ri, .inl (cI, room, .inl fi)), (rw, .inl (cW, 4, .inl fw))]) hD hS hA [2, 3, 4, 0, 1] rfl
  have kc6 : 0 + (0) ≤ 0 := by omega
  have ks7 : 0 + (0) ≤ 0 := by omega
  refine z_callv (wr := []) (va_runV (As := [.ref w]) (rest := []) ⟨hx, hb, hml, hown, hts⟩ (c_lay_1 l D N0 e H.size (zw H) j ins em w g ri rw cI cW fi fw room hroom) (cwV 1 hts gX2_layPiece_X0_lay rfl rfl rfl (by decide +kernel) ⟨Nat.le_of_ble_eq_true rfl, Nat.le_of_ble_eq_true rfl⟩) ⟨zP.blind, (va_recv hK hP (ci := 3) (q0 := 2) rfl rfl), (z_pre hK hP hD hS hAN hN hG [2, 3, 4, 0, 1] (by decide) rfl [0, 1] rfl (fun q hq => absurd hq List.not_mem_nil))⟩ rfl rfl hl.1 rfl (lv_room (Nat.le_of_ble_eq_true rfl)) dX2_layPiece_27 ⟨kc6, ks7⟩) hK hP hD hS hA [2, 3, 4, 0, 1] rfl [] rfl (by decide) (by decide) (fun u t H locs ht hvm hw_c8 hY_c8 hz_c8 hm_c8 hk_c8 hK hP hD hS => ?_)
  obtain ⟨f2, rfl⟩ : ∃ z, z = u := ⟨_, rfl⟩
  try dsimp only at hw_c8 hY_c8
  have hP : va_P D vwCl [(j, .inr (3, [.ref ins, .ref em, .ref w, .ref w, .ref w, .int (nI 1), .int (nI g)])), (ins, .inr (4, [.ref ri, .int (nI 0)])), (w, .inr (4, [.ref rw, .int (nI 0)])), (ri, .inl (cI, room, .inl f2)), (rw, .inl (cW, 4, .inl fw))] H := hP
  have hD : va_D A [(j, .inr (3, [.ref ins, .ref em, .ref w, .ref w, .ref w, .int (nI 1), .int (nI g)])), (ins, .inr (4, [.ref ri, .int (nI 0)])), (w, .inr (4, [.ref rw, .int (nI 0)])), (ri, .inl (cI, room, .inl f2)), (rw, .inl (cW, 4, .inl fw))] := hD
  have hK : va_K D vwCl [(cI, .char), (cW, .char)] s := hK
  have hs10 := hS.1
  refine W.widen (k := 0) (n := 0) (by omega) (by omega) ?_
  refine lv_aload_n hx hb dX2_layPiece_30 rfl (lv_at hl 0 rfl) ?_
  have hFc := va_free (wc := [(j, .inr (3, [.ref ins, .ref em, .ref w, .ref w, .ref w, .int (nI 1), .int (nI g)])), (ins, .inr (4, [.ref ri, .int (nI 0)])), (w, .inr (4, [.ref rw, .int (nI 0)]))]) hD hS hA [0, 1, 2] rfl
  have kc11 : 0 + (0) ≤ 0 := by omega
  have ks12 : 0 + (0) ≤ 0 := by omega
  refine z_calli (wr := [(ri, .inl (cI, room, .inl f2)), (rw, .inl (cW, 4, .inl fw))]) (va_runV (As := []) (rest := []) ⟨hx, hb, hml, hown, hts⟩ (c_size1 l D N0 e H.size (zw H) j ins em w ri rw g ) (cwV 0 hts gX2_layPiece_X0_size rfl rfl rfl (by decide +kernel) ⟨Nat.le_of_ble_eq_true rfl, Nat.le_of_ble_eq_true rfl⟩) ⟨zP.blind, (va_recv hK hP (ci := 3) (q0 := 0) rfl rfl), (z_pre hK hP hD hS hAN hN hG [0, 1, 2] (by decide) rfl [] rfl (fun q hq => absurd hq List.not_mem_nil))⟩ rfl rfl hl.1 rfl (lv_room (Nat.le_of_ble_eq_true rfl)) dX2_layPiece_31 ⟨kc11, ks12⟩) hK hP hD hS hA [0, 1, 2] rfl [3, 4] rfl (by decide) (by decide) (fun r14 u t H locs ht hvm hw_c13 hY_c13 hz_c13 hm_c13 hk_c13 hK hP hD hS => ?_)
  have hP : va_P D vwCl [(ri, .inl (cI, room, .inl f2)), (rw, .inl (cW, 4, .inl fw)), (j, .inr (3, [.ref ins, .ref em, .ref w, .ref w, .ref w, .int (nI 1), .int (nI g)])), (ins, .inr (4, [.ref ri, .int (nI 0)])), (w, .inr (4, [.ref rw, .int (nI 0)]))] H := hP
  have hD : va_D A [(ri, .inl (cI, room, .inl f2)), (rw, .inl (cW, 4, .inl fw)), (j, .inr (3, [.ref ins, .ref em, .ref w, .ref w, .ref w, .int (nI 1), .int (nI g)])), (ins, .inr (4, [.ref ri, .int (nI 0)])), (w, .inr (4, [.ref rw, .int (nI 0)]))] := hD
  have hK : va_K D vwCl [(cI, .char), (cW, .char)] s := hK
  have hs15 := hS.1
  refine W.widen (k := 0) (n := 0) (by omega) (by omega) ?_
  subst hw_c13
  have hz0 := hS.1
  refine z_keepW (fun hkp => ?_)
  exact z_reti (v := (nI 0)) (f2) hx hb hr (by first | rfl | decide) hlocks (show (nI 0) = (nI 0) from rfl) hK [] rfl hP hD hS [2, 3, 4, 0, 1] (by decide) rfl (by omega) (zw_keep hkp) (fun _ _ _ => trivial) dX2_layPiece_34
set_option maxRecDepth 100000 in
set_option maxHeartbeats 4000000 in
/-- joinerAt(0) -/
theorem c_jat (l : Launch) (D : va_G) (N0 : Nat) (e : zE) (sz mz : Nat) (x : Nat) (wa : Nat) (ja : Nat) (kn : Nat) (rf : Nat) (xs1 : Nat) (xs2 : Nat) (xs3 : Nat) (xs4 : Nat) (xs5 : Nat) (xs6 : Nat) (xs7 : Nat) (cJ : ClassId) (gJ : Nat → Option Nat) (j : Nat) (hgj : gJ 0 = some j) : Met l yX2_joinerAt wsX2_joinerAt ({ frames := 0, cells := 0, slots := 0, locals := 0 }) (va_Pc [.ref x, .int (nI 0)] (zP N0 e D [(cJ, .object "Joinrow$Joiner")] [(x, .inr (5, [.ref wa, .ref ja, .int (nI kn), .int (nI rf), .ref xs1, .ref xs2, .ref xs3, .ref xs4, .ref xs5, .ref xs6, .ref xs7])), (ja, .inl (cJ, 6, .inr (.inr (.inr (.inr gJ)))))] sz mz [])) (zQr (fun (_ : Unit) (ra : Nat) => ra = j) D (fun (_ : Unit) => ([(x, .inr (5, [.ref wa, .ref ja, .int (nI kn), .int (nI rf), .ref xs1, .ref xs2, .ref xs3, .ref xs4, .ref xs5, .ref xs6, .ref xs7])), (ja, .inl (cJ, 6, .inr (.inr (.inr (.inr gJ)))))] : va_W)) (fun (_ : Unit) => ([] : List (ClassId × FieldType))) sz (0) mz (0) (fun (_ : Unit) (t : State) => True) (va_A [(x, .inr (5, [.ref wa, .ref ja, .int (nI kn), .int (nI rf), .ref xs1, .ref xs2, .ref xs3, .ref xs4, .ref xs5, .ref xs6, .ref xs7])), (ja, .inl (cJ, 6, .inr (.inr (.inr (.inr gJ)))))] sz)) (0) (0) (va_A [(x, .inr (5, [.ref wa, .ref ja, .int (nI kn), .int (nI rf), .ref xs1, .ref xs2, .ref xs3, .ref xs4, .ref xs5, .ref xs6, .ref xs7])), (ja, .inl (cJ, 6, .inr (.inr (.inr (.inr gJ)))))] sz) := by
  refine z_met (Qc := fun A => zQr (fun (_ : Unit) (ra : Nat) => ra = j) D (fun (_ : Unit) => ([(x, .inr (5, [.ref wa, .ref ja, .int (nI kn), .int (nI rf), .ref xs1, .ref xs2, .ref xs3, .ref xs4, .ref xs5, .ref xs6, .ref xs7])), (ja, .inl (cJ, 6, .inr (.inr (.inr (.inr gJ)))))] : va_W)) (fun (_ : Unit) => ([] : List (ClassId × FieldType))) sz (0) mz (0) (fun (_ : Unit) (t : State) => True) A) (cc := cX2_joinerAt) (maxL := 2) (ret := (some (.object "Joinrow$Joiner"))) RX2 rfl (by decide) rfl (Nat.le_of_ble_eq_true rfl) ?_
  intro p ev s m below meth c ls A hx hb hr hml hown hts hlocks hnm hsz hmz hN hAe hA hAN hS hP hK hD hG hL hl
  subst hsz
  subst hmz
  have hl : lv_has ls 2 [(0, .ref x), (1, .int (nI 0))] := hl
  refine lv_iload_n hx hb dX2_joinerAt_0 rfl (lv_at hl 1 rfl) ?_
  refine lv_if_lt (tgt := 13) hx hb dX2_joinerAt_1 (by decide) (fun hq => absurd hq (show ¬ ((nI 0) < (nI 0)) from fun hq => absurd ((nI_ltI (by omega) (by omega)).mp hq) (by omega))) (fun _ => ?_)
  refine lv_iload_n hx hb dX2_joinerAt_4 rfl (lv_at hl 1 rfl) ?_
  refine lv_aload_n hx hb dX2_joinerAt_5 rfl (lv_at hl 0 rfl) ?_
  refine va_get (D := D) (ci := 5) (v := .ref ja) (C := RX2) (T := TX2) (N := 11) hx hb hts (by decide +kernel) hown hK hP 0 rfl rfl 1 (by decide) (hts (.fieldLink RX2 17 "Joinrow" "joiners" "[LJoinrow$Joiner;") (by decide +kernel)) (fun _ h9 => h9) rfl dX2_joinerAt_6 ?_
  refine va_alen (v := nI (6)) hx hb hK hP 1 0 rfl rfl rfl dX2_joinerAt_9 ?_
  refine lv_icmp_lt (tgt := 23) hx hb dX2_joinerAt_10 (by decide) (fun _ => ?_) (fun hq => absurd (show (nI 0) < (nI 6) from (nI_ltI (by omega) (by omega)).mpr (by omega)) hq)
  refine lv_aload_n hx hb dX2_joinerAt_23 rfl (lv_at hl 0 rfl) ?_
  refine va_get (D := D) (ci := 5) (v := .ref ja) (C := RX2) (T := TX2) (N := 11) hx hb hts (by decide +kernel) hown hK hP 0 rfl rfl 1 (by decide) (hts (.fieldLink RX2 17 "Joinrow" "joiners" "[LJoinrow$Joiner;") (by decide +kernel)) (fun _ h9 => h9) rfl dX2_joinerAt_24 ?_
  refine lv_iload_n hx hb dX2_joinerAt_27 rfl (lv_at hl 1 rfl) ?_
  have vi1 : vp_in (nI 0) 6 := vp_in_nI (by omega) (by omega)
  refine va_aldq hx hb hK hP 1 0 rfl rfl vi1 dX2_joinerAt_28 ?_
  rw [nI_clamp (show 0 < 2 ^ 31 by omega), (show gJ (0) = some j from hgj)]
  refine W.eq (g2 := F0 m 29 ls [.ref j]) rfl ?_
  have hz0 := hS.1
  refine z_keepW (fun hkp => ?_)
  exact z_retr (q := j) () hx hb hr (Or.inl ⟨_, rfl⟩) hlocks rfl hK [] rfl hP hD hS [0, 1] (by decide) rfl (by omega) (zw_keep hkp) (fun _ _ _ => trivial) dX2_joinerAt_29
set_option maxRecDepth 100000 in
set_option maxHeartbeats 4000000 in
/-- wordAt(0) -/
theorem c_wat (l : Launch) (D : va_G) (N0 : Nat) (e : zE) (sz mz : Nat) (x : Nat) (wa : Nat) (ja : Nat) (kn : Nat) (rf : Nat) (xs1 : Nat) (xs2 : Nat) (xs3 : Nat) (xs4 : Nat) (xs5 : Nat) (xs6 : Nat) (xs7 : Nat) (cS : ClassId) (fW : Nat → Option Nat) (w : Nat) (hfw : fW 0 = some w) : Met l yX2_wordAt wsX2_wordAt ({ frames := 0, cells := 0, slots := 0, locals := 0 }) (va_Pc [.ref x, .int (nI 0)] (zP N0 e D [(cS, .object "Joinrow$Signs")] [(x, .inr (5, [.ref wa, .ref ja, .int (nI kn), .int (nI rf), .ref xs1, .ref xs2, .ref xs3, .ref xs4, .ref xs5, .ref xs6, .ref xs7])), (wa, .inl (cS, 70, .inr (.inr (.inr (.inr fW)))))] sz mz [])) (zQr (fun (_ : Unit) (ra : Nat) => ra = w) D (fun (_ : Unit) => ([(x, .inr (5, [.ref wa, .ref ja, .int (nI kn), .int (nI rf), .ref xs1, .ref xs2, .ref xs3, .ref xs4, .ref xs5, .ref xs6, .ref xs7])), (wa, .inl (cS, 70, .inr (.inr (.inr (.inr fW)))))] : va_W)) (fun (_ : Unit) => ([] : List (ClassId × FieldType))) sz (0) mz (0) (fun (_ : Unit) (t : State) => True) (va_A [(x, .inr (5, [.ref wa, .ref ja, .int (nI kn), .int (nI rf), .ref xs1, .ref xs2, .ref xs3, .ref xs4, .ref xs5, .ref xs6, .ref xs7])), (wa, .inl (cS, 70, .inr (.inr (.inr (.inr fW)))))] sz)) (0) (0) (va_A [(x, .inr (5, [.ref wa, .ref ja, .int (nI kn), .int (nI rf), .ref xs1, .ref xs2, .ref xs3, .ref xs4, .ref xs5, .ref xs6, .ref xs7])), (wa, .inl (cS, 70, .inr (.inr (.inr (.inr fW)))))] sz) := by
  refine z_met (Qc := fun A => zQr (fun (_ : Unit) (ra : Nat) => ra = w) D (fun (_ : Unit) => ([(x, .inr (5, [.ref wa, .ref ja, .int (nI kn), .int (nI rf), .ref xs1, .ref xs2, .ref xs3, .ref xs4, .ref xs5, .ref xs6, .ref xs7])), (wa, .inl (cS, 70, .inr (.inr (.inr (.inr fW)))))] : va_W)) (fun (_ : Unit) => ([] : List (ClassId × FieldType))) sz (0) mz (0) (fun (_ : Unit) (t : State) => True) A) (cc := cX2_wordAt) (maxL := 2) (ret := (some (.object "Joinrow$Signs"))) RX2 rfl (by decide) rfl (Nat.le_of_ble_eq_true rfl) ?_
  intro p ev s m below meth c ls A hx hb hr hml hown hts hlocks hnm hsz hmz hN hAe hA hAN hS hP hK hD hG hL hl
  subst hsz
  subst hmz
  have hl : lv_has ls 2 [(0, .ref x), (1, .int (nI 0))] := hl
  refine lv_iload_n hx hb dX2_wordAt_0 rfl (lv_at hl 1 rfl) ?_
  refine lv_if_lt (tgt := 13) hx hb dX2_wordAt_1 (by decide) (fun hq => absurd hq (show ¬ ((nI 0) < (nI 0)) from fun hq => absurd ((nI_ltI (by omega) (by omega)).mp hq) (by omega))) (fun _ => ?_)
  refine lv_iload_n hx hb dX2_wordAt_4 rfl (lv_at hl 1 rfl) ?_
  refine lv_aload_n hx hb dX2_wordAt_5 rfl (lv_at hl 0 rfl) ?_
  refine va_get (D := D) (ci := 5) (v := .ref wa) (C := RX2) (T := TX2) (N := 11) hx hb hts (by decide +kernel) hown hK hP 0 rfl rfl 0 (by decide) (hts (.fieldLink RX2 11 "Joinrow" "words" "[LJoinrow$Signs;") (by decide +kernel)) (fun _ h9 => h9) rfl dX2_wordAt_6 ?_
  refine va_alen (v := nI (70)) hx hb hK hP 1 0 rfl rfl rfl dX2_wordAt_9 ?_
  refine lv_icmp_lt (tgt := 23) hx hb dX2_wordAt_10 (by decide) (fun _ => ?_) (fun hq => absurd (show (nI 0) < (nI 70) from (nI_ltI (by omega) (by omega)).mpr (by omega)) hq)
  refine lv_aload_n hx hb dX2_wordAt_23 rfl (lv_at hl 0 rfl) ?_
  refine va_get (D := D) (ci := 5) (v := .ref wa) (C := RX2) (T := TX2) (N := 11) hx hb hts (by decide +kernel) hown hK hP 0 rfl rfl 0 (by decide) (hts (.fieldLink RX2 11 "Joinrow" "words" "[LJoinrow$Signs;") (by decide +kernel)) (fun _ h9 => h9) rfl dX2_wordAt_24 ?_
  refine lv_iload_n hx hb dX2_wordAt_27 rfl (lv_at hl 1 rfl) ?_
  have vi1 : vp_in (nI 0) 70 := vp_in_nI (by omega) (by omega)
  refine va_aldq hx hb hK hP 1 0 rfl rfl vi1 dX2_wordAt_28 ?_
  rw [nI_clamp (show 0 < 2 ^ 31 by omega), (show fW (0) = some w from hfw)]
  refine W.eq (g2 := F0 m 29 ls [.ref w]) rfl ?_
  have hz0 := hS.1
  refine z_keepW (fun hkp => ?_)
  exact z_retr (q := w) () hx hb hr (Or.inl ⟨_, rfl⟩) hlocks rfl hK [] rfl hP hD hS [0, 1] (by decide) rfl (by omega) (zw_keep hkp) (fun _ _ _ => trivial) dX2_wordAt_29
set_option maxRecDepth 100000 in
set_option maxHeartbeats 4000000 in
/-- start(w, w, w) -/
theorem c_start (l : Launch) (D : va_G) (N0 : Nat) (e : zE) (sz mz : Nat) (j : Nat) (ins : Nat) (em : Nat) (bw : Nat) (pf : Nat) (sf : Nat) (w : Nat) (ri : Nat)  : Met l yX0_start wsX0_start ({ frames := 1, cells := 0, slots := 0, locals := 20 }) (va_Pc [.ref j, .ref w, .ref w, .ref w] (zP N0 e D [] [(j, .inr (3, [.ref ins, .ref em, .ref bw, .ref pf, .ref sf, .int (nI 0), .int (nI 0)])), (ins, .inr (4, [.ref ri, .int (nI 0)]))] sz mz [])) (zQv (fun (_ : Unit) => True) D (fun (_ : Unit) => ([(j, .inr (3, [.ref ins, .ref em, .ref w, .ref w, .ref w, .int (nI 0), .int (nI 0)])), (ins, .inr (4, [.ref ri, .int (nI 0)]))] : va_W)) (fun (_ : Unit) => ([] : List (ClassId × FieldType))) sz (0) mz (0) (fun (_ : Unit) (t : State) => True) (va_A [(j, .inr (3, [.ref ins, .ref em, .ref bw, .ref pf, .ref sf, .int (nI 0), .int (nI 0)])), (ins, .inr (4, [.ref ri, .int (nI 0)]))] sz)) (0) (0) (va_A [(j, .inr (3, [.ref ins, .ref em, .ref bw, .ref pf, .ref sf, .int (nI 0), .int (nI 0)])), (ins, .inr (4, [.ref ri, .int (nI 0)]))] sz) := by
  refine z_met (Qc := fun A => zQv (fun (_ : Unit) => True) D (fun (_ : Unit) => ([(j, .inr (3, [.ref ins, .ref em, .ref w, .ref w, .ref w, .int (nI 0), .int (nI 0)])), (ins, .inr (4, [.ref ri, .int (nI 0)]))] : va_W)) (fun (_ : Unit) => ([] : List (ClassId × FieldType))) sz (0) mz (0) (fun (_ : Unit) (t : State) => True) A) (cc := cX0_start) (maxL := 4) (ret := none) RX0 rfl (by decide) rfl (Nat.le_of_ble_eq_true rfl) ?_
  intro p ev s m below meth c ls A hx hb hr hml hown hts hlocks hnm hsz hmz hN hAe hA hAN hS hP hK hD hG hL hl
  subst hsz
  subst hmz
  have hl : lv_has ls 4 [(0, .ref j), (1, .ref w), (2, .ref w), (3, .ref w)] := hl
  refine lv_aload_n hx hb dX0_start_0 rfl (lv_at hl 0 rfl) ?_
  refine lv_aload_n hx hb dX0_start_1 rfl (lv_at hl 1 rfl) ?_
  refine va_put (D := D) (ci := 3) (v := .ref w) (ty := .object "Joinrow$Signs") (C := RX0) (T := TX0) (N := 7) hx hb hts (by decide +kernel) tyX0 tyX0_ok nmX0 hown hK hP hD hS 0 rfl rfl 2 (by decide) (hts (.fieldLink RX0 28 "Joinrow$Joiner" "between" "LJoinrow$Signs;") (by decide +kernel)) (fun _ h9 => h9) rfl (by decide +kernel) rfl rfl (Nat.le_of_ble_eq_true rfl) dX0_start_2 (fun H locs hP hD hS => ?_)
  have hP : va_P D vwCl [(j, .inr (3, [.ref ins, .ref em, .ref w, .ref pf, .ref sf, .int (nI 0), .int (nI 0)])), (ins, .inr (4, [.ref ri, .int (nI 0)]))] H := hP
  have hD : va_D A [(j, .inr (3, [.ref ins, .ref em, .ref w, .ref pf, .ref sf, .int (nI 0), .int (nI 0)])), (ins, .inr (4, [.ref ri, .int (nI 0)]))] := hD
  have hs1 := hS.1
  refine lv_aload_n hx hb dX0_start_5 rfl (lv_at hl 0 rfl) ?_
  refine lv_aload_n hx hb dX0_start_6 rfl (lv_at hl 2 rfl) ?_
  refine va_put (D := D) (ci := 3) (v := .ref w) (ty := .object "Joinrow$Signs") (C := RX0) (T := TX0) (N := 7) hx hb hts (by decide +kernel) tyX0 tyX0_ok nmX0 hown hK hP hD hS 0 rfl rfl 3 (by decide) (hts (.fieldLink RX0 31 "Joinrow$Joiner" "prefix" "LJoinrow$Signs;") (by decide +kernel)) (fun _ h9 => h9) rfl (by decide +kernel) rfl rfl (Nat.le_of_ble_eq_true rfl) dX0_start_7 (fun H locs hP hD hS => ?_)
  have hP : va_P D vwCl [(j, .inr (3, [.ref ins, .ref em, .ref w, .ref w, .ref sf, .int (nI 0), .int (nI 0)])), (ins, .inr (4, [.ref ri, .int (nI 0)]))] H := hP
  have hD : va_D A [(j, .inr (3, [.ref ins, .ref em, .ref w, .ref w, .ref sf, .int (nI 0), .int (nI 0)])), (ins, .inr (4, [.ref ri, .int (nI 0)]))] := hD
  have hs2 := hS.1
  refine lv_aload_n hx hb dX0_start_10 rfl (lv_at hl 0 rfl) ?_
  refine lv_aload_n hx hb dX0_start_11 rfl (lv_at hl 3 rfl) ?_
  refine va_put (D := D) (ci := 3) (v := .ref w) (ty := .object "Joinrow$Signs") (C := RX0) (T := TX0) (N := 7) hx hb hts (by decide +kernel) tyX0 tyX0_ok nmX0 hown hK hP hD hS 0 rfl rfl 4 (by decide) (hts (.fieldLink RX0 34 "Joinrow$Joiner" "suffix" "LJoinrow$Signs;") (by decide +kernel)) (fun _ h9 => h9) rfl (by decide +kernel) rfl rfl (Nat.le_of_ble_eq_true rfl) dX0_start_12 (fun H locs hP hD hS => ?_)
  have hP : va_P D vwCl [(j, .inr (3, [.ref ins, .ref em, .ref w, .ref w, .ref w, .int (nI 0), .int (nI 0)])), (ins, .inr (4, [.ref ri, .int (nI 0)]))] H := hP
  have hD : va_D A [(j, .inr (3, [.ref ins, .ref em, .ref w, .ref w, .ref w, .int (nI 0), .int (nI 0)])), (ins, .inr (4, [.ref ri, .int (nI 0)]))] := hD
  have hs3 := hS.1
  refine lv_aload_n hx hb dX0_start_15 rfl (lv_at hl 0 rfl) ?_
  refine va_get (D := D) (ci := 3) (v := .ref ins) (C := RX0) (T := TX0) (N := 7) hx hb hts (by decide +kernel) hown hK hP 0 rfl rfl 0 (by decide) (hts (.fieldLink RX0 21 "Joinrow$Joiner" "inside" "LJoinrow$Signs;") (by decide +kernel)) (fun _ h9 => h9) rfl dX0_start_16 ?_
  have hFc := va_free (wc := [(ins, .inr (4, [.ref ri, .int (nI 0)]))]) hD hS hA [1] rfl
  have kc4 : 0 + (0) ≤ 0 := by omega
  have ks5 : 0 + (0) ≤ 0 := by omega
  refine z_callv (wr := [(j, .inr (3, [.ref ins, .ref em, .ref w, .ref w, .ref w, .int (nI 0), .int (nI 0)]))]) (va_runV (As := []) (rest := []) ⟨hx, hb, hml, hown, hts⟩ (c_wipe l D N0 e H.size (zw H) ins ri 0 ) (cwV 0 hts gX0_start_X1_wipe rfl rfl rfl (by decide +kernel) ⟨Nat.le_of_ble_eq_true rfl, Nat.le_of_ble_eq_true rfl⟩) ⟨zP.blind, (va_recv hK hP (ci := 4) (q0 := 1) rfl rfl), (z_pre hK hP hD hS hAN hN hG [1] (by decide) rfl [] rfl (fun q hq => absurd hq List.not_mem_nil))⟩ rfl rfl hl.1 rfl (lv_room (Nat.le_of_ble_eq_true rfl)) dX0_start_19 ⟨kc4, ks5⟩) hK hP hD hS hA [1] rfl [0] rfl (by decide) (by decide) (fun u t H locs ht hvm hw_c6 hY_c6 hz_c6 hm_c6 hk_c6 hK hP hD hS => ?_)
  have hP : va_P D vwCl [(j, .inr (3, [.ref ins, .ref em, .ref w, .ref w, .ref w, .int (nI 0), .int (nI 0)])), (ins, .inr (4, [.ref ri, .int (nI 0)]))] H := hP
  have hD : va_D A [(j, .inr (3, [.ref ins, .ref em, .ref w, .ref w, .ref w, .int (nI 0), .int (nI 0)])), (ins, .inr (4, [.ref ri, .int (nI 0)]))] := hD
  have hK : va_K D vwCl [] s := hK
  have hs8 := hS.1
  refine W.widen (k := 0) (n := 0) (by omega) (by omega) ?_
  refine lv_aload_n hx hb dX0_start_22 rfl (lv_at hl 0 rfl) ?_
  refine lv_iconst (v := (nI 0)) hx hb dX0_start_23 (by decide) ?_
  refine va_put (D := D) (ci := 3) (v := .int (nI 0)) (ty := .boolean) (C := RX0) (T := TX0) (N := 7) hx hb hts (by decide +kernel) tyX0 tyX0_ok nmX0 hown hK hP hD hS 0 rfl rfl 5 (by decide) (hts (.fieldLink RX0 7 "Joinrow$Joiner" "isFilled" "Z") (by decide +kernel)) (fun _ h9 => h9) rfl (by decide +kernel) rfl rfl (Nat.le_of_ble_eq_true rfl) dX0_start_24 (fun H locs hP hD hS => ?_)
  have hP : va_P D vwCl [(j, .inr (3, [.ref ins, .ref em, .ref w, .ref w, .ref w, .int (nI 0), .int (nI 0)])), (ins, .inr (4, [.ref ri, .int (nI 0)]))] H := hP
  have hD : va_D A [(j, .inr (3, [.ref ins, .ref em, .ref w, .ref w, .ref w, .int (nI 0), .int (nI 0)])), (ins, .inr (4, [.ref ri, .int (nI 0)]))] := hD
  have hs9 := hS.1
  refine lv_aload_n hx hb dX0_start_27 rfl (lv_at hl 0 rfl) ?_
  refine lv_iconst (v := (nI 0)) hx hb dX0_start_28 (by decide) ?_
  refine va_put (D := D) (ci := 3) (v := .int (nI 0)) (ty := .boolean) (C := RX0) (T := TX0) (N := 7) hx hb hts (by decide +kernel) tyX0 tyX0_ok nmX0 hown hK hP hD hS 0 rfl rfl 6 (by decide) (hts (.fieldLink RX0 13 "Joinrow$Joiner" "hasEmptyText" "Z") (by decide +kernel)) (fun _ h9 => h9) rfl (by decide +kernel) rfl rfl (Nat.le_of_ble_eq_true rfl) dX0_start_29 (fun H locs hP hD hS => ?_)
  have hP : va_P D vwCl [(j, .inr (3, [.ref ins, .ref em, .ref w, .ref w, .ref w, .int (nI 0), .int (nI 0)])), (ins, .inr (4, [.ref ri, .int (nI 0)]))] H := hP
  have hD : va_D A [(j, .inr (3, [.ref ins, .ref em, .ref w, .ref w, .ref w, .int (nI 0), .int (nI 0)])), (ins, .inr (4, [.ref ri, .int (nI 0)]))] := hD
  have hs10 := hS.1
  have hz0 := hS.1
  refine z_keepW (fun hkp => ?_)
  exact z_retv () hx hb hr hlocks trivial hK [] rfl hP hD hS [0, 1] (by decide) rfl (by omega) (zw_keep hkp) (fun _ _ _ => trivial) dX0_start_32
set_option maxRecDepth 100000 in
set_option maxHeartbeats 4000000 in
/-- Joinrow.begin(0, 0), of a new joiner -/
theorem c_xbegin (l : Launch) (D : va_G) (N0 : Nat) (e : zE) (sz mz : Nat) (x : Nat) (wa : Nat) (ja : Nat) (kn : Nat) (rf : Nat) (xs1 : Nat) (xs2 : Nat) (xs3 : Nat) (xs4 : Nat) (xs5 : Nat) (xs6 : Nat) (xs7 : Nat) (cS : ClassId) (fW : Nat → Option Nat) (cJ : ClassId) (gJ : Nat → Option Nat) (w : Nat) (j : Nat) (ins : Nat) (em : Nat) (bw : Nat) (pf : Nat) (sf : Nat) (ri : Nat) (rp : Nat) (rs : Nat) (cp : Nat) (cs : Nat) (hgj : gJ 0 = some j) (hfw : fW 0 = some w) : Met l yX2_begin wsX2_begin ({ frames := 2, cells := 0, slots := 0, locals := 43 }) (va_Pc [.ref x, .int (nI 0), .int (nI 0)] (zP N0 e D [(cS, .object "Joinrow$Signs"), (cJ, .object "Joinrow$Joiner")] [(x, .inr (5, [.ref wa, .ref ja, .int (nI kn), .int (nI rf), .ref xs1, .ref xs2, .ref xs3, .ref xs4, .ref xs5, .ref xs6, .ref xs7])), (wa, .inl (cS, 70, .inr (.inr (.inr (.inr fW))))), (ja, .inl (cJ, 6, .inr (.inr (.inr (.inr gJ))))), (j, .inr (3, [.ref ins, .ref em, .ref bw, .ref pf, .ref sf, .int (nI 0), .int (nI 0)])), (ins, .inr (4, [.ref ri, .int (nI 0)])), (pf, .inr (4, [.ref rp, .int (nI cp)])), (sf, .inr (4, [.ref rs, .int (nI cs)]))] sz mz [])) (zQi (fun (r : Int32) (_ : Unit) => r = (nI (cp + 0 + cs))) D (fun (_ : Unit) => ([(x, .inr (5, [.ref wa, .ref ja, .int (nI kn), .int (nI rf), .ref xs1, .ref xs2, .ref xs3, .ref xs4, .ref xs5, .ref xs6, .ref xs7])), (wa, .inl (cS, 70, .inr (.inr (.inr (.inr fW))))), (ja, .inl (cJ, 6, .inr (.inr (.inr (.inr gJ))))), (j, .inr (3, [.ref ins, .ref em, .ref w, .ref w, .ref w, .int (nI 0), .int (nI 0)])), (ins, .inr (4, [.ref ri, .int (nI 0)])), (pf, .inr (4, [.ref rp, .int (nI cp)])), (sf, .inr (4, [.ref rs, .int (nI cs)]))] : va_W)) (fun (_ : Unit) => ([] : List (ClassId × FieldType))) sz (0) mz (0) (fun (_ : Unit) (t : State) => True) (va_A [(x, .inr (5, [.ref wa, .ref ja, .int (nI kn), .int (nI rf), .ref xs1, .ref xs2, .ref xs3, .ref xs4, .ref xs5, .ref xs6, .ref xs7])), (wa, .inl (cS, 70, .inr (.inr (.inr (.inr fW))))), (ja, .inl (cJ, 6, .inr (.inr (.inr (.inr gJ))))), (j, .inr (3, [.ref ins, .ref em, .ref bw, .ref pf, .ref sf, .int (nI 0), .int (nI 0)])), (ins, .inr (4, [.ref ri, .int (nI 0)])), (pf, .inr (4, [.ref rp, .int (nI cp)])), (sf, .inr (4, [.ref rs, .int (nI cs)]))] sz)) (0) (0) (va_A [(x, .inr (5, [.ref wa, .ref ja, .int (nI kn), .int (nI rf), .ref xs1, .ref xs2, .ref xs3, .ref xs4, .ref xs5, .ref xs6, .ref xs7])), (wa, .inl (cS, 70, .inr (.inr (.inr (.inr fW))))), (ja, .inl (cJ, 6, .inr (.inr (.inr (.inr gJ))))), (j, .inr (3, [.ref ins, .ref em, .ref bw, .ref pf, .ref sf, .int (nI 0), .int (nI 0)])), (ins, .inr (4, [.ref ri, .int (nI 0)])), (pf, .inr (4, [.ref rp, .int (nI cp)])), (sf, .inr (4, [.ref rs, .int (nI cs)]))] sz) := by
  refine z_met (Qc := fun A => zQi (fun (r : Int32) (_ : Unit) => r = (nI (cp + 0 + cs))) D (fun (_ : Unit) => ([(x, .inr (5, [.ref wa, .ref ja, .int (nI kn), .int (nI rf), .ref xs1, .ref xs2, .ref xs3, .ref xs4, .ref xs5, .ref xs6, .ref xs7])), (wa, .inl (cS, 70, .inr (.inr (.inr (.inr fW))))), (ja, .inl (cJ, 6, .inr (.inr (.inr (.inr gJ))))), (j, .inr (3, [.ref ins, .ref em, .ref w, .ref w, .ref w, .int (nI 0), .int (nI 0)])), (ins, .inr (4, [.ref ri, .int (nI 0)])), (pf, .inr (4, [.ref rp, .int (nI cp)])), (sf, .inr (4, [.ref rs, .int (nI cs)]))] : va_W)) (fun (_ : Unit) => ([] : List (ClassId × FieldType))) sz (0) mz (0) (fun (_ : Unit) (t : State) => True) A) (cc := cX2_begin) (maxL := 6) (ret := (some .int)) RX2 rfl (by decide) rfl (Nat.le_of_ble_eq_true rfl) ?_
  intro p ev s m below meth c ls A hx hb hr hml hown hts hlocks hnm hsz hmz hN hAe hA hAN hS hP hK hD hG hL hl
  subst hsz
  subst hmz
  have hl : lv_has ls 6 [(0, .ref x), (1, .int (nI 0)), (2, .int (nI 0))] := hl
  refine lv_aload_n hx hb dX2_begin_0 rfl (lv_at hl 0 rfl) ?_
  refine lv_iload_n hx hb dX2_begin_1 rfl (lv_at hl 1 rfl) ?_
  have hFc := va_free (wc := [(x, .inr (5, [.ref wa, .ref ja, .int (nI kn), .int (nI rf), .ref xs1, .ref xs2, .ref xs3, .ref xs4, .ref xs5, .ref xs6, .ref xs7])), (ja, .inl (cJ, 6, .inr (.inr (.inr (.inr gJ)))))]) hD hS hA [0, 2] rfl
  have kc1 : 0 + (0) ≤ 0 := by omega
  have ks2 : 0 + (0) ≤ 0 := by omega
  refine z_callr (wr := [(wa, .inl (cS, 70, .inr (.inr (.inr (.inr fW))))), (j, .inr (3, [.ref ins, .ref em, .ref bw, .ref pf, .ref sf, .int (nI 0), .int (nI 0)])), (ins, .inr (4, [.ref ri, .int (nI 0)])), (pf, .inr (4, [.ref rp, .int (nI cp)])), (sf, .inr (4, [.ref rs, .int (nI cs)]))]) (va_runV (As := [.int (nI 0)]) (rest := []) ⟨hx, hb, hml, hown, hts⟩ (c_jat l D N0 e s.heap.size (zw s.heap) x wa ja kn rf xs1 xs2 xs3 xs4 xs5 xs6 xs7 cJ gJ j hgj) (cwV 1 hts gX2_begin_X2_joinerAt rfl rfl rfl (by decide +kernel) ⟨Nat.le_of_ble_eq_true rfl, Nat.le_of_ble_eq_true rfl⟩) ⟨zP.blind, (va_recv hK hP (ci := 5) (q0 := 0) rfl rfl), (z_pre hK hP hD hS hAN hN hG [0, 2] (by decide) rfl [1] rfl (fun q hq => absurd hq List.not_mem_nil))⟩ rfl rfl hl.1 rfl (lv_room (Nat.le_of_ble_eq_true rfl)) dX2_begin_2 ⟨kc1, ks2⟩) hK hP hD hS hA [0, 2] rfl [1, 3, 4, 5, 6] rfl (by decide) (by decide) (fun u r4 t H locs ht hvm hw_c3 hY_c3 hz_c3 hm_c3 hk_c3 hK hP hD hS => ?_)
  have hP : va_P D vwCl [(wa, .inl (cS, 70, .inr (.inr (.inr (.inr fW))))), (j, .inr (3, [.ref ins, .ref em, .ref bw, .ref pf, .ref sf, .int (nI 0), .int (nI 0)])), (ins, .inr (4, [.ref ri, .int (nI 0)])), (pf, .inr (4, [.ref rp, .int (nI cp)])), (sf, .inr (4, [.ref rs, .int (nI cs)])), (x, .inr (5, [.ref wa, .ref ja, .int (nI kn), .int (nI rf), .ref xs1, .ref xs2, .ref xs3, .ref xs4, .ref xs5, .ref xs6, .ref xs7])), (ja, .inl (cJ, 6, .inr (.inr (.inr (.inr gJ)))))] H := hP
  have hD : va_D A [(wa, .inl (cS, 70, .inr (.inr (.inr (.inr fW))))), (j, .inr (3, [.ref ins, .ref em, .ref bw, .ref pf, .ref sf, .int (nI 0), .int (nI 0)])), (ins, .inr (4, [.ref ri, .int (nI 0)])), (pf, .inr (4, [.ref rp, .int (nI cp)])), (sf, .inr (4, [.ref rs, .int (nI cs)])), (x, .inr (5, [.ref wa, .ref ja, .int (nI kn), .int (nI rf), .ref xs1, .ref xs2, .ref xs3, .ref xs4, .ref xs5, .ref xs6, .ref xs7])), (ja, .inl (cJ, 6, .inr (.inr (.inr (.inr gJ)))))] := hD
  have hK : va_K D vwCl [(cS, .object "Joinrow$Signs"), (cJ, .object "Joinrow$Joiner")] s := hK
  have hs5 := hS.1
  refine W.widen (k := 0) (n := 0) (by omega) (by omega) ?_
  obtain rfl : j = r4 := Eq.symm hw_c3
  refine lv_astore_n (lv' := [(3, .ref j), (0, .ref x), (1, .int (nI 0)), (2, .int (nI 0))]) hx hb dX2_begin_5 rfl hl (by decide) rfl (fun ls hl => ?_)
  refine lv_aload_n hx hb dX2_begin_6 rfl (lv_at hl 1 rfl) ?_
  refine lv_iload_n hx hb dX2_begin_7 rfl (lv_at hl 3 rfl) ?_
  have hFc := va_free (wc := [(x, .inr (5, [.ref wa, .ref ja, .int (nI kn), .int (nI rf), .ref xs1, .ref xs2, .ref xs3, .ref xs4, .ref xs5, .ref xs6, .ref xs7])), (wa, .inl (cS, 70, .inr (.inr (.inr (.inr fW)))))]) hD hS hA [5, 0] rfl
  have kc6 : 0 + (0) ≤ 0 := by omega
  have ks7 : 0 + (0) ≤ 0 := by omega
  refine z_callr (wr := [(j, .inr (3, [.ref ins, .ref em, .ref bw, .ref pf, .ref sf, .int (nI 0), .int (nI 0)])), (ins, .inr (4, [.ref ri, .int (nI 0)])), (pf, .inr (4, [.ref rp, .int (nI cp)])), (sf, .inr (4, [.ref rs, .int (nI cs)])), (ja, .inl (cJ, 6, .inr (.inr (.inr (.inr gJ)))))]) (va_runV (As := [.int (nI 0)]) (rest := []) ⟨hx, hb, hml, hown, hts⟩ (c_wat l D N0 e H.size (zw H) x wa ja kn rf xs1 xs2 xs3 xs4 xs5 xs6 xs7 cS fW w hfw) (cwV 1 hts gX2_begin_X2_wordAt rfl rfl rfl (by decide +kernel) ⟨Nat.le_of_ble_eq_true rfl, Nat.le_of_ble_eq_true rfl⟩) ⟨zP.blind, (va_recv hK hP (ci := 5) (q0 := 5) rfl rfl), (z_pre hK hP hD hS hAN hN hG [5, 0] (by decide) rfl [0] rfl (fun q hq => absurd hq List.not_mem_nil))⟩ rfl rfl hl.1 rfl (lv_room (Nat.le_of_ble_eq_true rfl)) dX2_begin_8 ⟨kc6, ks7⟩) hK hP hD hS hA [5, 0] rfl [1, 2, 3, 4, 6] rfl (by decide) (by decide) (fun u r9 t H locs ht hvm hw_c8 hY_c8 hz_c8 hm_c8 hk_c8 hK hP hD hS => ?_)
  have hP : va_P D vwCl [(j, .inr (3, [.ref ins, .ref em, .ref bw, .ref pf, .ref sf, .int (nI 0), .int (nI 0)])), (ins, .inr (4, [.ref ri, .int (nI 0)])), (pf, .inr (4, [.ref rp, .int (nI cp)])), (sf, .inr (4, [.ref rs, .int (nI cs)])), (ja, .inl (cJ, 6, .inr (.inr (.inr (.inr gJ))))), (x, .inr (5, [.ref wa, .ref ja, .int (nI kn), .int (nI rf), .ref xs1, .ref xs2, .ref xs3, .ref xs4, .ref xs5, .ref xs6, .ref xs7])), (wa, .inl (cS, 70, .inr (.inr (.inr (.inr fW)))))] H := hP
  have hD : va_D A [(j, .inr (3, [.ref ins, .ref em, .ref bw, .ref pf, .ref sf, .int (nI 0), .int (nI 0)])), (ins, .inr (4, [.ref ri, .int (nI 0)])), (pf, .inr (4, [.ref rp, .int (nI cp)])), (sf, .inr (4, [.ref rs, .int (nI cs)])), (ja, .inl (cJ, 6, .inr (.inr (.inr (.inr gJ))))), (x, .inr (5, [.ref wa, .ref ja, .int (nI kn), .int (nI rf), .ref xs1, .ref xs2, .ref xs3, .ref xs4, .ref xs5, .ref xs6, .ref xs7])), (wa, .inl (cS, 70, .inr (.inr (.inr (.inr fW)))))] := hD
  have hK : va_K D vwCl [(cS, .object "Joinrow$Signs"), (cJ, .object "Joinrow$Joiner")] s := hK
  have hs10 := hS.1
  refine W.widen (k := 0) (n := 0) (by omega) (by omega) ?_
  obtain rfl : w = r9 := Eq.symm hw_c8
  refine lv_astore (lv' := [(4, .ref w), (3, .ref j), (0, .ref x), (1, .int (nI 0)), (2, .int (nI 0))]) hx hb dX2_begin_11 hl (by decide) rfl (fun ls hl => ?_)
  refine lv_aload_n hx hb dX2_begin_13 rfl (lv_at hl 1 rfl) ?_
  have hFc := va_free (wc := [(j, .inr (3, [.ref ins, .ref em, .ref bw, .ref pf, .ref sf, .int (nI 0), .int (nI 0)])), (ins, .inr (4, [.ref ri, .int (nI 0)])), (pf, .inr (4, [.ref rp, .int (nI cp)])), (sf, .inr (4, [.ref rs, .int (nI cs)]))]) hD hS hA [0, 1, 2, 3] rfl
  have kc11 : 0 + (0) ≤ 0 := by omega
  have ks12 : 0 + (0) ≤ 0 := by omega
  refine z_calli (wr := [(ja, .inl (cJ, 6, .inr (.inr (.inr (.inr gJ))))), (x, .inr (5, [.ref wa, .ref ja, .int (nI kn), .int (nI rf), .ref xs1, .ref xs2, .ref xs3, .ref xs4, .ref xs5, .ref xs6, .ref xs7])), (wa, .inl (cS, 70, .inr (.inr (.inr (.inr fW)))))]) (va_runV (As := []) (rest := []) ⟨hx, hb, hml, hown, hts⟩ (c_size0 l D N0 e H.size (zw H) j ins em bw pf sf ri rp rs 0 cp cs ) (cwV 0 hts gX2_begin_X0_size rfl rfl rfl (by decide +kernel) ⟨Nat.le_of_ble_eq_true rfl, Nat.le_of_ble_eq_true rfl⟩) ⟨zP.blind, (va_recv hK hP (ci := 3) (q0 := 0) rfl rfl), (z_pre hK hP hD hS hAN hN hG [0, 1, 2, 3] (by decide) rfl [] rfl (fun q hq => absurd hq List.not_mem_nil))⟩ rfl rfl hl.1 rfl (lv_room (Nat.le_of_ble_eq_true rfl)) dX2_begin_14 ⟨kc11, ks12⟩) hK hP hD hS hA [0, 1, 2, 3] rfl [4, 5, 6] rfl (by decide) (by decide) (fun r14 u t H locs ht hvm hw_c13 hY_c13 hz_c13 hm_c13 hk_c13 hK hP hD hS => ?_)
  have hP : va_P D vwCl [(ja, .inl (cJ, 6, .inr (.inr (.inr (.inr gJ))))), (x, .inr (5, [.ref wa, .ref ja, .int (nI kn), .int (nI rf), .ref xs1, .ref xs2, .ref xs3, .ref xs4, .ref xs5, .ref xs6, .ref xs7])), (wa, .inl (cS, 70, .inr (.inr (.inr (.inr fW))))), (j, .inr (3, [.ref ins, .ref em, .ref bw, .ref pf, .ref sf, .int (nI 0), .int (nI 0)])), (ins, .inr (4, [.ref ri, .int (nI 0)])), (pf, .inr (4, [.ref rp, .int (nI cp)])), (sf, .inr (4, [.ref rs, .int (nI cs)]))] H := hP
  have hD : va_D A [(ja, .inl (cJ, 6, .inr (.inr (.inr (.inr gJ))))), (x, .inr (5, [.ref wa, .ref ja, .int (nI kn), .int (nI rf), .ref xs1, .ref xs2, .ref xs3, .ref xs4, .ref xs5, .ref xs6, .ref xs7])), (wa, .inl (cS, 70, .inr (.inr (.inr (.inr fW))))), (j, .inr (3, [.ref ins, .ref em, .ref bw, .ref pf, .ref sf, .int (nI 0), .int (nI 0)])), (ins, .inr (4, [.ref ri, .int (nI 0)])), (pf, .inr (4, [.ref rp, .int (nI cp)])), (sf, .inr (4, [.ref rs, .int (nI cs)]))] := hD
  have hK : va_K D vwCl [(cS, .object "Joinrow$Signs"), (cJ, .object "Joinrow$Joiner")] s := hK
  have hs15 := hS.1
  refine W.widen (k := 0) (n := 0) (by omega) (by omega) ?_
  subst hw_c13
  refine lv_istore (lv' := [(5, .int (nI (cp + 0 + cs))), (4, .ref w), (3, .ref j), (0, .ref x), (1, .int (nI 0)), (2, .int (nI 0))]) hx hb dX2_begin_17 hl (by decide) rfl (fun ls hl => ?_)
  refine lv_aload_n hx hb dX2_begin_19 rfl (lv_at hl 2 rfl) ?_
  refine lv_aload hx hb dX2_begin_20 (lv_at hl 1 rfl) ?_
  refine lv_aload_n hx hb dX2_begin_22 rfl (lv_at hl 3 rfl) ?_
  refine lv_iconst (v := (nI 0)) hx hb dX2_begin_23 (by decide) ?_
  have hFc := va_free (wc := [(x, .inr (5, [.ref wa, .ref ja, .int (nI kn), .int (nI rf), .ref xs1, .ref xs2, .ref xs3, .ref xs4, .ref xs5, .ref xs6, .ref xs7])), (wa, .inl (cS, 70, .inr (.inr (.inr (.inr fW)))))]) hD hS hA [1, 2] rfl
  have kc16 : 0 + (0) ≤ 0 := by omega
  have ks17 : 0 + (0) ≤ 0 := by omega
  refine z_callr (wr := [(ja, .inl (cJ, 6, .inr (.inr (.inr (.inr gJ))))), (j, .inr (3, [.ref ins, .ref em, .ref bw, .ref pf, .ref sf, .int (nI 0), .int (nI 0)])), (ins, .inr (4, [.ref ri, .int (nI 0)])), (pf, .inr (4, [.ref rp, .int (nI cp)])), (sf, .inr (4, [.ref rs, .int (nI cs)]))]) (va_runV (As := [.int (nI 0)]) (rest := [.ref w, .ref j]) ⟨hx, hb, hml, hown, hts⟩ (c_wat l D N0 e H.size (zw H) x wa ja kn rf xs1 xs2 xs3 xs4 xs5 xs6 xs7 cS fW w hfw) (cwV 1 hts gX2_begin_X2_wordAt rfl rfl rfl (by decide +kernel) ⟨Nat.le_of_ble_eq_true rfl, Nat.le_of_ble_eq_true rfl⟩) ⟨zP.blind, (va_recv hK hP (ci := 5) (q0 := 1) rfl rfl), (z_pre hK hP hD hS hAN hN hG [1, 2] (by decide) rfl [0] rfl (fun q hq => absurd hq List.not_mem_nil))⟩ rfl rfl hl.1 rfl (lv_room (Nat.le_of_ble_eq_true rfl)) dX2_begin_24 ⟨kc16, ks17⟩) hK hP hD hS hA [1, 2] rfl [0, 3, 4, 5, 6] rfl (by decide) (by decide) (fun u r19 t H locs ht hvm hw_c18 hY_c18 hz_c18 hm_c18 hk_c18 hK hP hD hS => ?_)
  have hP : va_P D vwCl [(ja, .inl (cJ, 6, .inr (.inr (.inr (.inr gJ))))), (j, .inr (3, [.ref ins, .ref em, .ref bw, .ref pf, .ref sf, .int (nI 0), .int (nI 0)])), (ins, .inr (4, [.ref ri, .int (nI 0)])), (pf, .inr (4, [.ref rp, .int (nI cp)])), (sf, .inr (4, [.ref rs, .int (nI cs)])), (x, .inr (5, [.ref wa, .ref ja, .int (nI kn), .int (nI rf), .ref xs1, .ref xs2, .ref xs3, .ref xs4, .ref xs5, .ref xs6, .ref xs7])), (wa, .inl (cS, 70, .inr (.inr (.inr (.inr fW)))))] H := hP
  have hD : va_D A [(ja, .inl (cJ, 6, .inr (.inr (.inr (.inr gJ))))), (j, .inr (3, [.ref ins, .ref em, .ref bw, .ref pf, .ref sf, .int (nI 0), .int (nI 0)])), (ins, .inr (4, [.ref ri, .int (nI 0)])), (pf, .inr (4, [.ref rp, .int (nI cp)])), (sf, .inr (4, [.ref rs, .int (nI cs)])), (x, .inr (5, [.ref wa, .ref ja, .int (nI kn), .int (nI rf), .ref xs1, .ref xs2, .ref xs3, .ref xs4, .ref xs5, .ref xs6, .ref xs7])), (wa, .inl (cS, 70, .inr (.inr (.inr (.inr fW)))))] := hD
  have hK : va_K D vwCl [(cS, .object "Joinrow$Signs"), (cJ, .object "Joinrow$Joiner")] s := hK
  have hs20 := hS.1
  refine W.widen (k := 0) (n := 0) (by omega) (by omega) ?_
  obtain rfl : w = r19 := Eq.symm hw_c18
  refine lv_aload_n hx hb dX2_begin_27 rfl (lv_at hl 3 rfl) ?_
  refine lv_iconst (v := (nI 0)) hx hb dX2_begin_28 (by decide) ?_
  have hFc := va_free (wc := [(x, .inr (5, [.ref wa, .ref ja, .int (nI kn), .int (nI rf), .ref xs1, .ref xs2, .ref xs3, .ref xs4, .ref xs5, .ref xs6, .ref xs7])), (wa, .inl (cS, 70, .inr (.inr (.inr (.inr fW)))))]) hD hS hA [5, 6] rfl
  have kc21 : 0 + (0) ≤ 0 := by omega
  have ks22 : 0 + (0) ≤ 0 := by omega
  refine z_callr (wr := [(ja, .inl (cJ, 6, .inr (.inr (.inr (.inr gJ))))), (j, .inr (3, [.ref ins, .ref em, .ref bw, .ref pf, .ref sf, .int (nI 0), .int (nI 0)])), (ins, .inr (4, [.ref ri, .int (nI 0)])), (pf, .inr (4, [.ref rp, .int (nI cp)])), (sf, .inr (4, [.ref rs, .int (nI cs)]))]) (va_runV (As := [.int (nI 0)]) (rest := [.ref w, .ref w, .ref j]) ⟨hx, hb, hml, hown, hts⟩ (c_wat l D N0 e H.size (zw H) x wa ja kn rf xs1 xs2 xs3 xs4 xs5 xs6 xs7 cS fW w hfw) (cwV 1 hts gX2_begin_X2_wordAt rfl rfl rfl (by decide +kernel) ⟨Nat.le_of_ble_eq_true rfl, Nat.le_of_ble_eq_true rfl⟩) ⟨zP.blind, (va_recv hK hP (ci := 5) (q0 := 5) rfl rfl), (z_pre hK hP hD hS hAN hN hG [5, 6] (by decide) rfl [0] rfl (fun q hq => absurd hq List.not_mem_nil))⟩ rfl rfl hl.1 rfl (lv_room (Nat.le_of_ble_eq_true rfl)) dX2_begin_29 ⟨kc21, ks22⟩) hK hP hD hS hA [5, 6] rfl [0, 1, 2, 3, 4] rfl (by decide) (by decide) (fun u r24 t H locs ht hvm hw_c23 hY_c23 hz_c23 hm_c23 hk_c23 hK hP hD hS => ?_)
  have hP : va_P D vwCl [(ja, .inl (cJ, 6, .inr (.inr (.inr (.inr gJ))))), (j, .inr (3, [.ref ins, .ref em, .ref bw, .ref pf, .ref sf, .int (nI 0), .int (nI 0)])), (ins, .inr (4, [.ref ri, .int (nI 0)])), (pf, .inr (4, [.ref rp, .int (nI cp)])), (sf, .inr (4, [.ref rs, .int (nI cs)])), (x, .inr (5, [.ref wa, .ref ja, .int (nI kn), .int (nI rf), .ref xs1, .ref xs2, .ref xs3, .ref xs4, .ref xs5, .ref xs6, .ref xs7])), (wa, .inl (cS, 70, .inr (.inr (.inr (.inr fW)))))] H := hP
  have hD : va_D A [(ja, .inl (cJ, 6, .inr (.inr (.inr (.inr gJ))))), (j, .inr (3, [.ref ins, .ref em, .ref bw, .ref pf, .ref sf, .int (nI 0), .int (nI 0)])), (ins, .inr (4, [.ref ri, .int (nI 0)])), (pf, .inr (4, [.ref rp, .int (nI cp)])), (sf, .inr (4, [.ref rs, .int (nI cs)])), (x, .inr (5, [.ref wa, .ref ja, .int (nI kn), .int (nI rf), .ref xs1, .ref xs2, .ref xs3, .ref xs4, .ref xs5, .ref xs6, .ref xs7])), (wa, .inl (cS, 70, .inr (.inr (.inr (.inr fW)))))] := hD
  have hK : va_K D vwCl [(cS, .object "Joinrow$Signs"), (cJ, .object "Joinrow$Joiner")] s := hK
  have hs25 := hS.1
  refine W.widen (k := 0) (n := 0) (by omega) (by omega) ?_
  obtain rfl : w = r24 := Eq.symm hw_c23
  have hFc := va_free (wc := [(j, .inr (3, [.ref ins, .ref em, .ref bw, .ref pf, .ref sf, .int (nI 0), .int (nI 0)])), (ins, .inr (4, [.ref ri, .int (nI 0)]))]) hD hS hA [1, 2] rfl
  have kc26 : 0 + (0) ≤ 0 := by omega
  have ks27 : 0 + (0) ≤ 0 := by omega
  refine z_callv (wr := [(ja, .inl (cJ, 6, .inr (.inr (.inr (.inr gJ))))), (pf, .inr (4, [.ref rp, .int (nI cp)])), (sf, .inr (4, [.ref rs, .int (nI cs)])), (x, .inr (5, [.ref wa, .ref ja, .int (nI kn), .int (nI rf), .ref xs1, .ref xs2, .ref xs3, .ref xs4, .ref xs5, .ref xs6, .ref xs7])), (wa, .inl (cS, 70, .inr (.inr (.inr (.inr fW)))))]) (va_runV (As := [.ref w, .ref w, .ref w]) (rest := []) ⟨hx, hb, hml, hown, hts⟩ (c_start l D N0 e H.size (zw H) j ins em bw pf sf w ri ) (cwV 3 hts gX2_begin_X0_start rfl rfl rfl (by decide +kernel) ⟨Nat.le_of_ble_eq_true rfl, Nat.le_of_ble_eq_true rfl⟩) ⟨zP.blind, (va_recv hK hP (ci := 3) (q0 := 1) rfl rfl), (z_pre hK hP hD hS hAN hN hG [1, 2] (by decide) rfl [] rfl (fun q hq => absurd hq List.not_mem_nil))⟩ rfl rfl hl.1 rfl (lv_room (Nat.le_of_ble_eq_true rfl)) dX2_begin_32 ⟨kc26, ks27⟩) hK hP hD hS hA [1, 2] rfl [0, 3, 4, 5, 6] rfl (by decide) (by decide) (fun u t H locs ht hvm hw_c28 hY_c28 hz_c28 hm_c28 hk_c28 hK hP hD hS => ?_)
  have hP : va_P D vwCl [(ja, .inl (cJ, 6, .inr (.inr (.inr (.inr gJ))))), (pf, .inr (4, [.ref rp, .int (nI cp)])), (sf, .inr (4, [.ref rs, .int (nI cs)])), (x, .inr (5, [.ref wa, .ref ja, .int (nI kn), .int (nI rf), .ref xs1, .ref xs2, .ref xs3, .ref xs4, .ref xs5, .ref xs6, .ref xs7])), (wa, .inl (cS, 70, .inr (.inr (.inr (.inr fW))))), (j, .inr (3, [.ref ins, .ref em, .ref w, .ref w, .ref w, .int (nI 0), .int (nI 0)])), (ins, .inr (4, [.ref ri, .int (nI 0)]))] H := hP
  have hD : va_D A [(ja, .inl (cJ, 6, .inr (.inr (.inr (.inr gJ))))), (pf, .inr (4, [.ref rp, .int (nI cp)])), (sf, .inr (4, [.ref rs, .int (nI cs)])), (x, .inr (5, [.ref wa, .ref ja, .int (nI kn), .int (nI rf), .ref xs1, .ref xs2, .ref xs3, .ref xs4, .ref xs5, .ref xs6, .ref xs7])), (wa, .inl (cS, 70, .inr (.inr (.inr (.inr fW))))), (j, .inr (3, [.ref ins, .ref em, .ref w, .ref w, .ref w, .int (nI 0), .int (nI 0)])), (ins, .inr (4, [.ref ri, .int (nI 0)]))] := hD
  have hK : va_K D vwCl [(cS, .object "Joinrow$Signs"), (cJ, .object "Joinrow$Joiner")] s := hK
  have hs30 := hS.1
  refine W.widen (k := 0) (n := 0) (by omega) (by omega) ?_
  refine lv_iload hx hb dX2_begin_35 (lv_at hl 0 rfl) ?_
  have hz0 := hS.1
  refine z_keepW (fun hkp => ?_)
  exact z_reti (v := (nI (cp + 0 + cs))) () hx hb hr (by first | rfl | decide) hlocks rfl hK [] rfl hP hD hS [3, 4, 0, 5, 6, 1, 2] (by decide) rfl (by omega) (zw_keep hkp) (fun _ _ _ => trivial) dX2_begin_37
set_option maxRecDepth 100000 in
set_option maxHeartbeats 4000000 in
/-- Joinrow.add(0, 0), all texts empty -/
theorem c_xadd0 (l : Launch) (D : va_G) (N0 : Nat) (e : zE) (sz mz : Nat) (x : Nat) (wa : Nat) (ja : Nat) (kn : Nat) (rf : Nat) (xs1 : Nat) (xs2 : Nat) (xs3 : Nat) (xs4 : Nat) (xs5 : Nat) (xs6 : Nat) (xs7 : Nat) (cS : ClassId) (fW : Nat → Option Nat) (cJ : ClassId) (gJ : Nat → Option Nat) (j : Nat) (ins : Nat) (em : Nat) (w : Nat) (g : Nat) (ri : Nat) (rw : Nat) (cI : ClassId) (cW : ClassId) (fi : Nat → Int32) (fw : Nat → Int32) (room : Nat) (hgj : gJ 0 = some j) (hfw : fW 0 = some w) (hroom : room ≤ 1000) : Met l yX2_add wsX2_add ({ frames := 4, cells := 0, slots := 0, locals := 125 }) (va_Pc [.ref x, .int (nI 0), .int (nI 0)] (zP N0 e D [(cS, .object "Joinrow$Signs"), (cJ, .object "Joinrow$Joiner"), (cI, .char), (cW, .char)] [(x, .inr (5, [.ref wa, .ref ja, .int (nI kn), .int (nI rf), .ref xs1, .ref xs2, .ref xs3, .ref xs4, .ref xs5, .ref xs6, .ref xs7])), (wa, .inl (cS, 70, .inr (.inr (.inr (.inr fW))))), (ja, .inl (cJ, 6, .inr (.inr (.inr (.inr gJ))))), (j, .inr (3, [.ref ins, .ref em, .ref w, .ref w, .ref w, .int (nI 0), .int (nI g)])), (ins, .inr (4, [.ref ri, .int (nI 0)])), (w, .inr (4, [.ref rw, .int (nI 0)])), (ri, .inl (cI, room, .inl fi)), (rw, .inl (cW, 4, .inl fw))] sz mz [])) (zQi (fun (r : Int32) (f3 : Nat → Int32) => r = (nI 0)) D (fun (f3 : Nat → Int32) => ([(x, .inr (5, [.ref wa, .ref ja, .int (nI kn), .int (nI rf), .ref xs1, .ref xs2, .ref xs3, .ref xs4, .ref xs5, .ref xs6, .ref xs7])), (wa, .inl (cS, 70, .inr (.inr (.inr (.inr fW))))), (ja, .inl (cJ, 6, .inr (.inr (.inr (.inr gJ))))), (j, .inr (3, [.ref ins, .ref em, .ref w, .ref w, .ref w, .int (nI 1), .int (nI g)])), (ins, .inr (4, [.ref ri, .int (nI 0)])), (w, .inr (4, [.ref rw, .int (nI 0)])), (ri, .inl (cI, room, .inl f3)), (rw, .inl (cW, 4, .inl fw))] : va_W)) (fun (f3 : Nat → Int32) => ([] : List (ClassId × FieldType))) sz (0) mz (0) (fun (f3 : Nat → Int32) (t : State) => True) (va_A [(x, .inr (5, [.ref wa, .ref ja, .int (nI kn), .int (nI rf), .ref xs1, .ref xs2, .ref xs3, .ref xs4, .ref xs5, .ref xs6, .ref xs7])), (wa, .inl (cS, 70, .inr (.inr (.inr (.inr fW))))), (ja, .inl (cJ, 6, .inr (.inr (.inr (.inr gJ))))), (j, .inr (3, [.ref ins, .ref em, .ref w, .ref w, .ref w, .int (nI 0), .int (nI g)])), (ins, .inr (4, [.ref ri, .int (nI 0)])), (w, .inr (4, [.ref rw, .int (nI 0)])), (ri, .inl (cI, room, .inl fi)), (rw, .inl (cW, 4, .inl fw))] sz)) (0) (0) (va_A [(x, .inr (5, [.ref wa, .ref ja, .int (nI kn), .int (nI rf), .ref xs1, .ref xs2, .ref xs3, .ref xs4, .ref xs5, .ref xs6, .ref xs7])), (wa, .inl (cS, 70, .inr (.inr (.inr (.inr fW))))), (ja, .inl (cJ, 6, .inr (.inr (.inr (.inr gJ))))), (j, .inr (3, [.ref ins, .ref em, .ref w, .ref w, .ref w, .int (nI 0), .int (nI g)])), (ins, .inr (4, [.ref ri, .int (nI 0)])), (w, .inr (4, [.ref rw, .int (nI 0)])), (ri, .inl (cI, room, .inl fi)), (rw, .inl (cW, 4, .inl fw))] sz) := by
  refine z_met (Qc := fun A => zQi (fun (r : Int32) (f3 : Nat → Int32) => r = (nI 0)) D (fun (f3 : Nat → Int32) => ([(x, .inr (5, [.ref wa, .ref ja, .int (nI kn), .int (nI rf), .ref xs1, .ref xs2, .ref xs3, .ref xs4, .ref xs5, .ref xs6, .ref xs7])), (wa, .inl (cS, 70, .inr (.inr (.inr (.inr fW))))), (ja, .inl (cJ, 6, .inr (.inr (.inr (.inr gJ))))), (j, .inr (3, [.ref ins, .ref em, .ref w, .ref w, .ref w, .int (nI 1), .int (nI g)])), (ins, .inr (4, [.ref ri, .int (nI 0)])), (w, .inr (4, [.ref rw, .int (nI 0)])), (ri, .inl (cI, room, .inl f3)), (rw, .inl (cW, 4, .inl fw))] : va_W)) (fun (f3 : Nat → Int32) => ([] : List (ClassId × FieldType))) sz (0) mz (0) (fun (f3 : Nat → Int32) (t : State) => True) A) (cc := cX2_add) (maxL := 4) (ret := (some .int)) RX2 rfl (by decide) rfl (Nat.le_of_ble_eq_true rfl) ?_
  intro p ev s m below meth c ls A hx hb hr hml hown hts hlocks hnm hsz hmz hN hAe hA hAN hS hP hK hD hG hL hl
  subst hsz
  subst hmz
  have hl : lv_has ls 4 [(0, .ref x), (1, .int (nI 0)), (2, .int (nI 0))] := hl
  refine lv_aload_n hx hb dX2_add_0 rfl (lv_at hl 0 rfl) ?_
  refine lv_iload_n hx hb dX2_add_1 rfl (lv_at hl 1 rfl) ?_
  have hFc := va_free (wc := [(x, .inr (5, [.ref wa, .ref ja, .int (nI kn), .int (nI rf), .ref xs1, .ref xs2, .ref xs3, .ref xs4, .ref xs5, .ref xs6, .ref xs7])), (ja, .inl (cJ, 6, .inr (.inr (.inr (.inr gJ)))))]) hD hS hA [0, 2] rfl
  have kc1 : 0 + (0) ≤ 0 := by omega
  have ks2 : 0 + (0) ≤ 0 := by omega
  refine z_callr (wr := [(wa, .inl (cS, 70, .inr (.inr (.inr (.inr fW))))), (j, .inr (3, [.ref ins, .ref em, .ref w, .ref w, .ref w, .int (nI 0), .int (nI g)])), (ins, .inr (4, [.ref ri, .int (nI 0)])), (w, .inr (4, [.ref rw, .int (nI 0)])), (ri, .inl (cI, room, .inl fi)), (rw, .inl (cW, 4, .inl fw))]) (va_runV (As := [.int (nI 0)]) (rest := []) ⟨hx, hb, hml, hown, hts⟩ (c_jat l D N0 e s.heap.size (zw s.heap) x wa ja kn rf xs1 xs2 xs3 xs4 xs5 xs6 xs7 cJ gJ j hgj) (cwV 1 hts gX2_add_X2_joinerAt rfl rfl rfl (by decide +kernel) ⟨Nat.le_of_ble_eq_true rfl, Nat.le_of_ble_eq_true rfl⟩) ⟨zP.blind, (va_recv hK hP (ci := 5) (q0 := 0) rfl rfl), (z_pre hK hP hD hS hAN hN hG [0, 2] (by decide) rfl [1] rfl (fun q hq => absurd hq List.not_mem_nil))⟩ rfl rfl hl.1 rfl (lv_room (Nat.le_of_ble_eq_true rfl)) dX2_add_2 ⟨kc1, ks2⟩) hK hP hD hS hA [0, 2] rfl [1, 3, 4, 5, 6, 7] rfl (by decide) (by decide) (fun u r4 t H locs ht hvm hw_c3 hY_c3 hz_c3 hm_c3 hk_c3 hK hP hD hS => ?_)
  have hP : va_P D vwCl [(wa, .inl (cS, 70, .inr (.inr (.inr (.inr fW))))), (j, .inr (3, [.ref ins, .ref em, .ref w, .ref w, .ref w, .int (nI 0), .int (nI g)])), (ins, .inr (4, [.ref ri, .int (nI 0)])), (w, .inr (4, [.ref rw, .int (nI 0)])), (ri, .inl (cI, room, .inl fi)), (rw, .inl (cW, 4, .inl fw)), (x, .inr (5, [.ref wa, .ref ja, .int (nI kn), .int (nI rf), .ref xs1, .ref xs2, .ref xs3, .ref xs4, .ref xs5, .ref xs6, .ref xs7])), (ja, .inl (cJ, 6, .inr (.inr (.inr (.inr gJ)))))] H := hP
  have hD : va_D A [(wa, .inl (cS, 70, .inr (.inr (.inr (.inr fW))))), (j, .inr (3, [.ref ins, .ref em, .ref w, .ref w, .ref w, .int (nI 0), .int (nI g)])), (ins, .inr (4, [.ref ri, .int (nI 0)])), (w, .inr (4, [.ref rw, .int (nI 0)])), (ri, .inl (cI, room, .inl fi)), (rw, .inl (cW, 4, .inl fw)), (x, .inr (5, [.ref wa, .ref ja, .int (nI kn), .int (nI rf), .ref xs1, .ref xs2, .ref xs3, .ref xs4, .ref xs5, .ref xs6, .ref xs7])), (ja, .inl (cJ, 6, .inr (.inr (.inr (.inr gJ)))))] := hD
  have hK : va_K D vwCl [(cS, .object "Joinrow$Signs"), (cJ, .object "Joinrow$Joiner"), (cI, .char), (cW, .char)] s := hK
  have hs5 := hS.1
  refine W.widen (k := 0) (n := 0) (by omega) (by omega) ?_
  obtain rfl : j = r4 := Eq.symm hw_c3
  refine lv_astore_n (lv' := [(3, .ref j), (0, .ref x), (1, .int (nI 0)), (2, .int (nI 0))]) hx hb dX2_add_5 rfl hl (by decide) rfl (fun ls hl => ?_)
  refine lv_aload_n hx hb dX2_add_6 rfl (lv_at hl 0 rfl) ?_
  refine lv_aload_n hx hb dX2_add_7 rfl (lv_at hl 1 rfl) ?_
  refine lv_iload_n hx hb dX2_add_8 rfl (lv_at hl 3 rfl) ?_
  have hFc := va_free (wc := [(x, .inr (5, [.ref wa, .ref ja, .int (nI kn), .int (nI rf), .ref xs1, .ref xs2, .ref xs3, .ref xs4, .ref xs5, .ref xs6, .ref xs7])), (wa, .inl (cS, 70, .inr (.inr (.inr (.inr fW)))))]) hD hS hA [6, 0] rfl
  have kc6 : 0 + (0) ≤ 0 := by omega
  have ks7 : 0 + (0) ≤ 0 := by omega
  refine z_callr (wr := [(j, .inr (3, [.ref ins, .ref em, .ref w, .ref w, .ref w, .int (nI 0), .int (nI g)])), (ins, .inr (4, [.ref ri, .int (nI 0)])), (w, .inr (4, [.ref rw, .int (nI 0)])), (ri, .inl (cI, room, .inl fi)), (rw, .inl (cW, 4, .inl fw)), (ja, .inl (cJ, 6, .inr (.inr (.inr (.inr gJ)))))]) (va_runV (As := [.int (nI 0)]) (rest := [.ref j]) ⟨hx, hb, hml, hown, hts⟩ (c_wat l D N0 e H.size (zw H) x wa ja kn rf xs1 xs2 xs3 xs4 xs5 xs6 xs7 cS fW w hfw) (cwV 1 hts gX2_add_X2_wordAt rfl rfl rfl (by decide +kernel) ⟨Nat.le_of_ble_eq_true rfl, Nat.le_of_ble_eq_true rfl⟩) ⟨zP.blind, (va_recv hK hP (ci := 5) (q0 := 6) rfl rfl), (z_pre hK hP hD hS hAN hN hG [6, 0] (by decide) rfl [0] rfl (fun q hq => absurd hq List.not_mem_nil))⟩ rfl rfl hl.1 rfl (lv_room (Nat.le_of_ble_eq_true rfl)) dX2_add_9 ⟨kc6, ks7⟩) hK hP hD hS hA [6, 0] rfl [1, 2, 3, 4, 5, 7] rfl (by decide) (by decide) (fun u r9 t H locs ht hvm hw_c8 hY_c8 hz_c8 hm_c8 hk_c8 hK hP hD hS => ?_)
  have hP : va_P D vwCl [(j, .inr (3, [.ref ins, .ref em, .ref w, .ref w, .ref w, .int (nI 0), .int (nI g)])), (ins, .inr (4, [.ref ri, .int (nI 0)])), (w, .inr (4, [.ref rw, .int (nI 0)])), (ri, .inl (cI, room, .inl fi)), (rw, .inl (cW, 4, .inl fw)), (ja, .inl (cJ, 6, .inr (.inr (.inr (.inr gJ))))), (x, .inr (5, [.ref wa, .ref ja, .int (nI kn), .int (nI rf), .ref xs1, .ref xs2, .ref xs3, .ref xs4, .ref xs5, .ref xs6, .ref xs7])), (wa, .inl (cS, 70, .inr (.inr (.inr (.inr fW)))))] H := hP
  have hD : va_D A [(j, .inr (3, [.ref ins, .ref em, .ref w, .ref w, .ref w, .int (nI 0), .int (nI g)])), (ins, .inr (4, [.ref ri, .int (nI 0)])), (w, .inr (4, [.ref rw, .int (nI 0)])), (ri, .inl (cI, room, .inl fi)), (rw, .inl (cW, 4, .inl fw)), (ja, .inl (cJ, 6, .inr (.inr (.inr (.inr gJ))))), (x, .inr (5, [.ref wa, .ref ja, .int (nI kn), .int (nI rf), .ref xs1, .ref xs2, .ref xs3, .ref xs4, .ref xs5, .ref xs6, .ref xs7])), (wa, .inl (cS, 70, .inr (.inr (.inr (.inr fW)))))] := hD
  have hK : va_K D vwCl [(cS, .object "Joinrow$Signs"), (cJ, .object "Joinrow$Joiner"), (cI, .char), (cW, .char)] s := hK
  have hs10 := hS.1
  refine W.widen (k := 0) (n := 0) (by omega) (by omega) ?_
  obtain rfl : w = r9 := Eq.symm hw_c8
  have hFc := va_free (wc := [(j, .inr (3, [.ref ins, .ref em, .ref w, .ref w, .ref w, .int (nI 0), .int (nI g)])), (ins, .inr (4, [.ref ri, .int (nI 0)])), (w, .inr (4, [.ref rw, .int (nI 0)])), (ri, .inl (cI, room, .inl fi)), (rw, .inl (cW, 4, .inl fw))]) hD hS hA [0, 1, 2, 3, 4] rfl
  have kc11 : 0 + (0) ≤ 0 := by omega
  have ks12 : 0 + (0) ≤ 0 := by omega
  refine z_calli (wr := [(ja, .inl (cJ, 6, .inr (.inr (.inr (.inr gJ))))), (x, .inr (5, [.ref wa, .ref ja, .int (nI kn), .int (nI rf), .ref xs1, .ref xs2, .ref xs3, .ref xs4, .ref xs5, .ref xs6, .ref xs7])), (wa, .inl (cS, 70, .inr (.inr (.inr (.inr fW)))))]) (va_runS (As := [.ref j, .ref w]) (rest := []) ⟨hx, hb, hml, hown, hts⟩ (c_lp0 l D N0 e H.size (zw H) j ins em w g ri rw cI cW fi fw room hroom) (va_cwS 2 hts gX2_add_X2_layPiece rfl rfl rfl (by decide +kernel) ⟨Nat.le_of_ble_eq_true rfl, Nat.le_of_ble_eq_true rfl⟩) ⟨zP.blind, (z_pre hK hP hD hS hAN hN hG [0, 1, 2, 3, 4] (by decide) rfl [2, 3] rfl (fun q hq => absurd hq List.not_mem_nil))⟩ rfl rfl hl.1 rfl (lv_room (Nat.le_of_ble_eq_true rfl)) dX2_add_12 ⟨kc11, ks12⟩) hK hP hD hS hA [0, 1, 2, 3, 4] rfl [5, 6, 7] rfl (by decide) (by decide) (fun r14 u t H locs ht hvm hw_c13 hY_c13 hz_c13 hm_c13 hk_c13 hK hP hD hS => ?_)
  obtain ⟨f2, rfl⟩ : ∃ z, z = u := ⟨_, rfl⟩
  try dsimp only at hw_c13 hY_c13
  have hP : va_P D vwCl [(ja, .inl (cJ, 6, .inr (.inr (.inr (.inr gJ))))), (x, .inr (5, [.ref wa, .ref ja, .int (nI kn), .int (nI rf), .ref xs1, .ref xs2, .ref xs3, .ref xs4, .ref xs5, .ref xs6, .ref xs7])), (wa, .inl (cS, 70, .inr (.inr (.inr (.inr fW))))), (j, .inr (3, [.ref ins, .ref em, .ref w, .ref w, .ref w, .int (nI 1), .int (nI g)])), (ins, .inr (4, [.ref ri, .int (nI 0)])), (w, .inr (4, [.ref rw, .int (nI 0)])), (ri, .inl (cI, room, .inl f2)), (rw, .inl (cW, 4, .inl fw))] H := hP
  have hD : va_D A [(ja, .inl (cJ, 6, .inr (.inr (.inr (.inr gJ))))), (x, .inr (5, [.ref wa, .ref ja, .int (nI kn), .int (nI rf), .ref xs1, .ref xs2, .ref xs3, .ref xs4, .ref xs5, .ref xs6, .ref xs7])), (wa, .inl (cS, 70, .inr (.inr (.inr (.inr fW))))), (j, .inr (3, [.ref ins, .ref em, .ref w, .ref w, .ref w, .int (nI 1), .int (nI g)])), (ins, .inr (4, [.ref ri, .int (nI 0)])), (w, .inr (4, [.ref rw, .int (nI 0)])), (ri, .inl (cI, room, .inl f2)), (rw, .inl (cW, 4, .inl fw))] := hD
  have hK : va_K D vwCl [(cS, .object "Joinrow$Signs"), (cJ, .object "Joinrow$Joiner"), (cI, .char), (cW, .char)] s := hK
  have hs15 := hS.1
  refine W.widen (k := 0) (n := 0) (by omega) (by omega) ?_
  subst hw_c13
  have hz0 := hS.1
  refine z_keepW (fun hkp => ?_)
  exact z_reti (v := (nI 0)) (f2) hx hb hr (by first | rfl | decide) hlocks (show (nI 0) = (nI 0) from rfl) hK [] rfl hP hD hS [1, 2, 0, 3, 4, 5, 6, 7] (by decide) rfl (by omega) (zw_keep hkp) (fun _ _ _ => trivial) dX2_add_15
set_option maxRecDepth 100000 in
set_option maxHeartbeats 4000000 in
/-- Joinrow.add(0, 0), all texts empty -/
theorem c_xadd1 (l : Launch) (D : va_G) (N0 : Nat) (e : zE) (sz mz : Nat) (x : Nat) (wa : Nat) (ja : Nat) (kn : Nat) (rf : Nat) (xs1 : Nat) (xs2 : Nat) (xs3 : Nat) (xs4 : Nat) (xs5 : Nat) (xs6 : Nat) (xs7 : Nat) (cS : ClassId) (fW : Nat → Option Nat) (cJ : ClassId) (gJ : Nat → Option Nat) (j : Nat) (ins : Nat) (em : Nat) (w : Nat) (g : Nat) (ri : Nat) (rw : Nat) (cI : ClassId) (cW : ClassId) (fi : Nat → Int32) (fw : Nat → Int32) (room : Nat) (hgj : gJ 0 = some j) (hfw : fW 0 = some w) (hroom : room ≤ 1000) : Met l yX2_add wsX2_add ({ frames := 5, cells := 0, slots := 0, locals := 146 }) (va_Pc [.ref x, .int (nI 0), .int (nI 0)] (zP N0 e D [(cS, .object "Joinrow$Signs"), (cJ, .object "Joinrow$Joiner"), (cI, .char), (cW, .char)] [(x, .inr (5, [.ref wa, .ref ja, .int (nI kn), .int (nI rf), .ref xs1, .ref xs2, .ref xs3, .ref xs4, .ref xs5, .ref xs6, .ref xs7])), (wa, .inl (cS, 70, .inr (.inr (.inr (.inr fW))))), (ja, .inl (cJ, 6, .inr (.inr (.inr (.inr gJ))))), (j, .inr (3, [.ref ins, .ref em, .ref w, .ref w, .ref w, .int (nI 1), .int (nI g)])), (ins, .inr (4, [.ref ri, .int (nI 0)])), (w, .inr (4, [.ref rw, .int (nI 0)])), (ri, .inl (cI, room, .inl fi)), (rw, .inl (cW, 4, .inl fw))] sz mz [])) (zQi (fun (r : Int32) (f3 : Nat → Int32) => r = (nI 0)) D (fun (f3 : Nat → Int32) => ([(x, .inr (5, [.ref wa, .ref ja, .int (nI kn), .int (nI rf), .ref xs1, .ref xs2, .ref xs3, .ref xs4, .ref xs5, .ref xs6, .ref xs7])), (wa, .inl (cS, 70, .inr (.inr (.inr (.inr fW))))), (ja, .inl (cJ, 6, .inr (.inr (.inr (.inr gJ))))), (j, .inr (3, [.ref ins, .ref em, .ref w, .ref w, .ref w, .int (nI 1), .int (nI g)])), (ins, .inr (4, [.ref ri, .int (nI 0)])), (w, .inr (4, [.ref rw, .int (nI 0)])), (ri, .inl (cI, room, .inl f3)), (rw, .inl (cW, 4, .inl fw))] : va_W)) (fun (f3 : Nat → Int32) => ([] : List (ClassId × FieldType))) sz (0) mz (0) (fun (f3 : Nat → Int32) (t : State) => True) (va_A [(x, .inr (5, [.ref wa, .ref ja, .int (nI kn), .int (nI rf), .ref xs1, .ref xs2, .ref xs3, .ref xs4, .ref xs5, .ref xs6, .ref xs7])), (wa, .inl (cS, 70, .inr (.inr (.inr (.inr fW))))), (ja, .inl (cJ, 6, .inr (.inr (.inr (.inr gJ))))), (j, .inr (3, [.ref ins, .ref em, .ref w, .ref w, .ref w, .int (nI 1), .int (nI g)])), (ins, .inr (4, [.ref ri, .int (nI 0)])), (w, .inr (4, [.ref rw, .int (nI 0)])), (ri, .inl (cI, room, .inl fi)), (rw, .inl (cW, 4, .inl fw))] sz)) (0) (0) (va_A [(x, .inr (5, [.ref wa, .ref ja, .int (nI kn), .int (nI rf), .ref xs1, .ref xs2, .ref xs3, .ref xs4, .ref xs5, .ref xs6, .ref xs7])), (wa, .inl (cS, 70, .inr (.inr (.inr (.inr fW))))), (ja, .inl (cJ, 6, .inr (.inr (.inr (.inr gJ))))), (j, .inr (3, [.ref ins, .ref em, .ref w, .ref w, .ref w, .int (nI 1), .int (nI g)])), (ins, .inr (4, [.ref ri, .int (nI 0)])), (w, .inr (4, [.ref rw, .int (nI 0)])), (ri, .inl (cI, room, .inl fi)), (rw, .inl (cW, 4, .inl fw))] sz) := by
  refine z_met (Qc := fun A => zQi (fun (r : Int32) (f3 : Nat → Int32) => r = (nI 0)) D (fun (f3 : Nat → Int32) => ([(x, .inr (5, [.ref wa, .ref ja, .int (nI kn), .int (nI rf), .ref xs1, .ref xs2, .ref xs3, .ref xs4, .ref xs5, .ref xs6, .ref xs7])), (wa, .inl (cS, 70, .inr (.inr (.inr (.inr fW))))), (ja, .inl (cJ, 6, .inr (.inr (.inr (.inr gJ))))), (j, .inr (3, [.ref ins, .ref em, .ref w, .ref w, .ref w, .int (nI 1), .int (nI g)])), (ins, .inr (4, [.ref ri, .int (nI 0)])), (w, .inr (4, [.ref rw, .int (nI 0)])), (ri, .inl (cI, room, .inl f3)), (rw, .inl (cW, 4, .inl fw))] : va_W)) (fun (f3 : Nat → Int32) => ([] : List (ClassId × FieldType))) sz (0) mz (0) (fun (f3 : Nat → Int32) (t : State) => True) A) (cc := cX2_add) (maxL := 4) (ret := (some .int)) RX2 rfl (by decide) rfl (Nat.le_of_ble_eq_true rfl) ?_
  intro p ev s m below meth c ls A hx hb hr hml hown hts hlocks hnm hsz hmz hN hAe hA hAN hS hP hK hD hG hL hl
  subst hsz
  subst hmz
  have hl : lv_has ls 4 [(0, .ref x), (1, .int (nI 0)), (2, .int (nI 0))] := hl
  refine lv_aload_n hx hb dX2_add_0 rfl (lv_at hl 0 rfl) ?_
  refine lv_iload_n hx hb dX2_add_1 rfl (lv_at hl 1 rfl) ?_
  have hFc := va_free (wc := [(x, .inr (5, [.ref wa, .ref ja, .int (nI kn), .int (nI rf), .ref xs1, .ref xs2, .ref xs3, .ref xs4, .ref xs5, .ref xs6, .ref xs7])), (ja, .inl (cJ, 6, .inr (.inr (.inr (.inr gJ)))))]) hD hS hA [0, 2] rfl
  have kc1 : 0 + (0) ≤ 0 := by omega
  have ks2 : 0 + (0) ≤ 0 := by omega
  refine z_callr (wr := [(wa, .inl (cS, 70, .inr (.inr (.inr (.inr fW))))), (j, .inr (3, [.ref ins, .ref em, .ref w, .ref w, .ref w, .int (nI 1), .int (nI g)])), (ins, .inr (4, [.ref ri, .int (nI 0)])), (w, .inr (4, [.ref rw, .int (nI 0)])), (ri, .inl (cI, room, .inl fi)), (rw, .inl (cW, 4, .inl fw))]) (va_runV (As := [.int (nI 0)]) (rest := []) ⟨hx, hb, hml, hown, hts⟩ (c_jat l D N0 e s.heap.size (zw s.heap) x wa ja kn rf xs1 xs2 xs3 xs4 xs5 xs6 xs7 cJ gJ j hgj) (cwV 1 hts gX2_add_X2_joinerAt rfl rfl rfl (by decide +kernel) ⟨Nat.le_of_ble_eq_true rfl, Nat.le_of_ble_eq_true rfl⟩) ⟨zP.blind, (va_recv hK hP (ci := 5) (q0 := 0) rfl rfl), (z_pre hK hP hD hS hAN hN hG [0, 2] (by decide) rfl [1] rfl (fun q hq => absurd hq List.not_mem_nil))⟩ rfl rfl hl.1 rfl (lv_room (Nat.le_of_ble_eq_true rfl)) dX2_add_2 ⟨kc1, ks2⟩) hK hP hD hS hA [0, 2] rfl [1, 3, 4, 5, 6, 7] rfl (by decide) (by decide) (fun u r4 t H locs ht hvm hw_c3 hY_c3 hz_c3 hm_c3 hk_c3 hK hP hD hS => ?_)
  have hP : va_P D vwCl [(wa, .inl (cS, 70, .inr (.inr (.inr (.inr fW))))), (j, .inr (3, [.ref ins, .ref em, .ref w, .ref w, .ref w, .int (nI 1), .int (nI g)])), (ins, .inr (4, [.ref ri, .int (nI 0)])), (w, .inr (4, [.ref rw, .int (nI 0)])), (ri, .inl (cI, room, .inl fi)), (rw, .inl (cW, 4, .inl fw)), (x, .inr (5, [.ref wa, .ref ja, .int (nI kn), .int (nI rf), .ref xs1, .ref xs2, .ref xs3, .ref xs4, .ref xs5, .ref xs6, .ref xs7])), (ja, .inl (cJ, 6, .inr (.inr (.inr (.inr gJ)))))] H := hP
  have hD : va_D A [(wa, .inl (cS, 70, .inr (.inr (.inr (.inr fW))))), (j, .inr (3, [.ref ins, .ref em, .ref w, .ref w, .ref w, .int (nI 1), .int (nI g)])), (ins, .inr (4, [.ref ri, .int (nI 0)])), (w, .inr (4, [.ref rw, .int (nI 0)])), (ri, .inl (cI, room, .inl fi)), (rw, .inl (cW, 4, .inl fw)), (x, .inr (5, [.ref wa, .ref ja, .int (nI kn), .int (nI rf), .ref xs1, .ref xs2, .ref xs3, .ref xs4, .ref xs5, .ref xs6, .ref xs7])), (ja, .inl (cJ, 6, .inr (.inr (.inr (.inr gJ)))))] := hD
  have hK : va_K D vwCl [(cS, .object "Joinrow$Signs"), (cJ, .object "Joinrow$Joiner"), (cI, .char), (cW, .char)] s := hK
  have hs5 := hS.1
  refine W.widen (k := 0) (n := 0) (by omega) (by omega) ?_
  obtain rfl : j = r4 := Eq.symm hw_c3
  refine lv_astore_n (lv' := [(3, .ref j), (0, .ref x), (1, .int (nI 0)), (2, .int (nI 0))]) hx hb dX2_add_5 rfl hl (by decide) rfl (fun ls hl => ?_)
  refine lv_aload_n hx hb dX2_add_6 rfl (lv_at hl 0 rfl) ?_
  refine lv_aload_n hx hb dX2_add_7 rfl (lv_at hl 1 rfl) ?_
  refine lv_iload_n hx hb dX2_add_8 rfl (lv_at hl 3 rfl) ?_
  have hFc := va_free (wc := [(x, .inr (5, [.ref wa, .ref ja, .int (nI kn), .int (nI rf), .ref xs1, .ref xs2, .ref xs3, .ref xs4, .ref xs5, .ref xs6, .ref xs7])), (wa, .inl (cS, 70, .inr (.inr (.inr (.inr fW)))))]) hD hS hA [6, 0] rfl
  have kc6 : 0 + (0) ≤ 0 := by omega
  have ks7 : 0 + (0) ≤ 0 := by omega
  refine z_callr (wr := [(j, .inr (3, [.ref ins, .ref em, .ref w, .ref w, .ref w, .int (nI 1), .int (nI g)])), (ins, .inr (4, [.ref ri, .int (nI 0)])), (w, .inr (4, [.ref rw, .int (nI 0)])), (ri, .inl (cI, room, .inl fi)), (rw, .inl (cW, 4, .inl fw)), (ja, .inl (cJ, 6, .inr (.inr (.inr (.inr gJ)))))]) (va_runV (As := [.int (nI 0)]) (rest := [.ref j]) ⟨hx, hb, hml, hown, hts⟩ (c_wat l D N0 e H.size (zw H) x wa ja kn rf xs1 xs2 xs3 xs4 xs5 xs6 xs7 cS fW w hfw) (cwV 1 hts gX2_add_X2_wordAt rfl rfl rfl (by decide +kernel) ⟨Nat.le_of_ble_eq_true rfl, Nat.le_of_ble_eq_true rfl⟩) ⟨zP.blind, (va_recv hK hP (ci := 5) (q0 := 6) rfl rfl), (z_pre hK hP hD hS hAN hN hG [6, 0] (by decide) rfl [0] rfl (fun q hq => absurd hq List.not_mem_nil))⟩ rfl rfl hl.1 rfl (lv_room (Nat.le_of_ble_eq_true rfl)) dX2_add_9 ⟨kc6, ks7⟩) hK hP hD hS hA [6, 0] rfl [1, 2, 3, 4, 5, 7] rfl (by decide) (by decide) (fun u r9 t H locs ht hvm hw_c8 hY_c8 hz_c8 hm_c8 hk_c8 hK hP hD hS => ?_)
  have hP : va_P D vwCl [(j, .inr (3, [.ref ins, .ref em, .ref w, .ref w, .ref w, .int (nI 1), .int (nI g)])), (ins, .inr (4, [.ref ri, .int (nI 0)])), (w, .inr (4, [.ref rw, .int (nI 0)])), (ri, .inl (cI, room, .inl fi)), (rw, .inl (cW, 4, .inl fw)), (ja, .inl (cJ, 6, .inr (.inr (.inr (.inr gJ))))), (x, .inr (5, [.ref wa, .ref ja, .int (nI kn), .int (nI rf), .ref xs1, .ref xs2, .ref xs3, .ref xs4, .ref xs5, .ref xs6, .ref xs7])), (wa, .inl (cS, 70, .inr (.inr (.inr (.inr fW)))))] H := hP
  have hD : va_D A [(j, .inr (3, [.ref ins, .ref em, .ref w, .ref w, .ref w, .int (nI 1), .int (nI g)])), (ins, .inr (4, [.ref ri, .int (nI 0)])), (w, .inr (4, [.ref rw, .int (nI 0)])), (ri, .inl (cI, room, .inl fi)), (rw, .inl (cW, 4, .inl fw)), (ja, .inl (cJ, 6, .inr (.inr (.inr (.inr gJ))))), (x, .inr (5, [.ref wa, .ref ja, .int (nI kn), .int (nI rf), .ref xs1, .ref xs2, .ref xs3, .ref xs4, .ref xs5, .ref xs6, .ref xs7])), (wa, .inl (cS, 70, .inr (.inr (.inr (.inr fW)))))] := hD
  have hK : va_K D vwCl [(cS, .object "Joinrow$Signs"), (cJ, .object "Joinrow$Joiner"), (cI, .char), (cW, .char)] s := hK
  have hs10 := hS.1
  refine W.widen (k := 0) (n := 0) (by omega) (by omega) ?_
  obtain rfl : w = r9 := Eq.symm hw_c8
  have hFc := va_free (wc := [(j, .inr (3, [.ref ins, .ref em, .ref w, .ref w, .ref w, .int (nI 1), .int (nI g)])), (ins, .inr (4, [.ref ri, .int (nI 0)])), (w, .inr (4, [.ref rw, .int (nI 0)])), (ri, .inl (cI, room, .inl fi)), (rw, .inl (cW, 4, .inl fw))]) hD hS hA [0, 1, 2, 3, 4] rfl
  have kc11 : 0 + (0) ≤ 0 := by omega
  have ks12 : 0 + (0) ≤ 0 := by omega
  refine z_calli (wr := [(ja, .inl (cJ, 6, .inr (.inr (.inr (.inr gJ))))), (x, .inr (5, [.ref wa, .ref ja, .int (nI kn), .int (nI rf), .ref xs1, .ref xs2, .ref xs3, .ref xs4, .ref xs5, .ref xs6, .ref xs7])), (wa, .inl (cS, 70, .inr (.inr (.inr (.inr fW)))))]) (va_runS (As := [.ref j, .ref w]) (rest := []) ⟨hx, hb, hml, hown, hts⟩ (c_lp1 l D N0 e H.size (zw H) j ins em w g ri rw cI cW fi fw room hroom) (va_cwS 2 hts gX2_add_X2_layPiece rfl rfl rfl (by decide +kernel) ⟨Nat.le_of_ble_eq_true rfl, Nat.le_of_ble_eq_true rfl⟩) ⟨zP.blind, (z_pre hK hP hD hS hAN hN hG [0, 1, 2, 3, 4] (by decide) rfl [2, 3] rfl (fun q hq => absurd hq List.not_mem_nil))⟩ rfl rfl hl.1 rfl (lv_room (Nat.le_of_ble_eq_true rfl)) dX2_add_12 ⟨kc11, ks12⟩) hK hP hD hS hA [0, 1, 2, 3, 4] rfl [5, 6, 7] rfl (by decide) (by decide) (fun r14 u t H locs ht hvm hw_c13 hY_c13 hz_c13 hm_c13 hk_c13 hK hP hD hS => ?_)
  obtain ⟨f2, rfl⟩ : ∃ z, z = u := ⟨_, rfl⟩
  try dsimp only at hw_c13 hY_c13
  have hP : va_P D vwCl [(ja, .inl (cJ, 6, .inr (.inr (.inr (.inr gJ))))), (x, .inr (5, [.ref wa, .ref ja, .int (nI kn), .int (nI rf), .ref xs1, .ref xs2, .ref xs3, .ref xs4, .ref xs5, .ref xs6, .ref xs7])), (wa, .inl (cS, 70, .inr (.inr (.inr (.inr fW))))), (j, .inr (3, [.ref ins, .ref em, .ref w, .ref w, .ref w, .int (nI 1), .int (nI g)])), (ins, .inr (4, [.ref ri, .int (nI 0)])), (w, .inr (4, [.ref rw, .int (nI 0)])), (ri, .inl (cI, room, .inl f2)), (rw, .inl (cW, 4, .inl fw))] H := hP
  have hD : va_D A [(ja, .inl (cJ, 6, .inr (.inr (.inr (.inr gJ))))), (x, .inr (5, [.ref wa, .ref ja, .int (nI kn), .int (nI rf), .ref xs1, .ref xs2, .ref xs3, .ref xs4, .ref xs5, .ref xs6, .ref xs7])), (wa, .inl (cS, 70, .inr (.inr (.inr (.inr fW))))), (j, .inr (3, [.ref ins, .ref em, .ref w, .ref w, .ref w, .int (nI 1), .int (nI g)])), (ins, .inr (4, [.ref ri, .int (nI 0)])), (w, .inr (4, [.ref rw, .int (nI 0)])), (ri, .inl (cI, room, .inl f2)), (rw, .inl (cW, 4, .inl fw))] := hD
  have hK : va_K D vwCl [(cS, .object "Joinrow$Signs"), (cJ, .object "Joinrow$Joiner"), (cI, .char), (cW, .char)] s := hK
  have hs15 := hS.1
  refine W.widen (k := 0) (n := 0) (by omega) (by omega) ?_
  subst hw_c13
  have hz0 := hS.1
  refine z_keepW (fun hkp => ?_)
  exact z_reti (v := (nI 0)) (f2) hx hb hr (by first | rfl | decide) hlocks (show (nI 0) = (nI 0) from rfl) hK [] rfl hP hD hS [1, 2, 0, 3, 4, 5, 6, 7] (by decide) rfl (by omega) (zw_keep hkp) (fun _ _ _ => trivial) dX2_add_15
