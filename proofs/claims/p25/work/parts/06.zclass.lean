set_option maxRecDepth 100000 in
set_option maxHeartbeats 4000000 in
/-- Signs.wipe: the count is 0 -/
theorem c_wipe (l : Launch) (D : va_G) (N0 : Nat) (e : zE) (sz mz : Nat) (hh : Nat) (row : Nat) (cn : Nat)  : Met l yX1_wipe wsX1_wipe ({ frames := 0, cells := 0, slots := 0, locals := 0 }) (va_Pc [.ref hh] (zP N0 e D [] [(hh, .inr (4, [.ref row, .int (nI cn)]))] sz mz [])) (zQv (fun (_ : Unit) => True) D (fun (_ : Unit) => ([(hh, .inr (4, [.ref row, .int (nI 0)]))] : va_W)) (fun (_ : Unit) => ([] : List (ClassId × FieldType))) sz (0) mz (0) (fun (_ : Unit) (t : State) => True) (va_A [(hh, .inr (4, [.ref row, .int (nI cn)]))] sz)) (0) (0) (va_A [(hh, .inr (4, [.ref row, .int (nI cn)]))] sz) := by
  refine z_met (Qc := fun A => zQv (fun (_ : Unit) => True) D (fun (_ : Unit) => ([(hh, .inr (4, [.ref row, .int (nI 0)]))] : va_W)) (fun (_ : Unit) => ([] : List (ClassId × FieldType))) sz (0) mz (0) (fun (_ : Unit) (t : State) => True) A) (cc := cX1_wipe) (maxL := 1) (ret := none) RX1 rfl (by decide) rfl (Nat.le_of_ble_eq_true rfl) ?_
  intro p ev s m below meth c ls A hx hb hr hml hown hts hlocks hnm hsz hmz hN hAe hA hAN hS hP hK hD hG hL hl
  subst hsz
  subst hmz
  have hl : lv_has ls 1 [(0, .ref hh)] := hl
  refine lv_aload_n hx hb dX1_wipe_0 rfl (lv_at hl 0 rfl) ?_
  refine lv_iconst (v := (nI 0)) hx hb dX1_wipe_1 (by decide) ?_
  refine va_put (D := D) (ci := 4) (v := .int (nI 0)) (ty := .int) (C := RX1) (T := TX1) (N := 2) hx hb hts (by decide +kernel) tyX1 tyX1_ok nmX1 hown hK hP hD hS 0 rfl rfl 1 (by decide) (hts (.fieldLink RX1 9 "Joinrow$Signs" "count" "I") (by decide +kernel)) (fun _ h9 => h9) rfl (by decide +kernel) rfl rfl (Nat.le_of_ble_eq_true rfl) dX1_wipe_2 (fun H locs hP hD hS => ?_)
  have hP : va_P D vwCl [(hh, .inr (4, [.ref row, .int (nI 0)]))] H := hP
  have hD : va_D A [(hh, .inr (4, [.ref row, .int (nI 0)]))] := hD
  have hs1 := hS.1
  have hz0 := hS.1
  refine z_keepW (fun hkp => ?_)
  exact z_retv () hx hb hr hlocks trivial hK [] rfl hP hD hS [0] (by decide) rfl (by omega) (zw_keep hkp) (fun _ _ _ => trivial) dX1_wipe_5
set_option maxRecDepth 100000 in
set_option maxHeartbeats 4000000 in
/-- tellsEmptyText, a joiner without pieces and empty text: false -/
theorem c_tet0 (l : Launch) (D : va_G) (N0 : Nat) (e : zE) (sz mz : Nat) (j : Nat) (ins : Nat) (em : Nat) (bw : Nat) (pf : Nat) (sf : Nat)  : Met l yX0_tellsEmptyText wsX0_tellsEmptyText ({ frames := 0, cells := 0, slots := 0, locals := 0 }) (va_Pc [.ref j] (zP N0 e D [] [(j, .inr (3, [.ref ins, .ref em, .ref bw, .ref pf, .ref sf, .int (nI 0), .int (nI 0)]))] sz mz [])) (zQi (fun (r : Int32) (_ : Unit) => r = (nI 0)) D (fun (_ : Unit) => ([(j, .inr (3, [.ref ins, .ref em, .ref bw, .ref pf, .ref sf, .int (nI 0), .int (nI 0)]))] : va_W)) (fun (_ : Unit) => ([] : List (ClassId × FieldType))) sz (0) mz (0) (fun (_ : Unit) (t : State) => True) (va_A [(j, .inr (3, [.ref ins, .ref em, .ref bw, .ref pf, .ref sf, .int (nI 0), .int (nI 0)]))] sz)) (0) (0) (va_A [(j, .inr (3, [.ref ins, .ref em, .ref bw, .ref pf, .ref sf, .int (nI 0), .int (nI 0)]))] sz) := by
  refine z_met (Qc := fun A => zQi (fun (r : Int32) (_ : Unit) => r = (nI 0)) D (fun (_ : Unit) => ([(j, .inr (3, [.ref ins, .ref em, .ref bw, .ref pf, .ref sf, .int (nI 0), .int (nI 0)]))] : va_W)) (fun (_ : Unit) => ([] : List (ClassId × FieldType))) sz (0) mz (0) (fun (_ : Unit) (t : State) => True) A) (cc := cX0_tellsEmptyText) (maxL := 1) (ret := (some .boolean)) RX0 rfl (by decide) rfl (Nat.le_of_ble_eq_true rfl) ?_
  intro p ev s m below meth c ls A hx hb hr hml hown hts hlocks hnm hsz hmz hN hAe hA hAN hS hP hK hD hG hL hl
  subst hsz
  subst hmz
  have hl : lv_has ls 1 [(0, .ref j)] := hl
  refine lv_aload_n hx hb dX0_tellsEmptyText_0 rfl (lv_at hl 0 rfl) ?_
  refine va_get (D := D) (ci := 3) (v := .int (nI 0)) (C := RX0) (T := TX0) (N := 7) hx hb hts (by decide +kernel) hown hK hP 0 rfl rfl 5 (by decide) (hts (.fieldLink RX0 7 "Joinrow$Joiner" "isFilled" "Z") (by decide +kernel)) (fun _ h9 => h9) rfl dX0_tellsEmptyText_1 ?_
  refine lv_if_ne (tgt := 18) hx hb dX0_tellsEmptyText_4 (by decide) (fun hq => absurd (show (nI 0) = (nI 0) from (nI_eq (by omega) (by omega)).mpr (by omega)) hq) (fun _ => ?_)
  refine lv_aload_n hx hb dX0_tellsEmptyText_7 rfl (lv_at hl 0 rfl) ?_
  refine va_get (D := D) (ci := 3) (v := .int (nI 0)) (C := RX0) (T := TX0) (N := 7) hx hb hts (by decide +kernel) hown hK hP 0 rfl rfl 6 (by decide) (hts (.fieldLink RX0 13 "Joinrow$Joiner" "hasEmptyText" "Z") (by decide +kernel)) (fun _ h9 => h9) rfl dX0_tellsEmptyText_8 ?_
  refine lv_if_eq (tgt := 18) hx hb dX0_tellsEmptyText_11 (by decide) (fun _ => ?_) (fun hq => absurd (show (nI 0) = (nI 0) from (nI_eq (by omega) (by omega)).mpr (by omega)) hq)
  refine lv_iconst (v := (nI 0)) hx hb dX0_tellsEmptyText_18 (by decide) ?_
  have hz0 := hS.1
  refine z_keepW (fun hkp => ?_)
  exact z_reti (v := (nI 0)) () hx hb hr (by first | rfl | decide) hlocks rfl hK [] rfl hP hD hS [0] (by decide) rfl (by omega) (zw_keep hkp) (fun _ _ _ => trivial) dX0_tellsEmptyText_19
set_option maxRecDepth 100000 in
set_option maxHeartbeats 4000000 in
/-- tellsEmptyText, a joiner with pieces: false -/
theorem c_tet1 (l : Launch) (D : va_G) (N0 : Nat) (e : zE) (sz mz : Nat) (j : Nat) (ins : Nat) (em : Nat) (bw : Nat) (pf : Nat) (sf : Nat) (g : Nat)  : Met l yX0_tellsEmptyText wsX0_tellsEmptyText ({ frames := 0, cells := 0, slots := 0, locals := 0 }) (va_Pc [.ref j] (zP N0 e D [] [(j, .inr (3, [.ref ins, .ref em, .ref bw, .ref pf, .ref sf, .int (nI 1), .int (nI g)]))] sz mz [])) (zQi (fun (r : Int32) (_ : Unit) => r = (nI 0)) D (fun (_ : Unit) => ([(j, .inr (3, [.ref ins, .ref em, .ref bw, .ref pf, .ref sf, .int (nI 1), .int (nI g)]))] : va_W)) (fun (_ : Unit) => ([] : List (ClassId × FieldType))) sz (0) mz (0) (fun (_ : Unit) (t : State) => True) (va_A [(j, .inr (3, [.ref ins, .ref em, .ref bw, .ref pf, .ref sf, .int (nI 1), .int (nI g)]))] sz)) (0) (0) (va_A [(j, .inr (3, [.ref ins, .ref em, .ref bw, .ref pf, .ref sf, .int (nI 1), .int (nI g)]))] sz) := by
  refine z_met (Qc := fun A => zQi (fun (r : Int32) (_ : Unit) => r = (nI 0)) D (fun (_ : Unit) => ([(j, .inr (3, [.ref ins, .ref em, .ref bw, .ref pf, .ref sf, .int (nI 1), .int (nI g)]))] : va_W)) (fun (_ : Unit) => ([] : List (ClassId × FieldType))) sz (0) mz (0) (fun (_ : Unit) (t : State) => True) A) (cc := cX0_tellsEmptyText) (maxL := 1) (ret := (some .boolean)) RX0 rfl (by decide) rfl (Nat.le_of_ble_eq_true rfl) ?_
  intro p ev s m below meth c ls A hx hb hr hml hown hts hlocks hnm hsz hmz hN hAe hA hAN hS hP hK hD hG hL hl
  subst hsz
  subst hmz
  have hl : lv_has ls 1 [(0, .ref j)] := hl
  refine lv_aload_n hx hb dX0_tellsEmptyText_0 rfl (lv_at hl 0 rfl) ?_
  refine va_get (D := D) (ci := 3) (v := .int (nI 1)) (C := RX0) (T := TX0) (N := 7) hx hb hts (by decide +kernel) hown hK hP 0 rfl rfl 5 (by decide) (hts (.fieldLink RX0 7 "Joinrow$Joiner" "isFilled" "Z") (by decide +kernel)) (fun _ h9 => h9) rfl dX0_tellsEmptyText_1 ?_
  refine lv_if_ne (tgt := 18) hx hb dX0_tellsEmptyText_4 (by decide) (fun _ => ?_) (fun hq => absurd hq (show ¬ ((nI 1) = (nI 0)) from fun hq => absurd ((nI_eq (by omega) (by omega)).mp hq) (by omega)))
  refine lv_iconst (v := (nI 0)) hx hb dX0_tellsEmptyText_18 (by decide) ?_
  have hz0 := hS.1
  refine z_keepW (fun hkp => ?_)
  exact z_reti (v := (nI 0)) () hx hb hr (by first | rfl | decide) hlocks rfl hK [] rfl hP hD hS [0] (by decide) rfl (by omega) (zw_keep hkp) (fun _ _ _ => trivial) dX0_tellsEmptyText_19
set_option maxRecDepth 100000 in
set_option maxHeartbeats 4000000 in
/-- size, a joiner without pieces and empty text -/
theorem c_size0 (l : Launch) (D : va_G) (N0 : Nat) (e : zE) (sz mz : Nat) (j : Nat) (ins : Nat) (em : Nat) (bw : Nat) (pf : Nat) (sf : Nat) (ri : Nat) (rp : Nat) (rs : Nat) (ci : Nat) (cp : Nat) (cs : Nat)  : Met l yX0_size wsX0_size ({ frames := 1, cells := 0, slots := 0, locals := 20 }) (va_Pc [.ref j] (zP N0 e D [] [(j, .inr (3, [.ref ins, .ref em, .ref bw, .ref pf, .ref sf, .int (nI 0), .int (nI 0)])), (ins, .inr (4, [.ref ri, .int (nI ci)])), (pf, .inr (4, [.ref rp, .int (nI cp)])), (sf, .inr (4, [.ref rs, .int (nI cs)]))] sz mz [])) (zQi (fun (r : Int32) (_ : Unit) => r = (nI (cp + ci + cs))) D (fun (_ : Unit) => ([(j, .inr (3, [.ref ins, .ref em, .ref bw, .ref pf, .ref sf, .int (nI 0), .int (nI 0)])), (ins, .inr (4, [.ref ri, .int (nI ci)])), (pf, .inr (4, [.ref rp, .int (nI cp)])), (sf, .inr (4, [.ref rs, .int (nI cs)]))] : va_W)) (fun (_ : Unit) => ([] : List (ClassId × FieldType))) sz (0) mz (0) (fun (_ : Unit) (t : State) => True) (va_A [(j, .inr (3, [.ref ins, .ref em, .ref bw, .ref pf, .ref sf, .int (nI 0), .int (nI 0)])), (ins, .inr (4, [.ref ri, .int (nI ci)])), (pf, .inr (4, [.ref rp, .int (nI cp)])), (sf, .inr (4, [.ref rs, .int (nI cs)]))] sz)) (0) (0) (va_A [(j, .inr (3, [.ref ins, .ref em, .ref bw, .ref pf, .ref sf, .int (nI 0), .int (nI 0)])), (ins, .inr (4, [.ref ri, .int (nI ci)])), (pf, .inr (4, [.ref rp, .int (nI cp)])), (sf, .inr (4, [.ref rs, .int (nI cs)]))] sz) := by
  refine z_met (Qc := fun A => zQi (fun (r : Int32) (_ : Unit) => r = (nI (cp + ci + cs))) D (fun (_ : Unit) => ([(j, .inr (3, [.ref ins, .ref em, .ref bw, .ref pf, .ref sf, .int (nI 0), .int (nI 0)])), (ins, .inr (4, [.ref ri, .int (nI ci)])), (pf, .inr (4, [.ref rp, .int (nI cp)])), (sf, .inr (4, [.ref rs, .int (nI cs)]))] : va_W)) (fun (_ : Unit) => ([] : List (ClassId × FieldType))) sz (0) mz (0) (fun (_ : Unit) (t : State) => True) A) (cc := cX0_size) (maxL := 1) (ret := (some .int)) RX0 rfl (by decide) rfl (Nat.le_of_ble_eq_true rfl) ?_
  intro p ev s m below meth c ls A hx hb hr hml hown hts hlocks hnm hsz hmz hN hAe hA hAN hS hP hK hD hG hL hl
  subst hsz
  subst hmz
  have hl : lv_has ls 1 [(0, .ref j)] := hl
  refine lv_aload_n hx hb dX0_size_0 rfl (lv_at hl 0 rfl) ?_
  have hFc := va_free (wc := [(j, .inr (3, [.ref ins, .ref em, .ref bw, .ref pf, .ref sf, .int (nI 0), .int (nI 0)]))]) hD hS hA [0] rfl
  have kc1 : 0 + (0) ≤ 0 := by omega
  have ks2 : 0 + (0) ≤ 0 := by omega
  refine z_calli (wr := [(ins, .inr (4, [.ref ri, .int (nI ci)])), (pf, .inr (4, [.ref rp, .int (nI cp)])), (sf, .inr (4, [.ref rs, .int (nI cs)]))]) (va_runV (As := []) (rest := []) ⟨hx, hb, hml, hown, hts⟩ (c_tet0 l D N0 e s.heap.size (zw s.heap) j ins em bw pf sf ) (cwV 0 hts gX0_size_X0_tellsEmptyText rfl rfl rfl (by decide +kernel) ⟨Nat.le_of_ble_eq_true rfl, Nat.le_of_ble_eq_true rfl⟩) ⟨zP.blind, (va_recv hK hP (ci := 3) (q0 := 0) rfl rfl), (z_pre hK hP hD hS hAN hN hG [0] (by decide) rfl [] rfl (fun q hq => absurd hq List.not_mem_nil))⟩ rfl rfl hl.1 rfl (lv_room (Nat.le_of_ble_eq_true rfl)) dX0_size_1 ⟨kc1, ks2⟩) hK hP hD hS hA [0] rfl [1, 2, 3] rfl (by decide) (by decide) (fun r4 u t H locs ht hvm hw_c3 hY_c3 hz_c3 hm_c3 hk_c3 hK hP hD hS => ?_)
  have hP : va_P D vwCl [(ins, .inr (4, [.ref ri, .int (nI ci)])), (pf, .inr (4, [.ref rp, .int (nI cp)])), (sf, .inr (4, [.ref rs, .int (nI cs)])), (j, .inr (3, [.ref ins, .ref em, .ref bw, .ref pf, .ref sf, .int (nI 0), .int (nI 0)]))] H := hP
  have hD : va_D A [(ins, .inr (4, [.ref ri, .int (nI ci)])), (pf, .inr (4, [.ref rp, .int (nI cp)])), (sf, .inr (4, [.ref rs, .int (nI cs)])), (j, .inr (3, [.ref ins, .ref em, .ref bw, .ref pf, .ref sf, .int (nI 0), .int (nI 0)]))] := hD
  have hK : va_K D vwCl [] s := hK
  have hs5 := hS.1
  refine W.widen (k := 0) (n := 0) (by omega) (by omega) ?_
  subst hw_c3
  refine lv_if_eq (tgt := 17) hx hb dX0_size_4 (by decide) (fun _ => ?_) (fun hq => absurd (show (nI 0) = (nI 0) from (nI_eq (by omega) (by omega)).mpr (by omega)) hq)
  refine lv_aload_n hx hb dX0_size_17 rfl (lv_at hl 0 rfl) ?_
  refine va_get (D := D) (ci := 3) (v := .ref pf) (C := RX0) (T := TX0) (N := 7) hx hb hts (by decide +kernel) hown hK hP 3 rfl rfl 3 (by decide) (hts (.fieldLink RX0 31 "Joinrow$Joiner" "prefix" "LJoinrow$Signs;") (by decide +kernel)) (fun _ h9 => h9) rfl dX0_size_18 ?_
  refine va_getN (D := D) (ci := 4) (v := .int (nI cp)) (C := RX1) (T := TX1) (N := 2) hx hb hts (by decide +kernel) hown hK hP 1 rfl rfl 1 (by decide) (hG.nest ("Joinrow$Joiner", 40, "Joinrow$Signs", "count", "I", "Joinrow") (by simp)) (fun _ h9 => h9) rfl dX0_size_21 ?_
  refine lv_aload_n hx hb dX0_size_24 rfl (lv_at hl 0 rfl) ?_
  refine va_get (D := D) (ci := 3) (v := .ref ins) (C := RX0) (T := TX0) (N := 7) hx hb hts (by decide +kernel) hown hK hP 3 rfl rfl 0 (by decide) (hts (.fieldLink RX0 21 "Joinrow$Joiner" "inside" "LJoinrow$Signs;") (by decide +kernel)) (fun _ h9 => h9) rfl dX0_size_25 ?_
  refine va_getN (D := D) (ci := 4) (v := .int (nI ci)) (C := RX1) (T := TX1) (N := 2) hx hb hts (by decide +kernel) hown hK hP 0 rfl rfl 1 (by decide) (hG.nest ("Joinrow$Joiner", 40, "Joinrow$Signs", "count", "I", "Joinrow") (by simp)) (fun _ h9 => h9) rfl dX0_size_28 ?_
  refine lv_iadd hx hb dX0_size_31 ?_
  refine lv_topi (fun t6 et6 => ?_)
  replace et6 := et6.trans (show ((nI cp) + (nI ci)) = (nI (cp + ci)) from nI_add _ _)
  subst et6
  refine lv_aload_n hx hb dX0_size_32 rfl (lv_at hl 0 rfl) ?_
  refine va_get (D := D) (ci := 3) (v := .ref sf) (C := RX0) (T := TX0) (N := 7) hx hb hts (by decide +kernel) hown hK hP 3 rfl rfl 4 (by decide) (hts (.fieldLink RX0 34 "Joinrow$Joiner" "suffix" "LJoinrow$Signs;") (by decide +kernel)) (fun _ h9 => h9) rfl dX0_size_33 ?_
  refine va_getN (D := D) (ci := 4) (v := .int (nI cs)) (C := RX1) (T := TX1) (N := 2) hx hb hts (by decide +kernel) hown hK hP 2 rfl rfl 1 (by decide) (hG.nest ("Joinrow$Joiner", 40, "Joinrow$Signs", "count", "I", "Joinrow") (by simp)) (fun _ h9 => h9) rfl dX0_size_36 ?_
  refine lv_iadd hx hb dX0_size_39 ?_
  refine lv_topi (fun t7 et7 => ?_)
  replace et7 := et7.trans (show ((nI (cp + ci)) + (nI cs)) = (nI (cp + ci + cs)) from nI_add _ _)
  subst et7
  have hz0 := hS.1
  refine z_keepW (fun hkp => ?_)
  exact z_reti (v := (nI (cp + ci + cs))) () hx hb hr (by first | rfl | decide) hlocks rfl hK [] rfl hP hD hS [3, 0, 1, 2] (by decide) rfl (by omega) (zw_keep hkp) (fun _ _ _ => trivial) dX0_size_40
set_option maxRecDepth 100000 in
set_option maxHeartbeats 4000000 in
/-- size, all three texts and the inside empty, with pieces: 0 -/
theorem c_size1 (l : Launch) (D : va_G) (N0 : Nat) (e : zE) (sz mz : Nat) (j : Nat) (ins : Nat) (em : Nat) (w : Nat) (ri : Nat) (rw : Nat) (g : Nat)  : Met l yX0_size wsX0_size ({ frames := 1, cells := 0, slots := 0, locals := 20 }) (va_Pc [.ref j] (zP N0 e D [] [(j, .inr (3, [.ref ins, .ref em, .ref w, .ref w, .ref w, .int (nI 1), .int (nI g)])), (ins, .inr (4, [.ref ri, .int (nI 0)])), (w, .inr (4, [.ref rw, .int (nI 0)]))] sz mz [])) (zQi (fun (r : Int32) (_ : Unit) => r = (nI 0)) D (fun (_ : Unit) => ([(j, .inr (3, [.ref ins, .ref em, .ref w, .ref w, .ref w, .int (nI 1), .int (nI g)])), (ins, .inr (4, [.ref ri, .int (nI 0)])), (w, .inr (4, [.ref rw, .int (nI 0)]))] : va_W)) (fun (_ : Unit) => ([] : List (ClassId × FieldType))) sz (0) mz (0) (fun (_ : Unit) (t : State) => True) (va_A [(j, .inr (3, [.ref ins, .ref em, .ref w, .ref w, .ref w, .int (nI 1), .int (nI g)])), (ins, .inr (4, [.ref ri, .int (nI 0)])), (w, .inr (4, [.ref rw, .int (nI 0)]))] sz)) (0) (0) (va_A [(j, .inr (3, [.ref ins, .ref em, .ref w, .ref w, .ref w, .int (nI 1), .int (nI g)])), (ins, .inr (4, [.ref ri, .int (nI 0)])), (w, .inr (4, [.ref rw, .int (nI 0)]))] sz) := by
  refine z_met (Qc := fun A => zQi (fun (r : Int32) (_ : Unit) => r = (nI 0)) D (fun (_ : Unit) => ([(j, .inr (3, [.ref ins, .ref em, .ref w, .ref w, .ref w, .int (nI 1), .int (nI g)])), (ins, .inr (4, [.ref ri, .int (nI 0)])), (w, .inr (4, [.ref rw, .int (nI 0)]))] : va_W)) (fun (_ : Unit) => ([] : List (ClassId × FieldType))) sz (0) mz (0) (fun (_ : Unit) (t : State) => True) A) (cc := cX0_size) (maxL := 1) (ret := (some .int)) RX0 rfl (by decide) rfl (Nat.le_of_ble_eq_true rfl) ?_
  intro p ev s m below meth c ls A hx hb hr hml hown hts hlocks hnm hsz hmz hN hAe hA hAN hS hP hK hD hG hL hl
  subst hsz
  subst hmz
  have hl : lv_has ls 1 [(0, .ref j)] := hl
  refine lv_aload_n hx hb dX0_size_0 rfl (lv_at hl 0 rfl) ?_
  have hFc := va_free (wc := [(j, .inr (3, [.ref ins, .ref em, .ref w, .ref w, .ref w, .int (nI 1), .int (nI g)]))]) hD hS hA [0] rfl
  have kc1 : 0 + (0) ≤ 0 := by omega
  have ks2 : 0 + (0) ≤ 0 := by omega
  refine z_calli (wr := [(ins, .inr (4, [.ref ri, .int (nI 0)])), (w, .inr (4, [.ref rw, .int (nI 0)]))]) (va_runV (As := []) (rest := []) ⟨hx, hb, hml, hown, hts⟩ (c_tet1 l D N0 e s.heap.size (zw s.heap) j ins em w w w g ) (cwV 0 hts gX0_size_X0_tellsEmptyText rfl rfl rfl (by decide +kernel) ⟨Nat.le_of_ble_eq_true rfl, Nat.le_of_ble_eq_true rfl⟩) ⟨zP.blind, (va_recv hK hP (ci := 3) (q0 := 0) rfl rfl), (z_pre hK hP hD hS hAN hN hG [0] (by decide) rfl [] rfl (fun q hq => absurd hq List.not_mem_nil))⟩ rfl rfl hl.1 rfl (lv_room (Nat.le_of_ble_eq_true rfl)) dX0_size_1 ⟨kc1, ks2⟩) hK hP hD hS hA [0] rfl [1, 2] rfl (by decide) (by decide) (fun r4 u t H locs ht hvm hw_c3 hY_c3 hz_c3 hm_c3 hk_c3 hK hP hD hS => ?_)
  have hP : va_P D vwCl [(ins, .inr (4, [.ref ri, .int (nI 0)])), (w, .inr (4, [.ref rw, .int (nI 0)])), (j, .inr (3, [.ref ins, .ref em, .ref w, .ref w, .ref w, .int (nI 1), .int (nI g)]))] H := hP
  have hD : va_D A [(ins, .inr (4, [.ref ri, .int (nI 0)])), (w, .inr (4, [.ref rw, .int (nI 0)])), (j, .inr (3, [.ref ins, .ref em, .ref w, .ref w, .ref w, .int (nI 1), .int (nI g)]))] := hD
  have hK : va_K D vwCl [] s := hK
  have hs5 := hS.1
  refine W.widen (k := 0) (n := 0) (by omega) (by omega) ?_
  subst hw_c3
  refine lv_if_eq (tgt := 17) hx hb dX0_size_4 (by decide) (fun _ => ?_) (fun hq => absurd (show (nI 0) = (nI 0) from (nI_eq (by omega) (by omega)).mpr (by omega)) hq)
  refine lv_aload_n hx hb dX0_size_17 rfl (lv_at hl 0 rfl) ?_
  refine va_get (D := D) (ci := 3) (v := .ref w) (C := RX0) (T := TX0) (N := 7) hx hb hts (by decide +kernel) hown hK hP 2 rfl rfl 3 (by decide) (hts (.fieldLink RX0 31 "Joinrow$Joiner" "prefix" "LJoinrow$Signs;") (by decide +kernel)) (fun _ h9 => h9) rfl dX0_size_18 ?_
  refine va_getN (D := D) (ci := 4) (v := .int (nI 0)) (C := RX1) (T := TX1) (N := 2) hx hb hts (by decide +kernel) hown hK hP 1 rfl rfl 1 (by decide) (hG.nest ("Joinrow$Joiner", 40, "Joinrow$Signs", "count", "I", "Joinrow") (by simp)) (fun _ h9 => h9) rfl dX0_size_21 ?_
  refine lv_aload_n hx hb dX0_size_24 rfl (lv_at hl 0 rfl) ?_
  refine va_get (D := D) (ci := 3) (v := .ref ins) (C := RX0) (T := TX0) (N := 7) hx hb hts (by decide +kernel) hown hK hP 2 rfl rfl 0 (by decide) (hts (.fieldLink RX0 21 "Joinrow$Joiner" "inside" "LJoinrow$Signs;") (by decide +kernel)) (fun _ h9 => h9) rfl dX0_size_25 ?_
  refine va_getN (D := D) (ci := 4) (v := .int (nI 0)) (C := RX1) (T := TX1) (N := 2) hx hb hts (by decide +kernel) hown hK hP 0 rfl rfl 1 (by decide) (hG.nest ("Joinrow$Joiner", 40, "Joinrow$Signs", "count", "I", "Joinrow") (by simp)) (fun _ h9 => h9) rfl dX0_size_28 ?_
  refine lv_iadd hx hb dX0_size_31 ?_
  refine lv_topi (fun t6 et6 => ?_)
  replace et6 := et6.trans (show ((nI 0) + (nI 0)) = (nI 0) from by decide)
  subst et6
  refine lv_aload_n hx hb dX0_size_32 rfl (lv_at hl 0 rfl) ?_
  refine va_get (D := D) (ci := 3) (v := .ref w) (C := RX0) (T := TX0) (N := 7) hx hb hts (by decide +kernel) hown hK hP 2 rfl rfl 4 (by decide) (hts (.fieldLink RX0 34 "Joinrow$Joiner" "suffix" "LJoinrow$Signs;") (by decide +kernel)) (fun _ h9 => h9) rfl dX0_size_33 ?_
  refine va_getN (D := D) (ci := 4) (v := .int (nI 0)) (C := RX1) (T := TX1) (N := 2) hx hb hts (by decide +kernel) hown hK hP 1 rfl rfl 1 (by decide) (hG.nest ("Joinrow$Joiner", 40, "Joinrow$Signs", "count", "I", "Joinrow") (by simp)) (fun _ h9 => h9) rfl dX0_size_36 ?_
  refine lv_iadd hx hb dX0_size_39 ?_
  refine lv_topi (fun t7 et7 => ?_)
  replace et7 := et7.trans (show ((nI 0) + (nI 0)) = (nI 0) from by decide)
  subst et7
  have hz0 := hS.1
  refine z_keepW (fun hkp => ?_)
  exact z_reti (v := (nI 0)) () hx hb hr (by first | rfl | decide) hlocks rfl hK [] rfl hP hD hS [2, 0, 1] (by decide) rfl (by omega) (zw_keep hkp) (fun _ _ _ => trivial) dX0_size_40
set_option maxRecDepth 100000 in
set_option maxHeartbeats 4000000 in
/-- sizeWith(0), all texts and the inside empty: 0 -/
theorem c_sizeWith0 (l : Launch) (D : va_G) (N0 : Nat) (e : zE) (sz mz : Nat) (j : Nat) (ins : Nat) (em : Nat) (w : Nat) (ri : Nat) (rw : Nat) (g : Nat)  : Met l yX0_sizeWith wsX0_sizeWith ({ frames := 0, cells := 0, slots := 0, locals := 0 }) (va_Pc [.ref j, .int (nI 0)] (zP N0 e D [] [(j, .inr (3, [.ref ins, .ref em, .ref w, .ref w, .ref w, .int (nI 0), .int (nI g)])), (ins, .inr (4, [.ref ri, .int (nI 0)])), (w, .inr (4, [.ref rw, .int (nI 0)]))] sz mz [])) (zQi (fun (r : Int32) (_ : Unit) => r = (nI 0)) D (fun (_ : Unit) => ([(j, .inr (3, [.ref ins, .ref em, .ref w, .ref w, .ref w, .int (nI 0), .int (nI g)])), (ins, .inr (4, [.ref ri, .int (nI 0)])), (w, .inr (4, [.ref rw, .int (nI 0)]))] : va_W)) (fun (_ : Unit) => ([] : List (ClassId × FieldType))) sz (0) mz (0) (fun (_ : Unit) (t : State) => True) (va_A [(j, .inr (3, [.ref ins, .ref em, .ref w, .ref w, .ref w, .int (nI 0), .int (nI g)])), (ins, .inr (4, [.ref ri, .int (nI 0)])), (w, .inr (4, [.ref rw, .int (nI 0)]))] sz)) (0) (0) (va_A [(j, .inr (3, [.ref ins, .ref em, .ref w, .ref w, .ref w, .int (nI 0), .int (nI g)])), (ins, .inr (4, [.ref ri, .int (nI 0)])), (w, .inr (4, [.ref rw, .int (nI 0)]))] sz) := by
  refine z_met (Qc := fun A => zQi (fun (r : Int32) (_ : Unit) => r = (nI 0)) D (fun (_ : Unit) => ([(j, .inr (3, [.ref ins, .ref em, .ref w, .ref w, .ref w, .int (nI 0), .int (nI g)])), (ins, .inr (4, [.ref ri, .int (nI 0)])), (w, .inr (4, [.ref rw, .int (nI 0)]))] : va_W)) (fun (_ : Unit) => ([] : List (ClassId × FieldType))) sz (0) mz (0) (fun (_ : Unit) (t : State) => True) A) (cc := cX0_sizeWith) (maxL := 3) (ret := (some .int)) RX0 rfl (by decide) rfl (Nat.le_of_ble_eq_true rfl) ?_
  intro p ev s m below meth c ls A hx hb hr hml hown hts hlocks hnm hsz hmz hN hAe hA hAN hS hP hK hD hG hL hl
  subst hsz
  subst hmz
  have hl : lv_has ls 3 [(0, .ref j), (1, .int (nI 0))] := hl
  refine lv_aload_n hx hb dX0_sizeWith_0 rfl (lv_at hl 0 rfl) ?_
  refine va_get (D := D) (ci := 3) (v := .int (nI 0)) (C := RX0) (T := TX0) (N := 7) hx hb hts (by decide +kernel) hown hK hP 0 rfl rfl 5 (by decide) (hts (.fieldLink RX0 7 "Joinrow$Joiner" "isFilled" "Z") (by decide +kernel)) (fun _ h9 => h9) rfl dX0_sizeWith_1 ?_
  refine lv_if_eq (tgt := 19) hx hb dX0_sizeWith_4 (by decide) (fun _ => ?_) (fun hq => absurd (show (nI 0) = (nI 0) from (nI_eq (by omega) (by omega)).mpr (by omega)) hq)
  refine lv_iload_n hx hb dX0_sizeWith_19 rfl (lv_at hl 1 rfl) ?_
  refine lv_istore_n (lv' := [(2, .int (nI 0)), (0, .ref j), (1, .int (nI 0))]) hx hb dX0_sizeWith_20 rfl hl (by decide) rfl (fun ls hl => ?_)
  refine lv_aload_n hx hb dX0_sizeWith_21 rfl (lv_at hl 1 rfl) ?_
  refine va_get (D := D) (ci := 3) (v := .ref w) (C := RX0) (T := TX0) (N := 7) hx hb hts (by decide +kernel) hown hK hP 0 rfl rfl 3 (by decide) (hts (.fieldLink RX0 31 "Joinrow$Joiner" "prefix" "LJoinrow$Signs;") (by decide +kernel)) (fun _ h9 => h9) rfl dX0_sizeWith_22 ?_
  refine va_getN (D := D) (ci := 4) (v := .int (nI 0)) (C := RX1) (T := TX1) (N := 2) hx hb hts (by decide +kernel) hown hK hP 2 rfl rfl 1 (by decide) (hG.nest ("Joinrow$Joiner", 40, "Joinrow$Signs", "count", "I", "Joinrow") (by simp)) (fun _ h9 => h9) rfl dX0_sizeWith_25 ?_
  refine lv_aload_n hx hb dX0_sizeWith_28 rfl (lv_at hl 1 rfl) ?_
  refine va_get (D := D) (ci := 3) (v := .ref ins) (C := RX0) (T := TX0) (N := 7) hx hb hts (by decide +kernel) hown hK hP 0 rfl rfl 0 (by decide) (hts (.fieldLink RX0 21 "Joinrow$Joiner" "inside" "LJoinrow$Signs;") (by decide +kernel)) (fun _ h9 => h9) rfl dX0_sizeWith_29 ?_
  refine va_getN (D := D) (ci := 4) (v := .int (nI 0)) (C := RX1) (T := TX1) (N := 2) hx hb hts (by decide +kernel) hown hK hP 1 rfl rfl 1 (by decide) (hG.nest ("Joinrow$Joiner", 40, "Joinrow$Signs", "count", "I", "Joinrow") (by simp)) (fun _ h9 => h9) rfl dX0_sizeWith_32 ?_
  refine lv_iadd hx hb dX0_sizeWith_35 ?_
  refine lv_topi (fun t1 et1 => ?_)
  replace et1 := et1.trans (show ((nI 0) + (nI 0)) = (nI 0) from by decide)
  subst et1
  refine lv_iload_n hx hb dX0_sizeWith_36 rfl (lv_at hl 0 rfl) ?_
  refine lv_iadd hx hb dX0_sizeWith_37 ?_
  refine lv_topi (fun t2 et2 => ?_)
  replace et2 := et2.trans (show ((nI 0) + (nI 0)) = (nI 0) from by decide)
  subst et2
  refine lv_aload_n hx hb dX0_sizeWith_38 rfl (lv_at hl 1 rfl) ?_
  refine va_get (D := D) (ci := 3) (v := .ref w) (C := RX0) (T := TX0) (N := 7) hx hb hts (by decide +kernel) hown hK hP 0 rfl rfl 4 (by decide) (hts (.fieldLink RX0 34 "Joinrow$Joiner" "suffix" "LJoinrow$Signs;") (by decide +kernel)) (fun _ h9 => h9) rfl dX0_sizeWith_39 ?_
  refine va_getN (D := D) (ci := 4) (v := .int (nI 0)) (C := RX1) (T := TX1) (N := 2) hx hb hts (by decide +kernel) hown hK hP 2 rfl rfl 1 (by decide) (hG.nest ("Joinrow$Joiner", 40, "Joinrow$Signs", "count", "I", "Joinrow") (by simp)) (fun _ h9 => h9) rfl dX0_sizeWith_42 ?_
  refine lv_iadd hx hb dX0_sizeWith_45 ?_
  refine lv_topi (fun t3 et3 => ?_)
  replace et3 := et3.trans (show ((nI 0) + (nI 0)) = (nI 0) from by decide)
  subst et3
  have hz0 := hS.1
  refine z_keepW (fun hkp => ?_)
  exact z_reti (v := (nI 0)) () hx hb hr (by first | rfl | decide) hlocks rfl hK [] rfl hP hD hS [0, 1, 2] (by decide) rfl (by omega) (zw_keep hkp) (fun _ _ _ => trivial) dX0_sizeWith_46
set_option maxRecDepth 100000 in
set_option maxHeartbeats 4000000 in
/-- sizeWith(0), all texts and the inside empty: 0 -/
theorem c_sizeWith1 (l : Launch) (D : va_G) (N0 : Nat) (e : zE) (sz mz : Nat) (j : Nat) (ins : Nat) (em : Nat) (w : Nat) (ri : Nat) (rw : Nat) (g : Nat)  : Met l yX0_sizeWith wsX0_sizeWith ({ frames := 0, cells := 0, slots := 0, locals := 0 }) (va_Pc [.ref j, .int (nI 0)] (zP N0 e D [] [(j, .inr (3, [.ref ins, .ref em, .ref w, .ref w, .ref w, .int (nI 1), .int (nI g)])), (ins, .inr (4, [.ref ri, .int (nI 0)])), (w, .inr (4, [.ref rw, .int (nI 0)]))] sz mz [])) (zQi (fun (r : Int32) (_ : Unit) => r = (nI 0)) D (fun (_ : Unit) => ([(j, .inr (3, [.ref ins, .ref em, .ref w, .ref w, .ref w, .int (nI 1), .int (nI g)])), (ins, .inr (4, [.ref ri, .int (nI 0)])), (w, .inr (4, [.ref rw, .int (nI 0)]))] : va_W)) (fun (_ : Unit) => ([] : List (ClassId × FieldType))) sz (0) mz (0) (fun (_ : Unit) (t : State) => True) (va_A [(j, .inr (3, [.ref ins, .ref em, .ref w, .ref w, .ref w, .int (nI 1), .int (nI g)])), (ins, .inr (4, [.ref ri, .int (nI 0)])), (w, .inr (4, [.ref rw, .int (nI 0)]))] sz)) (0) (0) (va_A [(j, .inr (3, [.ref ins, .ref em, .ref w, .ref w, .ref w, .int (nI 1), .int (nI g)])), (ins, .inr (4, [.ref ri, .int (nI 0)])), (w, .inr (4, [.ref rw, .int (nI 0)]))] sz) := by
  refine z_met (Qc := fun A => zQi (fun (r : Int32) (_ : Unit) => r = (nI 0)) D (fun (_ : Unit) => ([(j, .inr (3, [.ref ins, .ref em, .ref w, .ref w, .ref w, .int (nI 1), .int (nI g)])), (ins, .inr (4, [.ref ri, .int (nI 0)])), (w, .inr (4, [.ref rw, .int (nI 0)]))] : va_W)) (fun (_ : Unit) => ([] : List (ClassId × FieldType))) sz (0) mz (0) (fun (_ : Unit) (t : State) => True) A) (cc := cX0_sizeWith) (maxL := 3) (ret := (some .int)) RX0 rfl (by decide) rfl (Nat.le_of_ble_eq_true rfl) ?_
  intro p ev s m below meth c ls A hx hb hr hml hown hts hlocks hnm hsz hmz hN hAe hA hAN hS hP hK hD hG hL hl
  subst hsz
  subst hmz
  have hl : lv_has ls 3 [(0, .ref j), (1, .int (nI 0))] := hl
  refine lv_aload_n hx hb dX0_sizeWith_0 rfl (lv_at hl 0 rfl) ?_
  refine va_get (D := D) (ci := 3) (v := .int (nI 1)) (C := RX0) (T := TX0) (N := 7) hx hb hts (by decide +kernel) hown hK hP 0 rfl rfl 5 (by decide) (hts (.fieldLink RX0 7 "Joinrow$Joiner" "isFilled" "Z") (by decide +kernel)) (fun _ h9 => h9) rfl dX0_sizeWith_1 ?_
  refine lv_if_eq (tgt := 19) hx hb dX0_sizeWith_4 (by decide) (fun hq => absurd hq (show ¬ ((nI 1) = (nI 0)) from fun hq => absurd ((nI_eq (by omega) (by omega)).mp hq) (by omega))) (fun _ => ?_)
  refine lv_aload_n hx hb dX0_sizeWith_7 rfl (lv_at hl 0 rfl) ?_
  refine va_get (D := D) (ci := 3) (v := .ref w) (C := RX0) (T := TX0) (N := 7) hx hb hts (by decide +kernel) hown hK hP 0 rfl rfl 2 (by decide) (hts (.fieldLink RX0 28 "Joinrow$Joiner" "between" "LJoinrow$Signs;") (by decide +kernel)) (fun _ h9 => h9) rfl dX0_sizeWith_8 ?_
  refine va_getN (D := D) (ci := 4) (v := .int (nI 0)) (C := RX1) (T := TX1) (N := 2) hx hb hts (by decide +kernel) hown hK hP 2 rfl rfl 1 (by decide) (hG.nest ("Joinrow$Joiner", 40, "Joinrow$Signs", "count", "I", "Joinrow") (by simp)) (fun _ h9 => h9) rfl dX0_sizeWith_11 ?_
  refine lv_iload_n hx hb dX0_sizeWith_14 rfl (lv_at hl 1 rfl) ?_
  refine lv_iadd hx hb dX0_sizeWith_15 ?_
  refine lv_topi (fun t1 et1 => ?_)
  replace et1 := et1.trans (show ((nI 0) + (nI 0)) = (nI 0) from by decide)
  subst et1
  refine lv_goto (tgt := 20) hx hb dX0_sizeWith_16 (by decide) ?_
  refine lv_istore_n (lv' := [(2, .int (nI 0)), (0, .ref j), (1, .int (nI 0))]) hx hb dX0_sizeWith_20 rfl hl (by decide) rfl (fun ls hl => ?_)
  refine lv_aload_n hx hb dX0_sizeWith_21 rfl (lv_at hl 1 rfl) ?_
  refine va_get (D := D) (ci := 3) (v := .ref w) (C := RX0) (T := TX0) (N := 7) hx hb hts (by decide +kernel) hown hK hP 0 rfl rfl 3 (by decide) (hts (.fieldLink RX0 31 "Joinrow$Joiner" "prefix" "LJoinrow$Signs;") (by decide +kernel)) (fun _ h9 => h9) rfl dX0_sizeWith_22 ?_
  refine va_getN (D := D) (ci := 4) (v := .int (nI 0)) (C := RX1) (T := TX1) (N := 2) hx hb hts (by decide +kernel) hown hK hP 2 rfl rfl 1 (by decide) (hG.nest ("Joinrow$Joiner", 40, "Joinrow$Signs", "count", "I", "Joinrow") (by simp)) (fun _ h9 => h9) rfl dX0_sizeWith_25 ?_
  refine lv_aload_n hx hb dX0_sizeWith_28 rfl (lv_at hl 1 rfl) ?_
  refine va_get (D := D) (ci := 3) (v := .ref ins) (C := RX0) (T := TX0) (N := 7) hx hb hts (by decide +kernel) hown hK hP 0 rfl rfl 0 (by decide) (hts (.fieldLink RX0 21 "Joinrow$Joiner" "inside" "LJoinrow$Signs;") (by decide +kernel)) (fun _ h9 => h9) rfl dX0_sizeWith_29 ?_
  refine va_getN (D := D) (ci := 4) (v := .int (nI 0)) (C := RX1) (T := TX1) (N := 2) hx hb hts (by decide +kernel) hown hK hP 1 rfl rfl 1 (by decide) (hG.nest ("Joinrow$Joiner", 40, "Joinrow$Signs", "count", "I", "Joinrow") (by simp)) (fun _ h9 => h9) rfl dX0_sizeWith_32 ?_
  refine lv_iadd hx hb dX0_sizeWith_35 ?_
  refine lv_topi (fun t2 et2 => ?_)
  replace et2 := et2.trans (show ((nI 0) + (nI 0)) = (nI 0) from by decide)
  subst et2
  refine lv_iload_n hx hb dX0_sizeWith_36 rfl (lv_at hl 0 rfl) ?_
  refine lv_iadd hx hb dX0_sizeWith_37 ?_
  refine lv_topi (fun t3 et3 => ?_)
  replace et3 := et3.trans (show ((nI 0) + (nI 0)) = (nI 0) from by decide)
  subst et3
  refine lv_aload_n hx hb dX0_sizeWith_38 rfl (lv_at hl 1 rfl) ?_
  refine va_get (D := D) (ci := 3) (v := .ref w) (C := RX0) (T := TX0) (N := 7) hx hb hts (by decide +kernel) hown hK hP 0 rfl rfl 4 (by decide) (hts (.fieldLink RX0 34 "Joinrow$Joiner" "suffix" "LJoinrow$Signs;") (by decide +kernel)) (fun _ h9 => h9) rfl dX0_sizeWith_39 ?_
  refine va_getN (D := D) (ci := 4) (v := .int (nI 0)) (C := RX1) (T := TX1) (N := 2) hx hb hts (by decide +kernel) hown hK hP 2 rfl rfl 1 (by decide) (hG.nest ("Joinrow$Joiner", 40, "Joinrow$Signs", "count", "I", "Joinrow") (by simp)) (fun _ h9 => h9) rfl dX0_sizeWith_42 ?_
  refine lv_iadd hx hb dX0_sizeWith_45 ?_
  refine lv_topi (fun t4 et4 => ?_)
  replace et4 := et4.trans (show ((nI 0) + (nI 0)) = (nI 0) from by decide)
  subst et4
  have hz0 := hS.1
  refine z_keepW (fun hkp => ?_)
  exact z_reti (v := (nI 0)) () hx hb hr (by first | rfl | decide) hlocks rfl hK [] rfl hP hD hS [0, 1, 2] (by decide) rfl (by omega) (zw_keep hkp) (fun _ _ _ => trivial) dX0_sizeWith_46
