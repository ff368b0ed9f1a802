set_option maxRecDepth 100000 in
set_option maxHeartbeats 4000000 in
/-- Signs.putString: the count is the text's length -/
theorem c_putS (l : Launch) (D : va_G) (N0 : Nat) (e : zE) (sz mz : Nat) (hh : Nat) (row : Nat) (cR : ClassId) (fr : Nat → Int32) (sa : Nat) (sv : Nat) (sn : Nat) (h4 : sn ≤ 4) : Met l yX1_putString wsX1_putString ({ frames := 4, cells := 0, slots := 0, locals := 85 }) (va_Pc [.ref hh, .ref sa] (zP N0 e D [(cR, .char)] [(hh, .inr (4, [.ref row, .int (nI 0)])), (row, .inl (cR, 4, .inl fr))] sz mz [(sa, sv, sn)])) (zQv (fun (f2 : Nat → Int32) => True) D (fun (f2 : Nat → Int32) => ([(hh, .inr (4, [.ref row, .int (nI sn)])), (row, .inl (cR, 4, .inl f2))] : va_W)) (fun (f2 : Nat → Int32) => ([] : List (ClassId × FieldType))) sz (0) mz (0) (fun (f2 : Nat → Int32) (t : State) => True) (va_A [(hh, .inr (4, [.ref row, .int (nI 0)])), (row, .inl (cR, 4, .inl fr))] sz)) (0) (0) (va_A [(hh, .inr (4, [.ref row, .int (nI 0)])), (row, .inl (cR, 4, .inl fr))] sz) := by
  refine z_met (Qc := fun A => zQv (fun (f2 : Nat → Int32) => True) D (fun (f2 : Nat → Int32) => ([(hh, .inr (4, [.ref row, .int (nI sn)])), (row, .inl (cR, 4, .inl f2))] : va_W)) (fun (f2 : Nat → Int32) => ([] : List (ClassId × FieldType))) sz (0) mz (0) (fun (f2 : Nat → Int32) (t : State) => True) A) (cc := cX1_putString) (maxL := 3) (ret := none) RX1 rfl (by decide) rfl (Nat.le_of_ble_eq_true rfl) ?_
  intro p ev s m below meth c ls A hx hb hr hml hown hts hlocks hnm hsz hmz hN hAe hA hAN hS hP hK hD hG hL hl
  subst hsz
  subst hmz
  have hl : lv_has ls 3 [(0, .ref hh), (1, .ref sa)] := hl
  have zH_sa : zs sa sv (sn) A s s.heap := hL (sa, sv, sn) (by simp)
  obtain ⟨z1_sa, z2_sa, z3_sa, zf_sa, z4_sa, z5_sa⟩ := id zH_sa
  have zna_sa := zH_sa.na
  have znv_sa := zH_sa.nv
  have loop : ∀ (n i : Nat), i ≤ sn → sn + 1 ≤ i + n → ∀ (gg : Nat → Int32) (H : Heap) (locs : List Loc), va_P D vwCl [(hh, .inr (4, [.ref row, .int (nI i)])), (row, .inl (cR, 4, .inl gg))] H → va_D A [(hh, .inr (4, [.ref row, .int (nI i)])), (row, .inl (cR, 4, .inl gg))] → va_S A s.heap H locs → ∀ (ls : Array Slot), lv_has ls 3 [(2, .int (nI i)), (0, .ref hh), (1, .ref sa)] → W p l ev { frames := 4, cells := 0, slots := 0, locals := 85 } s m [.ref hh, .ref sa].toArray below meth c H locs 0 0 (MQ below (zQv (fun (f2 : Nat → Int32) => True) D (fun (f2 : Nat → Int32) => ([(hh, .inr (4, [.ref row, .int (nI sn)])), (row, .inl (cR, 4, .inl f2))] : va_W)) (fun (f2 : Nat → Int32) => ([] : List (ClassId × FieldType))) s.heap.size (0) (zw s.heap) (0) (fun (f2 : Nat → Int32) (t : State) => True) A) [.ref hh, .ref sa].toArray s (0) (0) A) (F0 m 2 ls []) := by
    intro n
    induction n with
    | zero =>
      intro i h1 h2
      exact absurd h2 (by omega)
    | succ n ih =>
      intro i hi hin gg H locs hP hD hS ls hl
      rcases Nat.lt_or_ge i sn with hlt | hge
      · skip
        refine lv_iload_n hx hb dX1_putString_2 rfl (lv_at hl 0 rfl) ?_
        refine lv_aload_n hx hb dX1_putString_3 rfl (lv_at hl 2 rfl) ?_
        have hFc := va_free (wc := []) hD hS hA [] rfl
        have kc1 : 0 + (0) ≤ 0 := by omega
        have ks2 : 0 + (0) ≤ 0 := by omega
        refine z_calli (wr := [(hh, .inr (4, [.ref row, .int (nI i)])), (row, .inl (cR, 4, .inl gg))]) (va_runV (As := []) (rest := [.int (nI i)]) ⟨hx, hb, hml, hown, hts⟩ (c_slen l D N0 e H.size (zw H) sa sv sn (by omega)) (cwV 0 hts gX1_putString_J0_length_8abf5 rfl rfl rfl (by decide +kernel) ⟨Nat.le_of_ble_eq_true rfl, Nat.le_of_ble_eq_true rfl⟩) ⟨zP.blind, (zrecv (zstart zH_sa hS)), (z_pre hK hP hD hS hAN hN hG [] (by decide) rfl [] rfl (List.forall_mem_cons.mpr ⟨((zstart zH_sa hS).wall (z_inA zna_sa hFc) (z_inA znv_sa hFc)), fun q hq => absurd hq List.not_mem_nil⟩))⟩ rfl rfl hl.1 rfl (lv_room (Nat.le_of_ble_eq_true rfl)) dX1_putString_4 ⟨kc1, ks2⟩) hK hP hD hS hA [] rfl [0, 1] rfl (by decide) (by decide) (fun r4 u t H locs ht hvm hw_c3 hY_c3 hz_c3 hm_c3 hk_c3 hK hP hD hS => ?_)
        have hP : va_P D vwCl [(hh, .inr (4, [.ref row, .int (nI i)])), (row, .inl (cR, 4, .inl gg))] H := hP
        have hD : va_D A [(hh, .inr (4, [.ref row, .int (nI i)])), (row, .inl (cR, 4, .inl gg))] := hD
        have hK : va_K D vwCl [(cR, .char)] s := hK
        have hs5 := hS.1
        refine W.widen (k := 0) (n := 0) (by omega) (by omega) ?_
        subst hw_c3
        refine lv_icmp_ge (tgt := 25) hx hb dX1_putString_7 (by decide) (fun hq => absurd hq (show ¬ ((nI sn) ≤ (nI i)) from fun hq => absurd ((nI_leI (by omega) (by omega)).mp hq) (by omega))) (fun _ => ?_)
        refine lv_aload_n hx hb dX1_putString_10 rfl (lv_at hl 1 rfl) ?_
        refine lv_aload_n hx hb dX1_putString_11 rfl (lv_at hl 2 rfl) ?_
        refine lv_iload_n hx hb dX1_putString_12 rfl (lv_at hl 0 rfl) ?_
        have hFc := va_free (wc := []) hD hS hA [] rfl
        have kc6 : 0 + (0) ≤ 0 := by omega
        have ks7 : 0 + (0) ≤ 0 := by omega
        refine z_calli (wr := [(hh, .inr (4, [.ref row, .int (nI i)])), (row, .inl (cR, 4, .inl gg))]) (va_runV (As := [.int (nI i)]) (rest := [.ref hh]) ⟨hx, hb, hml, hown, hts⟩ (c_ch l D N0 e H.size (zw H) sa sv sn i (by omega) hlt) (cwV 1 hts gX1_putString_J0_charAt_5068e rfl rfl rfl (by decide +kernel) ⟨Nat.le_of_ble_eq_true rfl, Nat.le_of_ble_eq_true rfl⟩) ⟨zP.blind, (zrecv (zstart zH_sa hS)), (z_pre hK hP hD hS hAN hN hG [] (by decide) rfl [] rfl (List.forall_mem_cons.mpr ⟨((zstart zH_sa hS).wall (z_inA zna_sa hFc) (z_inA znv_sa hFc)), fun q hq => absurd hq List.not_mem_nil⟩))⟩ rfl rfl hl.1 rfl (lv_room (Nat.le_of_ble_eq_true rfl)) dX1_putString_13 ⟨kc6, ks7⟩) hK hP hD hS hA [] rfl [0, 1] rfl (by decide) (by decide) (fun rch u t H locs ht hvm hw_c8 hY_c8 hz_c8 hm_c8 hk_c8 hK hP hD hS => ?_)
        have hP : va_P D vwCl [(hh, .inr (4, [.ref row, .int (nI i)])), (row, .inl (cR, 4, .inl gg))] H := hP
        have hD : va_D A [(hh, .inr (4, [.ref row, .int (nI i)])), (row, .inl (cR, 4, .inl gg))] := hD
        have hK : va_K D vwCl [(cR, .char)] s := hK
        have hs9 := hS.1
        refine W.widen (k := 0) (n := 0) (by omega) (by omega) ?_
        have hFc := va_free (wc := [(hh, .inr (4, [.ref row, .int (nI i)])), (row, .inl (cR, 4, .inl gg))]) hD hS hA [0, 1] rfl
        have kc10 : 0 + (0) ≤ 0 := by omega
        have ks11 : 0 + (0) ≤ 0 := by omega
        refine z_callv (wr := []) (va_runV (As := [.int (rch)]) (rest := []) ⟨hx, hb, hml, hown, hts⟩ (c_put l D N0 e H.size (zw H) hh row i cR gg rch (by omega)) (cwV 1 hts gX1_putString_X1_put rfl rfl rfl (by decide +kernel) ⟨Nat.le_of_ble_eq_true rfl, Nat.le_of_ble_eq_true rfl⟩) ⟨zP.blind, (va_recv hK hP (ci := 4) (q0 := 0) rfl rfl), (z_pre hK hP hD hS hAN hN hG [0, 1] (by decide) rfl [0] rfl (fun q hq => absurd hq List.not_mem_nil))⟩ rfl rfl hl.1 rfl (lv_room (Nat.le_of_ble_eq_true rfl)) dX1_putString_16 ⟨kc10, ks11⟩) hK hP hD hS hA [0, 1] rfl [] rfl (by decide) (by decide) (fun u t H locs ht hvm hw_c12 hY_c12 hz_c12 hm_c12 hk_c12 hK hP hD hS => ?_)
        obtain ⟨g2, rfl⟩ : ∃ z, z = u := ⟨_, rfl⟩
        try dsimp only at hw_c12 hY_c12
        have hP : va_P D vwCl [(hh, .inr (4, [.ref row, .int (nI (i + 1))])), (row, .inl (cR, 4, .inl g2))] H := hP
        have hD : va_D A [(hh, .inr (4, [.ref row, .int (nI (i + 1))])), (row, .inl (cR, 4, .inl g2))] := hD
        have hK : va_K D vwCl [(cR, .char)] s := hK
        have hs14 := hS.1
        refine W.widen (k := 0) (n := 0) (by omega) (by omega) ?_
        refine lv_iinc (v := (nI (i + 1))) (lv' := [(2, .int (nI (i + 1))), (0, .ref hh), (1, .ref sa)]) hx hb dX1_putString_19 hl (k := 0) rfl (nI_add (i) 1) (by decide) rfl (fun ls hl => ?_)
        refine lv_goto (tgt := 2) hx hb dX1_putString_22 (by decide) ?_
        exact ih (i + 1) hlt (by omega) g2 _ _ hP hD hS ls (lv_sub hl [0, 1, 2] rfl)
      · skip
        refine lv_iload_n hx hb dX1_putString_2 rfl (lv_at hl 0 rfl) ?_
        refine lv_aload_n hx hb dX1_putString_3 rfl (lv_at hl 2 rfl) ?_
        have hFc := va_free (wc := []) hD hS hA [] rfl
        have kc15 : 0 + (0) ≤ 0 := by omega
        have ks16 : 0 + (0) ≤ 0 := by omega
        refine z_calli (wr := [(hh, .inr (4, [.ref row, .int (nI i)])), (row, .inl (cR, 4, .inl gg))]) (va_runV (As := []) (rest := [.int (nI i)]) ⟨hx, hb, hml, hown, hts⟩ (c_slen l D N0 e H.size (zw H) sa sv sn (by omega)) (cwV 0 hts gX1_putString_J0_length_8abf5 rfl rfl rfl (by decide +kernel) ⟨Nat.le_of_ble_eq_true rfl, Nat.le_of_ble_eq_true rfl⟩) ⟨zP.blind, (zrecv (zstart zH_sa hS)), (z_pre hK hP hD hS hAN hN hG [] (by decide) rfl [] rfl (List.forall_mem_cons.mpr ⟨((zstart zH_sa hS).wall (z_inA zna_sa hFc) (z_inA znv_sa hFc)), fun q hq => absurd hq List.not_mem_nil⟩))⟩ rfl rfl hl.1 rfl (lv_room (Nat.le_of_ble_eq_true rfl)) dX1_putString_4 ⟨kc15, ks16⟩) hK hP hD hS hA [] rfl [0, 1] rfl (by decide) (by decide) (fun r18 u t H locs ht hvm hw_c17 hY_c17 hz_c17 hm_c17 hk_c17 hK hP hD hS => ?_)
        have hP : va_P D vwCl [(hh, .inr (4, [.ref row, .int (nI i)])), (row, .inl (cR, 4, .inl gg))] H := hP
        have hD : va_D A [(hh, .inr (4, [.ref row, .int (nI i)])), (row, .inl (cR, 4, .inl gg))] := hD
        have hK : va_K D vwCl [(cR, .char)] s := hK
        have hs19 := hS.1
        refine W.widen (k := 0) (n := 0) (by omega) (by omega) ?_
        subst hw_c17
        refine lv_icmp_ge (tgt := 25) hx hb dX1_putString_7 (by decide) (fun _ => ?_) (fun hq => absurd (show (nI sn) ≤ (nI i) from (nI_leI (by omega) (by omega)).mpr (by omega)) hq)
        have hz0 := hS.1
        obtain rfl : i = sn := by omega
        refine z_keepW (fun hkp => ?_)
        exact z_retv (gg) hx hb hr hlocks trivial hK [] rfl hP hD hS [0, 1] (by decide) rfl (by omega) (zw_keep hkp) (fun _ _ _ => trivial) dX1_putString_25
  refine lv_iconst (v := (nI 0)) hx hb dX1_putString_0 (by decide) ?_
  refine lv_istore_n (lv' := [(2, .int (nI 0)), (0, .ref hh), (1, .ref sa)]) hx hb dX1_putString_1 rfl hl (by decide) rfl (fun ls hl => ?_)
  exact loop (sn + 1) 0 (by omega) (by omega) fr _ _ hP hD hS ls hl
set_option maxRecDepth 100000 in
set_option maxHeartbeats 4000000 in
/-- spelledMark(60) -/
theorem c_mark60 (l : Launch) (D : va_G) (N0 : Nat) (e : zE) (sz mz : Nat)   : Met l yX2_spelledMark wsX2_spelledMark ({ frames := 0, cells := 0, slots := 0, locals := 0 }) (va_Pc [.int (nI 60)] (zP N0 e D [] [] sz mz [])) (zQr (fun (_ : Unit) (ra : Nat) => ra = (e.2.2.1 1)) D (fun (_ : Unit) => ([] : va_W)) (fun (_ : Unit) => ([] : List (ClassId × FieldType))) sz (0) mz (0) (fun (_ : Unit) (t : State) => True) (va_A [] sz)) (0) (0) (va_A [] sz) := by
  refine z_met (Qc := fun A => zQr (fun (_ : Unit) (ra : Nat) => ra = (e.2.2.1 1)) D (fun (_ : Unit) => ([] : va_W)) (fun (_ : Unit) => ([] : List (ClassId × FieldType))) sz (0) mz (0) (fun (_ : Unit) (t : State) => True) A) (cc := cX2_spelledMark) (maxL := 1) (ret := (some (.object "java/lang/String"))) RX2 rfl (by decide) rfl (Nat.le_of_ble_eq_true rfl) ?_
  intro p ev s m below meth c ls A hx hb hr hml hown hts hlocks hnm hsz hmz hN hAe hA hAN hS hP hK hD hG hL hl
  subst hsz
  subst hmz
  have hl : lv_has ls 1 [(0, .int (nI 60))] := hl
  refine lv_iload_n hx hb dX2_spelledMark_0 rfl (lv_at hl 0 rfl) ?_
  refine lv_tableIn (off := 51) (tgt := 52) hx hb dX2_spelledMark_1 (by decide) (by decide) (by decide) (by decide) ?_
  refine va_ldcS hx hb hown (hG.2.2.2.2.2.1 ("Joinrow", 240, ",", 1) (by simp)) dX2_spelledMark_52 ?_
  have hz0 := hS.1
  refine z_keepW (fun hkp => ?_)
  exact z_retr (q := (e.2.2.1 1)) () hx hb hr (Or.inl ⟨_, rfl⟩) hlocks rfl hK [] rfl hP hD hS [] (by decide) rfl (by omega) (zw_keep hkp) (fun _ _ _ => trivial) dX2_spelledMark_54
set_option maxRecDepth 100000 in
set_option maxHeartbeats 4000000 in
/-- spelledMark(61) -/
theorem c_mark61 (l : Launch) (D : va_G) (N0 : Nat) (e : zE) (sz mz : Nat)   : Met l yX2_spelledMark wsX2_spelledMark ({ frames := 0, cells := 0, slots := 0, locals := 0 }) (va_Pc [.int (nI 61)] (zP N0 e D [] [] sz mz [])) (zQr (fun (_ : Unit) (ra : Nat) => ra = (e.2.2.1 4)) D (fun (_ : Unit) => ([] : va_W)) (fun (_ : Unit) => ([] : List (ClassId × FieldType))) sz (0) mz (0) (fun (_ : Unit) (t : State) => True) (va_A [] sz)) (0) (0) (va_A [] sz) := by
  refine z_met (Qc := fun A => zQr (fun (_ : Unit) (ra : Nat) => ra = (e.2.2.1 4)) D (fun (_ : Unit) => ([] : va_W)) (fun (_ : Unit) => ([] : List (ClassId × FieldType))) sz (0) mz (0) (fun (_ : Unit) (t : State) => True) A) (cc := cX2_spelledMark) (maxL := 1) (ret := (some (.object "java/lang/String"))) RX2 rfl (by decide) rfl (Nat.le_of_ble_eq_true rfl) ?_
  intro p ev s m below meth c ls A hx hb hr hml hown hts hlocks hnm hsz hmz hN hAe hA hAN hS hP hK hD hG hL hl
  subst hsz
  subst hmz
  have hl : lv_has ls 1 [(0, .int (nI 61))] := hl
  refine lv_iload_n hx hb dX2_spelledMark_0 rfl (lv_at hl 0 rfl) ?_
  refine lv_tableIn (off := 54) (tgt := 55) hx hb dX2_spelledMark_1 (by decide) (by decide) (by decide) (by decide) ?_
  refine va_ldcS hx hb hown (hG.2.2.2.2.2.1 ("Joinrow", 242, ", ", 4) (by simp)) dX2_spelledMark_55 ?_
  have hz0 := hS.1
  refine z_keepW (fun hkp => ?_)
  exact z_retr (q := (e.2.2.1 4)) () hx hb hr (Or.inl ⟨_, rfl⟩) hlocks rfl hK [] rfl hP hD hS [] (by decide) rfl (by omega) (zw_keep hkp) (fun _ _ _ => trivial) dX2_spelledMark_57
set_option maxRecDepth 100000 in
set_option maxHeartbeats 4000000 in
/-- spelledMark(62) -/
theorem c_mark62 (l : Launch) (D : va_G) (N0 : Nat) (e : zE) (sz mz : Nat)   : Met l yX2_spelledMark wsX2_spelledMark ({ frames := 0, cells := 0, slots := 0, locals := 0 }) (va_Pc [.int (nI 62)] (zP N0 e D [] [] sz mz [])) (zQr (fun (_ : Unit) (ra : Nat) => ra = (e.2.2.1 5)) D (fun (_ : Unit) => ([] : va_W)) (fun (_ : Unit) => ([] : List (ClassId × FieldType))) sz (0) mz (0) (fun (_ : Unit) (t : State) => True) (va_A [] sz)) (0) (0) (va_A [] sz) := by
  refine z_met (Qc := fun A => zQr (fun (_ : Unit) (ra : Nat) => ra = (e.2.2.1 5)) D (fun (_ : Unit) => ([] : va_W)) (fun (_ : Unit) => ([] : List (ClassId × FieldType))) sz (0) mz (0) (fun (_ : Unit) (t : State) => True) A) (cc := cX2_spelledMark) (maxL := 1) (ret := (some (.object "java/lang/String"))) RX2 rfl (by decide) rfl (Nat.le_of_ble_eq_true rfl) ?_
  intro p ev s m below meth c ls A hx hb hr hml hown hts hlocks hnm hsz hmz hN hAe hA hAN hS hP hK hD hG hL hl
  subst hsz
  subst hmz
  have hl : lv_has ls 1 [(0, .int (nI 62))] := hl
  refine lv_iload_n hx hb dX2_spelledMark_0 rfl (lv_at hl 0 rfl) ?_
  refine lv_tableIn (off := 57) (tgt := 58) hx hb dX2_spelledMark_1 (by decide) (by decide) (by decide) (by decide) ?_
  refine va_ldcS hx hb hown (hG.2.2.2.2.2.1 ("Joinrow", 244, "-", 5) (by simp)) dX2_spelledMark_58 ?_
  have hz0 := hS.1
  refine z_keepW (fun hkp => ?_)
  exact z_retr (q := (e.2.2.1 5)) () hx hb hr (Or.inl ⟨_, rfl⟩) hlocks rfl hK [] rfl hP hD hS [] (by decide) rfl (by omega) (zw_keep hkp) (fun _ _ _ => trivial) dX2_spelledMark_60
set_option maxRecDepth 100000 in
set_option maxHeartbeats 4000000 in
/-- spelledMark(63) -/
theorem c_mark63 (l : Launch) (D : va_G) (N0 : Nat) (e : zE) (sz mz : Nat)   : Met l yX2_spelledMark wsX2_spelledMark ({ frames := 0, cells := 0, slots := 0, locals := 0 }) (va_Pc [.int (nI 63)] (zP N0 e D [] [] sz mz [])) (zQr (fun (_ : Unit) (ra : Nat) => ra = (e.2.2.1 6)) D (fun (_ : Unit) => ([] : va_W)) (fun (_ : Unit) => ([] : List (ClassId × FieldType))) sz (0) mz (0) (fun (_ : Unit) (t : State) => True) (va_A [] sz)) (0) (0) (va_A [] sz) := by
  refine z_met (Qc := fun A => zQr (fun (_ : Unit) (ra : Nat) => ra = (e.2.2.1 6)) D (fun (_ : Unit) => ([] : va_W)) (fun (_ : Unit) => ([] : List (ClassId × FieldType))) sz (0) mz (0) (fun (_ : Unit) (t : State) => True) A) (cc := cX2_spelledMark) (maxL := 1) (ret := (some (.object "java/lang/String"))) RX2 rfl (by decide) rfl (Nat.le_of_ble_eq_true rfl) ?_
  intro p ev s m below meth c ls A hx hb hr hml hown hts hlocks hnm hsz hmz hN hAe hA hAN hS hP hK hD hG hL hl
  subst hsz
  subst hmz
  have hl : lv_has ls 1 [(0, .int (nI 63))] := hl
  refine lv_iload_n hx hb dX2_spelledMark_0 rfl (lv_at hl 0 rfl) ?_
  refine lv_tableIn (off := 60) (tgt := 61) hx hb dX2_spelledMark_1 (by decide) (by decide) (by decide) (by decide) ?_
  refine va_ldcS hx hb hown (hG.2.2.2.2.2.1 ("Joinrow", 246, "::", 6) (by simp)) dX2_spelledMark_61 ?_
  have hz0 := hS.1
  refine z_keepW (fun hkp => ?_)
  exact z_retr (q := (e.2.2.1 6)) () hx hb hr (Or.inl ⟨_, rfl⟩) hlocks rfl hK [] rfl hP hD hS [] (by decide) rfl (by omega) (zw_keep hkp) (fun _ _ _ => trivial) dX2_spelledMark_63
set_option maxRecDepth 100000 in
set_option maxHeartbeats 4000000 in
/-- spelledMark(64) -/
theorem c_mark64 (l : Launch) (D : va_G) (N0 : Nat) (e : zE) (sz mz : Nat)   : Met l yX2_spelledMark wsX2_spelledMark ({ frames := 0, cells := 0, slots := 0, locals := 0 }) (va_Pc [.int (nI 64)] (zP N0 e D [] [] sz mz [])) (zQr (fun (_ : Unit) (ra : Nat) => ra = (e.2.2.1 2)) D (fun (_ : Unit) => ([] : va_W)) (fun (_ : Unit) => ([] : List (ClassId × FieldType))) sz (0) mz (0) (fun (_ : Unit) (t : State) => True) (va_A [] sz)) (0) (0) (va_A [] sz) := by
  refine z_met (Qc := fun A => zQr (fun (_ : Unit) (ra : Nat) => ra = (e.2.2.1 2)) D (fun (_ : Unit) => ([] : va_W)) (fun (_ : Unit) => ([] : List (ClassId × FieldType))) sz (0) mz (0) (fun (_ : Unit) (t : State) => True) A) (cc := cX2_spelledMark) (maxL := 1) (ret := (some (.object "java/lang/String"))) RX2 rfl (by decide) rfl (Nat.le_of_ble_eq_true rfl) ?_
  intro p ev s m below meth c ls A hx hb hr hml hown hts hlocks hnm hsz hmz hN hAe hA hAN hS hP hK hD hG hL hl
  subst hsz
  subst hmz
  have hl : lv_has ls 1 [(0, .int (nI 64))] := hl
  refine lv_iload_n hx hb dX2_spelledMark_0 rfl (lv_at hl 0 rfl) ?_
  refine lv_tableIn (off := 63) (tgt := 64) hx hb dX2_spelledMark_1 (by decide) (by decide) (by decide) (by decide) ?_
  refine va_ldcS hx hb hown (hG.2.2.2.2.2.1 ("Joinrow", 248, "[", 2) (by simp)) dX2_spelledMark_64 ?_
  have hz0 := hS.1
  refine z_keepW (fun hkp => ?_)
  exact z_retr (q := (e.2.2.1 2)) () hx hb hr (Or.inl ⟨_, rfl⟩) hlocks rfl hK [] rfl hP hD hS [] (by decide) rfl (by omega) (zw_keep hkp) (fun _ _ _ => trivial) dX2_spelledMark_66
set_option maxRecDepth 100000 in
set_option maxHeartbeats 4000000 in
/-- spelledMark(65) -/
theorem c_mark65 (l : Launch) (D : va_G) (N0 : Nat) (e : zE) (sz mz : Nat)   : Met l yX2_spelledMark wsX2_spelledMark ({ frames := 0, cells := 0, slots := 0, locals := 0 }) (va_Pc [.int (nI 65)] (zP N0 e D [] [] sz mz [])) (zQr (fun (_ : Unit) (ra : Nat) => ra = (e.2.2.1 3)) D (fun (_ : Unit) => ([] : va_W)) (fun (_ : Unit) => ([] : List (ClassId × FieldType))) sz (0) mz (0) (fun (_ : Unit) (t : State) => True) (va_A [] sz)) (0) (0) (va_A [] sz) := by
  refine z_met (Qc := fun A => zQr (fun (_ : Unit) (ra : Nat) => ra = (e.2.2.1 3)) D (fun (_ : Unit) => ([] : va_W)) (fun (_ : Unit) => ([] : List (ClassId × FieldType))) sz (0) mz (0) (fun (_ : Unit) (t : State) => True) A) (cc := cX2_spelledMark) (maxL := 1) (ret := (some (.object "java/lang/String"))) RX2 rfl (by decide) rfl (Nat.le_of_ble_eq_true rfl) ?_
  intro p ev s m below meth c ls A hx hb hr hml hown hts hlocks hnm hsz hmz hN hAe hA hAN hS hP hK hD hG hL hl
  subst hsz
  subst hmz
  have hl : lv_has ls 1 [(0, .int (nI 65))] := hl
  refine lv_iload_n hx hb dX2_spelledMark_0 rfl (lv_at hl 0 rfl) ?_
  refine lv_tableIn (off := 66) (tgt := 67) hx hb dX2_spelledMark_1 (by decide) (by decide) (by decide) (by decide) ?_
  refine va_ldcS hx hb hown (hG.2.2.2.2.2.1 ("Joinrow", 250, "]", 3) (by simp)) dX2_spelledMark_67 ?_
  have hz0 := hS.1
  refine z_keepW (fun hkp => ?_)
  exact z_retr (q := (e.2.2.1 3)) () hx hb hr (Or.inl ⟨_, rfl⟩) hlocks rfl hK [] rfl hP hD hS [] (by decide) rfl (by omega) (zw_keep hkp) (fun _ _ _ => trivial) dX2_spelledMark_69
set_option maxRecDepth 100000 in
set_option maxHeartbeats 4000000 in
/-- spelledMark(66) -/
theorem c_mark66 (l : Launch) (D : va_G) (N0 : Nat) (e : zE) (sz mz : Nat)   : Met l yX2_spelledMark wsX2_spelledMark ({ frames := 0, cells := 0, slots := 0, locals := 0 }) (va_Pc [.int (nI 66)] (zP N0 e D [] [] sz mz [])) (zQr (fun (_ : Unit) (ra : Nat) => ra = (e.2.2.1 7)) D (fun (_ : Unit) => ([] : va_W)) (fun (_ : Unit) => ([] : List (ClassId × FieldType))) sz (0) mz (0) (fun (_ : Unit) (t : State) => True) (va_A [] sz)) (0) (0) (va_A [] sz) := by
  refine z_met (Qc := fun A => zQr (fun (_ : Unit) (ra : Nat) => ra = (e.2.2.1 7)) D (fun (_ : Unit) => ([] : va_W)) (fun (_ : Unit) => ([] : List (ClassId × FieldType))) sz (0) mz (0) (fun (_ : Unit) (t : State) => True) A) (cc := cX2_spelledMark) (maxL := 1) (ret := (some (.object "java/lang/String"))) RX2 rfl (by decide) rfl (Nat.le_of_ble_eq_true rfl) ?_
  intro p ev s m below meth c ls A hx hb hr hml hown hts hlocks hnm hsz hmz hN hAe hA hAN hS hP hK hD hG hL hl
  subst hsz
  subst hmz
  have hl : lv_has ls 1 [(0, .int (nI 66))] := hl
  refine lv_iload_n hx hb dX2_spelledMark_0 rfl (lv_at hl 0 rfl) ?_
  refine lv_tableIn (off := 69) (tgt := 70) hx hb dX2_spelledMark_1 (by decide) (by decide) (by decide) (by decide) ?_
  refine va_ldcS hx hb hown (hG.2.2.2.2.2.1 ("Joinrow", 252, "(", 7) (by simp)) dX2_spelledMark_70 ?_
  have hz0 := hS.1
  refine z_keepW (fun hkp => ?_)
  exact z_retr (q := (e.2.2.1 7)) () hx hb hr (Or.inl ⟨_, rfl⟩) hlocks rfl hK [] rfl hP hD hS [] (by decide) rfl (by omega) (zw_keep hkp) (fun _ _ _ => trivial) dX2_spelledMark_72
set_option maxRecDepth 100000 in
set_option maxHeartbeats 4000000 in
/-- spelledMark(67) -/
theorem c_mark67 (l : Launch) (D : va_G) (N0 : Nat) (e : zE) (sz mz : Nat)   : Met l yX2_spelledMark wsX2_spelledMark ({ frames := 0, cells := 0, slots := 0, locals := 0 }) (va_Pc [.int (nI 67)] (zP N0 e D [] [] sz mz [])) (zQr (fun (_ : Unit) (ra : Nat) => ra = (e.2.2.1 8)) D (fun (_ : Unit) => ([] : va_W)) (fun (_ : Unit) => ([] : List (ClassId × FieldType))) sz (0) mz (0) (fun (_ : Unit) (t : State) => True) (va_A [] sz)) (0) (0) (va_A [] sz) := by
  refine z_met (Qc := fun A => zQr (fun (_ : Unit) (ra : Nat) => ra = (e.2.2.1 8)) D (fun (_ : Unit) => ([] : va_W)) (fun (_ : Unit) => ([] : List (ClassId × FieldType))) sz (0) mz (0) (fun (_ : Unit) (t : State) => True) A) (cc := cX2_spelledMark) (maxL := 1) (ret := (some (.object "java/lang/String"))) RX2 rfl (by decide) rfl (Nat.le_of_ble_eq_true rfl) ?_
  intro p ev s m below meth c ls A hx hb hr hml hown hts hlocks hnm hsz hmz hN hAe hA hAN hS hP hK hD hG hL hl
  subst hsz
  subst hmz
  have hl : lv_has ls 1 [(0, .int (nI 67))] := hl
  refine lv_iload_n hx hb dX2_spelledMark_0 rfl (lv_at hl 0 rfl) ?_
  refine lv_tableIn (off := 72) (tgt := 73) hx hb dX2_spelledMark_1 (by decide) (by decide) (by decide) (by decide) ?_
  refine va_ldcS hx hb hown (hG.2.2.2.2.2.1 ("Joinrow", 254, ")", 8) (by simp)) dX2_spelledMark_73 ?_
  have hz0 := hS.1
  refine z_keepW (fun hkp => ?_)
  exact z_retr (q := (e.2.2.1 8)) () hx hb hr (Or.inl ⟨_, rfl⟩) hlocks rfl hK [] rfl hP hD hS [] (by decide) rfl (by omega) (zw_keep hkp) (fun _ _ _ => trivial) dX2_spelledMark_75
set_option maxRecDepth 100000 in
set_option maxHeartbeats 4000000 in
/-- spelledMark(68) -/
theorem c_mark68 (l : Launch) (D : va_G) (N0 : Nat) (e : zE) (sz mz : Nat)   : Met l yX2_spelledMark wsX2_spelledMark ({ frames := 0, cells := 0, slots := 0, locals := 0 }) (va_Pc [.int (nI 68)] (zP N0 e D [] [] sz mz [])) (zQr (fun (_ : Unit) (ra : Nat) => ra = (e.2.2.1 9)) D (fun (_ : Unit) => ([] : va_W)) (fun (_ : Unit) => ([] : List (ClassId × FieldType))) sz (0) mz (0) (fun (_ : Unit) (t : State) => True) (va_A [] sz)) (0) (0) (va_A [] sz) := by
  refine z_met (Qc := fun A => zQr (fun (_ : Unit) (ra : Nat) => ra = (e.2.2.1 9)) D (fun (_ : Unit) => ([] : va_W)) (fun (_ : Unit) => ([] : List (ClassId × FieldType))) sz (0) mz (0) (fun (_ : Unit) (t : State) => True) A) (cc := cX2_spelledMark) (maxL := 1) (ret := (some (.object "java/lang/String"))) RX2 rfl (by decide) rfl (Nat.le_of_ble_eq_true rfl) ?_
  intro p ev s m below meth c ls A hx hb hr hml hown hts hlocks hnm hsz hmz hN hAe hA hAN hS hP hK hD hG hL hl
  subst hsz
  subst hmz
  have hl : lv_has ls 1 [(0, .int (nI 68))] := hl
  refine lv_iload_n hx hb dX2_spelledMark_0 rfl (lv_at hl 0 rfl) ?_
  refine lv_tableIn (off := 75) (tgt := 76) hx hb dX2_spelledMark_1 (by decide) (by decide) (by decide) (by decide) ?_
  refine z_ldcwS hx hb hown (hG.2.2.2.2.2.1 ("Joinrow", 256, "{}", 9) (by simp)) dX2_spelledMark_76 ?_
  have hz0 := hS.1
  refine z_keepW (fun hkp => ?_)
  exact z_retr (q := (e.2.2.1 9)) () hx hb hr (Or.inl ⟨_, rfl⟩) hlocks rfl hK [] rfl hP hD hS [] (by decide) rfl (by omega) (zw_keep hkp) (fun _ _ _ => trivial) dX2_spelledMark_79
set_option maxRecDepth 100000 in
set_option maxHeartbeats 4000000 in
/-- spelledMark(69) -/
theorem c_mark69 (l : Launch) (D : va_G) (N0 : Nat) (e : zE) (sz mz : Nat)   : Met l yX2_spelledMark wsX2_spelledMark ({ frames := 0, cells := 0, slots := 0, locals := 0 }) (va_Pc [.int (nI 69)] (zP N0 e D [] [] sz mz [])) (zQr (fun (_ : Unit) (ra : Nat) => ra = (e.2.2.1 10)) D (fun (_ : Unit) => ([] : va_W)) (fun (_ : Unit) => ([] : List (ClassId × FieldType))) sz (0) mz (0) (fun (_ : Unit) (t : State) => True) (va_A [] sz)) (0) (0) (va_A [] sz) := by
  refine z_met (Qc := fun A => zQr (fun (_ : Unit) (ra : Nat) => ra = (e.2.2.1 10)) D (fun (_ : Unit) => ([] : va_W)) (fun (_ : Unit) => ([] : List (ClassId × FieldType))) sz (0) mz (0) (fun (_ : Unit) (t : State) => True) A) (cc := cX2_spelledMark) (maxL := 1) (ret := (some (.object "java/lang/String"))) RX2 rfl (by decide) rfl (Nat.le_of_ble_eq_true rfl) ?_
  intro p ev s m below meth c ls A hx hb hr hml hown hts hlocks hnm hsz hmz hN hAe hA hAN hS hP hK hD hG hL hl
  subst hsz
  subst hmz
  have hl : lv_has ls 1 [(0, .int (nI 69))] := hl
  refine lv_iload_n hx hb dX2_spelledMark_0 rfl (lv_at hl 0 rfl) ?_
  refine lv_tableOut (tgt := 80) hx hb dX2_spelledMark_1 (by decide) (by decide) ?_
  refine z_ldcwS hx hb hown (hG.2.2.2.2.2.1 ("Joinrow", 258, "null", 10) (by simp)) dX2_spelledMark_80 ?_
  have hz0 := hS.1
  refine z_keepW (fun hkp => ?_)
  exact z_retr (q := (e.2.2.1 10)) () hx hb hr (Or.inl ⟨_, rfl⟩) hlocks rfl hK [] rfl hP hD hS [] (by decide) rfl (by omega) (zw_keep hkp) (fun _ _ _ => trivial) dX2_spelledMark_83
set_option maxRecDepth 100000 in
set_option maxHeartbeats 4000000 in
/-- spelled(60) -/
theorem c_sp60 (l : Launch) (D : va_G) (N0 : Nat) (e : zE) (sz mz : Nat)   : Met l yX2_spelled wsX2_spelled ({ frames := 12, cells := 2, slots := 6, locals := 400 }) (va_Pc [.int (nI 60)] (zP N0 e D [] [] sz mz [])) (zQr (fun (u : Nat × Nat × ClassId × (Nat → Int32)) (ra : Nat) => ra = u.1) D (fun (u : Nat × Nat × ClassId × (Nat → Int32)) => ([(u.1, .inr (4, [.ref u.2.1, .int (nI (zc 60))])), (u.2.1, .inl (u.2.2.1, 4, .inl u.2.2.2))] : va_W)) (fun (u : Nat × Nat × ClassId × (Nat → Int32)) => ([(u.2.2.1, .char)] : List (ClassId × FieldType))) sz (0) mz (0) (fun (u : Nat × Nat × ClassId × (Nat → Int32)) (t : State) => True) (va_A [] sz)) (2) (6) (va_A [] sz) := by
  refine z_met (Qc := fun A => zQr (fun (u : Nat × Nat × ClassId × (Nat → Int32)) (ra : Nat) => ra = u.1) D (fun (u : Nat × Nat × ClassId × (Nat → Int32)) => ([(u.1, .inr (4, [.ref u.2.1, .int (nI (zc 60))])), (u.2.1, .inl (u.2.2.1, 4, .inl u.2.2.2))] : va_W)) (fun (u : Nat × Nat × ClassId × (Nat → Int32)) => ([(u.2.2.1, .char)] : List (ClassId × FieldType))) sz (0) mz (0) (fun (u : Nat × Nat × ClassId × (Nat → Int32)) (t : State) => True) A) (cc := cX2_spelled) (maxL := 3) (ret := (some (.object "Joinrow$Signs"))) RX2 rfl (by decide) rfl (Nat.le_of_ble_eq_true rfl) ?_
  intro p ev s m below meth c ls A hx hb hr hml hown hts hlocks hnm hsz hmz hN hAe hA hAN hS hP hK hD hG hL hl
  subst hsz
  subst hmz
  have hl : lv_has ls 3 [(0, .int (nI 60))] := hl
  have kc1 : 0 + 1 ≤ 2 := by omega
  have ks2 : 0 + 2 ≤ 6 := by omega
  refine z_new (ci := 4) (fs := [.null, .int 0]) (C := RX1) (T := TX1) (N := 2) hx hb hts (by decide +kernel) tyX1 tyX1_ok hown (hts (.classLink RX2 9 RX1) (by decide +kernel)) (hts (.instantiable RX1 2) (by decide +kernel)) (hts (.initialized RX1) (by decide +kernel)) hK hP hD hS hA rfl (fun j hj => by match j, hj with | 0, _ => rfl | 1, _ => rfl) kc1 ks2 dX2_spelled_0 (fun sq H hq_sq hz_sq hm_sq hk_sq hP hD hS => ?_)
  have hP : va_P D vwCl [(sq, .inr (4, [.null, .int (nI 0)]))] H := hP
  have hD : va_D A [(sq, .inr (4, [.null, .int (nI 0)]))] := hD
  have hs3 := hS.1
  refine W.widen (k := 1) (n := 2) (by omega) (by omega) ?_
  refine lv_dup hx hb dX2_spelled_3 rfl ?_
  refine lv_iconst (v := (nI 4)) hx hb dX2_spelled_4 (by decide) ?_
  have hFc := va_free (wc := [(sq, .inr (4, [.null, .int (nI 0)]))]) hD hS hA [0] rfl
  have kc4 : 1 + (1) ≤ 2 := by omega
  have ks5 : 2 + (4) ≤ 6 := by omega
  refine z_callv (wr := []) (va_runI (As := [.int (nI 4)]) (rest := [.ref sq]) ⟨hx, hb, hml, hown, hts⟩ (c_signs l D N0 e H.size (zw H) sq 4 (by decide)) (cwI 1 hts gX2_spelled_X1_init rfl rfl rfl (hts (.initialized RX1) (by decide +kernel)) (hts (.methodLink RX2 28 yX1_init) (by decide +kernel)) (hts (.instanceMethod yX1_init) (by decide +kernel)) rfl (by decide +kernel) ⟨Nat.le_of_ble_eq_true rfl, Nat.le_of_ble_eq_true rfl⟩) ⟨zP.blind, (z_pre hK hP hD hS hAN hN hG [0] (by decide) rfl [] rfl (fun q hq => absurd hq List.not_mem_nil))⟩ rfl rfl hl.1 rfl (lv_room (Nat.le_of_ble_eq_true rfl)) dX2_spelled_5 ⟨kc4, ks5⟩) hK hP hD hS hA [0] rfl [] rfl (by decide) (by decide) (fun u t H locs ht hvm hw_c6 hY_c6 hz_c6 hm_c6 hk_c6 hK hP hD hS => ?_)
  obtain ⟨rq, cq⟩ := u
  try dsimp only at hw_c6 hY_c6
  have hP : va_P D vwCl [(sq, .inr (4, [.ref rq, .int (nI 0)])), (rq, .inl (cq, 4, .inl (fun _ => 0)))] H := hP
  have hD : va_D A [(sq, .inr (4, [.ref rq, .int (nI 0)])), (rq, .inl (cq, 4, .inl (fun _ => 0)))] := hD
  have hK : va_K D vwCl [(cq, .char)] s := hK
  have hs8 := hS.1
  refine W.widen (k := 2) (n := 6) (by omega) (by omega) ?_
  refine lv_astore_n (lv' := [(1, .ref sq), (0, .int (nI 60))]) hx hb dX2_spelled_8 rfl hl (by decide) rfl (fun ls hl => ?_)
  refine lv_iload_n hx hb dX2_spelled_9 rfl (lv_at hl 1 rfl) ?_
  refine lv_bipush (v := (nI 60)) hx hb dX2_spelled_10 (by decide) ?_
  refine lv_icmp_lt (tgt := 25) hx hb dX2_spelled_12 (by decide) (fun hq => absurd hq (show ¬ ((nI 60) < (nI 60)) from fun hq => absurd ((nI_ltI (by omega) (by omega)).mp hq) (by omega))) (fun _ => ?_)
  refine lv_aload_n hx hb dX2_spelled_15 rfl (lv_at hl 0 rfl) ?_
  refine lv_iload_n hx hb dX2_spelled_16 rfl (lv_at hl 1 rfl) ?_
  have hFc := va_free (wc := []) hD hS hA [] rfl
  have kc9 : 2 + (0) ≤ 2 := by omega
  have ks10 : 6 + (0) ≤ 6 := by omega
  refine z_callr (wr := [(sq, .inr (4, [.ref rq, .int (nI 0)])), (rq, .inl (cq, 4, .inl (fun _ => 0)))]) (va_runS (As := [.int (nI 60)]) (rest := [.ref sq]) ⟨hx, hb, hml, hown, hts⟩ (c_mark60 l D N0 e H.size (zw H)  ) (va_cwS 1 hts gX2_spelled_X2_spelledMark rfl rfl rfl (by decide +kernel) ⟨Nat.le_of_ble_eq_true rfl, Nat.le_of_ble_eq_true rfl⟩) ⟨zP.blind, (z_pre hK hP hD hS hAN hN hG [] (by decide) rfl [] rfl (fun q hq => absurd hq List.not_mem_nil))⟩ rfl rfl hl.1 rfl (lv_room (Nat.le_of_ble_eq_true rfl)) dX2_spelled_17 ⟨kc9, ks10⟩) hK hP hD hS hA [] rfl [0, 1] rfl (by decide) (by decide) (fun u r12 t H locs ht hvm hw_c11 hY_c11 hz_c11 hm_c11 hk_c11 hK hP hD hS => ?_)
  have hP : va_P D vwCl [(sq, .inr (4, [.ref rq, .int (nI 0)])), (rq, .inl (cq, 4, .inl (fun _ => 0)))] H := hP
  have hD : va_D A [(sq, .inr (4, [.ref rq, .int (nI 0)])), (rq, .inl (cq, 4, .inl (fun _ => 0)))] := hD
  have hK : va_K D vwCl [(cq, .char)] s := hK
  have hs13 := hS.1
  refine W.widen (k := 2) (n := 6) (by omega) (by omega) ?_
  obtain rfl : (e.2.2.1 1) = r12 := Eq.symm hw_c11
  have hFc := va_free (wc := [(sq, .inr (4, [.ref rq, .int (nI 0)])), (rq, .inl (cq, 4, .inl (fun _ => 0)))]) hD hS hA [0, 1] rfl
  have hFN : ∀ q, va_A [(sq, .inr (4, [.ref rq, .int (nI 0)])), (rq, .inl (cq, 4, .inl (fun _ => 0)))] H.size q → N0 ≤ q := fun q hq => hAN q (hFc q hq)
  have kc14 : 2 + (0) ≤ 2 := by omega
  have ks15 : 6 + (0) ≤ 6 := by omega
  refine z_callv (wr := []) (va_runV (As := [.ref ((e.2.2.1 1))]) (rest := []) ⟨hx, hb, hml, hown, hts⟩ (c_putS l D N0 e H.size (zw H) sq rq cq ((fun _ => 0)) ((e.2.2.1 1)) ((e.2.2.2 1)) 1 (by decide)) (cwV 1 hts gX2_spelled_X1_putString rfl rfl rfl (by decide +kernel) ⟨Nat.le_of_ble_eq_true rfl, Nat.le_of_ble_eq_true rfl⟩) ⟨zP.blind, (va_recv hK hP (ci := 4) (q0 := 0) rfl rfl), (z_pre hK hP hD hS hAN hN hG [0, 1] (by decide) rfl [0] rfl (List.forall_mem_cons.mpr ⟨((zkst hG 1 (by decide) hS hAN).wall (z_low (hG.2.2.2.2.1 1 (by decide)).na hFN) (z_low (hG.2.2.2.2.1 1 (by decide)).nv hFN)), fun q hq => absurd hq List.not_mem_nil⟩))⟩ rfl rfl hl.1 rfl (lv_room (Nat.le_of_ble_eq_true rfl)) dX2_spelled_20 ⟨kc14, ks15⟩) hK hP hD hS hA [0, 1] rfl [] rfl (by decide) (by decide) (fun u t H locs ht hvm hw_c16 hY_c16 hz_c16 hm_c16 hk_c16 hK hP hD hS => ?_)
  obtain ⟨g2, rfl⟩ : ∃ z, z = u := ⟨_, rfl⟩
  try dsimp only at hw_c16 hY_c16
  have hP : va_P D vwCl [(sq, .inr (4, [.ref rq, .int (nI 1)])), (rq, .inl (cq, 4, .inl g2))] H := hP
  have hD : va_D A [(sq, .inr (4, [.ref rq, .int (nI 1)])), (rq, .inl (cq, 4, .inl g2))] := hD
  have hK : va_K D vwCl [(cq, .char)] s := hK
  have hs18 := hS.1
  refine W.widen (k := 2) (n := 6) (by omega) (by omega) ?_
  refine lv_aload_n hx hb dX2_spelled_23 rfl (lv_at hl 0 rfl) ?_
  have hz0 := hS.1
  refine z_keepW (fun hkp => ?_)
  exact z_retr (q := sq) (sq, rq, cq, g2) hx hb hr (Or.inl ⟨_, rfl⟩) hlocks (show sq = sq from rfl) hK [0] rfl hP hD hS [0, 1] (by decide) rfl (by omega) (zw_keep hkp) (fun _ _ _ => trivial) dX2_spelled_24
set_option maxRecDepth 100000 in
set_option maxHeartbeats 4000000 in
/-- spelled(61) -/
theorem c_sp61 (l : Launch) (D : va_G) (N0 : Nat) (e : zE) (sz mz : Nat)   : Met l yX2_spelled wsX2_spelled ({ frames := 12, cells := 2, slots := 6, locals := 400 }) (va_Pc [.int (nI 61)] (zP N0 e D [] [] sz mz [])) (zQr (fun (u : Nat × Nat × ClassId × (Nat → Int32)) (ra : Nat) => ra = u.1) D (fun (u : Nat × Nat × ClassId × (Nat → Int32)) => ([(u.1, .inr (4, [.ref u.2.1, .int (nI (zc 61))])), (u.2.1, .inl (u.2.2.1, 4, .inl u.2.2.2))] : va_W)) (fun (u : Nat × Nat × ClassId × (Nat → Int32)) => ([(u.2.2.1, .char)] : List (ClassId × FieldType))) sz (0) mz (0) (fun (u : Nat × Nat × ClassId × (Nat → Int32)) (t : State) => True) (va_A [] sz)) (2) (6) (va_A [] sz) := by
  refine z_met (Qc := fun A => zQr (fun (u : Nat × Nat × ClassId × (Nat → Int32)) (ra : Nat) => ra = u.1) D (fun (u : Nat × Nat × ClassId × (Nat → Int32)) => ([(u.1, .inr (4, [.ref u.2.1, .int (nI (zc 61))])), (u.2.1, .inl (u.2.2.1, 4, .inl u.2.2.2))] : va_W)) (fun (u : Nat × Nat × ClassId × (Nat → Int32)) => ([(u.2.2.1, .char)] : List (ClassId × FieldType))) sz (0) mz (0) (fun (u : Nat × Nat × ClassId × (Nat → Int32)) (t : State) => True) A) (cc := cX2_spelled) (maxL := 3) (ret := (some (.object "Joinrow$Signs"))) RX2 rfl (by decide) rfl (Nat.le_of_ble_eq_true rfl) ?_
  intro p ev s m below meth c ls A hx hb hr hml hown hts hlocks hnm hsz hmz hN hAe hA hAN hS hP hK hD hG hL hl
  subst hsz
  subst hmz
  have hl : lv_has ls 3 [(0, .int (nI 61))] := hl
  have kc1 : 0 + 1 ≤ 2 := by omega
  have ks2 : 0 + 2 ≤ 6 := by omega
  refine z_new (ci := 4) (fs := [.null, .int 0]) (C := RX1) (T := TX1) (N := 2) hx hb hts (by decide +kernel) tyX1 tyX1_ok hown (hts (.classLink RX2 9 RX1) (by decide +kernel)) (hts (.instantiable RX1 2) (by decide +kernel)) (hts (.initialized RX1) (by decide +kernel)) hK hP hD hS hA rfl (fun j hj => by match j, hj with | 0, _ => rfl | 1, _ => rfl) kc1 ks2 dX2_spelled_0 (fun sq H hq_sq hz_sq hm_sq hk_sq hP hD hS => ?_)
  have hP : va_P D vwCl [(sq, .inr (4, [.null, .int (nI 0)]))] H := hP
  have hD : va_D A [(sq, .inr (4, [.null, .int (nI 0)]))] := hD
  have hs3 := hS.1
  refine W.widen (k := 1) (n := 2) (by omega) (by omega) ?_
  refine lv_dup hx hb dX2_spelled_3 rfl ?_
  refine lv_iconst (v := (nI 4)) hx hb dX2_spelled_4 (by decide) ?_
  have hFc := va_free (wc := [(sq, .inr (4, [.null, .int (nI 0)]))]) hD hS hA [0] rfl
  have kc4 : 1 + (1) ≤ 2 := by omega
  have ks5 : 2 + (4) ≤ 6 := by omega
  refine z_callv (wr := []) (va_runI (As := [.int (nI 4)]) (rest := [.ref sq]) ⟨hx, hb, hml, hown, hts⟩ (c_signs l D N0 e H.size (zw H) sq 4 (by decide)) (cwI 1 hts gX2_spelled_X1_init rfl rfl rfl (hts (.initialized RX1) (by decide +kernel)) (hts (.methodLink RX2 28 yX1_init) (by decide +kernel)) (hts (.instanceMethod yX1_init) (by decide +kernel)) rfl (by decide +kernel) ⟨Nat.le_of_ble_eq_true rfl, Nat.le_of_ble_eq_true rfl⟩) ⟨zP.blind, (z_pre hK hP hD hS hAN hN hG [0] (by decide) rfl [] rfl (fun q hq => absurd hq List.not_mem_nil))⟩ rfl rfl hl.1 rfl (lv_room (Nat.le_of_ble_eq_true rfl)) dX2_spelled_5 ⟨kc4, ks5⟩) hK hP hD hS hA [0] rfl [] rfl (by decide) (by decide) (fun u t H locs ht hvm hw_c6 hY_c6 hz_c6 hm_c6 hk_c6 hK hP hD hS => ?_)
  obtain ⟨rq, cq⟩ := u
  try dsimp only at hw_c6 hY_c6
  have hP : va_P D vwCl [(sq, .inr (4, [.ref rq, .int (nI 0)])), (rq, .inl (cq, 4, .inl (fun _ => 0)))] H := hP
  have hD : va_D A [(sq, .inr (4, [.ref rq, .int (nI 0)])), (rq, .inl (cq, 4, .inl (fun _ => 0)))] := hD
  have hK : va_K D vwCl [(cq, .char)] s := hK
  have hs8 := hS.1
  refine W.widen (k := 2) (n := 6) (by omega) (by omega) ?_
  refine lv_astore_n (lv' := [(1, .ref sq), (0, .int (nI 61))]) hx hb dX2_spelled_8 rfl hl (by decide) rfl (fun ls hl => ?_)
  refine lv_iload_n hx hb dX2_spelled_9 rfl (lv_at hl 1 rfl) ?_
  refine lv_bipush (v := (nI 60)) hx hb dX2_spelled_10 (by decide) ?_
  refine lv_icmp_lt (tgt := 25) hx hb dX2_spelled_12 (by decide) (fun hq => absurd hq (show ¬ ((nI 61) < (nI 60)) from fun hq => absurd ((nI_ltI (by omega) (by omega)).mp hq) (by omega))) (fun _ => ?_)
  refine lv_aload_n hx hb dX2_spelled_15 rfl (lv_at hl 0 rfl) ?_
  refine lv_iload_n hx hb dX2_spelled_16 rfl (lv_at hl 1 rfl) ?_
  have hFc := va_free (wc := []) hD hS hA [] rfl
  have kc9 : 2 + (0) ≤ 2 := by omega
  have ks10 : 6 + (0) ≤ 6 := by omega
  refine z_callr (wr := [(sq, .inr (4, [.ref rq, .int (nI 0)])), (rq, .inl (cq, 4, .inl (fun _ => 0)))]) (va_runS (As := [.int (nI 61)]) (rest := [.ref sq]) ⟨hx, hb, hml, hown, hts⟩ (c_mark61 l D N0 e H.size (zw H)  ) (va_cwS 1 hts gX2_spelled_X2_spelledMark rfl rfl rfl (by decide +kernel) ⟨Nat.le_of_ble_eq_true rfl, Nat.le_of_ble_eq_true rfl⟩) ⟨zP.blind, (z_pre hK hP hD hS hAN hN hG [] (by decide) rfl [] rfl (fun q hq => absurd hq List.not_mem_nil))⟩ rfl rfl hl.1 rfl (lv_room (Nat.le_of_ble_eq_true rfl)) dX2_spelled_17 ⟨kc9, ks10⟩) hK hP hD hS hA [] rfl [0, 1] rfl (by decide) (by decide) (fun u r12 t H locs ht hvm hw_c11 hY_c11 hz_c11 hm_c11 hk_c11 hK hP hD hS => ?_)
  have hP : va_P D vwCl [(sq, .inr (4, [.ref rq, .int (nI 0)])), (rq, .inl (cq, 4, .inl (fun _ => 0)))] H := hP
  have hD : va_D A [(sq, .inr (4, [.ref rq, .int (nI 0)])), (rq, .inl (cq, 4, .inl (fun _ => 0)))] := hD
  have hK : va_K D vwCl [(cq, .char)] s := hK
  have hs13 := hS.1
  refine W.widen (k := 2) (n := 6) (by omega) (by omega) ?_
  obtain rfl : (e.2.2.1 4) = r12 := Eq.symm hw_c11
  have hFc := va_free (wc := [(sq, .inr (4, [.ref rq, .int (nI 0)])), (rq, .inl (cq, 4, .inl (fun _ => 0)))]) hD hS hA [0, 1] rfl
  have hFN : ∀ q, va_A [(sq, .inr (4, [.ref rq, .int (nI 0)])), (rq, .inl (cq, 4, .inl (fun _ => 0)))] H.size q → N0 ≤ q := fun q hq => hAN q (hFc q hq)
  have kc14 : 2 + (0) ≤ 2 := by omega
  have ks15 : 6 + (0) ≤ 6 := by omega
  refine z_callv (wr := []) (va_runV (As := [.ref ((e.2.2.1 4))]) (rest := []) ⟨hx, hb, hml, hown, hts⟩ (c_putS l D N0 e H.size (zw H) sq rq cq ((fun _ => 0)) ((e.2.2.1 4)) ((e.2.2.2 4)) 2 (by decide)) (cwV 1 hts gX2_spelled_X1_putString rfl rfl rfl (by decide +kernel) ⟨Nat.le_of_ble_eq_true rfl, Nat.le_of_ble_eq_true rfl⟩) ⟨zP.blind, (va_recv hK hP (ci := 4) (q0 := 0) rfl rfl), (z_pre hK hP hD hS hAN hN hG [0, 1] (by decide) rfl [0] rfl (List.forall_mem_cons.mpr ⟨((zkst hG 4 (by decide) hS hAN).wall (z_low (hG.2.2.2.2.1 4 (by decide)).na hFN) (z_low (hG.2.2.2.2.1 4 (by decide)).nv hFN)), fun q hq => absurd hq List.not_mem_nil⟩))⟩ rfl rfl hl.1 rfl (lv_room (Nat.le_of_ble_eq_true rfl)) dX2_spelled_20 ⟨kc14, ks15⟩) hK hP hD hS hA [0, 1] rfl [] rfl (by decide) (by decide) (fun u t H locs ht hvm hw_c16 hY_c16 hz_c16 hm_c16 hk_c16 hK hP hD hS => ?_)
  obtain ⟨g2, rfl⟩ : ∃ z, z = u := ⟨_, rfl⟩
  try dsimp only at hw_c16 hY_c16
  have hP : va_P D vwCl [(sq, .inr (4, [.ref rq, .int (nI 2)])), (rq, .inl (cq, 4, .inl g2))] H := hP
  have hD : va_D A [(sq, .inr (4, [.ref rq, .int (nI 2)])), (rq, .inl (cq, 4, .inl g2))] := hD
  have hK : va_K D vwCl [(cq, .char)] s := hK
  have hs18 := hS.1
  refine W.widen (k := 2) (n := 6) (by omega) (by omega) ?_
  refine lv_aload_n hx hb dX2_spelled_23 rfl (lv_at hl 0 rfl) ?_
  have hz0 := hS.1
  refine z_keepW (fun hkp => ?_)
  exact z_retr (q := sq) (sq, rq, cq, g2) hx hb hr (Or.inl ⟨_, rfl⟩) hlocks (show sq = sq from rfl) hK [0] rfl hP hD hS [0, 1] (by decide) rfl (by omega) (zw_keep hkp) (fun _ _ _ => trivial) dX2_spelled_24
set_option maxRecDepth 100000 in
set_option maxHeartbeats 4000000 in
/-- spelled(62) -/
theorem c_sp62 (l : Launch) (D : va_G) (N0 : Nat) (e : zE) (sz mz : Nat)   : Met l yX2_spelled wsX2_spelled ({ frames := 12, cells := 2, slots := 6, locals := 400 }) (va_Pc [.int (nI 62)] (zP N0 e D [] [] sz mz [])) (zQr (fun (u : Nat × Nat × ClassId × (Nat → Int32)) (ra : Nat) => ra = u.1) D (fun (u : Nat × Nat × ClassId × (Nat → Int32)) => ([(u.1, .inr (4, [.ref u.2.1, .int (nI (zc 62))])), (u.2.1, .inl (u.2.2.1, 4, .inl u.2.2.2))] : va_W)) (fun (u : Nat × Nat × ClassId × (Nat → Int32)) => ([(u.2.2.1, .char)] : List (ClassId × FieldType))) sz (0) mz (0) (fun (u : Nat × Nat × ClassId × (Nat → Int32)) (t : State) => True) (va_A [] sz)) (2) (6) (va_A [] sz) := by
  refine z_met (Qc := fun A => zQr (fun (u : Nat × Nat × ClassId × (Nat → Int32)) (ra : Nat) => ra = u.1) D (fun (u : Nat × Nat × ClassId × (Nat → Int32)) => ([(u.1, .inr (4, [.ref u.2.1, .int (nI (zc 62))])), (u.2.1, .inl (u.2.2.1, 4, .inl u.2.2.2))] : va_W)) (fun (u : Nat × Nat × ClassId × (Nat → Int32)) => ([(u.2.2.1, .char)] : List (ClassId × FieldType))) sz (0) mz (0) (fun (u : Nat × Nat × ClassId × (Nat → Int32)) (t : State) => True) A) (cc := cX2_spelled) (maxL := 3) (ret := (some (.object "Joinrow$Signs"))) RX2 rfl (by decide) rfl (Nat.le_of_ble_eq_true rfl) ?_
  intro p ev s m below meth c ls A hx hb hr hml hown hts hlocks hnm hsz hmz hN hAe hA hAN hS hP hK hD hG hL hl
  subst hsz
  subst hmz
  have hl : lv_has ls 3 [(0, .int (nI 62))] := hl
  have kc1 : 0 + 1 ≤ 2 := by omega
  have ks2 : 0 + 2 ≤ 6 := by omega
  refine z_new (ci := 4) (fs := [.null, .int 0]) (C := RX1) (T := TX1) (N := 2) hx hb hts (by decide +kernel) tyX1 tyX1_ok hown (hts (.classLink RX2 9 RX1) (by decide +kernel)) (hts (.instantiable RX1 2) (by decide +kernel)) (hts (.initialized RX1) (by decide +kernel)) hK hP hD hS hA rfl (fun j hj => by match j, hj with | 0, _ => rfl | 1, _ => rfl) kc1 ks2 dX2_spelled_0 (fun sq H hq_sq hz_sq hm_sq hk_sq hP hD hS => ?_)
  have hP : va_P D vwCl [(sq, .inr (4, [.null, .int (nI 0)]))] H := hP
  have hD : va_D A [(sq, .inr (4, [.null, .int (nI 0)]))] := hD
  have hs3 := hS.1
  refine W.widen (k := 1) (n := 2) (by omega) (by omega) ?_
  refine lv_dup hx hb dX2_spelled_3 rfl ?_
  refine lv_iconst (v := (nI 4)) hx hb dX2_spelled_4 (by decide) ?_
  have hFc := va_free (wc := [(sq, .inr (4, [.null, .int (nI 0)]))]) hD hS hA [0] rfl
  have kc4 : 1 + (1) ≤ 2 := by omega
  have ks5 : 2 + (4) ≤ 6 := by omega
  refine z_callv (wr := []) (va_runI (As := [.int (nI 4)]) (rest := [.ref sq]) ⟨hx, hb, hml, hown, hts⟩ (c_signs l D N0 e H.size (zw H) sq 4 (by decide)) (cwI 1 hts gX2_spelled_X1_init rfl rfl rfl (hts (.initialized RX1) (by decide +kernel)) (hts (.methodLink RX2 28 yX1_init) (by decide +kernel)) (hts (.instanceMethod yX1_init) (by decide +kernel)) rfl (by decide +kernel) ⟨Nat.le_of_ble_eq_true rfl, Nat.le_of_ble_eq_true rfl⟩) ⟨zP.blind, (z_pre hK hP hD hS hAN hN hG [0] (by decide) rfl [] rfl (fun q hq => absurd hq List.not_mem_nil))⟩ rfl rfl hl.1 rfl (lv_room (Nat.le_of_ble_eq_true rfl)) dX2_spelled_5 ⟨kc4, ks5⟩) hK hP hD hS hA [0] rfl [] rfl (by decide) (by decide) (fun u t H locs ht hvm hw_c6 hY_c6 hz_c6 hm_c6 hk_c6 hK hP hD hS => ?_)
  obtain ⟨rq, cq⟩ := u
  try dsimp only at hw_c6 hY_c6
  have hP : va_P D vwCl [(sq, .inr (4, [.ref rq, .int (nI 0)])), (rq, .inl (cq, 4, .inl (fun _ => 0)))] H := hP
  have hD : va_D A [(sq, .inr (4, [.ref rq, .int (nI 0)])), (rq, .inl (cq, 4, .inl (fun _ => 0)))] := hD
  have hK : va_K D vwCl [(cq, .char)] s := hK
  have hs8 := hS.1
  refine W.widen (k := 2) (n := 6) (by omega) (by omega) ?_
  refine lv_astore_n (lv' := [(1, .ref sq), (0, .int (nI 62))]) hx hb dX2_spelled_8 rfl hl (by decide) rfl (fun ls hl => ?_)
  refine lv_iload_n hx hb dX2_spelled_9 rfl (lv_at hl 1 rfl) ?_
  refine lv_bipush (v := (nI 60)) hx hb dX2_spelled_10 (by decide) ?_
  refine lv_icmp_lt (tgt := 25) hx hb dX2_spelled_12 (by decide) (fun hq => absurd hq (show ¬ ((nI 62) < (nI 60)) from fun hq => absurd ((nI_ltI (by omega) (by omega)).mp hq) (by omega))) (fun _ => ?_)
  refine lv_aload_n hx hb dX2_spelled_15 rfl (lv_at hl 0 rfl) ?_
  refine lv_iload_n hx hb dX2_spelled_16 rfl (lv_at hl 1 rfl) ?_
  have hFc := va_free (wc := []) hD hS hA [] rfl
  have kc9 : 2 + (0) ≤ 2 := by omega
  have ks10 : 6 + (0) ≤ 6 := by omega
  refine z_callr (wr := [(sq, .inr (4, [.ref rq, .int (nI 0)])), (rq, .inl (cq, 4, .inl (fun _ => 0)))]) (va_runS (As := [.int (nI 62)]) (rest := [.ref sq]) ⟨hx, hb, hml, hown, hts⟩ (c_mark62 l D N0 e H.size (zw H)  ) (va_cwS 1 hts gX2_spelled_X2_spelledMark rfl rfl rfl (by decide +kernel) ⟨Nat.le_of_ble_eq_true rfl, Nat.le_of_ble_eq_true rfl⟩) ⟨zP.blind, (z_pre hK hP hD hS hAN hN hG [] (by decide) rfl [] rfl (fun q hq => absurd hq List.not_mem_nil))⟩ rfl rfl hl.1 rfl (lv_room (Nat.le_of_ble_eq_true rfl)) dX2_spelled_17 ⟨kc9, ks10⟩) hK hP hD hS hA [] rfl [0, 1] rfl (by decide) (by decide) (fun u r12 t H locs ht hvm hw_c11 hY_c11 hz_c11 hm_c11 hk_c11 hK hP hD hS => ?_)
  have hP : va_P D vwCl [(sq, .inr (4, [.ref rq, .int (nI 0)])), (rq, .inl (cq, 4, .inl (fun _ => 0)))] H := hP
  have hD : va_D A [(sq, .inr (4, [.ref rq, .int (nI 0)])), (rq, .inl (cq, 4, .inl (fun _ => 0)))] := hD
  have hK : va_K D vwCl [(cq, .char)] s := hK
  have hs13 := hS.1
  refine W.widen (k := 2) (n := 6) (by omega) (by omega) ?_
  obtain rfl : (e.2.2.1 5) = r12 := Eq.symm hw_c11
  have hFc := va_free (wc := [(sq, .inr (4, [.ref rq, .int (nI 0)])), (rq, .inl (cq, 4, .inl (fun _ => 0)))]) hD hS hA [0, 1] rfl
  have hFN : ∀ q, va_A [(sq, .inr (4, [.ref rq, .int (nI 0)])), (rq, .inl (cq, 4, .inl (fun _ => 0)))] H.size q → N0 ≤ q := fun q hq => hAN q (hFc q hq)
  have kc14 : 2 + (0) ≤ 2 := by omega
  have ks15 : 6 + (0) ≤ 6 := by omega
  refine z_callv (wr := []) (va_runV (As := [.ref ((e.2.2.1 5))]) (rest := []) ⟨hx, hb, hml, hown, hts⟩ (c_putS l D N0 e H.size (zw H) sq rq cq ((fun _ => 0)) ((e.2.2.1 5)) ((e.2.2.2 5)) 1 (by decide)) (cwV 1 hts gX2_spelled_X1_putString rfl rfl rfl (by decide +kernel) ⟨Nat.le_of_ble_eq_true rfl, Nat.le_of_ble_eq_true rfl⟩) ⟨zP.blind, (va_recv hK hP (ci := 4) (q0 := 0) rfl rfl), (z_pre hK hP hD hS hAN hN hG [0, 1] (by decide) rfl [0] rfl (List.forall_mem_cons.mpr ⟨((zkst hG 5 (by decide) hS hAN).wall (z_low (hG.2.2.2.2.1 5 (by decide)).na hFN) (z_low (hG.2.2.2.2.1 5 (by decide)).nv hFN)), fun q hq => absurd hq List.not_mem_nil⟩))⟩ rfl rfl hl.1 rfl (lv_room (Nat.le_of_ble_eq_true rfl)) dX2_spelled_20 ⟨kc14, ks15⟩) hK hP hD hS hA [0, 1] rfl [] rfl (by decide) (by decide) (fun u t H locs ht hvm hw_c16 hY_c16 hz_c16 hm_c16 hk_c16 hK hP hD hS => ?_)
  obtain ⟨g2, rfl⟩ : ∃ z, z = u := ⟨_, rfl⟩
  try dsimp only at hw_c16 hY_c16
  have hP : va_P D vwCl [(sq, .inr (4, [.ref rq, .int (nI 1)])), (rq, .inl (cq, 4, .inl g2))] H := hP
  have hD : va_D A [(sq, .inr (4, [.ref rq, .int (nI 1)])), (rq, .inl (cq, 4, .inl g2))] := hD
  have hK : va_K D vwCl [(cq, .char)] s := hK
  have hs18 := hS.1
  refine W.widen (k := 2) (n := 6) (by omega) (by omega) ?_
  refine lv_aload_n hx hb dX2_spelled_23 rfl (lv_at hl 0 rfl) ?_
  have hz0 := hS.1
  refine z_keepW (fun hkp => ?_)
  exact z_retr (q := sq) (sq, rq, cq, g2) hx hb hr (Or.inl ⟨_, rfl⟩) hlocks (show sq = sq from rfl) hK [0] rfl hP hD hS [0, 1] (by decide) rfl (by omega) (zw_keep hkp) (fun _ _ _ => trivial) dX2_spelled_24
set_option maxRecDepth 100000 in
set_option maxHeartbeats 4000000 in
/-- spelled(63) -/
theorem c_sp63 (l : Launch) (D : va_G) (N0 : Nat) (e : zE) (sz mz : Nat)   : Met l yX2_spelled wsX2_spelled ({ frames := 12, cells := 2, slots := 6, locals := 400 }) (va_Pc [.int (nI 63)] (zP N0 e D [] [] sz mz [])) (zQr (fun (u : Nat × Nat × ClassId × (Nat → Int32)) (ra : Nat) => ra = u.1) D (fun (u : Nat × Nat × ClassId × (Nat → Int32)) => ([(u.1, .inr (4, [.ref u.2.1, .int (nI (zc 63))])), (u.2.1, .inl (u.2.2.1, 4, .inl u.2.2.2))] : va_W)) (fun (u : Nat × Nat × ClassId × (Nat → Int32)) => ([(u.2.2.1, .char)] : List (ClassId × FieldType))) sz (0) mz (0) (fun (u : Nat × Nat × ClassId × (Nat → Int32)) (t : State) => True) (va_A [] sz)) (2) (6) (va_A [] sz) := by
  refine z_met (Qc := fun A => zQr (fun (u : Nat × Nat × ClassId × (Nat → Int32)) (ra : Nat) => ra = u.1) D (fun (u : Nat × Nat × ClassId × (Nat → Int32)) => ([(u.1, .inr (4, [.ref u.2.1, .int (nI (zc 63))])), (u.2.1, .inl (u.2.2.1, 4, .inl u.2.2.2))] : va_W)) (fun (u : Nat × Nat × ClassId × (Nat → Int32)) => ([(u.2.2.1, .char)] : List (ClassId × FieldType))) sz (0) mz (0) (fun (u : Nat × Nat × ClassId × (Nat → Int32)) (t : State) => True) A) (cc := cX2_spelled) (maxL := 3) (ret := (some (.object "Joinrow$Signs"))) RX2 rfl (by decide) rfl (Nat.le_of_ble_eq_true rfl) ?_
  intro p ev s m below meth c ls A hx hb hr hml hown hts hlocks hnm hsz hmz hN hAe hA hAN hS hP hK hD hG hL hl
  subst hsz
  subst hmz
  have hl : lv_has ls 3 [(0, .int (nI 63))] := hl
  have kc1 : 0 + 1 ≤ 2 := by omega
  have ks2 : 0 + 2 ≤ 6 := by omega
  refine z_new (ci := 4) (fs := [.null, .int 0]) (C := RX1) (T := TX1) (N := 2) hx hb hts (by decide +kernel) tyX1 tyX1_ok hown (hts (.classLink RX2 9 RX1) (by decide +kernel)) (hts (.instantiable RX1 2) (by decide +kernel)) (hts (.initialized RX1) (by decide +kernel)) hK hP hD hS hA rfl (fun j hj => by match j, hj with | 0, _ => rfl | 1, _ => rfl) kc1 ks2 dX2_spelled_0 (fun sq H hq_sq hz_sq hm_sq hk_sq hP hD hS => ?_)
  have hP : va_P D vwCl [(sq, .inr (4, [.null, .int (nI 0)]))] H := hP
  have hD : va_D A [(sq, .inr (4, [.null, .int (nI 0)]))] := hD
  have hs3 := hS.1
  refine W.widen (k := 1) (n := 2) (by omega) (by omega) ?_
  refine lv_dup hx hb dX2_spelled_3 rfl ?_
  refine lv_iconst (v := (nI 4)) hx hb dX2_spelled_4 (by decide) ?_
  have hFc := va_free (wc := [(sq, .inr (4, [.null, .int (nI 0)]))]) hD hS hA [0] rfl
  have kc4 : 1 + (1) ≤ 2 := by omega
  have ks5 : 2 + (4) ≤ 6 := by omega
  refine z_callv (wr := []) (va_runI (As := [.int (nI 4)]) (rest := [.ref sq]) ⟨hx, hb, hml, hown, hts⟩ (c_signs l D N0 e H.size (zw H) sq 4 (by decide)) (cwI 1 hts gX2_spelled_X1_init rfl rfl rfl (hts (.initialized RX1) (by decide +kernel)) (hts (.methodLink RX2 28 yX1_init) (by decide +kernel)) (hts (.instanceMethod yX1_init) (by decide +kernel)) rfl (by decide +kernel) ⟨Nat.le_of_ble_eq_true rfl, Nat.le_of_ble_eq_true rfl⟩) ⟨zP.blind, (z_pre hK hP hD hS hAN hN hG [0] (by decide) rfl [] rfl (fun q hq => absurd hq List.not_mem_nil))⟩ rfl rfl hl.1 rfl (lv_room (Nat.le_of_ble_eq_true rfl)) dX2_spelled_5 ⟨kc4, ks5⟩) hK hP hD hS hA [0] rfl [] rfl (by decide) (by decide) (fun u t H locs ht hvm hw_c6 hY_c6 hz_c6 hm_c6 hk_c6 hK hP hD hS => ?_)
  obtain ⟨rq, cq⟩ := u
  try dsimp only at hw_c6 hY_c6
  have hP : va_P D vwCl [(sq, .inr (4, [.ref rq, .int (nI 0)])), (rq, .inl (cq, 4, .inl (fun _ => 0)))] H := hP
  have hD : va_D A [(sq, .inr (4, [.ref rq, .int (nI 0)])), (rq, .inl (cq, 4, .inl (fun _ => 0)))] := hD
  have hK : va_K D vwCl [(cq, .char)] s := hK
  have hs8 := hS.1
  refine W.widen (k := 2) (n := 6) (by omega) (by omega) ?_
  refine lv_astore_n (lv' := [(1, .ref sq), (0, .int (nI 63))]) hx hb dX2_spelled_8 rfl hl (by decide) rfl (fun ls hl => ?_)
  refine lv_iload_n hx hb dX2_spelled_9 rfl (lv_at hl 1 rfl) ?_
  refine lv_bipush (v := (nI 60)) hx hb dX2_spelled_10 (by decide) ?_
  refine lv_icmp_lt (tgt := 25) hx hb dX2_spelled_12 (by decide) (fun hq => absurd hq (show ¬ ((nI 63) < (nI 60)) from fun hq => absurd ((nI_ltI (by omega) (by omega)).mp hq) (by omega))) (fun _ => ?_)
  refine lv_aload_n hx hb dX2_spelled_15 rfl (lv_at hl 0 rfl) ?_
  refine lv_iload_n hx hb dX2_spelled_16 rfl (lv_at hl 1 rfl) ?_
  have hFc := va_free (wc := []) hD hS hA [] rfl
  have kc9 : 2 + (0) ≤ 2 := by omega
  have ks10 : 6 + (0) ≤ 6 := by omega
  refine z_callr (wr := [(sq, .inr (4, [.ref rq, .int (nI 0)])), (rq, .inl (cq, 4, .inl (fun _ => 0)))]) (va_runS (As := [.int (nI 63)]) (rest := [.ref sq]) ⟨hx, hb, hml, hown, hts⟩ (c_mark63 l D N0 e H.size (zw H)  ) (va_cwS 1 hts gX2_spelled_X2_spelledMark rfl rfl rfl (by decide +kernel) ⟨Nat.le_of_ble_eq_true rfl, Nat.le_of_ble_eq_true rfl⟩) ⟨zP.blind, (z_pre hK hP hD hS hAN hN hG [] (by decide) rfl [] rfl (fun q hq => absurd hq List.not_mem_nil))⟩ rfl rfl hl.1 rfl (lv_room (Nat.le_of_ble_eq_true rfl)) dX2_spelled_17 ⟨kc9, ks10⟩) hK hP hD hS hA [] rfl [0, 1] rfl (by decide) (by decide) (fun u r12 t H locs ht hvm hw_c11 hY_c11 hz_c11 hm_c11 hk_c11 hK hP hD hS => ?_)
  have hP : va_P D vwCl [(sq, .inr (4, [.ref rq, .int (nI 0)])), (rq, .inl (cq, 4, .inl (fun _ => 0)))] H := hP
  have hD : va_D A [(sq, .inr (4, [.ref rq, .int (nI 0)])), (rq, .inl (cq, 4, .inl (fun _ => 0)))] := hD
  have hK : va_K D vwCl [(cq, .char)] s := hK
  have hs13 := hS.1
  refine W.widen (k := 2) (n := 6) (by omega) (by omega) ?_
  obtain rfl : (e.2.2.1 6) = r12 := Eq.symm hw_c11
  have hFc := va_free (wc := [(sq, .inr (4, [.ref rq, .int (nI 0)])), (rq, .inl (cq, 4, .inl (fun _ => 0)))]) hD hS hA [0, 1] rfl
  have hFN : ∀ q, va_A [(sq, .inr (4, [.ref rq, .int (nI 0)])), (rq, .inl (cq, 4, .inl (fun _ => 0)))] H.size q → N0 ≤ q := fun q hq => hAN q (hFc q hq)
  have kc14 : 2 + (0) ≤ 2 := by omega
  have ks15 : 6 + (0) ≤ 6 := by omega
  refine z_callv (wr := []) (va_runV (As := [.ref ((e.2.2.1 6))]) (rest := []) ⟨hx, hb, hml, hown, hts⟩ (c_putS l D N0 e H.size (zw H) sq rq cq ((fun _ => 0)) ((e.2.2.1 6)) ((e.2.2.2 6)) 2 (by decide)) (cwV 1 hts gX2_spelled_X1_putString rfl rfl rfl (by decide +kernel) ⟨Nat.le_of_ble_eq_true rfl, Nat.le_of_ble_eq_true rfl⟩) ⟨zP.blind, (va_recv hK hP (ci := 4) (q0 := 0) rfl rfl), (z_pre hK hP hD hS hAN hN hG [0, 1] (by decide) rfl [0] rfl (List.forall_mem_cons.mpr ⟨((zkst hG 6 (by decide) hS hAN).wall (z_low (hG.2.2.2.2.1 6 (by decide)).na hFN) (z_low (hG.2.2.2.2.1 6 (by decide)).nv hFN)), fun q hq => absurd hq List.not_mem_nil⟩))⟩ rfl rfl hl.1 rfl (lv_room (Nat.le_of_ble_eq_true rfl)) dX2_spelled_20 ⟨kc14, ks15⟩) hK hP hD hS hA [0, 1] rfl [] rfl (by decide) (by decide) (fun u t H locs ht hvm hw_c16 hY_c16 hz_c16 hm_c16 hk_c16 hK hP hD hS => ?_)
  obtain ⟨g2, rfl⟩ : ∃ z, z = u := ⟨_, rfl⟩
  try dsimp only at hw_c16 hY_c16
  have hP : va_P D vwCl [(sq, .inr (4, [.ref rq, .int (nI 2)])), (rq, .inl (cq, 4, .inl g2))] H := hP
  have hD : va_D A [(sq, .inr (4, [.ref rq, .int (nI 2)])), (rq, .inl (cq, 4, .inl g2))] := hD
  have hK : va_K D vwCl [(cq, .char)] s := hK
  have hs18 := hS.1
  refine W.widen (k := 2) (n := 6) (by omega) (by omega) ?_
  refine lv_aload_n hx hb dX2_spelled_23 rfl (lv_at hl 0 rfl) ?_
  have hz0 := hS.1
  refine z_keepW (fun hkp => ?_)
  exact z_retr (q := sq) (sq, rq, cq, g2) hx hb hr (Or.inl ⟨_, rfl⟩) hlocks (show sq = sq from rfl) hK [0] rfl hP hD hS [0, 1] (by decide) rfl (by omega) (zw_keep hkp) (fun _ _ _ => trivial) dX2_spelled_24
set_option maxRecDepth 100000 in
set_option maxHeartbeats 4000000 in
/-- spelled(64) -/
theorem c_sp64 (l : Launch) (D : va_G) (N0 : Nat) (e : zE) (sz mz : Nat)   : Met l yX2_spelled wsX2_spelled ({ frames := 12, cells := 2, slots := 6, locals := 400 }) (va_Pc [.int (nI 64)] (zP N0 e D [] [] sz mz [])) (zQr (fun (u : Nat × Nat × ClassId × (Nat → Int32)) (ra : Nat) => ra = u.1) D (fun (u : Nat × Nat × ClassId × (Nat → Int32)) => ([(u.1, .inr (4, [.ref u.2.1, .int (nI (zc 64))])), (u.2.1, .inl (u.2.2.1, 4, .inl u.2.2.2))] : va_W)) (fun (u : Nat × Nat × ClassId × (Nat → Int32)) => ([(u.2.2.1, .char)] : List (ClassId × FieldType))) sz (0) mz (0) (fun (u : Nat × Nat × ClassId × (Nat → Int32)) (t : State) => True) (va_A [] sz)) (2) (6) (va_A [] sz) := by
  refine z_met (Qc := fun A => zQr (fun (u : Nat × Nat × ClassId × (Nat → Int32)) (ra : Nat) => ra = u.1) D (fun (u : Nat × Nat × ClassId × (Nat → Int32)) => ([(u.1, .inr (4, [.ref u.2.1, .int (nI (zc 64))])), (u.2.1, .inl (u.2.2.1, 4, .inl u.2.2.2))] : va_W)) (fun (u : Nat × Nat × ClassId × (Nat → Int32)) => ([(u.2.2.1, .char)] : List (ClassId × FieldType))) sz (0) mz (0) (fun (u : Nat × Nat × ClassId × (Nat → Int32)) (t : State) => True) A) (cc := cX2_spelled) (maxL := 3) (ret := (some (.object "Joinrow$Signs"))) RX2 rfl (by decide) rfl (Nat.le_of_ble_eq_true rfl) ?_
  intro p ev s m below meth c ls A hx hb hr hml hown hts hlocks hnm hsz hmz hN hAe hA hAN hS hP hK hD hG hL hl
  subst hsz
  subst hmz
  have hl : lv_has ls 3 [(0, .int (nI 64))] := hl
  have kc1 : 0 + 1 ≤ 2 := by omega
  have ks2 : 0 + 2 ≤ 6 := by omega
  refine z_new (ci := 4) (fs := [.null, .int 0]) (C := RX1) (T := TX1) (N := 2) hx hb hts (by decide +kernel) tyX1 tyX1_ok hown (hts (.classLink RX2 9 RX1) (by decide +kernel)) (hts (.instantiable RX1 2) (by decide +kernel)) (hts (.initialized RX1) (by decide +kernel)) hK hP hD hS hA rfl (fun j hj => by match j, hj with | 0, _ => rfl | 1, _ => rfl) kc1 ks2 dX2_spelled_0 (fun sq H hq_sq hz_sq hm_sq hk_sq hP hD hS => ?_)
  have hP : va_P D vwCl [(sq, .inr (4, [.null, .int (nI 0)]))] H := hP
  have hD : va_D A [(sq, .inr (4, [.null, .int (nI 0)]))] := hD
  have hs3 := hS.1
  refine W.widen (k := 1) (n := 2) (by omega) (by omega) ?_
  refine lv_dup hx hb dX2_spelled_3 rfl ?_
  refine lv_iconst (v := (nI 4)) hx hb dX2_spelled_4 (by decide) ?_
  have hFc := va_free (wc := [(sq, .inr (4, [.null, .int (nI 0)]))]) hD hS hA [0] rfl
  have kc4 : 1 + (1) ≤ 2 := by omega
  have ks5 : 2 + (4) ≤ 6 := by omega
  refine z_callv (wr := []) (va_runI (As := [.int (nI 4)]) (rest := [.ref sq]) ⟨hx, hb, hml, hown, hts⟩ (c_signs l D N0 e H.size (zw H) sq 4 (by decide)) (cwI 1 hts gX2_spelled_X1_init rfl rfl rfl (hts (.initialized RX1) (by decide +kernel)) (hts (.methodLink RX2 28 yX1_init) (by decide +kernel)) (hts (.instanceMethod yX1_init) (by decide +kernel)) rfl (by decide +kernel) ⟨Nat.le_of_ble_eq_true rfl, Nat.le_of_ble_eq_true rfl⟩) ⟨zP.blind, (z_pre hK hP hD hS hAN hN hG [0] (by decide) rfl [] rfl (fun q hq => absurd hq List.not_mem_nil))⟩ rfl rfl hl.1 rfl (lv_room (Nat.le_of_ble_eq_true rfl)) dX2_spelled_5 ⟨kc4, ks5⟩) hK hP hD hS hA [0] rfl [] rfl (by decide) (by decide) (fun u t H locs ht hvm hw_c6 hY_c6 hz_c6 hm_c6 hk_c6 hK hP hD hS => ?_)
  obtain ⟨rq, cq⟩ := u
  try dsimp only at hw_c6 hY_c6
  have hP : va_P D vwCl [(sq, .inr (4, [.ref rq, .int (nI 0)])), (rq, .inl (cq, 4, .inl (fun _ => 0)))] H := hP
  have hD : va_D A [(sq, .inr (4, [.ref rq, .int (nI 0)])), (rq, .inl (cq, 4, .inl (fun _ => 0)))] := hD
  have hK : va_K D vwCl [(cq, .char)] s := hK
  have hs8 := hS.1
  refine W.widen (k := 2) (n := 6) (by omega) (by omega) ?_
  refine lv_astore_n (lv' := [(1, .ref sq), (0, .int (nI 64))]) hx hb dX2_spelled_8 rfl hl (by decide) rfl (fun ls hl => ?_)
  refine lv_iload_n hx hb dX2_spelled_9 rfl (lv_at hl 1 rfl) ?_
  refine lv_bipush (v := (nI 60)) hx hb dX2_spelled_10 (by decide) ?_
  refine lv_icmp_lt (tgt := 25) hx hb dX2_spelled_12 (by decide) (fun hq => absurd hq (show ¬ ((nI 64) < (nI 60)) from fun hq => absurd ((nI_ltI (by omega) (by omega)).mp hq) (by omega))) (fun _ => ?_)
  refine lv_aload_n hx hb dX2_spelled_15 rfl (lv_at hl 0 rfl) ?_
  refine lv_iload_n hx hb dX2_spelled_16 rfl (lv_at hl 1 rfl) ?_
  have hFc := va_free (wc := []) hD hS hA [] rfl
  have kc9 : 2 + (0) ≤ 2 := by omega
  have ks10 : 6 + (0) ≤ 6 := by omega
  refine z_callr (wr := [(sq, .inr (4, [.ref rq, .int (nI 0)])), (rq, .inl (cq, 4, .inl (fun _ => 0)))]) (va_runS (As := [.int (nI 64)]) (rest := [.ref sq]) ⟨hx, hb, hml, hown, hts⟩ (c_mark64 l D N0 e H.size (zw H)  ) (va_cwS 1 hts gX2_spelled_X2_spelledMark rfl rfl rfl (by decide +kernel) ⟨Nat.le_of_ble_eq_true rfl, Nat.le_of_ble_eq_true rfl⟩) ⟨zP.blind, (z_pre hK hP hD hS hAN hN hG [] (by decide) rfl [] rfl (fun q hq => absurd hq List.not_mem_nil))⟩ rfl rfl hl.1 rfl (lv_room (Nat.le_of_ble_eq_true rfl)) dX2_spelled_17 ⟨kc9, ks10⟩) hK hP hD hS hA [] rfl [0, 1] rfl (by decide) (by decide) (fun u r12 t H locs ht hvm hw_c11 hY_c11 hz_c11 hm_c11 hk_c11 hK hP hD hS => ?_)
  have hP : va_P D vwCl [(sq, .inr (4, [.ref rq, .int (nI 0)])), (rq, .inl (cq, 4, .inl (fun _ => 0)))] H := hP
  have hD : va_D A [(sq, .inr (4, [.ref rq, .int (nI 0)])), (rq, .inl (cq, 4, .inl (fun _ => 0)))] := hD
  have hK : va_K D vwCl [(cq, .char)] s := hK
  have hs13 := hS.1
  refine W.widen (k := 2) (n := 6) (by omega) (by omega) ?_
  obtain rfl : (e.2.2.1 2) = r12 := Eq.symm hw_c11
  have hFc := va_free (wc := [(sq, .inr (4, [.ref rq, .int (nI 0)])), (rq, .inl (cq, 4, .inl (fun _ => 0)))]) hD hS hA [0, 1] rfl
  have hFN : ∀ q, va_A [(sq, .inr (4, [.ref rq, .int (nI 0)])), (rq, .inl (cq, 4, .inl (fun _ => 0)))] H.size q → N0 ≤ q := fun q hq => hAN q (hFc q hq)
  have kc14 : 2 + (0) ≤ 2 := by omega
  have ks15 : 6 + (0) ≤ 6 := by omega
  refine z_callv (wr := []) (va_runV (As := [.ref ((e.2.2.1 2))]) (rest := []) ⟨hx, hb, hml, hown, hts⟩ (c_putS l D N0 e H.size (zw H) sq rq cq ((fun _ => 0)) ((e.2.2.1 2)) ((e.2.2.2 2)) 1 (by decide)) (cwV 1 hts gX2_spelled_X1_putString rfl rfl rfl (by decide +kernel) ⟨Nat.le_of_ble_eq_true rfl, Nat.le_of_ble_eq_true rfl⟩) ⟨zP.blind, (va_recv hK hP (ci := 4) (q0 := 0) rfl rfl), (z_pre hK hP hD hS hAN hN hG [0, 1] (by decide) rfl [0] rfl (List.forall_mem_cons.mpr ⟨((zkst hG 2 (by decide) hS hAN).wall (z_low (hG.2.2.2.2.1 2 (by decide)).na hFN) (z_low (hG.2.2.2.2.1 2 (by decide)).nv hFN)), fun q hq => absurd hq List.not_mem_nil⟩))⟩ rfl rfl hl.1 rfl (lv_room (Nat.le_of_ble_eq_true rfl)) dX2_spelled_20 ⟨kc14, ks15⟩) hK hP hD hS hA [0, 1] rfl [] rfl (by decide) (by decide) (fun u t H locs ht hvm hw_c16 hY_c16 hz_c16 hm_c16 hk_c16 hK hP hD hS => ?_)
  obtain ⟨g2, rfl⟩ : ∃ z, z = u := ⟨_, rfl⟩
  try dsimp only at hw_c16 hY_c16
  have hP : va_P D vwCl [(sq, .inr (4, [.ref rq, .int (nI 1)])), (rq, .inl (cq, 4, .inl g2))] H := hP
  have hD : va_D A [(sq, .inr (4, [.ref rq, .int (nI 1)])), (rq, .inl (cq, 4, .inl g2))] := hD
  have hK : va_K D vwCl [(cq, .char)] s := hK
  have hs18 := hS.1
  refine W.widen (k := 2) (n := 6) (by omega) (by omega) ?_
  refine lv_aload_n hx hb dX2_spelled_23 rfl (lv_at hl 0 rfl) ?_
  have hz0 := hS.1
  refine z_keepW (fun hkp => ?_)
  exact z_retr (q := sq) (sq, rq, cq, g2) hx hb hr (Or.inl ⟨_, rfl⟩) hlocks (show sq = sq from rfl) hK [0] rfl hP hD hS [0, 1] (by decide) rfl (by omega) (zw_keep hkp) (fun _ _ _ => trivial) dX2_spelled_24
set_option maxRecDepth 100000 in
set_option maxHeartbeats 4000000 in
/-- spelled(65) -/
theorem c_sp65 (l : Launch) (D : va_G) (N0 : Nat) (e : zE) (sz mz : Nat)   : Met l yX2_spelled wsX2_spelled ({ frames := 12, cells := 2, slots := 6, locals := 400 }) (va_Pc [.int (nI 65)] (zP N0 e D [] [] sz mz [])) (zQr (fun (u : Nat × Nat × ClassId × (Nat → Int32)) (ra : Nat) => ra = u.1) D (fun (u : Nat × Nat × ClassId × (Nat → Int32)) => ([(u.1, .inr (4, [.ref u.2.1, .int (nI (zc 65))])), (u.2.1, .inl (u.2.2.1, 4, .inl u.2.2.2))] : va_W)) (fun (u : Nat × Nat × ClassId × (Nat → Int32)) => ([(u.2.2.1, .char)] : List (ClassId × FieldType))) sz (0) mz (0) (fun (u : Nat × Nat × ClassId × (Nat → Int32)) (t : State) => True) (va_A [] sz)) (2) (6) (va_A [] sz) := by
  refine z_met (Qc := fun A => zQr (fun (u : Nat × Nat × ClassId × (Nat → Int32)) (ra : Nat) => ra = u.1) D (fun (u : Nat × Nat × ClassId × (Nat → Int32)) => ([(u.1, .inr (4, [.ref u.2.1, .int (nI (zc 65))])), (u.2.1, .inl (u.2.2.1, 4, .inl u.2.2.2))] : va_W)) (fun (u : Nat × Nat × ClassId × (Nat → Int32)) => ([(u.2.2.1, .char)] : List (ClassId × FieldType))) sz (0) mz (0) (fun (u : Nat × Nat × ClassId × (Nat → Int32)) (t : State) => True) A) (cc := cX2_spelled) (maxL := 3) (ret := (some (.object "Joinrow$Signs"))) RX2 rfl (by decide) rfl (Nat.le_of_ble_eq_true rfl) ?_
  intro p ev s m below meth c ls A hx hb hr hml hown hts hlocks hnm hsz hmz hN hAe hA hAN hS hP hK hD hG hL hl
  subst hsz
  subst hmz
  have hl : lv_has ls 3 [(0, .int (nI 65))] := hl
  have kc1 : 0 + 1 ≤ 2 := by omega
  have ks2 : 0 + 2 ≤ 6 := by omega
  refine z_new (ci := 4) (fs := [.null, .int 0]) (C := RX1) (T := TX1) (N := 2) hx hb hts (by decide +kernel) tyX1 tyX1_ok hown (hts (.classLink RX2 9 RX1) (by decide +kernel)) (hts (.instantiable RX1 2) (by decide +kernel)) (hts (.initialized RX1) (by decide +kernel)) hK hP hD hS hA rfl (fun j hj => by match j, hj with | 0, _ => rfl | 1, _ => rfl) kc1 ks2 dX2_spelled_0 (fun sq H hq_sq hz_sq hm_sq hk_sq hP hD hS => ?_)
  have hP : va_P D vwCl [(sq, .inr (4, [.null, .int (nI 0)]))] H := hP
  have hD : va_D A [(sq, .inr (4, [.null, .int (nI 0)]))] := hD
  have hs3 := hS.1
  refine W.widen (k := 1) (n := 2) (by omega) (by omega) ?_
  refine lv_dup hx hb dX2_spelled_3 rfl ?_
  refine lv_iconst (v := (nI 4)) hx hb dX2_spelled_4 (by decide) ?_
  have hFc := va_free (wc := [(sq, .inr (4, [.null, .int (nI 0)]))]) hD hS hA [0] rfl
  have kc4 : 1 + (1) ≤ 2 := by omega
  have ks5 : 2 + (4) ≤ 6 := by omega
  refine z_callv (wr := []) (va_runI (As := [.int (nI 4)]) (rest := [.ref sq]) ⟨hx, hb, hml, hown, hts⟩ (c_signs l D N0 e H.size (zw H) sq 4 (by decide)) (cwI 1 hts gX2_spelled_X1_init rfl rfl rfl (hts (.initialized RX1) (by decide +kernel)) (hts (.methodLink RX2 28 yX1_init) (by decide +kernel)) (hts (.instanceMethod yX1_init) (by decide +kernel)) rfl (by decide +kernel) ⟨Nat.le_of_ble_eq_true rfl, Nat.le_of_ble_eq_true rfl⟩) ⟨zP.blind, (z_pre hK hP hD hS hAN hN hG [0] (by decide) rfl [] rfl (fun q hq => absurd hq List.not_mem_nil))⟩ rfl rfl hl.1 rfl (lv_room (Nat.le_of_ble_eq_true rfl)) dX2_spelled_5 ⟨kc4, ks5⟩) hK hP hD hS hA [0] rfl [] rfl (by decide) (by decide) (fun u t H locs ht hvm hw_c6 hY_c6 hz_c6 hm_c6 hk_c6 hK hP hD hS => ?_)
  obtain ⟨rq, cq⟩ := u
  try dsimp only at hw_c6 hY_c6
  have hP : va_P D vwCl [(sq, .inr (4, [.ref rq, .int (nI 0)])), (rq, .inl (cq, 4, .inl (fun _ => 0)))] H := hP
  have hD : va_D A [(sq, .inr (4, [.ref rq, .int (nI 0)])), (rq, .inl (cq, 4, .inl (fun _ => 0)))] := hD
  have hK : va_K D vwCl [(cq, .char)] s := hK
  have hs8 := hS.1
  refine W.widen (k := 2) (n := 6) (by omega) (by omega) ?_
  refine lv_astore_n (lv' := [(1, .ref sq), (0, .int (nI 65))]) hx hb dX2_spelled_8 rfl hl (by decide) rfl (fun ls hl => ?_)
  refine lv_iload_n hx hb dX2_spelled_9 rfl (lv_at hl 1 rfl) ?_
  refine lv_bipush (v := (nI 60)) hx hb dX2_spelled_10 (by decide) ?_
  refine lv_icmp_lt (tgt := 25) hx hb dX2_spelled_12 (by decide) (fun hq => absurd hq (show ¬ ((nI 65) < (nI 60)) from fun hq => absurd ((nI_ltI (by omega) (by omega)).mp hq) (by omega))) (fun _ => ?_)
  refine lv_aload_n hx hb dX2_spelled_15 rfl (lv_at hl 0 rfl) ?_
  refine lv_iload_n hx hb dX2_spelled_16 rfl (lv_at hl 1 rfl) ?_
  have hFc := va_free (wc := []) hD hS hA [] rfl
  have kc9 : 2 + (0) ≤ 2 := by omega
  have ks10 : 6 + (0) ≤ 6 := by omega
  refine z_callr (wr := [(sq, .inr (4, [.ref rq, .int (nI 0)])), (rq, .inl (cq, 4, .inl (fun _ => 0)))]) (va_runS (As := [.int (nI 65)]) (rest := [.ref sq]) ⟨hx, hb, hml, hown, hts⟩ (c_mark65 l D N0 e H.size (zw H)  ) (va_cwS 1 hts gX2_spelled_X2_spelledMark rfl rfl rfl (by decide +kernel) ⟨Nat.le_of_ble_eq_true rfl, Nat.le_of_ble_eq_true rfl⟩) ⟨zP.blind, (z_pre hK hP hD hS hAN hN hG [] (by decide) rfl [] rfl (fun q hq => absurd hq List.not_mem_nil))⟩ rfl rfl hl.1 rfl (lv_room (Nat.le_of_ble_eq_true rfl)) dX2_spelled_17 ⟨kc9, ks10⟩) hK hP hD hS hA [] rfl [0, 1] rfl (by decide) (by decide) (fun u r12 t H locs ht hvm hw_c11 hY_c11 hz_c11 hm_c11 hk_c11 hK hP hD hS => ?_)
  have hP : va_P D vwCl [(sq, .inr (4, [.ref rq, .int (nI 0)])), (rq, .inl (cq, 4, .inl (fun _ => 0)))] H := hP
  have hD : va_D A [(sq, .inr (4, [.ref rq, .int (nI 0)])), (rq, .inl (cq, 4, .inl (fun _ => 0)))] := hD
  have hK : va_K D vwCl [(cq, .char)] s := hK
  have hs13 := hS.1
  refine W.widen (k := 2) (n := 6) (by omega) (by omega) ?_
  obtain rfl : (e.2.2.1 3) = r12 := Eq.symm hw_c11
  have hFc := va_free (wc := [(sq, .inr (4, [.ref rq, .int (nI 0)])), (rq, .inl (cq, 4, .inl (fun _ => 0)))]) hD hS hA [0, 1] rfl
  have hFN : ∀ q, va_A [(sq, .inr (4, [.ref rq, .int (nI 0)])), (rq, .inl (cq, 4, .inl (fun _ => 0)))] H.size q → N0 ≤ q := fun q hq => hAN q (hFc q hq)
  have kc14 : 2 + (0) ≤ 2 := by omega
  have ks15 : 6 + (0) ≤ 6 := by omega
  refine z_callv (wr := []) (va_runV (As := [.ref ((e.2.2.1 3))]) (rest := []) ⟨hx, hb, hml, hown, hts⟩ (c_putS l D N0 e H.size (zw H) sq rq cq ((fun _ => 0)) ((e.2.2.1 3)) ((e.2.2.2 3)) 1 (by decide)) (cwV 1 hts gX2_spelled_X1_putString rfl rfl rfl (by decide +kernel) ⟨Nat.le_of_ble_eq_true rfl, Nat.le_of_ble_eq_true rfl⟩) ⟨zP.blind, (va_recv hK hP (ci := 4) (q0 := 0) rfl rfl), (z_pre hK hP hD hS hAN hN hG [0, 1] (by decide) rfl [0] rfl (List.forall_mem_cons.mpr ⟨((zkst hG 3 (by decide) hS hAN).wall (z_low (hG.2.2.2.2.1 3 (by decide)).na hFN) (z_low (hG.2.2.2.2.1 3 (by decide)).nv hFN)), fun q hq => absurd hq List.not_mem_nil⟩))⟩ rfl rfl hl.1 rfl (lv_room (Nat.le_of_ble_eq_true rfl)) dX2_spelled_20 ⟨kc14, ks15⟩) hK hP hD hS hA [0, 1] rfl [] rfl (by decide) (by decide) (fun u t H locs ht hvm hw_c16 hY_c16 hz_c16 hm_c16 hk_c16 hK hP hD hS => ?_)
  obtain ⟨g2, rfl⟩ : ∃ z, z = u := ⟨_, rfl⟩
  try dsimp only at hw_c16 hY_c16
  have hP : va_P D vwCl [(sq, .inr (4, [.ref rq, .int (nI 1)])), (rq, .inl (cq, 4, .inl g2))] H := hP
  have hD : va_D A [(sq, .inr (4, [.ref rq, .int (nI 1)])), (rq, .inl (cq, 4, .inl g2))] := hD
  have hK : va_K D vwCl [(cq, .char)] s := hK
  have hs18 := hS.1
  refine W.widen (k := 2) (n := 6) (by omega) (by omega) ?_
  refine lv_aload_n hx hb dX2_spelled_23 rfl (lv_at hl 0 rfl) ?_
  have hz0 := hS.1
  refine z_keepW (fun hkp => ?_)
  exact z_retr (q := sq) (sq, rq, cq, g2) hx hb hr (Or.inl ⟨_, rfl⟩) hlocks (show sq = sq from rfl) hK [0] rfl hP hD hS [0, 1] (by decide) rfl (by omega) (zw_keep hkp) (fun _ _ _ => trivial) dX2_spelled_24
set_option maxRecDepth 100000 in
set_option maxHeartbeats 4000000 in
/-- spelled(66) -/
theorem c_sp66 (l : Launch) (D : va_G) (N0 : Nat) (e : zE) (sz mz : Nat)   : Met l yX2_spelled wsX2_spelled ({ frames := 12, cells := 2, slots := 6, locals := 400 }) (va_Pc [.int (nI 66)] (zP N0 e D [] [] sz mz [])) (zQr (fun (u : Nat × Nat × ClassId × (Nat → Int32)) (ra : Nat) => ra = u.1) D (fun (u : Nat × Nat × ClassId × (Nat → Int32)) => ([(u.1, .inr (4, [.ref u.2.1, .int (nI (zc 66))])), (u.2.1, .inl (u.2.2.1, 4, .inl u.2.2.2))] : va_W)) (fun (u : Nat × Nat × ClassId × (Nat → Int32)) => ([(u.2.2.1, .char)] : List (ClassId × FieldType))) sz (0) mz (0) (fun (u : Nat × Nat × ClassId × (Nat → Int32)) (t : State) => True) (va_A [] sz)) (2) (6) (va_A [] sz) := by
  refine z_met (Qc := fun A => zQr (fun (u : Nat × Nat × ClassId × (Nat → Int32)) (ra : Nat) => ra = u.1) D (fun (u : Nat × Nat × ClassId × (Nat → Int32)) => ([(u.1, .inr (4, [.ref u.2.1, .int (nI (zc 66))])), (u.2.1, .inl (u.2.2.1, 4, .inl u.2.2.2))] : va_W)) (fun (u : Nat × Nat × ClassId × (Nat → Int32)) => ([(u.2.2.1, .char)] : List (ClassId × FieldType))) sz (0) mz (0) (fun (u : Nat × Nat × ClassId × (Nat → Int32)) (t : State) => True) A) (cc := cX2_spelled) (maxL := 3) (ret := (some (.object "Joinrow$Signs"))) RX2 rfl (by decide) rfl (Nat.le_of_ble_eq_true rfl) ?_
  intro p ev s m below meth c ls A hx hb hr hml hown hts hlocks hnm hsz hmz hN hAe hA hAN hS hP hK hD hG hL hl
  subst hsz
  subst hmz
  have hl : lv_has ls 3 [(0, .int (nI 66))] := hl
  have kc1 : 0 + 1 ≤ 2 := by omega
  have ks2 : 0 + 2 ≤ 6 := by omega
  refine z_new (ci := 4) (fs := [.null, .int 0]) (C := RX1) (T := TX1) (N := 2) hx hb hts (by decide +kernel) tyX1 tyX1_ok hown (hts (.classLink RX2 9 RX1) (by decide +kernel)) (hts (.instantiable RX1 2) (by decide +kernel)) (hts (.initialized RX1) (by decide +kernel)) hK hP hD hS hA rfl (fun j hj => by match j, hj with | 0, _ => rfl | 1, _ => rfl) kc1 ks2 dX2_spelled_0 (fun sq H hq_sq hz_sq hm_sq hk_sq hP hD hS => ?_)
  have hP : va_P D vwCl [(sq, .inr (4, [.null, .int (nI 0)]))] H := hP
  have hD : va_D A [(sq, .inr (4, [.null, .int (nI 0)]))] := hD
  have hs3 := hS.1
  refine W.widen (k := 1) (n := 2) (by omega) (by omega) ?_
  refine lv_dup hx hb dX2_spelled_3 rfl ?_
  refine lv_iconst (v := (nI 4)) hx hb dX2_spelled_4 (by decide) ?_
  have hFc := va_free (wc := [(sq, .inr (4, [.null, .int (nI 0)]))]) hD hS hA [0] rfl
  have kc4 : 1 + (1) ≤ 2 := by omega
  have ks5 : 2 + (4) ≤ 6 := by omega
  refine z_callv (wr := []) (va_runI (As := [.int (nI 4)]) (rest := [.ref sq]) ⟨hx, hb, hml, hown, hts⟩ (c_signs l D N0 e H.size (zw H) sq 4 (by decide)) (cwI 1 hts gX2_spelled_X1_init rfl rfl rfl (hts (.initialized RX1) (by decide +kernel)) (hts (.methodLink RX2 28 yX1_init) (by decide +kernel)) (hts (.instanceMethod yX1_init) (by decide +kernel)) rfl (by decide +kernel) ⟨Nat.le_of_ble_eq_true rfl, Nat.le_of_ble_eq_true rfl⟩) ⟨zP.blind, (z_pre hK hP hD hS hAN hN hG [0] (by decide) rfl [] rfl (fun q hq => absurd hq List.not_mem_nil))⟩ rfl rfl hl.1 rfl (lv_room (Nat.le_of_ble_eq_true rfl)) dX2_spelled_5 ⟨kc4, ks5⟩) hK hP hD hS hA [0] rfl [] rfl (by decide) (by decide) (fun u t H locs ht hvm hw_c6 hY_c6 hz_c6 hm_c6 hk_c6 hK hP hD hS => ?_)
  obtain ⟨rq, cq⟩ := u
  try dsimp only at hw_c6 hY_c6
  have hP : va_P D vwCl [(sq, .inr (4, [.ref rq, .int (nI 0)])), (rq, .inl (cq, 4, .inl (fun _ => 0)))] H := hP
  have hD : va_D A [(sq, .inr (4, [.ref rq, .int (nI 0)])), (rq, .inl (cq, 4, .inl (fun _ => 0)))] := hD
  have hK : va_K D vwCl [(cq, .char)] s := hK
  have hs8 := hS.1
  refine W.widen (k := 2) (n := 6) (by omega) (by omega) ?_
  refine lv_astore_n (lv' := [(1, .ref sq), (0, .int (nI 66))]) hx hb dX2_spelled_8 rfl hl (by decide) rfl (fun ls hl => ?_)
  refine lv_iload_n hx hb dX2_spelled_9 rfl (lv_at hl 1 rfl) ?_
  refine lv_bipush (v := (nI 60)) hx hb dX2_spelled_10 (by decide) ?_
  refine lv_icmp_lt (tgt := 25) hx hb dX2_spelled_12 (by decide) (fun hq => absurd hq (show ¬ ((nI 66) < (nI 60)) from fun hq => absurd ((nI_ltI (by omega) (by omega)).mp hq) (by omega))) (fun _ => ?_)
  refine lv_aload_n hx hb dX2_spelled_15 rfl (lv_at hl 0 rfl) ?_
  refine lv_iload_n hx hb dX2_spelled_16 rfl (lv_at hl 1 rfl) ?_
  have hFc := va_free (wc := []) hD hS hA [] rfl
  have kc9 : 2 + (0) ≤ 2 := by omega
  have ks10 : 6 + (0) ≤ 6 := by omega
  refine z_callr (wr := [(sq, .inr (4, [.ref rq, .int (nI 0)])), (rq, .inl (cq, 4, .inl (fun _ => 0)))]) (va_runS (As := [.int (nI 66)]) (rest := [.ref sq]) ⟨hx, hb, hml, hown, hts⟩ (c_mark66 l D N0 e H.size (zw H)  ) (va_cwS 1 hts gX2_spelled_X2_spelledMark rfl rfl rfl (by decide +kernel) ⟨Nat.le_of_ble_eq_true rfl, Nat.le_of_ble_eq_true rfl⟩) ⟨zP.blind, (z_pre hK hP hD hS hAN hN hG [] (by decide) rfl [] rfl (fun q hq => absurd hq List.not_mem_nil))⟩ rfl rfl hl.1 rfl (lv_room (Nat.le_of_ble_eq_true rfl)) dX2_spelled_17 ⟨kc9, ks10⟩) hK hP hD hS hA [] rfl [0, 1] rfl (by decide) (by decide) (fun u r12 t H locs ht hvm hw_c11 hY_c11 hz_c11 hm_c11 hk_c11 hK hP hD hS => ?_)
  have hP : va_P D vwCl [(sq, .inr (4, [.ref rq, .int (nI 0)])), (rq, .inl (cq, 4, .inl (fun _ => 0)))] H := hP
  have hD : va_D A [(sq, .inr (4, [.ref rq, .int (nI 0)])), (rq, .inl (cq, 4, .inl (fun _ => 0)))] := hD
  have hK : va_K D vwCl [(cq, .char)] s := hK
  have hs13 := hS.1
  refine W.widen (k := 2) (n := 6) (by omega) (by omega) ?_
  obtain rfl : (e.2.2.1 7) = r12 := Eq.symm hw_c11
  have hFc := va_free (wc := [(sq, .inr (4, [.ref rq, .int (nI 0)])), (rq, .inl (cq, 4, .inl (fun _ => 0)))]) hD hS hA [0, 1] rfl
  have hFN : ∀ q, va_A [(sq, .inr (4, [.ref rq, .int (nI 0)])), (rq, .inl (cq, 4, .inl (fun _ => 0)))] H.size q → N0 ≤ q := fun q hq => hAN q (hFc q hq)
  have kc14 : 2 + (0) ≤ 2 := by omega
  have ks15 : 6 + (0) ≤ 6 := by omega
  refine z_callv (wr := []) (va_runV (As := [.ref ((e.2.2.1 7))]) (rest := []) ⟨hx, hb, hml, hown, hts⟩ (c_putS l D N0 e H.size (zw H) sq rq cq ((fun _ => 0)) ((e.2.2.1 7)) ((e.2.2.2 7)) 1 (by decide)) (cwV 1 hts gX2_spelled_X1_putString rfl rfl rfl (by decide +kernel) ⟨Nat.le_of_ble_eq_true rfl, Nat.le_of_ble_eq_true rfl⟩) ⟨zP.blind, (va_recv hK hP (ci := 4) (q0 := 0) rfl rfl), (z_pre hK hP hD hS hAN hN hG [0, 1] (by decide) rfl [0] rfl (List.forall_mem_cons.mpr ⟨((zkst hG 7 (by decide) hS hAN).wall (z_low (hG.2.2.2.2.1 7 (by decide)).na hFN) (z_low (hG.2.2.2.2.1 7 (by decide)).nv hFN)), fun q hq => absurd hq List.not_mem_nil⟩))⟩ rfl rfl hl.1 rfl (lv_room (Nat.le_of_ble_eq_true rfl)) dX2_spelled_20 ⟨kc14, ks15⟩) hK hP hD hS hA [0, 1] rfl [] rfl (by decide) (by decide) (fun u t H locs ht hvm hw_c16 hY_c16 hz_c16 hm_c16 hk_c16 hK hP hD hS => ?_)
  obtain ⟨g2, rfl⟩ : ∃ z, z = u := ⟨_, rfl⟩
  try dsimp only at hw_c16 hY_c16
  have hP : va_P D vwCl [(sq, .inr (4, [.ref rq, .int (nI 1)])), (rq, .inl (cq, 4, .inl g2))] H := hP
  have hD : va_D A [(sq, .inr (4, [.ref rq, .int (nI 1)])), (rq, .inl (cq, 4, .inl g2))] := hD
  have hK : va_K D vwCl [(cq, .char)] s := hK
  have hs18 := hS.1
  refine W.widen (k := 2) (n := 6) (by omega) (by omega) ?_
  refine lv_aload_n hx hb dX2_spelled_23 rfl (lv_at hl 0 rfl) ?_
  have hz0 := hS.1
  refine z_keepW (fun hkp => ?_)
  exact z_retr (q := sq) (sq, rq, cq, g2) hx hb hr (Or.inl ⟨_, rfl⟩) hlocks (show sq = sq from rfl) hK [0] rfl hP hD hS [0, 1] (by decide) rfl (by omega) (zw_keep hkp) (fun _ _ _ => trivial) dX2_spelled_24
set_option maxRecDepth 100000 in
set_option maxHeartbeats 4000000 in
/-- spelled(67) -/
theorem c_sp67 (l : Launch) (D : va_G) (N0 : Nat) (e : zE) (sz mz : Nat)   : Met l yX2_spelled wsX2_spelled ({ frames := 12, cells := 2, slots := 6, locals := 400 }) (va_Pc [.int (nI 67)] (zP N0 e D [] [] sz mz [])) (zQr (fun (u : Nat × Nat × ClassId × (Nat → Int32)) (ra : Nat) => ra = u.1) D (fun (u : Nat × Nat × ClassId × (Nat → Int32)) => ([(u.1, .inr (4, [.ref u.2.1, .int (nI (zc 67))])), (u.2.1, .inl (u.2.2.1, 4, .inl u.2.2.2))] : va_W)) (fun (u : Nat × Nat × ClassId × (Nat → Int32)) => ([(u.2.2.1, .char)] : List (ClassId × FieldType))) sz (0) mz (0) (fun (u : Nat × Nat × ClassId × (Nat → Int32)) (t : State) => True) (va_A [] sz)) (2) (6) (va_A [] sz) := by
  refine z_met (Qc := fun A => zQr (fun (u : Nat × Nat × ClassId × (Nat → Int32)) (ra : Nat) => ra = u.1) D (fun (u : Nat × Nat × ClassId × (Nat → Int32)) => ([(u.1, .inr (4, [.ref u.2.1, .int (nI (zc 67))])), (u.2.1, .inl (u.2.2.1, 4, .inl u.2.2.2))] : va_W)) (fun (u : Nat × Nat × ClassId × (Nat → Int32)) => ([(u.2.2.1, .char)] : List (ClassId × FieldType))) sz (0) mz (0) (fun (u : Nat × Nat × ClassId × (Nat → Int32)) (t : State) => True) A) (cc := cX2_spelled) (maxL := 3) (ret := (some (.object "Joinrow$Signs"))) RX2 rfl (by decide) rfl (Nat.le_of_ble_eq_true rfl) ?_
  intro p ev s m below meth c ls A hx hb hr hml hown hts hlocks hnm hsz hmz hN hAe hA hAN hS hP hK hD hG hL hl
  subst hsz
  subst hmz
  have hl : lv_has ls 3 [(0, .int (nI 67))] := hl
  have kc1 : 0 + 1 ≤ 2 := by omega
  have ks2 : 0 + 2 ≤ 6 := by omega
  refine z_new (ci := 4) (fs := [.null, .int 0]) (C := RX1) (T := TX1) (N := 2) hx hb hts (by decide +kernel) tyX1 tyX1_ok hown (hts (.classLink RX2 9 RX1) (by decide +kernel)) (hts (.instantiable RX1 2) (by decide +kernel)) (hts (.initialized RX1) (by decide +kernel)) hK hP hD hS hA rfl (fun j hj => by match j, hj with | 0, _ => rfl | 1, _ => rfl) kc1 ks2 dX2_spelled_0 (fun sq H hq_sq hz_sq hm_sq hk_sq hP hD hS => ?_)
  have hP : va_P D vwCl [(sq, .inr (4, [.null, .int (nI 0)]))] H := hP
  have hD : va_D A [(sq, .inr (4, [.null, .int (nI 0)]))] := hD
  have hs3 := hS.1
  refine W.widen (k := 1) (n := 2) (by omega) (by omega) ?_
  refine lv_dup hx hb dX2_spelled_3 rfl ?_
  refine lv_iconst (v := (nI 4)) hx hb dX2_spelled_4 (by decide) ?_
  have hFc := va_free (wc := [(sq, .inr (4, [.null, .int (nI 0)]))]) hD hS hA [0] rfl
  have kc4 : 1 + (1) ≤ 2 := by omega
  have ks5 : 2 + (4) ≤ 6 := by omega
  refine z_callv (wr := []) (va_runI (As := [.int (nI 4)]) (rest := [.ref sq]) ⟨hx, hb, hml, hown, hts⟩ (c_signs l D N0 e H.size (zw H) sq 4 (by decide)) (cwI 1 hts gX2_spelled_X1_init rfl rfl rfl (hts (.initialized RX1) (by decide +kernel)) (hts (.methodLink RX2 28 yX1_init) (by decide +kernel)) (hts (.instanceMethod yX1_init) (by decide +kernel)) rfl (by decide +kernel) ⟨Nat.le_of_ble_eq_true rfl, Nat.le_of_ble_eq_true rfl⟩) ⟨zP.blind, (z_pre hK hP hD hS hAN hN hG [0] (by decide) rfl [] rfl (fun q hq => absurd hq List.not_mem_nil))⟩ rfl rfl hl.1 rfl (lv_room (Nat.le_of_ble_eq_true rfl)) dX2_spelled_5 ⟨kc4, ks5⟩) hK hP hD hS hA [0] rfl [] rfl (by decide) (by decide) (fun u t H locs ht hvm hw_c6 hY_c6 hz_c6 hm_c6 hk_c6 hK hP hD hS => ?_)
  obtain ⟨rq, cq⟩ := u
  try dsimp only at hw_c6 hY_c6
  have hP : va_P D vwCl [(sq, .inr (4, [.ref rq, .int (nI 0)])), (rq, .inl (cq, 4, .inl (fun _ => 0)))] H := hP
  have hD : va_D A [(sq, .inr (4, [.ref rq, .int (nI 0)])), (rq, .inl (cq, 4, .inl (fun _ => 0)))] := hD
  have hK : va_K D vwCl [(cq, .char)] s := hK
  have hs8 := hS.1
  refine W.widen (k := 2) (n := 6) (by omega) (by omega) ?_
  refine lv_astore_n (lv' := [(1, .ref sq), (0, .int (nI 67))]) hx hb dX2_spelled_8 rfl hl (by decide) rfl (fun ls hl => ?_)
  refine lv_iload_n hx hb dX2_spelled_9 rfl (lv_at hl 1 rfl) ?_
  refine lv_bipush (v := (nI 60)) hx hb dX2_spelled_10 (by decide) ?_
  refine lv_icmp_lt (tgt := 25) hx hb dX2_spelled_12 (by decide) (fun hq => absurd hq (show ¬ ((nI 67) < (nI 60)) from fun hq => absurd ((nI_ltI (by omega) (by omega)).mp hq) (by omega))) (fun _ => ?_)
  refine lv_aload_n hx hb dX2_spelled_15 rfl (lv_at hl 0 rfl) ?_
  refine lv_iload_n hx hb dX2_spelled_16 rfl (lv_at hl 1 rfl) ?_
  have hFc := va_free (wc := []) hD hS hA [] rfl
  have kc9 : 2 + (0) ≤ 2 := by omega
  have ks10 : 6 + (0) ≤ 6 := by omega
  refine z_callr (wr := [(sq, .inr (4, [.ref rq, .int (nI 0)])), (rq, .inl (cq, 4, .inl (fun _ => 0)))]) (va_runS (As := [.int (nI 67)]) (rest := [.ref sq]) ⟨hx, hb, hml, hown, hts⟩ (c_mark67 l D N0 e H.size (zw H)  ) (va_cwS 1 hts gX2_spelled_X2_spelledMark rfl rfl rfl (by decide +kernel) ⟨Nat.le_of_ble_eq_true rfl, Nat.le_of_ble_eq_true rfl⟩) ⟨zP.blind, (z_pre hK hP hD hS hAN hN hG [] (by decide) rfl [] rfl (fun q hq => absurd hq List.not_mem_nil))⟩ rfl rfl hl.1 rfl (lv_room (Nat.le_of_ble_eq_true rfl)) dX2_spelled_17 ⟨kc9, ks10⟩) hK hP hD hS hA [] rfl [0, 1] rfl (by decide) (by decide) (fun u r12 t H locs ht hvm hw_c11 hY_c11 hz_c11 hm_c11 hk_c11 hK hP hD hS => ?_)
  have hP : va_P D vwCl [(sq, .inr (4, [.ref rq, .int (nI 0)])), (rq, .inl (cq, 4, .inl (fun _ => 0)))] H := hP
  have hD : va_D A [(sq, .inr (4, [.ref rq, .int (nI 0)])), (rq, .inl (cq, 4, .inl (fun _ => 0)))] := hD
  have hK : va_K D vwCl [(cq, .char)] s := hK
  have hs13 := hS.1
  refine W.widen (k := 2) (n := 6) (by omega) (by omega) ?_
  obtain rfl : (e.2.2.1 8) = r12 := Eq.symm hw_c11
  have hFc := va_free (wc := [(sq, .inr (4, [.ref rq, .int (nI 0)])), (rq, .inl (cq, 4, .inl (fun _ => 0)))]) hD hS hA [0, 1] rfl
  have hFN : ∀ q, va_A [(sq, .inr (4, [.ref rq, .int (nI 0)])), (rq, .inl (cq, 4, .inl (fun _ => 0)))] H.size q → N0 ≤ q := fun q hq => hAN q (hFc q hq)
  have kc14 : 2 + (0) ≤ 2 := by omega
  have ks15 : 6 + (0) ≤ 6 := by omega
  refine z_callv (wr := []) (va_runV (As := [.ref ((e.2.2.1 8))]) (rest := []) ⟨hx, hb, hml, hown, hts⟩ (c_putS l D N0 e H.size (zw H) sq rq cq ((fun _ => 0)) ((e.2.2.1 8)) ((e.2.2.2 8)) 1 (by decide)) (cwV 1 hts gX2_spelled_X1_putString rfl rfl rfl (by decide +kernel) ⟨Nat.le_of_ble_eq_true rfl, Nat.le_of_ble_eq_true rfl⟩) ⟨zP.blind, (va_recv hK hP (ci := 4) (q0 := 0) rfl rfl), (z_pre hK hP hD hS hAN hN hG [0, 1] (by decide) rfl [0] rfl (List.forall_mem_cons.mpr ⟨((zkst hG 8 (by decide) hS hAN).wall (z_low (hG.2.2.2.2.1 8 (by decide)).na hFN) (z_low (hG.2.2.2.2.1 8 (by decide)).nv hFN)), fun q hq => absurd hq List.not_mem_nil⟩))⟩ rfl rfl hl.1 rfl (lv_room (Nat.le_of_ble_eq_true rfl)) dX2_spelled_20 ⟨kc14, ks15⟩) hK hP hD hS hA [0, 1] rfl [] rfl (by decide) (by decide) (fun u t H locs ht hvm hw_c16 hY_c16 hz_c16 hm_c16 hk_c16 hK hP hD hS => ?_)
  obtain ⟨g2, rfl⟩ : ∃ z, z = u := ⟨_, rfl⟩
  try dsimp only at hw_c16 hY_c16
  have hP : va_P D vwCl [(sq, .inr (4, [.ref rq, .int (nI 1)])), (rq, .inl (cq, 4, .inl g2))] H := hP
  have hD : va_D A [(sq, .inr (4, [.ref rq, .int (nI 1)])), (rq, .inl (cq, 4, .inl g2))] := hD
  have hK : va_K D vwCl [(cq, .char)] s := hK
  have hs18 := hS.1
  refine W.widen (k := 2) (n := 6) (by omega) (by omega) ?_
  refine lv_aload_n hx hb dX2_spelled_23 rfl (lv_at hl 0 rfl) ?_
  have hz0 := hS.1
  refine z_keepW (fun hkp => ?_)
  exact z_retr (q := sq) (sq, rq, cq, g2) hx hb hr (Or.inl ⟨_, rfl⟩) hlocks (show sq = sq from rfl) hK [0] rfl hP hD hS [0, 1] (by decide) rfl (by omega) (zw_keep hkp) (fun _ _ _ => trivial) dX2_spelled_24
set_option maxRecDepth 100000 in
set_option maxHeartbeats 4000000 in
/-- spelled(68) -/
theorem c_sp68 (l : Launch) (D : va_G) (N0 : Nat) (e : zE) (sz mz : Nat)   : Met l yX2_spelled wsX2_spelled ({ frames := 12, cells := 2, slots := 6, locals := 400 }) (va_Pc [.int (nI 68)] (zP N0 e D [] [] sz mz [])) (zQr (fun (u : Nat × Nat × ClassId × (Nat → Int32)) (ra : Nat) => ra = u.1) D (fun (u : Nat × Nat × ClassId × (Nat → Int32)) => ([(u.1, .inr (4, [.ref u.2.1, .int (nI (zc 68))])), (u.2.1, .inl (u.2.2.1, 4, .inl u.2.2.2))] : va_W)) (fun (u : Nat × Nat × ClassId × (Nat → Int32)) => ([(u.2.2.1, .char)] : List (ClassId × FieldType))) sz (0) mz (0) (fun (u : Nat × Nat × ClassId × (Nat → Int32)) (t : State) => True) (va_A [] sz)) (2) (6) (va_A [] sz) := by
  refine z_met (Qc := fun A => zQr (fun (u : Nat × Nat × ClassId × (Nat → Int32)) (ra : Nat) => ra = u.1) D (fun (u : Nat × Nat × ClassId × (Nat → Int32)) => ([(u.1, .inr (4, [.ref u.2.1, .int (nI (zc 68))])), (u.2.1, .inl (u.2.2.1, 4, .inl u.2.2.2))] : va_W)) (fun (u : Nat × Nat × ClassId × (Nat → Int32)) => ([(u.2.2.1, .char)] : List (ClassId × FieldType))) sz (0) mz (0) (fun (u : Nat × Nat × ClassId × (Nat → Int32)) (t : State) => True) A) (cc := cX2_spelled) (maxL := 3) (ret := (some (.object "Joinrow$Signs"))) RX2 rfl (by decide) rfl (Nat.le_of_ble_eq_true rfl) ?_
  intro p ev s m below meth c ls A hx hb hr hml hown hts hlocks hnm hsz hmz hN hAe hA hAN hS hP hK hD hG hL hl
  subst hsz
  subst hmz
  have hl : lv_has ls 3 [(0, .int (nI 68))] := hl
  have kc1 : 0 + 1 ≤ 2 := by omega
  have ks2 : 0 + 2 ≤ 6 := by omega
  refine z_new (ci := 4) (fs := [.null, .int 0]) (C := RX1) (T := TX1) (N := 2) hx hb hts (by decide +kernel) tyX1 tyX1_ok hown (hts (.classLink RX2 9 RX1) (by decide +kernel)) (hts (.instantiable RX1 2) (by decide +kernel)) (hts (.initialized RX1) (by decide +kernel)) hK hP hD hS hA rfl (fun j hj => by match j, hj with | 0, _ => rfl | 1, _ => rfl) kc1 ks2 dX2_spelled_0 (fun sq H hq_sq hz_sq hm_sq hk_sq hP hD hS => ?_)
  have hP : va_P D vwCl [(sq, .inr (4, [.null, .int (nI 0)]))] H := hP
  have hD : va_D A [(sq, .inr (4, [.null, .int (nI 0)]))] := hD
  have hs3 := hS.1
  refine W.widen (k := 1) (n := 2) (by omega) (by omega) ?_
  refine lv_dup hx hb dX2_spelled_3 rfl ?_
  refine lv_iconst (v := (nI 4)) hx hb dX2_spelled_4 (by decide) ?_
  have hFc := va_free (wc := [(sq, .inr (4, [.null, .int (nI 0)]))]) hD hS hA [0] rfl
  have kc4 : 1 + (1) ≤ 2 := by omega
  have ks5 : 2 + (4) ≤ 6 := by omega
  refine z_callv (wr := []) (va_runI (As := [.int (nI 4)]) (rest := [.ref sq]) ⟨hx, hb, hml, hown, hts⟩ (c_signs l D N0 e H.size (zw H) sq 4 (by decide)) (cwI 1 hts gX2_spelled_X1_init rfl rfl rfl (hts (.initialized RX1) (by decide +kernel)) (hts (.methodLink RX2 28 yX1_init) (by decide +kernel)) (hts (.instanceMethod yX1_init) (by decide +kernel)) rfl (by decide +kernel) ⟨Nat.le_of_ble_eq_true rfl, Nat.le_of_ble_eq_true rfl⟩) ⟨zP.blind, (z_pre hK hP hD hS hAN hN hG [0] (by decide) rfl [] rfl (fun q hq => absurd hq List.not_mem_nil))⟩ rfl rfl hl.1 rfl (lv_room (Nat.le_of_ble_eq_true rfl)) dX2_spelled_5 ⟨kc4, ks5⟩) hK hP hD hS hA [0] rfl [] rfl (by decide) (by decide) (fun u t H locs ht hvm hw_c6 hY_c6 hz_c6 hm_c6 hk_c6 hK hP hD hS => ?_)
  obtain ⟨rq, cq⟩ := u
  try dsimp only at hw_c6 hY_c6
  have hP : va_P D vwCl [(sq, .inr (4, [.ref rq, .int (nI 0)])), (rq, .inl (cq, 4, .inl (fun _ => 0)))] H := hP
  have hD : va_D A [(sq, .inr (4, [.ref rq, .int (nI 0)])), (rq, .inl (cq, 4, .inl (fun _ => 0)))] := hD
  have hK : va_K D vwCl [(cq, .char)] s := hK
  have hs8 := hS.1
  refine W.widen (k := 2) (n := 6) (by omega) (by omega) ?_
  refine lv_astore_n (lv' := [(1, .ref sq), (0, .int (nI 68))]) hx hb dX2_spelled_8 rfl hl (by decide) rfl (fun ls hl => ?_)
  refine lv_iload_n hx hb dX2_spelled_9 rfl (lv_at hl 1 rfl) ?_
  refine lv_bipush (v := (nI 60)) hx hb dX2_spelled_10 (by decide) ?_
  refine lv_icmp_lt (tgt := 25) hx hb dX2_spelled_12 (by decide) (fun hq => absurd hq (show ¬ ((nI 68) < (nI 60)) from fun hq => absurd ((nI_ltI (by omega) (by omega)).mp hq) (by omega))) (fun _ => ?_)
  refine lv_aload_n hx hb dX2_spelled_15 rfl (lv_at hl 0 rfl) ?_
  refine lv_iload_n hx hb dX2_spelled_16 rfl (lv_at hl 1 rfl) ?_
  have hFc := va_free (wc := []) hD hS hA [] rfl
  have kc9 : 2 + (0) ≤ 2 := by omega
  have ks10 : 6 + (0) ≤ 6 := by omega
  refine z_callr (wr := [(sq, .inr (4, [.ref rq, .int (nI 0)])), (rq, .inl (cq, 4, .inl (fun _ => 0)))]) (va_runS (As := [.int (nI 68)]) (rest := [.ref sq]) ⟨hx, hb, hml, hown, hts⟩ (c_mark68 l D N0 e H.size (zw H)  ) (va_cwS 1 hts gX2_spelled_X2_spelledMark rfl rfl rfl (by decide +kernel) ⟨Nat.le_of_ble_eq_true rfl, Nat.le_of_ble_eq_true rfl⟩) ⟨zP.blind, (z_pre hK hP hD hS hAN hN hG [] (by decide) rfl [] rfl (fun q hq => absurd hq List.not_mem_nil))⟩ rfl rfl hl.1 rfl (lv_room (Nat.le_of_ble_eq_true rfl)) dX2_spelled_17 ⟨kc9, ks10⟩) hK hP hD hS hA [] rfl [0, 1] rfl (by decide) (by decide) (fun u r12 t H locs ht hvm hw_c11 hY_c11 hz_c11 hm_c11 hk_c11 hK hP hD hS => ?_)
  have hP : va_P D vwCl [(sq, .inr (4, [.ref rq, .int (nI 0)])), (rq, .inl (cq, 4, .inl (fun _ => 0)))] H := hP
  have hD : va_D A [(sq, .inr (4, [.ref rq, .int (nI 0)])), (rq, .inl (cq, 4, .inl (fun _ => 0)))] := hD
  have hK : va_K D vwCl [(cq, .char)] s := hK
  have hs13 := hS.1
  refine W.widen (k := 2) (n := 6) (by omega) (by omega) ?_
  obtain rfl : (e.2.2.1 9) = r12 := Eq.symm hw_c11
  have hFc := va_free (wc := [(sq, .inr (4, [.ref rq, .int (nI 0)])), (rq, .inl (cq, 4, .inl (fun _ => 0)))]) hD hS hA [0, 1] rfl
  have hFN : ∀ q, va_A [(sq, .inr (4, [.ref rq, .int (nI 0)])), (rq, .inl (cq, 4, .inl (fun _ => 0)))] H.size q → N0 ≤ q := fun q hq => hAN q (hFc q hq)
  have kc14 : 2 + (0) ≤ 2 := by omega
  have ks15 : 6 + (0) ≤ 6 := by omega
  refine z_callv (wr := []) (va_runV (As := [.ref ((e.2.2.1 9))]) (rest := []) ⟨hx, hb, hml, hown, hts⟩ (c_putS l D N0 e H.size (zw H) sq rq cq ((fun _ => 0)) ((e.2.2.1 9)) ((e.2.2.2 9)) 2 (by decide)) (cwV 1 hts gX2_spelled_X1_putString rfl rfl rfl (by decide +kernel) ⟨Nat.le_of_ble_eq_true rfl, Nat.le_of_ble_eq_true rfl⟩) ⟨zP.blind, (va_recv hK hP (ci := 4) (q0 := 0) rfl rfl), (z_pre hK hP hD hS hAN hN hG [0, 1] (by decide) rfl [0] rfl (List.forall_mem_cons.mpr ⟨((zkst hG 9 (by decide) hS hAN).wall (z_low (hG.2.2.2.2.1 9 (by decide)).na hFN) (z_low (hG.2.2.2.2.1 9 (by decide)).nv hFN)), fun q hq => absurd hq List.not_mem_nil⟩))⟩ rfl rfl hl.1 rfl (lv_room (Nat.le_of_ble_eq_true rfl)) dX2_spelled_20 ⟨kc14, ks15⟩) hK hP hD hS hA [0, 1] rfl [] rfl (by decide) (by decide) (fun u t H locs ht hvm hw_c16 hY_c16 hz_c16 hm_c16 hk_c16 hK hP hD hS => ?_)
  obtain ⟨g2, rfl⟩ : ∃ z, z = u := ⟨_, rfl⟩
  try dsimp only at hw_c16 hY_c16
  have hP : va_P D vwCl [(sq, .inr (4, [.ref rq, .int (nI 2)])), (rq, .inl (cq, 4, .inl g2))] H := hP
  have hD : va_D A [(sq, .inr (4, [.ref rq, .int (nI 2)])), (rq, .inl (cq, 4, .inl g2))] := hD
  have hK : va_K D vwCl [(cq, .char)] s := hK
  have hs18 := hS.1
  refine W.widen (k := 2) (n := 6) (by omega) (by omega) ?_
  refine lv_aload_n hx hb dX2_spelled_23 rfl (lv_at hl 0 rfl) ?_
  have hz0 := hS.1
  refine z_keepW (fun hkp => ?_)
  exact z_retr (q := sq) (sq, rq, cq, g2) hx hb hr (Or.inl ⟨_, rfl⟩) hlocks (show sq = sq from rfl) hK [0] rfl hP hD hS [0, 1] (by decide) rfl (by omega) (zw_keep hkp) (fun _ _ _ => trivial) dX2_spelled_24
set_option maxRecDepth 100000 in
set_option maxHeartbeats 4000000 in
/-- spelled(69) -/
theorem c_sp69 (l : Launch) (D : va_G) (N0 : Nat) (e : zE) (sz mz : Nat)   : Met l yX2_spelled wsX2_spelled ({ frames := 12, cells := 2, slots := 6, locals := 400 }) (va_Pc [.int (nI 69)] (zP N0 e D [] [] sz mz [])) (zQr (fun (u : Nat × Nat × ClassId × (Nat → Int32)) (ra : Nat) => ra = u.1) D (fun (u : Nat × Nat × ClassId × (Nat → Int32)) => ([(u.1, .inr (4, [.ref u.2.1, .int (nI (zc 69))])), (u.2.1, .inl (u.2.2.1, 4, .inl u.2.2.2))] : va_W)) (fun (u : Nat × Nat × ClassId × (Nat → Int32)) => ([(u.2.2.1, .char)] : List (ClassId × FieldType))) sz (0) mz (0) (fun (u : Nat × Nat × ClassId × (Nat → Int32)) (t : State) => True) (va_A [] sz)) (2) (6) (va_A [] sz) := by
  refine z_met (Qc := fun A => zQr (fun (u : Nat × Nat × ClassId × (Nat → Int32)) (ra : Nat) => ra = u.1) D (fun (u : Nat × Nat × ClassId × (Nat → Int32)) => ([(u.1, .inr (4, [.ref u.2.1, .int (nI (zc 69))])), (u.2.1, .inl (u.2.2.1, 4, .inl u.2.2.2))] : va_W)) (fun (u : Nat × Nat × ClassId × (Nat → Int32)) => ([(u.2.2.1, .char)] : List (ClassId × FieldType))) sz (0) mz (0) (fun (u : Nat × Nat × ClassId × (Nat → Int32)) (t : State) => True) A) (cc := cX2_spelled) (maxL := 3) (ret := (some (.object "Joinrow$Signs"))) RX2 rfl (by decide) rfl (Nat.le_of_ble_eq_true rfl) ?_
  intro p ev s m below meth c ls A hx hb hr hml hown hts hlocks hnm hsz hmz hN hAe hA hAN hS hP hK hD hG hL hl
  subst hsz
  subst hmz
  have hl : lv_has ls 3 [(0, .int (nI 69))] := hl
  have kc1 : 0 + 1 ≤ 2 := by omega
  have ks2 : 0 + 2 ≤ 6 := by omega
  refine z_new (ci := 4) (fs := [.null, .int 0]) (C := RX1) (T := TX1) (N := 2) hx hb hts (by decide +kernel) tyX1 tyX1_ok hown (hts (.classLink RX2 9 RX1) (by decide +kernel)) (hts (.instantiable RX1 2) (by decide +kernel)) (hts (.initialized RX1) (by decide +kernel)) hK hP hD hS hA rfl (fun j hj => by match j, hj with | 0, _ => rfl | 1, _ => rfl) kc1 ks2 dX2_spelled_0 (fun sq H hq_sq hz_sq hm_sq hk_sq hP hD hS => ?_)
  have hP : va_P D vwCl [(sq, .inr (4, [.null, .int (nI 0)]))] H := hP
  have hD : va_D A [(sq, .inr (4, [.null, .int (nI 0)]))] := hD
  have hs3 := hS.1
  refine W.widen (k := 1) (n := 2) (by omega) (by omega) ?_
  refine lv_dup hx hb dX2_spelled_3 rfl ?_
  refine lv_iconst (v := (nI 4)) hx hb dX2_spelled_4 (by decide) ?_
  have hFc := va_free (wc := [(sq, .inr (4, [.null, .int (nI 0)]))]) hD hS hA [0] rfl
  have kc4 : 1 + (1) ≤ 2 := by omega
  have ks5 : 2 + (4) ≤ 6 := by omega
  refine z_callv (wr := []) (va_runI (As := [.int (nI 4)]) (rest := [.ref sq]) ⟨hx, hb, hml, hown, hts⟩ (c_signs l D N0 e H.size (zw H) sq 4 (by decide)) (cwI 1 hts gX2_spelled_X1_init rfl rfl rfl (hts (.initialized RX1) (by decide +kernel)) (hts (.methodLink RX2 28 yX1_init) (by decide +kernel)) (hts (.instanceMethod yX1_init) (by decide +kernel)) rfl (by decide +kernel) ⟨Nat.le_of_ble_eq_true rfl, Nat.le_of_ble_eq_true rfl⟩) ⟨zP.blind, (z_pre hK hP hD hS hAN hN hG [0] (by decide) rfl [] rfl (fun q hq => absurd hq List.not_mem_nil))⟩ rfl rfl hl.1 rfl (lv_room (Nat.le_of_ble_eq_true rfl)) dX2_spelled_5 ⟨kc4, ks5⟩) hK hP hD hS hA [0] rfl [] rfl (by decide) (by decide) (fun u t H locs ht hvm hw_c6 hY_c6 hz_c6 hm_c6 hk_c6 hK hP hD hS => ?_)
  obtain ⟨rq, cq⟩ := u
  try dsimp only at hw_c6 hY_c6
  have hP : va_P D vwCl [(sq, .inr (4, [.ref rq, .int (nI 0)])), (rq, .inl (cq, 4, .inl (fun _ => 0)))] H := hP
  have hD : va_D A [(sq, .inr (4, [.ref rq, .int (nI 0)])), (rq, .inl (cq, 4, .inl (fun _ => 0)))] := hD
  have hK : va_K D vwCl [(cq, .char)] s := hK
  have hs8 := hS.1
  refine W.widen (k := 2) (n := 6) (by omega) (by omega) ?_
  refine lv_astore_n (lv' := [(1, .ref sq), (0, .int (nI 69))]) hx hb dX2_spelled_8 rfl hl (by decide) rfl (fun ls hl => ?_)
  refine lv_iload_n hx hb dX2_spelled_9 rfl (lv_at hl 1 rfl) ?_
  refine lv_bipush (v := (nI 60)) hx hb dX2_spelled_10 (by decide) ?_
  refine lv_icmp_lt (tgt := 25) hx hb dX2_spelled_12 (by decide) (fun hq => absurd hq (show ¬ ((nI 69) < (nI 60)) from fun hq => absurd ((nI_ltI (by omega) (by omega)).mp hq) (by omega))) (fun _ => ?_)
  refine lv_aload_n hx hb dX2_spelled_15 rfl (lv_at hl 0 rfl) ?_
  refine lv_iload_n hx hb dX2_spelled_16 rfl (lv_at hl 1 rfl) ?_
  have hFc := va_free (wc := []) hD hS hA [] rfl
  have kc9 : 2 + (0) ≤ 2 := by omega
  have ks10 : 6 + (0) ≤ 6 := by omega
  refine z_callr (wr := [(sq, .inr (4, [.ref rq, .int (nI 0)])), (rq, .inl (cq, 4, .inl (fun _ => 0)))]) (va_runS (As := [.int (nI 69)]) (rest := [.ref sq]) ⟨hx, hb, hml, hown, hts⟩ (c_mark69 l D N0 e H.size (zw H)  ) (va_cwS 1 hts gX2_spelled_X2_spelledMark rfl rfl rfl (by decide +kernel) ⟨Nat.le_of_ble_eq_true rfl, Nat.le_of_ble_eq_true rfl⟩) ⟨zP.blind, (z_pre hK hP hD hS hAN hN hG [] (by decide) rfl [] rfl (fun q hq => absurd hq List.not_mem_nil))⟩ rfl rfl hl.1 rfl (lv_room (Nat.le_of_ble_eq_true rfl)) dX2_spelled_17 ⟨kc9, ks10⟩) hK hP hD hS hA [] rfl [0, 1] rfl (by decide) (by decide) (fun u r12 t H locs ht hvm hw_c11 hY_c11 hz_c11 hm_c11 hk_c11 hK hP hD hS => ?_)
  have hP : va_P D vwCl [(sq, .inr (4, [.ref rq, .int (nI 0)])), (rq, .inl (cq, 4, .inl (fun _ => 0)))] H := hP
  have hD : va_D A [(sq, .inr (4, [.ref rq, .int (nI 0)])), (rq, .inl (cq, 4, .inl (fun _ => 0)))] := hD
  have hK : va_K D vwCl [(cq, .char)] s := hK
  have hs13 := hS.1
  refine W.widen (k := 2) (n := 6) (by omega) (by omega) ?_
  obtain rfl : (e.2.2.1 10) = r12 := Eq.symm hw_c11
  have hFc := va_free (wc := [(sq, .inr (4, [.ref rq, .int (nI 0)])), (rq, .inl (cq, 4, .inl (fun _ => 0)))]) hD hS hA [0, 1] rfl
  have hFN : ∀ q, va_A [(sq, .inr (4, [.ref rq, .int (nI 0)])), (rq, .inl (cq, 4, .inl (fun _ => 0)))] H.size q → N0 ≤ q := fun q hq => hAN q (hFc q hq)
  have kc14 : 2 + (0) ≤ 2 := by omega
  have ks15 : 6 + (0) ≤ 6 := by omega
  refine z_callv (wr := []) (va_runV (As := [.ref ((e.2.2.1 10))]) (rest := []) ⟨hx, hb, hml, hown, hts⟩ (c_putS l D N0 e H.size (zw H) sq rq cq ((fun _ => 0)) ((e.2.2.1 10)) ((e.2.2.2 10)) 4 (by decide)) (cwV 1 hts gX2_spelled_X1_putString rfl rfl rfl (by decide +kernel) ⟨Nat.le_of_ble_eq_true rfl, Nat.le_of_ble_eq_true rfl⟩) ⟨zP.blind, (va_recv hK hP (ci := 4) (q0 := 0) rfl rfl), (z_pre hK hP hD hS hAN hN hG [0, 1] (by decide) rfl [0] rfl (List.forall_mem_cons.mpr ⟨((zkst hG 10 (by decide) hS hAN).wall (z_low (hG.2.2.2.2.1 10 (by decide)).na hFN) (z_low (hG.2.2.2.2.1 10 (by decide)).nv hFN)), fun q hq => absurd hq List.not_mem_nil⟩))⟩ rfl rfl hl.1 rfl (lv_room (Nat.le_of_ble_eq_true rfl)) dX2_spelled_20 ⟨kc14, ks15⟩) hK hP hD hS hA [0, 1] rfl [] rfl (by decide) (by decide) (fun u t H locs ht hvm hw_c16 hY_c16 hz_c16 hm_c16 hk_c16 hK hP hD hS => ?_)
  obtain ⟨g2, rfl⟩ : ∃ z, z = u := ⟨_, rfl⟩
  try dsimp only at hw_c16 hY_c16
  have hP : va_P D vwCl [(sq, .inr (4, [.ref rq, .int (nI 4)])), (rq, .inl (cq, 4, .inl g2))] H := hP
  have hD : va_D A [(sq, .inr (4, [.ref rq, .int (nI 4)])), (rq, .inl (cq, 4, .inl g2))] := hD
  have hK : va_K D vwCl [(cq, .char)] s := hK
  have hs18 := hS.1
  refine W.widen (k := 2) (n := 6) (by omega) (by omega) ?_
  refine lv_aload_n hx hb dX2_spelled_23 rfl (lv_at hl 0 rfl) ?_
  have hz0 := hS.1
  refine z_keepW (fun hkp => ?_)
  exact z_retr (q := sq) (sq, rq, cq, g2) hx hb hr (Or.inl ⟨_, rfl⟩) hlocks (show sq = sq from rfl) hK [0] rfl hP hD hS [0, 1] (by decide) rfl (by omega) (zw_keep hkp) (fun _ _ _ => trivial) dX2_spelled_24
set_option maxRecDepth 100000 in
set_option maxHeartbeats 4000000 in
/-- spelled(nn), letters -/
theorem c_spL (l : Launch) (D : va_G) (N0 : Nat) (e : zE) (sz mz : Nat) (nn : Nat) (h60 : nn < 60) : Met l yX2_spelled wsX2_spelled ({ frames := 12, cells := 2, slots := 6, locals := 400 }) (va_Pc [.int (nI nn)] (zP N0 e D [] [] sz mz [])) (zQr (fun (u : Nat × Nat × ClassId × (Nat → Int32)) (ra : Nat) => ra = u.1) D (fun (u : Nat × Nat × ClassId × (Nat → Int32)) => ([(u.1, .inr (4, [.ref u.2.1, .int (nI (nn % 4))])), (u.2.1, .inl (u.2.2.1, 4, .inl u.2.2.2))] : va_W)) (fun (u : Nat × Nat × ClassId × (Nat → Int32)) => ([(u.2.2.1, .char)] : List (ClassId × FieldType))) sz (0) mz (0) (fun (u : Nat × Nat × ClassId × (Nat → Int32)) (t : State) => True) (va_A [] sz)) (2) (6) (va_A [] sz) := by
  refine z_met (Qc := fun A => zQr (fun (u : Nat × Nat × ClassId × (Nat → Int32)) (ra : Nat) => ra = u.1) D (fun (u : Nat × Nat × ClassId × (Nat → Int32)) => ([(u.1, .inr (4, [.ref u.2.1, .int (nI (nn % 4))])), (u.2.1, .inl (u.2.2.1, 4, .inl u.2.2.2))] : va_W)) (fun (u : Nat × Nat × ClassId × (Nat → Int32)) => ([(u.2.2.1, .char)] : List (ClassId × FieldType))) sz (0) mz (0) (fun (u : Nat × Nat × ClassId × (Nat → Int32)) (t : State) => True) A) (cc := cX2_spelled) (maxL := 3) (ret := (some (.object "Joinrow$Signs"))) RX2 rfl (by decide) rfl (Nat.le_of_ble_eq_true rfl) ?_
  intro p ev s m below meth c ls A hx hb hr hml hown hts hlocks hnm hsz hmz hN hAe hA hAN hS hP hK hD hG hL hl
  subst hsz
  subst hmz
  have hl : lv_has ls 3 [(0, .int (nI nn))] := hl
  have kc1 : 0 + 1 ≤ 2 := by omega
  have ks2 : 0 + 2 ≤ 6 := by omega
  refine z_new (ci := 4) (fs := [.null, .int 0]) (C := RX1) (T := TX1) (N := 2) hx hb hts (by decide +kernel) tyX1 tyX1_ok hown (hts (.classLink RX2 9 RX1) (by decide +kernel)) (hts (.instantiable RX1 2) (by decide +kernel)) (hts (.initialized RX1) (by decide +kernel)) hK hP hD hS hA rfl (fun j hj => by match j, hj with | 0, _ => rfl | 1, _ => rfl) kc1 ks2 dX2_spelled_0 (fun sq H hq_sq hz_sq hm_sq hk_sq hP hD hS => ?_)
  have hP : va_P D vwCl [(sq, .inr (4, [.null, .int (nI 0)]))] H := hP
  have hD : va_D A [(sq, .inr (4, [.null, .int (nI 0)]))] := hD
  have hs3 := hS.1
  refine W.widen (k := 1) (n := 2) (by omega) (by omega) ?_
  refine lv_dup hx hb dX2_spelled_3 rfl ?_
  refine lv_iconst (v := (nI 4)) hx hb dX2_spelled_4 (by decide) ?_
  have hFc := va_free (wc := [(sq, .inr (4, [.null, .int (nI 0)]))]) hD hS hA [0] rfl
  have kc4 : 1 + (1) ≤ 2 := by omega
  have ks5 : 2 + (4) ≤ 6 := by omega
  refine z_callv (wr := []) (va_runI (As := [.int (nI 4)]) (rest := [.ref sq]) ⟨hx, hb, hml, hown, hts⟩ (c_signs l D N0 e H.size (zw H) sq 4 (by decide)) (cwI 1 hts gX2_spelled_X1_init rfl rfl rfl (hts (.initialized RX1) (by decide +kernel)) (hts (.methodLink RX2 28 yX1_init) (by decide +kernel)) (hts (.instanceMethod yX1_init) (by decide +kernel)) rfl (by decide +kernel) ⟨Nat.le_of_ble_eq_true rfl, Nat.le_of_ble_eq_true rfl⟩) ⟨zP.blind, (z_pre hK hP hD hS hAN hN hG [0] (by decide) rfl [] rfl (fun q hq => absurd hq List.not_mem_nil))⟩ rfl rfl hl.1 rfl (lv_room (Nat.le_of_ble_eq_true rfl)) dX2_spelled_5 ⟨kc4, ks5⟩) hK hP hD hS hA [0] rfl [] rfl (by decide) (by decide) (fun u t H locs ht hvm hw_c6 hY_c6 hz_c6 hm_c6 hk_c6 hK hP hD hS => ?_)
  obtain ⟨rq, cq⟩ := u
  try dsimp only at hw_c6 hY_c6
  have hP : va_P D vwCl [(sq, .inr (4, [.ref rq, .int (nI 0)])), (rq, .inl (cq, 4, .inl (fun _ => 0)))] H := hP
  have hD : va_D A [(sq, .inr (4, [.ref rq, .int (nI 0)])), (rq, .inl (cq, 4, .inl (fun _ => 0)))] := hD
  have hK : va_K D vwCl [(cq, .char)] s := hK
  have hs8 := hS.1
  refine W.widen (k := 2) (n := 6) (by omega) (by omega) ?_
  refine lv_astore_n (lv' := [(1, .ref sq), (0, .int (nI nn))]) hx hb dX2_spelled_8 rfl hl (by decide) rfl (fun ls hl => ?_)
  refine lv_iload_n hx hb dX2_spelled_9 rfl (lv_at hl 1 rfl) ?_
  refine lv_bipush (v := (nI 60)) hx hb dX2_spelled_10 (by decide) ?_
  refine lv_icmp_lt (tgt := 25) hx hb dX2_spelled_12 (by decide) (fun _ => ?_) (fun hq => absurd (show (nI nn) < (nI 60) from (nI_ltI (by omega) (by omega)).mpr (by omega)) hq)
  refine lv_iconst (v := (nI 0)) hx hb dX2_spelled_25 (by decide) ?_
  refine lv_istore_n (lv' := [(2, .int (nI 0)), (1, .ref sq), (0, .int (nI nn))]) hx hb dX2_spelled_26 rfl hl (by decide) rfl (fun ls hl => ?_)
  have loop : ∀ (n i : Nat), i ≤ nn % 4 → nn % 4 + 1 ≤ i + n → ∀ (gg : Nat → Int32) (H : Heap) (locs : List Loc), va_P D vwCl [(sq, .inr (4, [.ref rq, .int (nI i)])), (rq, .inl (cq, 4, .inl gg))] H → va_D A [(sq, .inr (4, [.ref rq, .int (nI i)])), (rq, .inl (cq, 4, .inl gg))] → va_S A s.heap H locs → ∀ (ls : Array Slot), lv_has ls 3 [(2, .int (nI i)), (1, .ref sq), (0, .int (nI nn))] → W p l ev { frames := 12, cells := 2, slots := 6, locals := 400 } s m [.int (nI nn)].toArray below meth c H locs 2 6 (MQ below (zQr (fun (u : Nat × Nat × ClassId × (Nat → Int32)) (ra : Nat) => ra = u.1) D (fun (u : Nat × Nat × ClassId × (Nat → Int32)) => ([(u.1, .inr (4, [.ref u.2.1, .int (nI (nn % 4))])), (u.2.1, .inl (u.2.2.1, 4, .inl u.2.2.2))] : va_W)) (fun (u : Nat × Nat × ClassId × (Nat → Int32)) => ([(u.2.2.1, .char)] : List (ClassId × FieldType))) s.heap.size (0) (zw s.heap) (0) (fun (u : Nat × Nat × ClassId × (Nat → Int32)) (t : State) => True) A) [.int (nI nn)].toArray s (2) (6) A) (F0 m 27 ls []) := by
    intro n
    induction n with
    | zero =>
      intro i h1 h2
      exact absurd h2 (by omega)
    | succ n ih =>
      intro i hi hin gg H locs hP hD hS ls hl
      rcases Nat.lt_or_ge i (nn % 4) with hlt | hge
      · skip
        refine lv_iload_n hx hb dX2_spelled_27 rfl (lv_at hl 0 rfl) ?_
        refine lv_iload_n hx hb dX2_spelled_28 rfl (lv_at hl 2 rfl) ?_
        refine lv_iconst (v := (nI 4)) hx hb dX2_spelled_29 (by decide) ?_
        refine lv_irem hx hb dX2_spelled_30 (by decide) ?_
        refine lv_topi (fun t9 et9 => ?_)
        replace et9 := et9.trans (show ((nI nn) - (nI nn) / (nI 4) * (nI 4)) = (nI (nn % 4)) from pk_rem (by omega) (by decide) (by decide))
        subst et9
        refine lv_icmp_ge (tgt := 56) hx hb dX2_spelled_31 (by decide) (fun hq => absurd hq (show ¬ ((nI (nn % 4)) ≤ (nI i)) from fun hq => absurd ((nI_leI (by omega) (by omega)).mp hq) (by omega))) (fun _ => ?_)
        refine lv_aload_n hx hb dX2_spelled_34 rfl (lv_at hl 1 rfl) ?_
        refine lv_bipush (v := (nI 97)) hx hb dX2_spelled_35 (by decide) ?_
        refine lv_iload_n hx hb dX2_spelled_37 rfl (lv_at hl 2 rfl) ?_
        refine lv_iconst (v := (nI 4)) hx hb dX2_spelled_38 (by decide) ?_
        refine lv_idiv hx hb dX2_spelled_39 (by decide) ?_
        refine lv_iload_n hx hb dX2_spelled_40 rfl (lv_at hl 0 rfl) ?_
        refine lv_iadd hx hb dX2_spelled_41 ?_
        refine lv_bipush (v := (nI 26)) hx hb dX2_spelled_42 (by decide) ?_
        refine lv_irem hx hb dX2_spelled_44 (by decide) ?_
        refine lv_iadd hx hb dX2_spelled_45 ?_
        obtain ⟨cw, hcw, ecw⟩ : ∃ cw : Nat, cw < 65536 ∧ (((nI 97) + ((((nI nn) / (nI 4)) + (nI i)) - (((nI nn) / (nI 4)) + (nI i)) / (nI 26) * (nI 26))).toUInt32 % 65536).toInt32 = nI cw := ⟨_, Nat.mod_lt _ (by decide), pk_char ((nI 97) + ((((nI nn) / (nI 4)) + (nI i)) - (((nI nn) / (nI 4)) + (nI i)) / (nI 26) * (nI 26)))⟩
        refine lv_i2c (v := nI cw) hx hb dX2_spelled_46 ecw ?_
        have hFc := va_free (wc := [(sq, .inr (4, [.ref rq, .int (nI i)])), (rq, .inl (cq, 4, .inl gg))]) hD hS hA [0, 1] rfl
        have kc10 : 2 + (0) ≤ 2 := by omega
        have ks11 : 6 + (0) ≤ 6 := by omega
        refine z_callv (wr := []) (va_runV (As := [.int (nI cw)]) (rest := []) ⟨hx, hb, hml, hown, hts⟩ (c_put l D N0 e H.size (zw H) sq rq i cq gg (nI cw) (by omega)) (cwV 1 hts gX2_spelled_X1_put rfl rfl rfl (by decide +kernel) ⟨Nat.le_of_ble_eq_true rfl, Nat.le_of_ble_eq_true rfl⟩) ⟨zP.blind, (va_recv hK hP (ci := 4) (q0 := 0) rfl rfl), (z_pre hK hP hD hS hAN hN hG [0, 1] (by decide) rfl [0] rfl (fun q hq => absurd hq List.not_mem_nil))⟩ rfl rfl hl.1 rfl (lv_room (Nat.le_of_ble_eq_true rfl)) dX2_spelled_47 ⟨kc10, ks11⟩) hK hP hD hS hA [0, 1] rfl [] rfl (by decide) (by decide) (fun u t H locs ht hvm hw_c12 hY_c12 hz_c12 hm_c12 hk_c12 hK hP hD hS => ?_)
        obtain ⟨g2, rfl⟩ : ∃ z, z = u := ⟨_, rfl⟩
        try dsimp only at hw_c12 hY_c12
        have hP : va_P D vwCl [(sq, .inr (4, [.ref rq, .int (nI (i + 1))])), (rq, .inl (cq, 4, .inl g2))] H := hP
        have hD : va_D A [(sq, .inr (4, [.ref rq, .int (nI (i + 1))])), (rq, .inl (cq, 4, .inl g2))] := hD
        have hK : va_K D vwCl [(cq, .char)] s := hK
        have hs14 := hS.1
        refine W.widen (k := 2) (n := 6) (by omega) (by omega) ?_
        refine lv_iinc (v := (nI (i + 1))) (lv' := [(2, .int (nI (i + 1))), (1, .ref sq), (0, .int (nI nn))]) hx hb dX2_spelled_50 hl (k := 0) rfl (nI_add (i) 1) (by decide) rfl (fun ls hl => ?_)
        refine lv_goto (tgt := 27) hx hb dX2_spelled_53 (by decide) ?_
        exact ih (i + 1) hlt (by omega) g2 _ _ hP hD hS ls hl
      · skip
        refine lv_iload_n hx hb dX2_spelled_27 rfl (lv_at hl 0 rfl) ?_
        refine lv_iload_n hx hb dX2_spelled_28 rfl (lv_at hl 2 rfl) ?_
        refine lv_iconst (v := (nI 4)) hx hb dX2_spelled_29 (by decide) ?_
        refine lv_irem hx hb dX2_spelled_30 (by decide) ?_
        refine lv_topi (fun t15 et15 => ?_)
        replace et15 := et15.trans (show ((nI nn) - (nI nn) / (nI 4) * (nI 4)) = (nI (nn % 4)) from pk_rem (by omega) (by decide) (by decide))
        subst et15
        refine lv_icmp_ge (tgt := 56) hx hb dX2_spelled_31 (by decide) (fun _ => ?_) (fun hq => absurd (show (nI (nn % 4)) ≤ (nI i) from (nI_leI (by omega) (by omega)).mpr (by omega)) hq)
        refine lv_aload_n hx hb dX2_spelled_56 rfl (lv_at hl 1 rfl) ?_
        have hz0 := hS.1
        obtain rfl : i = nn % 4 := by omega
        refine z_keepW (fun hkp => ?_)
        exact z_retr (q := sq) (sq, rq, cq, gg) hx hb hr (Or.inl ⟨_, rfl⟩) hlocks (show sq = sq from rfl) hK [0] rfl hP hD hS [0, 1] (by decide) rfl (by omega) (zw_keep hkp) (fun _ _ _ => trivial) dX2_spelled_57
  exact loop (nn % 4 + 1) 0 (by omega) (by omega) (fun _ => 0) _ _ hP hD hS ls hl
/-- spelled, of each word -/
theorem c_spell (l : Launch) (D : va_G) (N0 : Nat) (e : zE) (sz mz : Nat) (nn : Nat) (h70 : nn < 70) : Met l yX2_spelled wsX2_spelled ({ frames := 12, cells := 2, slots := 6, locals := 400 }) (va_Pc [.int (nI nn)] (zP N0 e D [] [] sz mz [])) (zQr (fun (u : Nat × Nat × ClassId × (Nat → Int32)) (ra : Nat) => ra = u.1) D (fun (u : Nat × Nat × ClassId × (Nat → Int32)) => ([(u.1, .inr (4, [.ref u.2.1, .int (nI (zc nn))])), (u.2.1, .inl (u.2.2.1, 4, .inl u.2.2.2))] : va_W)) (fun (u : Nat × Nat × ClassId × (Nat → Int32)) => ([(u.2.2.1, .char)] : List (ClassId × FieldType))) sz (0) mz (0) (fun (u : Nat × Nat × ClassId × (Nat → Int32)) (t : State) => True) (va_A [] sz)) (2) (6) (va_A [] sz) := by
  rcases Nat.lt_or_ge nn 60 with q | q
  · have hz : zc nn = nn % 4 := if_pos q
    rw [hz]
    exact c_spL l D N0 e sz mz nn q
  · have hn : nn = 60 ∨ nn = 61 ∨ nn = 62 ∨ nn = 63 ∨ nn = 64 ∨ nn = 65 ∨ nn = 66 ∨ nn = 67 ∨ nn = 68 ∨ nn = 69 := by omega
    rcases hn with rfl | rfl | rfl | rfl | rfl | rfl | rfl | rfl | rfl | rfl
    · exact c_sp60 l D N0 e sz mz
    · exact c_sp61 l D N0 e sz mz
    · exact c_sp62 l D N0 e sz mz
    · exact c_sp63 l D N0 e sz mz
    · exact c_sp64 l D N0 e sz mz
    · exact c_sp65 l D N0 e sz mz
    · exact c_sp66 l D N0 e sz mz
    · exact c_sp67 l D N0 e sz mz
    · exact c_sp68 l D N0 e sz mz
    · exact c_sp69 l D N0 e sz mz
