set_option maxRecDepth 100000 in
set_option maxHeartbeats 4000000 in
/-- grow(int): the first row, of ten -/
theorem c_grow1F (l : Launch) (D : va_G) (N0 : Nat) (e : zE) (sz mz : Nat) (al : Nat) (mo : Nat)  : Met l yJx4a65c_grow_92f84 wsJx4a65c_grow_92f84 ({ frames := 1, cells := 1, slots := 1200, locals := 40 }) (va_Pc [.ref al, .int (nI 1)] (zP N0 e D [] [(al, .inr (2, [.int (nI mo), .ref e.1, .int (nI 0)]))] sz mz [])) (zQr (fun (u : Nat × ClassId) (ra : Nat) => ra = u.1) D (fun (u : Nat × ClassId) => ([(al, .inr (2, [.int (nI mo), .ref u.1, .int (nI 0)])), (u.1, .inl (u.2, 10, .inr (.inr (.inr (.inr (fun _ => none))))))] : va_W)) (fun (u : Nat × ClassId) => ([(u.2, .object "java/lang/Object")] : List (ClassId × FieldType))) sz (0) mz (0) (fun (u : Nat × ClassId) (t : State) => True) (va_A [(al, .inr (2, [.int (nI mo), .ref e.1, .int (nI 0)]))] sz)) (1) (1200) (va_A [(al, .inr (2, [.int (nI mo), .ref e.1, .int (nI 0)]))] sz) := by
  refine z_met (Qc := fun A => zQr (fun (u : Nat × ClassId) (ra : Nat) => ra = u.1) D (fun (u : Nat × ClassId) => ([(al, .inr (2, [.int (nI mo), .ref u.1, .int (nI 0)])), (u.1, .inl (u.2, 10, .inr (.inr (.inr (.inr (fun _ => none))))))] : va_W)) (fun (u : Nat × ClassId) => ([(u.2, .object "java/lang/Object")] : List (ClassId × FieldType))) sz (0) mz (0) (fun (u : Nat × ClassId) (t : State) => True) A) (cc := cJx4a65c_grow_92f84) (maxL := 4) (ret := (some (.array (.object "java/lang/Object")))) RJx4a65c rfl (by decide) rfl (Nat.le_of_ble_eq_true rfl) ?_
  intro p ev s m below meth c ls A hx hb hr hml hown hts hlocks hnm hsz hmz hN hAe hA hAN hS hP hK hD hG hL hl
  subst hsz
  subst hmz
  have hl : lv_has ls 4 [(0, .ref al), (1, .int (nI 1))] := hl
  refine lv_aload_n hx hb dJx4a65c_grow_92f84_0 rfl (lv_at hl 0 rfl) ?_
  refine va_get (D := D) (ci := 2) (v := .ref e.1) (C := RJx4a65c) (T := TJx4a65c) (N := 3) hx hb hts (by decide +kernel) hown hK hP 0 rfl rfl 1 (by decide) (hts (.fieldLink RJx4a65c 9 "java/util/ArrayList" "elementData" "[Ljava/lang/Object;") (by decide +kernel)) (fun _ h9 => h9) rfl dJx4a65c_grow_92f84_1 ?_
  refine va_tlen (v := nI 0) hx hb (hG.2.2.1.narrow hAN) hS rfl dJx4a65c_grow_92f84_4 ?_
  refine lv_istore_n (lv' := [(2, .int (nI 0)), (0, .ref al), (1, .int (nI 1))]) hx hb dJx4a65c_grow_92f84_5 rfl hl (by decide) rfl (fun ls hl => ?_)
  refine lv_iload_n hx hb dJx4a65c_grow_92f84_6 rfl (lv_at hl 0 rfl) ?_
  refine lv_if_gt (tgt := 20) hx hb dJx4a65c_grow_92f84_7 (by decide) (fun hq => absurd hq (show ¬ ((nI 0) < (nI 0)) from fun hq => absurd ((nI_ltI (by omega) (by omega)).mp hq) (by omega))) (fun _ => ?_)
  refine lv_aload_n hx hb dJx4a65c_grow_92f84_10 rfl (lv_at hl 1 rfl) ?_
  refine va_get (D := D) (ci := 2) (v := .ref e.1) (C := RJx4a65c) (T := TJx4a65c) (N := 3) hx hb hts (by decide +kernel) hown hK hP 0 rfl rfl 1 (by decide) (hts (.fieldLink RJx4a65c 9 "java/util/ArrayList" "elementData" "[Ljava/lang/Object;") (by decide +kernel)) (fun _ h9 => h9) rfl dJx4a65c_grow_92f84_11 ?_
  refine va_gets hx hb (hG.2.1.narrow hAN) hS hown (hts (.fieldLink RJx4a65c 39 "java/util/ArrayList" "DEFAULTCAPACITY_EMPTY_ELEMENTDATA" "[Ljava/lang/Object;") (by decide +kernel)) (fun _ h9 => h9) dJx4a65c_grow_92f84_14 ?_
  refine lv_acmp_eq (rx := some e.1) (ry := some e.1) (tgt := 45) hx hb dJx4a65c_grow_92f84_17 (by decide) (fun _ => ?_) (fun hq => absurd rfl hq)
  refine lv_aload_n hx hb dJx4a65c_grow_92f84_45 rfl (lv_at hl 1 rfl) ?_
  refine lv_bipush (v := (nI 10)) hx hb dJx4a65c_grow_92f84_46 (by decide) ?_
  refine lv_iload_n hx hb dJx4a65c_grow_92f84_48 rfl (lv_at hl 2 rfl) ?_
  refine va_mmax hx hb (by rw [hml]; exact hl.1.symm) hown (hts (.methodLink RJx4a65c 79 Lib.Math.max.name) (by decide +kernel)) (hts (.static Lib.Math.max.name) (by decide +kernel)) (hts (.initialized "java/lang/Math") (by decide +kernel)) (hts (.code Lib.Math.max.name Lib.Math.max.code 2 (some .int)) (by decide +kernel)) (Nat.le_of_ble_eq_true rfl) (Nat.le_of_ble_eq_true rfl) (show 0 ≤ 1 by omega) (show 0 ≤ 1200 by omega) dJx4a65c_grow_92f84_49 ?_
  refine lv_topi (fun t1 et1 => ?_)
  replace et1 := et1.trans (show (if (nI 10) < (nI 1) then (nI 1) else (nI 10)) = (nI 10) from by decide)
  subst et1
  have kc2 : 0 + 1 ≤ 1 := by omega
  have ks3 : 0 + (10) ≤ 1200 := by omega
  refine va_newq hx hb hown (hts (.classLink RJx4a65c 7 "java/lang/Object") (by decide +kernel)) hG.ao hK hP hD hS hA (nI_pos (by omega)) (nI_clamp (by omega)) (by omega) kc2 ks3 dJx4a65c_grow_92f84_52 (fun qn cn2 H hK hP hD hS => ?_)
  have hP : va_P D vwCl [(al, .inr (2, [.int (nI mo), .ref e.1, .int (nI 0)])), (qn, .inl (cn2, 10, .inr (.inr (.inr (.inr (fun _ => none))))))] H := hP
  have hD : va_D A [(al, .inr (2, [.int (nI mo), .ref e.1, .int (nI 0)])), (qn, .inl (cn2, 10, .inr (.inr (.inr (.inr (fun _ => none))))))] := hD
  have hK : va_K D vwCl [(cn2, .object "java/lang/Object")] s := hK
  have hs4 := hS.1
  refine W.widen (k := 1) (n := 10) (by omega) (by omega) ?_
  refine lv_dup_x1 hx hb dJx4a65c_grow_92f84_55 rfl rfl ?_
  refine va_put (D := D) (ci := 2) (v := .ref qn) (ty := .array (.object "java/lang/Object")) (C := RJx4a65c) (T := TJx4a65c) (N := 3) hx hb hts (by decide +kernel) tyJx4a65c tyJx4a65c_ok nmJx4a65c hown hK hP hD hS 0 rfl rfl 1 (by decide) (hts (.fieldLink RJx4a65c 9 "java/util/ArrayList" "elementData" "[Ljava/lang/Object;") (by decide +kernel)) (fun _ h9 => h9) rfl (by decide +kernel) rfl rfl (Nat.le_of_ble_eq_true rfl) dJx4a65c_grow_92f84_56 (fun H locs hP hD hS => ?_)
  have hP : va_P D vwCl [(al, .inr (2, [.int (nI mo), .ref qn, .int (nI 0)])), (qn, .inl (cn2, 10, .inr (.inr (.inr (.inr (fun _ => none))))))] H := hP
  have hD : va_D A [(al, .inr (2, [.int (nI mo), .ref qn, .int (nI 0)])), (qn, .inl (cn2, 10, .inr (.inr (.inr (.inr (fun _ => none))))))] := hD
  have hs5 := hS.1
  refine W.widen (k := (1)) (n := (1200)) (by omega) (by omega) ?_
  have hz0 := hS.1
  refine z_keepW (fun hkp => ?_)
  exact z_retr (q := qn) (qn, cn2) hx hb hr (Or.inr ⟨_, rfl⟩) hlocks (show qn = qn from rfl) hK [0] rfl hP hD hS [0, 1] (by decide) rfl (by omega) (zw_keep hkp) (fun _ _ _ => trivial) dJx4a65c_grow_92f84_59
set_option maxRecDepth 100000 in
set_option maxHeartbeats 4000000 in
/-- grow(): the first row -/
theorem c_grow0F (l : Launch) (D : va_G) (N0 : Nat) (e : zE) (sz mz : Nat) (al : Nat) (mo : Nat)  : Met l yJx4a65c_grow_d5877 wsJx4a65c_grow_d5877 ({ frames := 2, cells := 1, slots := 1200, locals := 63 }) (va_Pc [.ref al] (zP N0 e D [] [(al, .inr (2, [.int (nI mo), .ref e.1, .int (nI 0)]))] sz mz [])) (zQr (fun (u : Nat × ClassId) (ra : Nat) => ra = u.1) D (fun (u : Nat × ClassId) => ([(al, .inr (2, [.int (nI mo), .ref u.1, .int (nI 0)])), (u.1, .inl (u.2, 10, .inr (.inr (.inr (.inr (fun _ => none))))))] : va_W)) (fun (u : Nat × ClassId) => ([(u.2, .object "java/lang/Object")] : List (ClassId × FieldType))) sz (0) mz (0) (fun (u : Nat × ClassId) (t : State) => True) (va_A [(al, .inr (2, [.int (nI mo), .ref e.1, .int (nI 0)]))] sz)) (1) (1200) (va_A [(al, .inr (2, [.int (nI mo), .ref e.1, .int (nI 0)]))] sz) := by
  refine z_met (Qc := fun A => zQr (fun (u : Nat × ClassId) (ra : Nat) => ra = u.1) D (fun (u : Nat × ClassId) => ([(al, .inr (2, [.int (nI mo), .ref u.1, .int (nI 0)])), (u.1, .inl (u.2, 10, .inr (.inr (.inr (.inr (fun _ => none))))))] : va_W)) (fun (u : Nat × ClassId) => ([(u.2, .object "java/lang/Object")] : List (ClassId × FieldType))) sz (0) mz (0) (fun (u : Nat × ClassId) (t : State) => True) A) (cc := cJx4a65c_grow_d5877) (maxL := 1) (ret := (some (.array (.object "java/lang/Object")))) RJx4a65c rfl (by decide) rfl (Nat.le_of_ble_eq_true rfl) ?_
  intro p ev s m below meth c ls A hx hb hr hml hown hts hlocks hnm hsz hmz hN hAe hA hAN hS hP hK hD hG hL hl
  subst hsz
  subst hmz
  have hl : lv_has ls 1 [(0, .ref al)] := hl
  refine lv_aload_n hx hb dJx4a65c_grow_d5877_0 rfl (lv_at hl 0 rfl) ?_
  refine lv_aload_n hx hb dJx4a65c_grow_d5877_1 rfl (lv_at hl 0 rfl) ?_
  refine va_get (D := D) (ci := 2) (v := .int (nI 0)) (C := RJx4a65c) (T := TJx4a65c) (N := 3) hx hb hts (by decide +kernel) hown hK hP 0 rfl rfl 2 (by decide) (hts (.fieldLink RJx4a65c 48 "java/util/ArrayList" "size" "I") (by decide +kernel)) (fun _ h9 => h9) rfl dJx4a65c_grow_d5877_2 ?_
  refine lv_iconst (v := (nI 1)) hx hb dJx4a65c_grow_d5877_5 (by decide) ?_
  refine lv_iadd hx hb dJx4a65c_grow_d5877_6 ?_
  refine lv_topi (fun t1 et1 => ?_)
  replace et1 := et1.trans (show ((nI 0) + (nI 1)) = (nI 1) from by decide)
  subst et1
  have hFc := va_free (wc := [(al, .inr (2, [.int (nI mo), .ref e.1, .int (nI 0)]))]) hD hS hA [0] rfl
  have kc2 : 0 + (1) ≤ 1 := by omega
  have ks3 : 0 + (1200) ≤ 1200 := by omega
  refine z_callr (wr := []) (va_runV (As := [.int (nI 1)]) (rest := []) ⟨hx, hb, hml, hown, hts⟩ (c_grow1F l D N0 e s.heap.size (zw s.heap) al mo ) (cwV 1 hts gJx4a65c_grow_d5877_Jx4a65c_grow_92f84 rfl rfl rfl (by decide +kernel) ⟨Nat.le_of_ble_eq_true rfl, Nat.le_of_ble_eq_true rfl⟩) ⟨zP.blind, (va_recv hK hP (ci := 2) (q0 := 0) rfl rfl), (z_pre hK hP hD hS hAN hN hG [0] (by decide) rfl [] rfl (fun q hq => absurd hq List.not_mem_nil))⟩ rfl rfl hl.1 rfl (lv_room (Nat.le_of_ble_eq_true rfl)) dJx4a65c_grow_d5877_7 ⟨kc2, ks3⟩) hK hP hD hS hA [0] rfl [] rfl (by decide) (by decide) (fun u r5 t H locs ht hvm hw_c4 hY_c4 hz_c4 hm_c4 hk_c4 hK hP hD hS => ?_)
  obtain ⟨qn, cn2⟩ := u
  try dsimp only at hw_c4 hY_c4
  have hP : va_P D vwCl [(al, .inr (2, [.int (nI mo), .ref qn, .int (nI 0)])), (qn, .inl (cn2, 10, .inr (.inr (.inr (.inr (fun _ => none))))))] H := hP
  have hD : va_D A [(al, .inr (2, [.int (nI mo), .ref qn, .int (nI 0)])), (qn, .inl (cn2, 10, .inr (.inr (.inr (.inr (fun _ => none))))))] := hD
  have hK : va_K D vwCl [(cn2, .object "java/lang/Object")] s := hK
  have hs6 := hS.1
  refine W.widen (k := 1) (n := 1200) (by omega) (by omega) ?_
  obtain rfl : qn = r5 := Eq.symm hw_c4
  have hz0 := hS.1
  refine z_keepW (fun hkp => ?_)
  exact z_retr (q := qn) (qn, cn2) hx hb hr (Or.inr ⟨_, rfl⟩) hlocks (show qn = qn from rfl) hK [0] rfl hP hD hS [0, 1] (by decide) rfl (by omega) (zw_keep hkp) (fun _ _ _ => trivial) dJx4a65c_grow_d5877_10
set_option maxRecDepth 100000 in
set_option maxHeartbeats 4000000 in
/-- add(E, row, size): the row is full -/
theorem c_add3B (l : Launch) (D : va_G) (N0 : Nat) (e : zE) (sz mz : Nat) (al : Nat) (mo : Nat) (ea : Nat) (cO : ClassId) (cap : Nat) (fe : Nat → Option Nat) (sa : Nat) (sv : Nat) (sn : Nat) (h10 : 10 ≤ cap) (hcap : cap ≤ 800) (h5 : cap ≤ 511) (hzf : zF fe cap sa) : Met l yJx4a65c_add_72be8 wsJx4a65c_add_72be8 ({ frames := 5, cells := 1, slots := 1200, locals := 147 }) (va_Pc [.ref al, .ref sa, .ref ea, .int (nI cap)] (zP N0 e D [(cO, .object "java/lang/Object")] [(al, .inr (2, [.int (nI mo), .ref ea, .int (nI cap)])), (ea, .inl (cO, cap, .inr (.inr (.inr (.inr fe)))))] sz mz [(sa, sv, sn)])) (zQv (fun (u : Nat × ClassId × Nat × (Nat → Option Nat)) => cap + 1 ≤ u.2.2.1 ∧ u.2.2.1 ≤ 800 ∧ 10 ≤ u.2.2.1 ∧ zF u.2.2.2 (cap + 1) sa) D (fun (u : Nat × ClassId × Nat × (Nat → Option Nat)) => ([(al, .inr (2, [.int (nI mo), .ref u.1, .int (nI (cap + 1))])), (u.1, .inl (u.2.1, u.2.2.1, .inr (.inr (.inr (.inr u.2.2.2)))))] : va_W)) (fun (u : Nat × ClassId × Nat × (Nat → Option Nat)) => ([(u.2.1, .object "java/lang/Object")] : List (ClassId × FieldType))) sz (0) mz (0) (fun (u : Nat × ClassId × Nat × (Nat → Option Nat)) (t : State) => True) (va_A [(al, .inr (2, [.int (nI mo), .ref ea, .int (nI cap)])), (ea, .inl (cO, cap, .inr (.inr (.inr (.inr fe)))))] sz)) (1) (1200) (va_A [(al, .inr (2, [.int (nI mo), .ref ea, .int (nI cap)])), (ea, .inl (cO, cap, .inr (.inr (.inr (.inr fe)))))] sz) := by
  refine z_met (Qc := fun A => zQv (fun (u : Nat × ClassId × Nat × (Nat → Option Nat)) => cap + 1 ≤ u.2.2.1 ∧ u.2.2.1 ≤ 800 ∧ 10 ≤ u.2.2.1 ∧ zF u.2.2.2 (cap + 1) sa) D (fun (u : Nat × ClassId × Nat × (Nat → Option Nat)) => ([(al, .inr (2, [.int (nI mo), .ref u.1, .int (nI (cap + 1))])), (u.1, .inl (u.2.1, u.2.2.1, .inr (.inr (.inr (.inr u.2.2.2)))))] : va_W)) (fun (u : Nat × ClassId × Nat × (Nat → Option Nat)) => ([(u.2.1, .object "java/lang/Object")] : List (ClassId × FieldType))) sz (0) mz (0) (fun (u : Nat × ClassId × Nat × (Nat → Option Nat)) (t : State) => True) A) (cc := cJx4a65c_add_72be8) (maxL := 4) (ret := none) RJx4a65c rfl (by decide) rfl (Nat.le_of_ble_eq_true rfl) ?_
  intro p ev s m below meth c ls A hx hb hr hml hown hts hlocks hnm hsz hmz hN hAe hA hAN hS hP hK hD hG hL hl
  subst hsz
  subst hmz
  have hl : lv_has ls 4 [(0, .ref al), (1, .ref sa), (2, .ref ea), (3, .int (nI cap))] := hl
  have zH_sa : zs sa sv (sn) A s s.heap := hL (sa, sv, sn) (by simp)
  obtain ⟨z1_sa, z2_sa, z3_sa, zf_sa, z4_sa, z5_sa⟩ := id zH_sa
  have zna_sa := zH_sa.na
  have znv_sa := zH_sa.nv
  refine lv_iload_n hx hb dJx4a65c_add_72be8_0 rfl (lv_at hl 3 rfl) ?_
  refine lv_aload_n hx hb dJx4a65c_add_72be8_1 rfl (lv_at hl 2 rfl) ?_
  refine va_alen (v := nI (cap)) hx hb hK hP 1 0 rfl rfl rfl dJx4a65c_add_72be8_2 ?_
  refine lv_icmp_ne (tgt := 11) hx hb dJx4a65c_add_72be8_3 (by decide) (fun hq => absurd (show (nI cap) = (nI cap) from (nI_eq (by omega) (by omega)).mpr (by omega)) hq) (fun _ => ?_)
  refine lv_aload_n hx hb dJx4a65c_add_72be8_6 rfl (lv_at hl 0 rfl) ?_
  have hFc := va_free (wc := [(al, .inr (2, [.int (nI mo), .ref ea, .int (nI cap)])), (ea, .inl (cO, cap, .inr (.inr (.inr (.inr fe)))))]) hD hS hA [0, 1] rfl
  have kc1 : 0 + (1) ≤ 1 := by omega
  have ks2 : 0 + (1200) ≤ 1200 := by omega
  refine z_callr (wr := []) (va_runV (As := []) (rest := []) ⟨hx, hb, hml, hown, hts⟩ (c_grow0 l D N0 e s.heap.size (zw s.heap) al mo ea cO cap fe sa sv sn h10 hcap hzf.2) (cwV 0 hts gJx4a65c_add_72be8_Jx4a65c_grow_d5877 rfl rfl rfl (by decide +kernel) ⟨Nat.le_of_ble_eq_true rfl, Nat.le_of_ble_eq_true rfl⟩) ⟨zP.blind, (va_recv hK hP (ci := 2) (q0 := 0) rfl rfl), (z_pre hK hP hD hS hAN hN hG [0, 1] (by decide) rfl [0] rfl (List.forall_mem_cons.mpr ⟨((zstart zH_sa hS).wall (z_inA zna_sa hFc) (z_inA znv_sa hFc)), fun q hq => absurd hq List.not_mem_nil⟩))⟩ rfl rfl hl.1 rfl (lv_room (Nat.le_of_ble_eq_true rfl)) dJx4a65c_add_72be8_7 ⟨kc1, ks2⟩) hK hP hD hS hA [0, 1] rfl [] rfl (by decide) (by decide) (fun u r4 t H locs ht hvm hw_c3 hY_c3 hz_c3 hm_c3 hk_c3 hK hP hD hS => ?_)
  obtain ⟨qn, cn2, f2⟩ := u
  try dsimp only at hw_c3 hY_c3
  have hP : va_P D vwCl [(al, .inr (2, [.int (nI mo), .ref qn, .int (nI cap)])), (qn, .inl (cn2, cap + cap / 2, .inr (.inr (.inr (.inr f2)))))] H := hP
  have hD : va_D A [(al, .inr (2, [.int (nI mo), .ref qn, .int (nI cap)])), (qn, .inl (cn2, cap + cap / 2, .inr (.inr (.inr (.inr f2)))))] := hD
  have hK : va_K D vwCl [(cO, .object "java/lang/Object"), (cn2, .object "java/lang/Object")] s := hK
  have hs5 := hS.1
  refine W.widen (k := 1) (n := 1200) (by omega) (by omega) ?_
  obtain rfl : qn = r4 := Eq.symm hw_c3.1
  have hf2 : zF f2 cap sa := hzf.copy hw_c3.2.1 hw_c3.2.2
  refine lv_astore_n (lv' := [(2, .ref qn), (0, .ref al), (1, .ref sa), (3, .int (nI cap))]) hx hb dJx4a65c_add_72be8_10 rfl hl (by decide) rfl (fun ls hl => ?_)
  refine lv_aload_n hx hb dJx4a65c_add_72be8_11 rfl (lv_at hl 0 rfl) ?_
  refine lv_iload_n hx hb dJx4a65c_add_72be8_12 rfl (lv_at hl 3 rfl) ?_
  refine lv_aload_n hx hb dJx4a65c_add_72be8_13 rfl (lv_at hl 2 rfl) ?_
  have vi6 : vp_in (nI cap) (cap + cap / 2) := vp_in_nI (by omega) (by omega)
  refine vb_astq (C := RJ0) hx hb hK hP hD hS 1 1 rfl rfl (zrecv (zstart zH_sa hS)) (vb_asgC hG.cast) vi6 dJx4a65c_add_72be8_14 (fun H locs hP hD hS => ?_)
  rw [nI_clamp (show cap < 2 ^ 31 by omega)] at hP hD
  have hf4 : zF (va_up f2 (cap) (some sa)) (cap + 1) sa := (hf2).push
  generalize va_up f2 (cap) (some sa) = f4 at hP hD hf4
  have hP : va_P D vwCl [(al, .inr (2, [.int (nI mo), .ref qn, .int (nI cap)])), (qn, .inl (cn2, cap + cap / 2, .inr (.inr (.inr (.inr f4)))))] H := hP
  have hD : va_D A [(al, .inr (2, [.int (nI mo), .ref qn, .int (nI cap)])), (qn, .inl (cn2, cap + cap / 2, .inr (.inr (.inr (.inr f4)))))] := hD
  have hs7 := hS.1
  refine lv_aload_n hx hb dJx4a65c_add_72be8_15 rfl (lv_at hl 1 rfl) ?_
  refine lv_iload_n hx hb dJx4a65c_add_72be8_16 rfl (lv_at hl 3 rfl) ?_
  refine lv_iconst (v := (nI 1)) hx hb dJx4a65c_add_72be8_17 (by decide) ?_
  refine lv_iadd hx hb dJx4a65c_add_72be8_18 ?_
  refine lv_topi (fun t8 et8 => ?_)
  replace et8 := et8.trans (show ((nI cap) + (nI 1)) = (nI (cap + 1)) from nI_add _ _)
  subst et8
  refine va_put (D := D) (ci := 2) (v := .int (nI (cap + 1))) (ty := .int) (C := RJx4a65c) (T := TJx4a65c) (N := 3) hx hb hts (by decide +kernel) tyJx4a65c tyJx4a65c_ok nmJx4a65c hown hK hP hD hS 0 rfl rfl 2 (by decide) (hts (.fieldLink RJx4a65c 48 "java/util/ArrayList" "size" "I") (by decide +kernel)) (fun _ h9 => h9) rfl (by decide +kernel) rfl rfl (Nat.le_of_ble_eq_true rfl) dJx4a65c_add_72be8_19 (fun H locs hP hD hS => ?_)
  have hP : va_P D vwCl [(al, .inr (2, [.int (nI mo), .ref qn, .int (nI (cap + 1))])), (qn, .inl (cn2, cap + cap / 2, .inr (.inr (.inr (.inr f4)))))] H := hP
  have hD : va_D A [(al, .inr (2, [.int (nI mo), .ref qn, .int (nI (cap + 1))])), (qn, .inl (cn2, cap + cap / 2, .inr (.inr (.inr (.inr f4)))))] := hD
  have hs9 := hS.1
  have hz0 := hS.1
  refine z_keepW (fun hkp => ?_)
  exact z_retv (qn, cn2, (cap + cap / 2), f4) hx hb hr hlocks (show cap + 1 ≤ (cap + cap / 2) ∧ (cap + cap / 2) ≤ 800 ∧ 10 ≤ (cap + cap / 2) ∧ zF f4 (cap + 1) sa from ⟨by omega, by omega, by omega, hf4⟩) hK [1] rfl hP hD hS [0, 1] (by decide) rfl (by omega) (zw_keep hkp) (fun _ _ _ => trivial) dJx4a65c_add_72be8_22
set_option maxRecDepth 100000 in
set_option maxHeartbeats 4000000 in
/-- add(E, row, size): there is room -/
theorem c_add3A (l : Launch) (D : va_G) (N0 : Nat) (e : zE) (sz mz : Nat) (al : Nat) (mo : Nat) (ea : Nat) (nn : Nat) (cO : ClassId) (cap : Nat) (fe : Nat → Option Nat) (sa : Nat) (sv : Nat) (sn : Nat) (h10 : 10 ≤ cap) (hcap : cap ≤ 800) (hn : nn < cap) (hzf : zF fe nn sa) : Met l yJx4a65c_add_72be8 wsJx4a65c_add_72be8 ({ frames := 5, cells := 1, slots := 1200, locals := 147 }) (va_Pc [.ref al, .ref sa, .ref ea, .int (nI nn)] (zP N0 e D [(cO, .object "java/lang/Object")] [(al, .inr (2, [.int (nI mo), .ref ea, .int (nI nn)])), (ea, .inl (cO, cap, .inr (.inr (.inr (.inr fe)))))] sz mz [(sa, sv, sn)])) (zQv (fun (u : Nat × ClassId × Nat × (Nat → Option Nat)) => nn + 1 ≤ u.2.2.1 ∧ u.2.2.1 ≤ 800 ∧ 10 ≤ u.2.2.1 ∧ zF u.2.2.2 (nn + 1) sa) D (fun (u : Nat × ClassId × Nat × (Nat → Option Nat)) => ([(al, .inr (2, [.int (nI mo), .ref u.1, .int (nI (nn + 1))])), (u.1, .inl (u.2.1, u.2.2.1, .inr (.inr (.inr (.inr u.2.2.2)))))] : va_W)) (fun (u : Nat × ClassId × Nat × (Nat → Option Nat)) => ([(u.2.1, .object "java/lang/Object")] : List (ClassId × FieldType))) sz (0) mz (0) (fun (u : Nat × ClassId × Nat × (Nat → Option Nat)) (t : State) => True) (va_A [(al, .inr (2, [.int (nI mo), .ref ea, .int (nI nn)])), (ea, .inl (cO, cap, .inr (.inr (.inr (.inr fe)))))] sz)) (1) (1200) (va_A [(al, .inr (2, [.int (nI mo), .ref ea, .int (nI nn)])), (ea, .inl (cO, cap, .inr (.inr (.inr (.inr fe)))))] sz) := by
  refine z_met (Qc := fun A => zQv (fun (u : Nat × ClassId × Nat × (Nat → Option Nat)) => nn + 1 ≤ u.2.2.1 ∧ u.2.2.1 ≤ 800 ∧ 10 ≤ u.2.2.1 ∧ zF u.2.2.2 (nn + 1) sa) D (fun (u : Nat × ClassId × Nat × (Nat → Option Nat)) => ([(al, .inr (2, [.int (nI mo), .ref u.1, .int (nI (nn + 1))])), (u.1, .inl (u.2.1, u.2.2.1, .inr (.inr (.inr (.inr u.2.2.2)))))] : va_W)) (fun (u : Nat × ClassId × Nat × (Nat → Option Nat)) => ([(u.2.1, .object "java/lang/Object")] : List (ClassId × FieldType))) sz (0) mz (0) (fun (u : Nat × ClassId × Nat × (Nat → Option Nat)) (t : State) => True) A) (cc := cJx4a65c_add_72be8) (maxL := 4) (ret := none) RJx4a65c rfl (by decide) rfl (Nat.le_of_ble_eq_true rfl) ?_
  intro p ev s m below meth c ls A hx hb hr hml hown hts hlocks hnm hsz hmz hN hAe hA hAN hS hP hK hD hG hL hl
  subst hsz
  subst hmz
  have hl : lv_has ls 4 [(0, .ref al), (1, .ref sa), (2, .ref ea), (3, .int (nI nn))] := hl
  have zH_sa : zs sa sv (sn) A s s.heap := hL (sa, sv, sn) (by simp)
  obtain ⟨z1_sa, z2_sa, z3_sa, zf_sa, z4_sa, z5_sa⟩ := id zH_sa
  have zna_sa := zH_sa.na
  have znv_sa := zH_sa.nv
  refine lv_iload_n hx hb dJx4a65c_add_72be8_0 rfl (lv_at hl 3 rfl) ?_
  refine lv_aload_n hx hb dJx4a65c_add_72be8_1 rfl (lv_at hl 2 rfl) ?_
  refine va_alen (v := nI (cap)) hx hb hK hP 1 0 rfl rfl rfl dJx4a65c_add_72be8_2 ?_
  refine lv_icmp_ne (tgt := 11) hx hb dJx4a65c_add_72be8_3 (by decide) (fun _ => ?_) (fun hq => absurd hq (show ¬ ((nI nn) = (nI cap)) from fun hq => absurd ((nI_eq (by omega) (by omega)).mp hq) (by omega)))
  refine lv_aload_n hx hb dJx4a65c_add_72be8_11 rfl (lv_at hl 2 rfl) ?_
  refine lv_iload_n hx hb dJx4a65c_add_72be8_12 rfl (lv_at hl 3 rfl) ?_
  refine lv_aload_n hx hb dJx4a65c_add_72be8_13 rfl (lv_at hl 1 rfl) ?_
  have vi1 : vp_in (nI nn) (cap) := vp_in_nI (by omega) (by omega)
  refine vb_astq (C := RJ0) hx hb hK hP hD hS 1 0 rfl rfl (zrecv (zstart zH_sa hS)) (vb_asgC hG.cast) vi1 dJx4a65c_add_72be8_14 (fun H locs hP hD hS => ?_)
  rw [nI_clamp (show nn < 2 ^ 31 by omega)] at hP hD
  have hf4 : zF (va_up fe (nn) (some sa)) (nn + 1) sa := (hzf).push
  generalize va_up fe (nn) (some sa) = f4 at hP hD hf4
  have hP : va_P D vwCl [(al, .inr (2, [.int (nI mo), .ref ea, .int (nI nn)])), (ea, .inl (cO, cap, .inr (.inr (.inr (.inr f4)))))] H := hP
  have hD : va_D A [(al, .inr (2, [.int (nI mo), .ref ea, .int (nI nn)])), (ea, .inl (cO, cap, .inr (.inr (.inr (.inr f4)))))] := hD
  have hs2 := hS.1
  refine lv_aload_n hx hb dJx4a65c_add_72be8_15 rfl (lv_at hl 0 rfl) ?_
  refine lv_iload_n hx hb dJx4a65c_add_72be8_16 rfl (lv_at hl 3 rfl) ?_
  refine lv_iconst (v := (nI 1)) hx hb dJx4a65c_add_72be8_17 (by decide) ?_
  refine lv_iadd hx hb dJx4a65c_add_72be8_18 ?_
  refine lv_topi (fun t3 et3 => ?_)
  replace et3 := et3.trans (show ((nI nn) + (nI 1)) = (nI (nn + 1)) from nI_add _ _)
  subst et3
  refine va_put (D := D) (ci := 2) (v := .int (nI (nn + 1))) (ty := .int) (C := RJx4a65c) (T := TJx4a65c) (N := 3) hx hb hts (by decide +kernel) tyJx4a65c tyJx4a65c_ok nmJx4a65c hown hK hP hD hS 0 rfl rfl 2 (by decide) (hts (.fieldLink RJx4a65c 48 "java/util/ArrayList" "size" "I") (by decide +kernel)) (fun _ h9 => h9) rfl (by decide +kernel) rfl rfl (Nat.le_of_ble_eq_true rfl) dJx4a65c_add_72be8_19 (fun H locs hP hD hS => ?_)
  have hP : va_P D vwCl [(al, .inr (2, [.int (nI mo), .ref ea, .int (nI (nn + 1))])), (ea, .inl (cO, cap, .inr (.inr (.inr (.inr f4)))))] H := hP
  have hD : va_D A [(al, .inr (2, [.int (nI mo), .ref ea, .int (nI (nn + 1))])), (ea, .inl (cO, cap, .inr (.inr (.inr (.inr f4)))))] := hD
  have hs4 := hS.1
  refine W.widen (k := (1)) (n := (1200)) (by omega) (by omega) ?_
  have hz0 := hS.1
  refine z_keepW (fun hkp => ?_)
  exact z_retv (ea, cO, cap, f4) hx hb hr hlocks (show nn + 1 ≤ cap ∧ cap ≤ 800 ∧ 10 ≤ cap ∧ zF f4 (nn + 1) sa from ⟨by omega, by omega, by omega, hf4⟩) hK [0] rfl hP hD hS [0, 1] (by decide) rfl (by omega) (zw_keep hkp) (fun _ _ _ => trivial) dJx4a65c_add_72be8_22
/-- with room or without -/
theorem c_add3 (l : Launch) (D : va_G) (N0 : Nat) (e : zE) (sz mz : Nat) (al : Nat) (mo : Nat) (ea : Nat) (nn : Nat) (cO : ClassId) (cap : Nat) (fe : Nat → Option Nat) (sa : Nat) (sv : Nat) (sn : Nat) (h10 : 10 ≤ cap) (hcap : cap ≤ 800) (h5 : nn ≤ 511) (hn : nn ≤ cap) (hzf : zF fe nn sa) : Met l yJx4a65c_add_72be8 wsJx4a65c_add_72be8 ({ frames := 5, cells := 1, slots := 1200, locals := 147 }) (va_Pc [.ref al, .ref sa, .ref ea, .int (nI nn)] (zP N0 e D [(cO, .object "java/lang/Object")] [(al, .inr (2, [.int (nI mo), .ref ea, .int (nI nn)])), (ea, .inl (cO, cap, .inr (.inr (.inr (.inr fe)))))] sz mz [(sa, sv, sn)])) (zQv (fun (u : Nat × ClassId × Nat × (Nat → Option Nat)) => nn + 1 ≤ u.2.2.1 ∧ u.2.2.1 ≤ 800 ∧ 10 ≤ u.2.2.1 ∧ zF u.2.2.2 (nn + 1) sa) D (fun (u : Nat × ClassId × Nat × (Nat → Option Nat)) => ([(al, .inr (2, [.int (nI mo), .ref u.1, .int (nI (nn + 1))])), (u.1, .inl (u.2.1, u.2.2.1, .inr (.inr (.inr (.inr u.2.2.2)))))] : va_W)) (fun (u : Nat × ClassId × Nat × (Nat → Option Nat)) => ([(u.2.1, .object "java/lang/Object")] : List (ClassId × FieldType))) sz (0) mz (0) (fun (u : Nat × ClassId × Nat × (Nat → Option Nat)) (t : State) => True) (va_A [(al, .inr (2, [.int (nI mo), .ref ea, .int (nI nn)])), (ea, .inl (cO, cap, .inr (.inr (.inr (.inr fe)))))] sz)) (1) (1200) (va_A [(al, .inr (2, [.int (nI mo), .ref ea, .int (nI nn)])), (ea, .inl (cO, cap, .inr (.inr (.inr (.inr fe)))))] sz) := by
  rcases Nat.lt_or_ge nn cap with q | q
  · exact c_add3A l D N0 e sz mz al mo ea nn cO cap fe sa sv sn h10 hcap q hzf
  · obtain rfl : nn = cap := by omega
    exact c_add3B l D N0 e sz mz al mo ea cO nn fe sa sv sn h10 hcap h5 hzf
set_option maxRecDepth 100000 in
set_option maxHeartbeats 4000000 in
/-- add(E, row, size): the first -/
theorem c_add3F (l : Launch) (D : va_G) (N0 : Nat) (e : zE) (sz mz : Nat) (al : Nat) (mo : Nat) (sa : Nat) (sv : Nat) (sn : Nat)  : Met l yJx4a65c_add_72be8 wsJx4a65c_add_72be8 ({ frames := 3, cells := 1, slots := 1200, locals := 83 }) (va_Pc [.ref al, .ref sa, .ref e.1, .int (nI 0)] (zP N0 e D [] [(al, .inr (2, [.int (nI mo), .ref e.1, .int (nI 0)]))] sz mz [(sa, sv, sn)])) (zQv (fun (u : Nat × ClassId × Nat × (Nat → Option Nat)) => 0 + 1 ≤ u.2.2.1 ∧ u.2.2.1 ≤ 800 ∧ 10 ≤ u.2.2.1 ∧ zF u.2.2.2 (0 + 1) sa) D (fun (u : Nat × ClassId × Nat × (Nat → Option Nat)) => ([(al, .inr (2, [.int (nI mo), .ref u.1, .int (nI 1)])), (u.1, .inl (u.2.1, u.2.2.1, .inr (.inr (.inr (.inr u.2.2.2)))))] : va_W)) (fun (u : Nat × ClassId × Nat × (Nat → Option Nat)) => ([(u.2.1, .object "java/lang/Object")] : List (ClassId × FieldType))) sz (0) mz (0) (fun (u : Nat × ClassId × Nat × (Nat → Option Nat)) (t : State) => True) (va_A [(al, .inr (2, [.int (nI mo), .ref e.1, .int (nI 0)]))] sz)) (1) (1200) (va_A [(al, .inr (2, [.int (nI mo), .ref e.1, .int (nI 0)]))] sz) := by
  refine z_met (Qc := fun A => zQv (fun (u : Nat × ClassId × Nat × (Nat → Option Nat)) => 0 + 1 ≤ u.2.2.1 ∧ u.2.2.1 ≤ 800 ∧ 10 ≤ u.2.2.1 ∧ zF u.2.2.2 (0 + 1) sa) D (fun (u : Nat × ClassId × Nat × (Nat → Option Nat)) => ([(al, .inr (2, [.int (nI mo), .ref u.1, .int (nI 1)])), (u.1, .inl (u.2.1, u.2.2.1, .inr (.inr (.inr (.inr u.2.2.2)))))] : va_W)) (fun (u : Nat × ClassId × Nat × (Nat → Option Nat)) => ([(u.2.1, .object "java/lang/Object")] : List (ClassId × FieldType))) sz (0) mz (0) (fun (u : Nat × ClassId × Nat × (Nat → Option Nat)) (t : State) => True) A) (cc := cJx4a65c_add_72be8) (maxL := 4) (ret := none) RJx4a65c rfl (by decide) rfl (Nat.le_of_ble_eq_true rfl) ?_
  intro p ev s m below meth c ls A hx hb hr hml hown hts hlocks hnm hsz hmz hN hAe hA hAN hS hP hK hD hG hL hl
  subst hsz
  subst hmz
  have hl : lv_has ls 4 [(0, .ref al), (1, .ref sa), (2, .ref e.1), (3, .int (nI 0))] := hl
  have zH_sa : zs sa sv (sn) A s s.heap := hL (sa, sv, sn) (by simp)
  obtain ⟨z1_sa, z2_sa, z3_sa, zf_sa, z4_sa, z5_sa⟩ := id zH_sa
  have zna_sa := zH_sa.na
  have znv_sa := zH_sa.nv
  refine lv_iload_n hx hb dJx4a65c_add_72be8_0 rfl (lv_at hl 3 rfl) ?_
  refine lv_aload_n hx hb dJx4a65c_add_72be8_1 rfl (lv_at hl 2 rfl) ?_
  refine va_tlen (v := nI 0) hx hb (hG.2.2.1.narrow hAN) hS rfl dJx4a65c_add_72be8_2 ?_
  refine lv_icmp_ne (tgt := 11) hx hb dJx4a65c_add_72be8_3 (by decide) (fun hq => absurd (show (nI 0) = (nI 0) from (nI_eq (by omega) (by omega)).mpr (by omega)) hq) (fun _ => ?_)
  refine lv_aload_n hx hb dJx4a65c_add_72be8_6 rfl (lv_at hl 0 rfl) ?_
  have hFc := va_free (wc := [(al, .inr (2, [.int (nI mo), .ref e.1, .int (nI 0)]))]) hD hS hA [0] rfl
  have kc1 : 0 + (1) ≤ 1 := by omega
  have ks2 : 0 + (1200) ≤ 1200 := by omega
  refine z_callr (wr := []) (va_runV (As := []) (rest := []) ⟨hx, hb, hml, hown, hts⟩ (c_grow0F l D N0 e s.heap.size (zw s.heap) al mo ) (cwV 0 hts gJx4a65c_add_72be8_Jx4a65c_grow_d5877 rfl rfl rfl (by decide +kernel) ⟨Nat.le_of_ble_eq_true rfl, Nat.le_of_ble_eq_true rfl⟩) ⟨zP.blind, (va_recv hK hP (ci := 2) (q0 := 0) rfl rfl), (z_pre hK hP hD hS hAN hN hG [0] (by decide) rfl [] rfl (fun q hq => absurd hq List.not_mem_nil))⟩ rfl rfl hl.1 rfl (lv_room (Nat.le_of_ble_eq_true rfl)) dJx4a65c_add_72be8_7 ⟨kc1, ks2⟩) hK hP hD hS hA [0] rfl [] rfl (by decide) (by decide) (fun u r4 t H locs ht hvm hw_c3 hY_c3 hz_c3 hm_c3 hk_c3 hK hP hD hS => ?_)
  obtain ⟨qn, cn2⟩ := u
  try dsimp only at hw_c3 hY_c3
  have hP : va_P D vwCl [(al, .inr (2, [.int (nI mo), .ref qn, .int (nI 0)])), (qn, .inl (cn2, 10, .inr (.inr (.inr (.inr (fun _ => none))))))] H := hP
  have hD : va_D A [(al, .inr (2, [.int (nI mo), .ref qn, .int (nI 0)])), (qn, .inl (cn2, 10, .inr (.inr (.inr (.inr (fun _ => none))))))] := hD
  have hK : va_K D vwCl [(cn2, .object "java/lang/Object")] s := hK
  have hs5 := hS.1
  refine W.widen (k := 1) (n := 1200) (by omega) (by omega) ?_
  obtain rfl : qn = r4 := Eq.symm hw_c3
  refine lv_astore_n (lv' := [(2, .ref qn), (0, .ref al), (1, .ref sa), (3, .int (nI 0))]) hx hb dJx4a65c_add_72be8_10 rfl hl (by decide) rfl (fun ls hl => ?_)
  refine lv_aload_n hx hb dJx4a65c_add_72be8_11 rfl (lv_at hl 0 rfl) ?_
  refine lv_iload_n hx hb dJx4a65c_add_72be8_12 rfl (lv_at hl 3 rfl) ?_
  refine lv_aload_n hx hb dJx4a65c_add_72be8_13 rfl (lv_at hl 2 rfl) ?_
  have vi6 : vp_in (nI 0) (10) := vp_in_nI (by omega) (by omega)
  refine vb_astq (C := RJ0) hx hb hK hP hD hS 1 0 rfl rfl (zrecv (zstart zH_sa hS)) (vb_asgC hG.cast) vi6 dJx4a65c_add_72be8_14 (fun H locs hP hD hS => ?_)
  rw [nI_clamp (show 0 < 2 ^ 31 by omega)] at hP hD
  have hf4 : zF (va_up (fun _ => none) (0) (some sa)) (0 + 1) sa := (zF.none).push
  generalize va_up (fun _ => none) (0) (some sa) = f4 at hP hD hf4
  have hP : va_P D vwCl [(al, .inr (2, [.int (nI mo), .ref qn, .int (nI 0)])), (qn, .inl (cn2, 10, .inr (.inr (.inr (.inr f4)))))] H := hP
  have hD : va_D A [(al, .inr (2, [.int (nI mo), .ref qn, .int (nI 0)])), (qn, .inl (cn2, 10, .inr (.inr (.inr (.inr f4)))))] := hD
  have hs7 := hS.1
  refine lv_aload_n hx hb dJx4a65c_add_72be8_15 rfl (lv_at hl 1 rfl) ?_
  refine lv_iload_n hx hb dJx4a65c_add_72be8_16 rfl (lv_at hl 3 rfl) ?_
  refine lv_iconst (v := (nI 1)) hx hb dJx4a65c_add_72be8_17 (by decide) ?_
  refine lv_iadd hx hb dJx4a65c_add_72be8_18 ?_
  refine lv_topi (fun t8 et8 => ?_)
  replace et8 := et8.trans (show ((nI 0) + (nI 1)) = (nI 1) from by decide)
  subst et8
  refine va_put (D := D) (ci := 2) (v := .int (nI 1)) (ty := .int) (C := RJx4a65c) (T := TJx4a65c) (N := 3) hx hb hts (by decide +kernel) tyJx4a65c tyJx4a65c_ok nmJx4a65c hown hK hP hD hS 0 rfl rfl 2 (by decide) (hts (.fieldLink RJx4a65c 48 "java/util/ArrayList" "size" "I") (by decide +kernel)) (fun _ h9 => h9) rfl (by decide +kernel) rfl rfl (Nat.le_of_ble_eq_true rfl) dJx4a65c_add_72be8_19 (fun H locs hP hD hS => ?_)
  have hP : va_P D vwCl [(al, .inr (2, [.int (nI mo), .ref qn, .int (nI 1)])), (qn, .inl (cn2, 10, .inr (.inr (.inr (.inr f4)))))] H := hP
  have hD : va_D A [(al, .inr (2, [.int (nI mo), .ref qn, .int (nI 1)])), (qn, .inl (cn2, 10, .inr (.inr (.inr (.inr f4)))))] := hD
  have hs9 := hS.1
  have hz0 := hS.1
  refine z_keepW (fun hkp => ?_)
  exact z_retv (qn, cn2, 10, f4) hx hb hr hlocks (show 0 + 1 ≤ 10 ∧ 10 ≤ 800 ∧ 10 ≤ 10 ∧ zF f4 (0 + 1) sa from ⟨by omega, by omega, by omega, hf4⟩) hK [0] rfl hP hD hS [0, 1] (by decide) rfl (by omega) (zw_keep hkp) (fun _ _ _ => trivial) dJx4a65c_add_72be8_22
set_option maxRecDepth 100000 in
set_option maxHeartbeats 4000000 in
/-- ArrayList.add -/
theorem c_add (l : Launch) (D : va_G) (N0 : Nat) (e : zE) (sz mz : Nat) (al : Nat) (mo : Nat) (ea : Nat) (nn : Nat) (cO : ClassId) (cap : Nat) (fe : Nat → Option Nat) (sa : Nat) (sv : Nat) (sn : Nat) (h10 : 10 ≤ cap) (hcap : cap ≤ 800) (h5 : nn ≤ 511) (hn : nn ≤ cap) (hzf : zF fe nn sa) : Met l yJx4a65c_add_9ea2d wsJx4a65c_add_9ea2d ({ frames := 6, cells := 1, slots := 1200, locals := 170 }) (va_Pc [.ref al, .ref sa] (zP N0 e D [(cO, .object "java/lang/Object")] [(al, .inr (2, [.int (nI mo), .ref ea, .int (nI nn)])), (ea, .inl (cO, cap, .inr (.inr (.inr (.inr fe)))))] sz mz [(sa, sv, sn)])) (zQi (fun (r : Int32) (u : Nat × ClassId × Nat × (Nat → Option Nat)) => r = (nI 1) ∧ nn + 1 ≤ u.2.2.1 ∧ u.2.2.1 ≤ 800 ∧ 10 ≤ u.2.2.1 ∧ zF u.2.2.2 (nn + 1) sa) D (fun (u : Nat × ClassId × Nat × (Nat → Option Nat)) => ([(al, .inr (2, [.int (nI (mo + 1)), .ref u.1, .int (nI (nn + 1))])), (u.1, .inl (u.2.1, u.2.2.1, .inr (.inr (.inr (.inr u.2.2.2)))))] : va_W)) (fun (u : Nat × ClassId × Nat × (Nat → Option Nat)) => ([(u.2.1, .object "java/lang/Object")] : List (ClassId × FieldType))) sz (0) mz (0) (fun (u : Nat × ClassId × Nat × (Nat → Option Nat)) (t : State) => True) (va_A [(al, .inr (2, [.int (nI mo), .ref ea, .int (nI nn)])), (ea, .inl (cO, cap, .inr (.inr (.inr (.inr fe)))))] sz)) (1) (1200) (va_A [(al, .inr (2, [.int (nI mo), .ref ea, .int (nI nn)])), (ea, .inl (cO, cap, .inr (.inr (.inr (.inr fe)))))] sz) := by
  refine z_met (Qc := fun A => zQi (fun (r : Int32) (u : Nat × ClassId × Nat × (Nat → Option Nat)) => r = (nI 1) ∧ nn + 1 ≤ u.2.2.1 ∧ u.2.2.1 ≤ 800 ∧ 10 ≤ u.2.2.1 ∧ zF u.2.2.2 (nn + 1) sa) D (fun (u : Nat × ClassId × Nat × (Nat → Option Nat)) => ([(al, .inr (2, [.int (nI (mo + 1)), .ref u.1, .int (nI (nn + 1))])), (u.1, .inl (u.2.1, u.2.2.1, .inr (.inr (.inr (.inr u.2.2.2)))))] : va_W)) (fun (u : Nat × ClassId × Nat × (Nat → Option Nat)) => ([(u.2.1, .object "java/lang/Object")] : List (ClassId × FieldType))) sz (0) mz (0) (fun (u : Nat × ClassId × Nat × (Nat → Option Nat)) (t : State) => True) A) (cc := cJx4a65c_add_9ea2d) (maxL := 2) (ret := (some .boolean)) RJx4a65c rfl (by decide) rfl (Nat.le_of_ble_eq_true rfl) ?_
  intro p ev s m below meth c ls A hx hb hr hml hown hts hlocks hnm hsz hmz hN hAe hA hAN hS hP hK hD hG hL hl
  subst hsz
  subst hmz
  have hl : lv_has ls 2 [(0, .ref al), (1, .ref sa)] := hl
  have zH_sa : zs sa sv (sn) A s s.heap := hL (sa, sv, sn) (by simp)
  obtain ⟨z1_sa, z2_sa, z3_sa, zf_sa, z4_sa, z5_sa⟩ := id zH_sa
  have zna_sa := zH_sa.na
  have znv_sa := zH_sa.nv
  refine lv_aload_n hx hb dJx4a65c_add_9ea2d_0 rfl (lv_at hl 0 rfl) ?_
  refine lv_dup hx hb dJx4a65c_add_9ea2d_1 rfl ?_
  refine va_get (D := D) (ci := 2) (v := .int (nI mo)) (C := RJx4a65c) (T := TJx4a65c) (N := 3) hx hb hts (by decide +kernel) hown hK hP 0 rfl rfl 0 (by decide) (hts (.fieldLink RJx4a65c 63 "java/util/ArrayList" "modCount" "I") (by decide +kernel)) (u_same (hts (.sameField "java/util/ArrayList" "java/util/AbstractList" "modCount" "I") (by decide +kernel))) rfl dJx4a65c_add_9ea2d_2 ?_
  refine lv_iconst (v := (nI 1)) hx hb dJx4a65c_add_9ea2d_5 (by decide) ?_
  refine lv_iadd hx hb dJx4a65c_add_9ea2d_6 ?_
  refine lv_topi (fun t1 et1 => ?_)
  replace et1 := et1.trans (show ((nI mo) + (nI 1)) = (nI (mo + 1)) from nI_add _ _)
  subst et1
  refine va_put (D := D) (ci := 2) (v := .int (nI (mo + 1))) (ty := .int) (C := RJx4a65c) (T := TJx4a65c) (N := 3) hx hb hts (by decide +kernel) tyJx4a65c tyJx4a65c_ok nmJx4a65c hown hK hP hD hS 0 rfl rfl 0 (by decide) (hts (.fieldLink RJx4a65c 63 "java/util/ArrayList" "modCount" "I") (by decide +kernel)) (u_same (hts (.sameField "java/util/ArrayList" "java/util/AbstractList" "modCount" "I") (by decide +kernel))) rfl (by decide +kernel) rfl rfl (Nat.le_of_ble_eq_true rfl) dJx4a65c_add_9ea2d_7 (fun H locs hP hD hS => ?_)
  have hP : va_P D vwCl [(al, .inr (2, [.int (nI (mo + 1)), .ref ea, .int (nI nn)])), (ea, .inl (cO, cap, .inr (.inr (.inr (.inr fe)))))] H := hP
  have hD : va_D A [(al, .inr (2, [.int (nI (mo + 1)), .ref ea, .int (nI nn)])), (ea, .inl (cO, cap, .inr (.inr (.inr (.inr fe)))))] := hD
  have hs2 := hS.1
  refine lv_aload_n hx hb dJx4a65c_add_9ea2d_10 rfl (lv_at hl 0 rfl) ?_
  refine lv_aload_n hx hb dJx4a65c_add_9ea2d_11 rfl (lv_at hl 1 rfl) ?_
  refine lv_aload_n hx hb dJx4a65c_add_9ea2d_12 rfl (lv_at hl 0 rfl) ?_
  refine va_get (D := D) (ci := 2) (v := .ref ea) (C := RJx4a65c) (T := TJx4a65c) (N := 3) hx hb hts (by decide +kernel) hown hK hP 0 rfl rfl 1 (by decide) (hts (.fieldLink RJx4a65c 9 "java/util/ArrayList" "elementData" "[Ljava/lang/Object;") (by decide +kernel)) (fun _ h9 => h9) rfl dJx4a65c_add_9ea2d_13 ?_
  refine lv_aload_n hx hb dJx4a65c_add_9ea2d_16 rfl (lv_at hl 0 rfl) ?_
  refine va_get (D := D) (ci := 2) (v := .int (nI nn)) (C := RJx4a65c) (T := TJx4a65c) (N := 3) hx hb hts (by decide +kernel) hown hK hP 0 rfl rfl 2 (by decide) (hts (.fieldLink RJx4a65c 48 "java/util/ArrayList" "size" "I") (by decide +kernel)) (fun _ h9 => h9) rfl dJx4a65c_add_9ea2d_17 ?_
  have hFc := va_free (wc := [(al, .inr (2, [.int (nI (mo + 1)), .ref ea, .int (nI nn)])), (ea, .inl (cO, cap, .inr (.inr (.inr (.inr fe)))))]) hD hS hA [0, 1] rfl
  have kc3 : 0 + (1) ≤ 1 := by omega
  have ks4 : 0 + (1200) ≤ 1200 := by omega
  refine z_callv (wr := []) (va_runV (As := [.ref sa, .ref ea, .int (nI nn)]) (rest := []) ⟨hx, hb, hml, hown, hts⟩ (c_add3 l D N0 e H.size (zw H) al (mo + 1) ea nn cO cap fe sa sv sn h10 hcap h5 hn hzf) (cwV 3 hts gJx4a65c_add_9ea2d_Jx4a65c_add_72be8 rfl rfl rfl (by decide +kernel) ⟨Nat.le_of_ble_eq_true rfl, Nat.le_of_ble_eq_true rfl⟩) ⟨zP.blind, (va_recv hK hP (ci := 2) (q0 := 0) rfl rfl), (z_pre hK hP hD hS hAN hN hG [0, 1] (by decide) rfl [0] rfl (List.forall_mem_cons.mpr ⟨((zstart zH_sa hS).wall (z_inA zna_sa hFc) (z_inA znv_sa hFc)), fun q hq => absurd hq List.not_mem_nil⟩))⟩ rfl rfl hl.1 rfl (lv_room (Nat.le_of_ble_eq_true rfl)) dJx4a65c_add_9ea2d_20 ⟨kc3, ks4⟩) hK hP hD hS hA [0, 1] rfl [] rfl (by decide) (by decide) (fun u t H locs ht hvm hw_c5 hY_c5 hz_c5 hm_c5 hk_c5 hK hP hD hS => ?_)
  obtain ⟨qn, cn2, cap3, f4⟩ := u
  try dsimp only at hw_c5 hY_c5
  have hP : va_P D vwCl [(al, .inr (2, [.int (nI (mo + 1)), .ref qn, .int (nI (nn + 1))])), (qn, .inl (cn2, cap3, .inr (.inr (.inr (.inr f4)))))] H := hP
  have hD : va_D A [(al, .inr (2, [.int (nI (mo + 1)), .ref qn, .int (nI (nn + 1))])), (qn, .inl (cn2, cap3, .inr (.inr (.inr (.inr f4)))))] := hD
  have hK : va_K D vwCl [(cO, .object "java/lang/Object"), (cn2, .object "java/lang/Object")] s := hK
  have hs7 := hS.1
  refine W.widen (k := 1) (n := 1200) (by omega) (by omega) ?_
  have hf4 := hw_c5
  refine lv_iconst (v := (nI 1)) hx hb dJx4a65c_add_9ea2d_23 (by decide) ?_
  have hz0 := hS.1
  refine z_keepW (fun hkp => ?_)
  exact z_reti (v := (nI 1)) (qn, cn2, cap3, f4) hx hb hr (by first | rfl | decide) hlocks (show (nI 1) = (nI 1) ∧ nn + 1 ≤ cap3 ∧ cap3 ≤ 800 ∧ 10 ≤ cap3 ∧ zF f4 (nn + 1) sa from ⟨rfl, hf4⟩) hK [1] rfl hP hD hS [0, 1] (by decide) rfl (by omega) (zw_keep hkp) (fun _ _ _ => trivial) dJx4a65c_add_9ea2d_24
set_option maxRecDepth 100000 in
set_option maxHeartbeats 4000000 in
/-- ArrayList.add: the first -/
theorem c_addF (l : Launch) (D : va_G) (N0 : Nat) (e : zE) (sz mz : Nat) (al : Nat) (mo : Nat) (sa : Nat) (sv : Nat) (sn : Nat)  : Met l yJx4a65c_add_9ea2d wsJx4a65c_add_9ea2d ({ frames := 4, cells := 1, slots := 1200, locals := 106 }) (va_Pc [.ref al, .ref sa] (zP N0 e D [] [(al, .inr (2, [.int (nI mo), .ref e.1, .int (nI 0)]))] sz mz [(sa, sv, sn)])) (zQi (fun (r : Int32) (u : Nat × ClassId × Nat × (Nat → Option Nat)) => r = (nI 1) ∧ 0 + 1 ≤ u.2.2.1 ∧ u.2.2.1 ≤ 800 ∧ 10 ≤ u.2.2.1 ∧ zF u.2.2.2 (0 + 1) sa) D (fun (u : Nat × ClassId × Nat × (Nat → Option Nat)) => ([(al, .inr (2, [.int (nI (mo + 1)), .ref u.1, .int (nI 1)])), (u.1, .inl (u.2.1, u.2.2.1, .inr (.inr (.inr (.inr u.2.2.2)))))] : va_W)) (fun (u : Nat × ClassId × Nat × (Nat → Option Nat)) => ([(u.2.1, .object "java/lang/Object")] : List (ClassId × FieldType))) sz (0) mz (0) (fun (u : Nat × ClassId × Nat × (Nat → Option Nat)) (t : State) => True) (va_A [(al, .inr (2, [.int (nI mo), .ref e.1, .int (nI 0)]))] sz)) (1) (1200) (va_A [(al, .inr (2, [.int (nI mo), .ref e.1, .int (nI 0)]))] sz) := by
  refine z_met (Qc := fun A => zQi (fun (r : Int32) (u : Nat × ClassId × Nat × (Nat → Option Nat)) => r = (nI 1) ∧ 0 + 1 ≤ u.2.2.1 ∧ u.2.2.1 ≤ 800 ∧ 10 ≤ u.2.2.1 ∧ zF u.2.2.2 (0 + 1) sa) D (fun (u : Nat × ClassId × Nat × (Nat → Option Nat)) => ([(al, .inr (2, [.int (nI (mo + 1)), .ref u.1, .int (nI 1)])), (u.1, .inl (u.2.1, u.2.2.1, .inr (.inr (.inr (.inr u.2.2.2)))))] : va_W)) (fun (u : Nat × ClassId × Nat × (Nat → Option Nat)) => ([(u.2.1, .object "java/lang/Object")] : List (ClassId × FieldType))) sz (0) mz (0) (fun (u : Nat × ClassId × Nat × (Nat → Option Nat)) (t : State) => True) A) (cc := cJx4a65c_add_9ea2d) (maxL := 2) (ret := (some .boolean)) RJx4a65c rfl (by decide) rfl (Nat.le_of_ble_eq_true rfl) ?_
  intro p ev s m below meth c ls A hx hb hr hml hown hts hlocks hnm hsz hmz hN hAe hA hAN hS hP hK hD hG hL hl
  subst hsz
  subst hmz
  have hl : lv_has ls 2 [(0, .ref al), (1, .ref sa)] := hl
  have zH_sa : zs sa sv (sn) A s s.heap := hL (sa, sv, sn) (by simp)
  obtain ⟨z1_sa, z2_sa, z3_sa, zf_sa, z4_sa, z5_sa⟩ := id zH_sa
  have zna_sa := zH_sa.na
  have znv_sa := zH_sa.nv
  refine lv_aload_n hx hb dJx4a65c_add_9ea2d_0 rfl (lv_at hl 0 rfl) ?_
  refine lv_dup hx hb dJx4a65c_add_9ea2d_1 rfl ?_
  refine va_get (D := D) (ci := 2) (v := .int (nI mo)) (C := RJx4a65c) (T := TJx4a65c) (N := 3) hx hb hts (by decide +kernel) hown hK hP 0 rfl rfl 0 (by decide) (hts (.fieldLink RJx4a65c 63 "java/util/ArrayList" "modCount" "I") (by decide +kernel)) (u_same (hts (.sameField "java/util/ArrayList" "java/util/AbstractList" "modCount" "I") (by decide +kernel))) rfl dJx4a65c_add_9ea2d_2 ?_
  refine lv_iconst (v := (nI 1)) hx hb dJx4a65c_add_9ea2d_5 (by decide) ?_
  refine lv_iadd hx hb dJx4a65c_add_9ea2d_6 ?_
  refine lv_topi (fun t1 et1 => ?_)
  replace et1 := et1.trans (show ((nI mo) + (nI 1)) = (nI (mo + 1)) from nI_add _ _)
  subst et1
  refine va_put (D := D) (ci := 2) (v := .int (nI (mo + 1))) (ty := .int) (C := RJx4a65c) (T := TJx4a65c) (N := 3) hx hb hts (by decide +kernel) tyJx4a65c tyJx4a65c_ok nmJx4a65c hown hK hP hD hS 0 rfl rfl 0 (by decide) (hts (.fieldLink RJx4a65c 63 "java/util/ArrayList" "modCount" "I") (by decide +kernel)) (u_same (hts (.sameField "java/util/ArrayList" "java/util/AbstractList" "modCount" "I") (by decide +kernel))) rfl (by decide +kernel) rfl rfl (Nat.le_of_ble_eq_true rfl) dJx4a65c_add_9ea2d_7 (fun H locs hP hD hS => ?_)
  have hP : va_P D vwCl [(al, .inr (2, [.int (nI (mo + 1)), .ref e.1, .int (nI 0)]))] H := hP
  have hD : va_D A [(al, .inr (2, [.int (nI (mo + 1)), .ref e.1, .int (nI 0)]))] := hD
  have hs2 := hS.1
  refine lv_aload_n hx hb dJx4a65c_add_9ea2d_10 rfl (lv_at hl 0 rfl) ?_
  refine lv_aload_n hx hb dJx4a65c_add_9ea2d_11 rfl (lv_at hl 1 rfl) ?_
  refine lv_aload_n hx hb dJx4a65c_add_9ea2d_12 rfl (lv_at hl 0 rfl) ?_
  refine va_get (D := D) (ci := 2) (v := .ref e.1) (C := RJx4a65c) (T := TJx4a65c) (N := 3) hx hb hts (by decide +kernel) hown hK hP 0 rfl rfl 1 (by decide) (hts (.fieldLink RJx4a65c 9 "java/util/ArrayList" "elementData" "[Ljava/lang/Object;") (by decide +kernel)) (fun _ h9 => h9) rfl dJx4a65c_add_9ea2d_13 ?_
  refine lv_aload_n hx hb dJx4a65c_add_9ea2d_16 rfl (lv_at hl 0 rfl) ?_
  refine va_get (D := D) (ci := 2) (v := .int (nI 0)) (C := RJx4a65c) (T := TJx4a65c) (N := 3) hx hb hts (by decide +kernel) hown hK hP 0 rfl rfl 2 (by decide) (hts (.fieldLink RJx4a65c 48 "java/util/ArrayList" "size" "I") (by decide +kernel)) (fun _ h9 => h9) rfl dJx4a65c_add_9ea2d_17 ?_
  have hFc := va_free (wc := [(al, .inr (2, [.int (nI (mo + 1)), .ref e.1, .int (nI 0)]))]) hD hS hA [0] rfl
  have kc3 : 0 + (1) ≤ 1 := by omega
  have ks4 : 0 + (1200) ≤ 1200 := by omega
  refine z_callv (wr := []) (va_runV (As := [.ref sa, .ref e.1, .int (nI 0)]) (rest := []) ⟨hx, hb, hml, hown, hts⟩ (c_add3F l D N0 e H.size (zw H) al (mo + 1) sa sv sn ) (cwV 3 hts gJx4a65c_add_9ea2d_Jx4a65c_add_72be8 rfl rfl rfl (by decide +kernel) ⟨Nat.le_of_ble_eq_true rfl, Nat.le_of_ble_eq_true rfl⟩) ⟨zP.blind, (va_recv hK hP (ci := 2) (q0 := 0) rfl rfl), (z_pre hK hP hD hS hAN hN hG [0] (by decide) rfl [] rfl (List.forall_mem_cons.mpr ⟨((zstart zH_sa hS).wall (z_inA zna_sa hFc) (z_inA znv_sa hFc)), fun q hq => absurd hq List.not_mem_nil⟩))⟩ rfl rfl hl.1 rfl (lv_room (Nat.le_of_ble_eq_true rfl)) dJx4a65c_add_9ea2d_20 ⟨kc3, ks4⟩) hK hP hD hS hA [0] rfl [] rfl (by decide) (by decide) (fun u t H locs ht hvm hw_c5 hY_c5 hz_c5 hm_c5 hk_c5 hK hP hD hS => ?_)
  obtain ⟨qn, cn2, cap3, f4⟩ := u
  try dsimp only at hw_c5 hY_c5
  have hP : va_P D vwCl [(al, .inr (2, [.int (nI (mo + 1)), .ref qn, .int (nI 1)])), (qn, .inl (cn2, cap3, .inr (.inr (.inr (.inr f4)))))] H := hP
  have hD : va_D A [(al, .inr (2, [.int (nI (mo + 1)), .ref qn, .int (nI 1)])), (qn, .inl (cn2, cap3, .inr (.inr (.inr (.inr f4)))))] := hD
  have hK : va_K D vwCl [(cn2, .object "java/lang/Object")] s := hK
  have hs7 := hS.1
  refine W.widen (k := 1) (n := 1200) (by omega) (by omega) ?_
  have hf4 := hw_c5
  refine lv_iconst (v := (nI 1)) hx hb dJx4a65c_add_9ea2d_23 (by decide) ?_
  have hz0 := hS.1
  refine z_keepW (fun hkp => ?_)
  exact z_reti (v := (nI 1)) (qn, cn2, cap3, f4) hx hb hr (by first | rfl | decide) hlocks (show (nI 1) = (nI 1) ∧ 0 + 1 ≤ cap3 ∧ cap3 ≤ 800 ∧ 10 ≤ cap3 ∧ zF f4 (0 + 1) sa from ⟨rfl, hf4⟩) hK [0] rfl hP hD hS [0, 1] (by decide) rfl (by omega) (zw_keep hkp) (fun _ _ _ => trivial) dJx4a65c_add_9ea2d_24
