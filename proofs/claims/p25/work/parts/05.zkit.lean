/-! Rows of this claim's own: worlds above a floor (all that the runs here make or change lies at or above N0, the heap's size at the law's start; what lies below it stays). -/
/-- a String object at a of n Latin-1 signs, its row at v, both outside A -/
def zs (a v n : Nat) (A : Nat → Prop) (U : State) (H : Heap) : Prop :=
  va_O "java/lang/String" a A U H ∧ va_OF "java/lang/String" "coder" "B" (.int 0) a A U H ∧ va_OF "java/lang/String" "value" "[B" (.ref v) a A U H ∧ ∃ f : Nat → Int32, va_T .byte v n (fun j => .int (f j)) A U H ∧ ∀ j, j < n → fits .byte (.int (f j)) = true
theorem zs.moved {a v n : Nat} {A : Nat → Prop} {u U : State} {H : Heap} (hvm : u.vm.Alike U.vm) (h : zs a v n A u H) : zs a v n A U H := by
  obtain ⟨h1, h2, h3, f, h4, h5⟩ := h
  exact ⟨va_O.moved hvm h1, va_OF.moved hvm h2, va_OF.moved hvm h3, f, va_T.moved hvm h4, h5⟩
theorem zs.wall {a v n : Nat} {A B : Nat → Prop} {U : State} {H : Heap} (h : zs a v n A U H) (ha : ¬ B a) (hv : ¬ B v) : zs a v n B U H := by
  obtain ⟨⟨c1, g1, g2, g3, -⟩, ⟨cf, k, i, f, c2, q1, q2, q3, q4, q5, -⟩, ⟨cf', k', i', f', c2', r1, r2, r3, r4, r5, -⟩, fb, ⟨c4, s1, s2, s3, s4, s5, s6, -⟩, h5⟩ := h
  exact ⟨⟨c1, g1, g2, g3, ha⟩, ⟨cf, k, i, f, c2, q1, q2, q3, q4, q5, ha⟩, ⟨cf', k', i', f', c2', r1, r2, r3, r4, r5, ha⟩, fb, ⟨c4, s1, s2, s3, s4, s5, s6, hv⟩, h5⟩
theorem zs.at {a v n : Nat} {A : Nat → Prop} {U : State} {H H1 : Heap} (h : zs a v n A U H) (ea : H1[a]? = H[a]?) (ev : H1[v]? = H[v]?) : zs a v n A U H1 := by
  obtain ⟨⟨c1, g1, g2, g3, ha⟩, ⟨cf, k, i, f, c2, q1, q2, q3, q4, q5, -⟩, ⟨cf', k', i', f', c2', r1, r2, r3, r4, r5, -⟩, fb, ⟨c4, s1, s2, s3, s4, s5, s6, hv⟩, h5⟩ := h
  exact ⟨⟨c1, ea.trans g1, g2, g3, ha⟩, ⟨cf, k, i, f, c2, q1, q2, ea.trans q3, q4, q5, ha⟩, ⟨cf', k', i', f', c2', r1, r2, ea.trans r3, r4, r5, ha⟩, fb, ⟨c4, ev.trans s1, s2, s3, s4, s5, s6, hv⟩, h5⟩
theorem zs.lta {a v n : Nat} {A : Nat → Prop} {U : State} {H : Heap} (h : zs a v n A U H) : a < H.size := by
  obtain ⟨⟨c1, g1, -⟩, -⟩ := h
  exact (Array.getElem?_eq_some_iff.mp g1).1
theorem zs.ltv {a v n : Nat} {A : Nat → Prop} {U : State} {H : Heap} (h : zs a v n A U H) : v < H.size := by
  obtain ⟨-, -, -, fb, ⟨c4, s1, -⟩, -⟩ := h
  exact (Array.getElem?_eq_some_iff.mp s1).1
theorem zs.na {a v n : Nat} {A : Nat → Prop} {U : State} {H : Heap} (h : zs a v n A U H) : ¬ A a := by
  obtain ⟨⟨c1, g1, g2, g3, ha⟩, -⟩ := h
  exact ha
theorem zs.nv {a v n : Nat} {A : Nat → Prop} {U : State} {H : Heap} (h : zs a v n A U H) : ¬ A v := by
  obtain ⟨-, -, -, fb, ⟨c4, s1, s2, s3, s4, s5, s6, hv⟩, -⟩ := h
  exact hv
/-- what a heap weighs: 24 a cell and 8 a slot -/
def zw (H : Heap) : Nat := (H.toList.map (fun c : Cell => 24 + 8 * c.slots.size)).sum
/-- every cell of H0 is in H, with as many slots -/
def zKeeps (H0 H : Heap) : Prop := H0.size ≤ H.size ∧ ∀ (a : Nat) (c : Cell), H0[a]? = some c → ∃ c' : Cell, H[a]? = some c' ∧ c'.slots.size = c.slots.size
theorem zw_lin (L : List Cell) : (L.map (fun c : Cell => 24 + 8 * c.slots.size)).sum = 24 * L.length + 8 * (L.map (fun c : Cell => c.slots.size)).sum := by
  induction L with
  | nil => rfl
  | cons a L ih =>
    simp only [List.map_cons, List.sum_cons, List.length_cons, ih]
    omega
theorem zw_split {H0 H : Heap} (h : zKeeps H0 H) : zw H = zw H0 + 24 * (H.size - H0.size) + 8 * ((H.toList.drop H0.size).map (fun c : Cell => c.slots.size)).sum := by
  have h1 : (H.toList.take H0.size).map (fun c : Cell => c.slots.size) = H0.toList.map (fun c : Cell => c.slots.size) := by
    apply List.ext_getElem?
    intro i
    rw [List.getElem?_map, List.getElem?_map]
    rcases Nat.lt_or_ge i H0.size with hi | hi
    · obtain ⟨c, hc⟩ : ∃ c, H0[i]? = some c := ⟨_, Array.getElem?_eq_getElem hi⟩
      obtain ⟨c', q1, q2⟩ := h.2 i c hc
      rw [List.getElem?_take_of_lt hi, Array.getElem?_toList, Array.getElem?_toList, q1, hc, Option.map_some, Option.map_some, q2]
    · rw [List.getElem?_eq_none (l := H.toList.take H0.size) (by rw [List.length_take]; omega), List.getElem?_eq_none (l := H0.toList) (by rw [Array.length_toList]; exact hi)]
  have e1 : (H.toList.map (fun c : Cell => c.slots.size)).sum = ((H.toList.take H0.size).map (fun c : Cell => c.slots.size)).sum + ((H.toList.drop H0.size).map (fun c : Cell => c.slots.size)).sum := by
    rw [← List.sum_append, ← List.map_append, List.take_append_drop]
  unfold zw
  rw [zw_lin, zw_lin, e1, h1, Array.length_toList, Array.length_toList]
  have := h.1
  omega
theorem zw_keep {H0 H : Heap} (h : zKeeps H0 H) : zw H0 + 0 ≤ zw H := by
  have := zw_split h
  omega
theorem zw_snoc {H H1 : Heap} {cell : Cell} (hz : H1.size = H.size + 1) (ho : ∀ x : Nat, x < H.size → H1[x]? = H[x]?) (hn : H1[H.size]? = some cell) : zw H1 = zw H + (24 + 8 * cell.slots.size) := by
  have h1 : H1.toList = H.toList ++ [cell] := by
    apply List.ext_getElem?
    intro i
    rw [Array.getElem?_toList]
    rcases Nat.lt_trichotomy i H.size with hi | hi | hi
    · rw [ho i hi, List.getElem?_append_left (by rw [Array.length_toList]; exact hi), Array.getElem?_toList]
    · rw [hi, hn, List.getElem?_append_right (by rw [Array.length_toList]; exact Nat.le_refl _), Array.length_toList, Nat.sub_self]
      rfl
    · rw [Array.getElem?_eq_none (by omega), List.getElem?_eq_none (by rw [List.length_append, Array.length_toList, List.length_singleton]; omega)]
  unfold zw
  rw [h1, List.map_append, List.sum_append]
  simp
section ZW
variable {p : Program} {l : Launch} {ev : Env} {R : Room} {s : State} {m : MethodId} {args : Array Value} {below : List Frame} {meth : Method} {c : Code} {H : Heap} {locs : List Loc} {cells slots : Nat} {Q : State → Prop}
theorem z_keepS {T : State} (X : Stand p l ev R s m args below meth c T locs cells slots) : zKeeps s.heap T.heap := ⟨X.same.2.1, fun a k h => by
  obtain ⟨c', h1, -, h2, -⟩ := X.same.2.2.2.2.2 a k h
  exact ⟨c', h1, h2⟩⟩
theorem z_used {T : State} (X : Stand p l ev R s m args below meth c T locs cells slots) : T.slotsUsed = s.slotsUsed + ((T.heap.toList.drop s.heap.size).map (fun c : Cell => c.slots.size)).sum := X.same.2.2.2.1
/-- at any point of a method: what stood at its start stands, with as many slots -/
theorem z_keepW {g : JFrame} (k : zKeeps s.heap H → W p l ev R s m args below meth c H locs cells slots Q g) : W p l ev R s m args below meth c H locs cells slots Q g := by
  intro T hT X
  have h := z_keepS X
  rw [hT] at h
  exact k h T hT X
/-- an end with fewer cells, or fewer slots in the book, than the heap H has: the machine comes to none -/
def zbad (s : State) (H : Heap) (t : State) : Prop := t.heap.size < H.size ∨ t.slotsUsed < s.slotsUsed + ((H.toList.drop s.heap.size).map (fun c : Cell => c.slots.size)).sum
theorem z_mono {g : JFrame} (h : zKeeps s.heap H → W p l ev R s m args below meth c H locs cells slots (fun t => Q t ∨ zbad s H t) g) : W p l ev R s m args below meth c H locs cells slots Q g := by
  intro T hT X
  have hk := z_keepS X
  rw [hT] at hk
  obtain ⟨t, ⟨n, hn, hw⟩, hq⟩ := h hk T hT X
  refine ⟨t, ⟨n, hn, hw⟩, ?_⟩
  rcases hq with hq | hq
  · exact hq
  · exfalso
    have hg := stepsAlone_heap_grows p.tables ev n (T.setTop g)
    have hu := z_used X
    rw [hT] at hu
    rw [hn, State.heap_setTop, State.slotsUsed_setTop, hT] at hg
    rcases hq with hq | hq <;> omega
/-- a row that writes: the heap behind it weighs no less -/
theorem z_bad {H1 : Heap} {g : JFrame} (hk : zKeeps s.heap H) (kk : zw H ≤ zw H1 → W p l ev R s m args below meth c H1 locs cells slots Q g) : W p l ev R s m args below meth c H1 locs cells slots (fun t => Q t ∨ zbad s H t) g := by
  intro T hT X
  by_cases hz : zw H ≤ zw H1
  · obtain ⟨t, a1, b1⟩ := kk hz T hT X
    exact ⟨t, a1, Or.inl b1⟩
  · refine ⟨T.setTop g, Steps.refl _, Or.inr ?_⟩
    have hk1 := z_keepS X
    have hu := z_used X
    rw [hT] at hk1 hu
    have e0 := zw_split hk
    have e1 := zw_split hk1
    have h1 := hk.1
    have h2 := hk1.1
    unfold zbad
    rw [State.heap_setTop, State.slotsUsed_setTop, hT, hu]
    by_cases h3 : H1.size < H.size
    · exact Or.inl h3
    · exact Or.inr (by omega)
end ZW
/-- the String constants of the road: class, place, text, which one -/
abbrev zRefs : List (String × Nat × String × Nat) := [("JoinrowModel", 32, "", 0), ("JoinrowModel$Joiner", 36, "", 0), ("JoinrowModel", 15, ",", 1), ("JoinrowModel$Joiner", 7, ",", 1), ("JoinrowModel", 17, "[", 2), ("JoinrowModel$Joiner", 15, "[", 2), ("JoinrowModel", 19, "]", 3), ("JoinrowModel$Joiner", 20, "]", 3),
  ("Joinrow", 240, ",", 1), ("Joinrow", 242, ", ", 4), ("Joinrow", 244, "-", 5), ("Joinrow", 246, "::", 6), ("Joinrow", 248, "[", 2), ("Joinrow", 250, "]", 3), ("Joinrow", 252, "(", 7), ("Joinrow", 254, ")", 8), ("Joinrow", 256, "{}", 9), ("Joinrow", 258, "null", 10)]
abbrev zLens : List Nat := [0, 1, 1, 1, 2, 1, 2, 1, 1, 2, 4]
abbrev zObjs : List String := ["java/lang/Object", "Joinrow$Signs", "Joinrow$Joiner", "JoinrowModel$Joiner"]
abbrev zNests : List (String × Nat × String × String × String × String) := [("Joinrow$Joiner", 40, "Joinrow$Signs", "count", "I", "Joinrow"), ("Joinrow", 139, "Joinrow$Signs", "count", "I", "Joinrow"), ("JoinrowLaw", 13, "JoinrowLaw$Out", "n", "J", "JoinrowLaw")]
/-- what lies below the floor: an empty row of objects (e.1), a thing that is handed on alone (e.2.1), the texts -/
abbrev zE : Type := Nat × Nat × (Nat → Nat) × (Nat → Nat)
def zG (N0 : Nat) (e : zE) (U : State) (H : Heap) : Prop :=
  va_Z "java/lang/String" "COMPACT_STRINGS" "Z" (.int 1) (fun q => N0 ≤ q) U H ∧
  va_Z "java/util/ArrayList" "DEFAULTCAPACITY_EMPTY_ELEMENTDATA" "[Ljava/lang/Object;" (.ref e.1) (fun q => N0 ≤ q) U H ∧
  va_T (.object "java/lang/Object") e.1 0 (fun _ => .null) (fun q => N0 ≤ q) U H ∧
  va_Zq "jdk/internal/util/Preconditions" "SIOOBE_FORMATTER" "Ljava/util/function/BiFunction;" (fun q => N0 ≤ q) U H ∧
  (∀ k, k < 11 → zs (e.2.2.1 k) (e.2.2.2 k) (zLens.getD k 0) (fun q => N0 ≤ q) U H) ∧
  (∀ q ∈ zRefs, vk_R q.1 q.2.1 q.2.2.1 (e.2.2.1 q.2.2.2) U) ∧
  (∀ q ∈ zObjs, va_AO q U) ∧ va_Mi "[Ljava/lang/Object;" (e.2.2.1 100) U ∧ (∀ q ∈ zNests, va_Nw (.fieldLinkNest q.1 q.2.1 q.2.2.1 q.2.2.2.1 q.2.2.2.2.1 q.2.2.2.2.2) U) ∧ va_Nw (.castable "java/lang/String" "java/lang/Object") U ∧ va_Dc U
theorem zG.warm {N0 : Nat} {e : zE} {s U : State} {H : Heap} (hW : s.WarmedH U.vm) (h : zG N0 e s H) : zG N0 e U H := by
  obtain ⟨h1, h2, h3, h4, h5, h6, h7, h8, h9, h10, h11⟩ := h
  exact ⟨va_Z.moved hW.alike h1, va_Z.moved hW.alike h2, va_T.moved hW.alike h3, va_Zq.moved hW.alike h4, fun k hk => (h5 k hk).moved hW.alike, fun q hq => vk_R.warm hW (h6 q hq), fun q hq => va_AO.moved hW.alike (h7 q hq), va_Mi.moved hW.alike h8, fun q hq => va_Nw.warmF hW (h9 q hq), va_Nw.warmC hW h10, va_Dc.moved hW.alike h11⟩
theorem zG.same {N0 : Nat} {e : zE} {u U : State} {H : Heap} (hv : U.vm = u.vm) (h : zG N0 e u H) : zG N0 e U H := by
  obtain ⟨h1, h2, h3, h4, h5, h6, h7, h8, h9, h10, h11⟩ := h
  have hal : u.vm.Alike U.vm := by rw [hv]; exact Vm.Alike.refl _
  exact ⟨va_Z.moved hal h1, va_Z.moved hal h2, va_T.moved hal h3, va_Zq.moved hal h4, fun k hk => (h5 k hk).moved hal, fun q hq => vk_R.same hv (h6 q hq), fun q hq => va_AO.moved hal (h7 q hq), va_Mi.moved hal h8, fun q hq => va_Nw.same rfl hv.symm (h9 q hq), va_Nw.same rfl hv.symm h10, va_Dc.moved hal h11⟩
theorem zG.kept {N0 : Nat} {e : zE} {U : State} {H H1 : Heap} (h : zG N0 e U H) (hq : ∀ a : Nat, a < H.size → ¬ N0 ≤ a → H1[a]? = H[a]?) : zG N0 e U H1 := by
  obtain ⟨h1, h2, h3, h4, h5, h6, h7, h8⟩ := h
  refine ⟨h1.kept hq, h2.kept hq, h3.kept hq, h4.kept hq, fun k hk => (h5 k hk).at (hq _ (h5 k hk).lta (h5 k hk).na) (hq _ (h5 k hk).ltv (h5 k hk).nv), h6, h7, h8⟩
theorem zG.nest {N0 : Nat} {e : zE} {U : State} {H : Heap} {args : Array Value} (h : zG N0 e U H) (q : String × Nat × String × String × String × String) (hq : q ∈ zNests) : (Cond.fieldLinkNest q.1 q.2.1 q.2.2.1 q.2.2.2.1 q.2.2.2.2.1 q.2.2.2.2.2).before args U = true := va_Nw.use rfl (h.2.2.2.2.2.2.2.2.1 q hq)
theorem zG.ao {N0 : Nat} {e : zE} {U : State} {H : Heap} (h : zG N0 e U H) : va_AO "java/lang/Object" U := h.2.2.2.2.2.2.1 _ (by simp)
theorem zG.aoq {N0 : Nat} {e : zE} {U : State} {H : Heap} (h : zG N0 e U H) (q : String) (hq : q ∈ zObjs) : va_AO q U := h.2.2.2.2.2.2.1 q hq
theorem zG.mi {N0 : Nat} {e : zE} {U : State} {H : Heap} (h : zG N0 e U H) : va_Mi "[Ljava/lang/Object;" (e.2.2.1 100) U := h.2.2.2.2.2.2.2.1
theorem zG.cast {N0 : Nat} {e : zE} {U : State} {H : Heap} (h : zG N0 e U H) : va_Nw (.castable "java/lang/String" "java/lang/Object") U := h.2.2.2.2.2.2.2.2.2.1
theorem zG.dc {N0 : Nat} {e : zE} {U : State} {H : Heap} (h : zG N0 e U H) : va_Dc U := h.2.2.2.2.2.2.2.2.2.2
theorem zkst {N0 : Nat} {e : zE} {s : State} {H : Heap} {A : Nat → Prop} {locs : List Loc} (hG : zG N0 e s s.heap) (k : Nat) (hk : k < 11) (hS : va_S A s.heap H locs) (hAN : ∀ q, A q → N0 ≤ q) : zs (e.2.2.1 k) (e.2.2.2 k) (zLens.getD k 0) (fun q => N0 ≤ q) s H :=
  have h := hG.2.2.2.2.1 k hk
  h.at (hS.2.1 _ h.lta (fun z => h.na (hAN _ z))) (hS.2.1 _ h.ltv (fun z => h.nv (hAN _ z)))
theorem zstart {a v n : Nat} {s : State} {H : Heap} {A : Nat → Prop} {locs : List Loc} (h : zs a v n A s s.heap) (hS : va_S A s.heap H locs) : zs a v n A s H := h.at (hS.2.1 _ h.lta h.na) (hS.2.1 _ h.ltv h.nv)
theorem zrecv {a v n : Nat} {s : State} {H : Heap} {A : Nat → Prop} (h : zs a v n A s H) : ∃ cell : Cell, H[a]? = some cell ∧ cell.vm.isStatics = false ∧ s.vm.findClass RJ0 = some cell.cls := by
  obtain ⟨⟨c1, g1, g2, g3, -⟩, -⟩ := h
  exact ⟨c1, g1, g2, g3⟩
theorem z_low {N0 q : Nat} {B : Nat → Prop} (h : ¬ N0 ≤ q) (hB : ∀ x, B x → N0 ≤ x) : ¬ B q := fun z => h (hB q z)
theorem z_inA {a sz : Nat} {A : Nat → Prop} {wc : va_W} (h : ¬ A a) (hF : ∀ q, va_A wc sz q → A q) : ¬ va_A wc sz a := fun z => h (hF a z)
theorem z_out {wc : va_W} {sz q : Nat} (h : q < sz) (hn : ∀ x, x ∈ wc.map Prod.fst → q ≠ x) : ¬ va_A wc sz q := by
  rintro (⟨k, e, hk⟩ | hq)
  · exact hn q (List.mem_map.mpr ⟨_, List.mem_of_getElem? hk, rfl⟩) rfl
  · omega
theorem z_add0 (n : Nat) : nI n + nI 0 = nI n := nI_add n 0
theorem z_0add (n : Nat) : nI 0 + nI n = nI n := by rw [nI_add, Nat.zero_add]
theorem z_sub {a b : Nat} (h : b ≤ a) : nI a - nI b = nI (a - b) := by
  have h1 : nI (a - b) + nI b = nI a := by rw [nI_add, Nat.sub_add_cancel h]
  rw [← h1, Int32.add_sub_cancel]
theorem z_sub0 (n : Nat) : nI n - nI 0 = nI n := z_sub (Nat.zero_le n)
theorem z_shr0 (n : Nat) : nI n >>> (nI 0 &&& 31) = nI n := by
  rw [show nI 0 &&& 31 = (0 : Int32) from by decide, Int32.shiftRight_zero]
theorem z_shl0 (n : Nat) : nI n <<< (nI 0 &&& 31) = nI n := by
  rw [show nI 0 &&& 31 = (0 : Int32) from by decide, Int32.shiftLeft_zero]
/-- a start: the world wc above the floor, the texts L beside it -/
def zP (N0 : Nat) (e : zE) (D : va_G) (tys : List (ClassId × FieldType)) (wc : va_W) (sz mz : Nat) (L : List (Nat × Nat × Nat)) : State → Prop := fun U =>
  U.heap.size = sz ∧ zw U.heap = mz ∧ va_P D vwCl wc U.heap ∧ va_K D vwCl tys U ∧ va_D (fun q => N0 ≤ q) wc ∧ N0 ≤ sz ∧ zG N0 e U U.heap ∧ ∀ q ∈ L, zs q.1 q.2.1 q.2.2 (va_A wc sz) U U.heap
theorem zP.blind {N0 : Nat} {e : zE} {D : va_G} {tys : List (ClassId × FieldType)} {wc : va_W} {sz mz : Nat} {L : List (Nat × Nat × Nat)} {av : List Value} : FrameBlind (va_Pc av (zP N0 e D tys wc sz mz L)) := by
  intro a U g mk h
  obtain ⟨h0, hm, h1, h2, h3, h4, h5, h6, h7⟩ := h
  exact ⟨h0, hm, h1, h2, va_K.moved (u := U) (U := U.calling g mk a) (Vm.Alike.refl U.vm) h3, h4, h5, h6.same (U := U.calling g mk a) rfl, fun q hq => (h7 q hq).moved (U := U.calling g mk a) (Vm.Alike.refl U.vm)⟩
/-- an end: the world w1, the new rows' types t1, at least k cells more, and what Y says of the end -/
def zB {S : Type} (D : va_G) (w1 : S → va_W) (t1 : S → List (ClassId × FieldType)) (sz k mz kw : Nat) (A : Nat → Prop) (Y : S → State → Prop) : S → State → Prop := fun u t =>
  va_P D vwCl (w1 u) t.heap ∧ va_K D vwCl (t1 u) t ∧ va_D A (w1 u) ∧ sz + k ≤ t.heap.size ∧ mz + kw ≤ zw t.heap ∧ Y u t
def zQi {S : Type} (post : Int32 → S → Prop) (D : va_G) (w1 : S → va_W) (t1 : S → List (ClassId × FieldType)) (sz k mz kw : Nat) (Y : S → State → Prop) (A : Nat → Prop) : Array Value → State → Outcome → State → Prop := va_Qi post (zB D w1 t1 sz k mz kw A Y) A
def zQv {S : Type} (post : S → Prop) (D : va_G) (w1 : S → va_W) (t1 : S → List (ClassId × FieldType)) (sz k mz kw : Nat) (Y : S → State → Prop) (A : Nat → Prop) : Array Value → State → Outcome → State → Prop := va_Qv post (zB D w1 t1 sz k mz kw A Y) A
def zQr {S : Type} (post : S → Nat → Prop) (D : va_G) (w1 : S → va_W) (t1 : S → List (ClassId × FieldType)) (sz k mz kw : Nat) (Y : S → State → Prop) (A : Nat → Prop) : Array Value → State → Outcome → State → Prop := va_Qr (fun _ : S => True) (fun u a t => post u a ∧ zB D w1 t1 sz k mz kw A Y u t) A
/-- a method's body, from its entry -/
theorem z_met {l : Launch} {y : MethodName} {ws ws' : List Cond} {rm : Room} {av : List Value} {N0 : Nat} {e : zE} {D : va_G} {tys : List (ClassId × FieldType)} {wc : va_W} {sz mz : Nat} {L : List (Nat × Nat × Nat)} {Qc : (Nat → Prop) → Array Value → State → Outcome → State → Prop} {mc ms : Nat} {cc : ByteArray} {maxL : Nat} {ret : Option FieldType}
    (own : String) (hR : y.cls = own) (hy : plainName y.cls = true) (hw : ws = Cond.code y cc maxL ret :: ws') (hav : (lg_sl av).length ≤ maxL)
    (body : ∀ (p : Program) (ev : Env) (s : State) (m : MethodId) (below : List Frame) (meth : Method) (c : Code) (ls : Array Slot) (A : Nat → Prop), p.tables.exec = Jvm.exec → c.code = cc → meth.sig.returnType = ret → c.maxLocals = maxL → s.vm.findClass own = some m.cls → (∀ w ∈ ws, w.before av.toArray s = true) → meth.locks = false → meth.name = y.name →
      s.heap.size = sz → zw s.heap = mz → N0 ≤ sz → va_A wc sz = A → (∀ q, s.heap.size ≤ q → A q) → (∀ q, A q → N0 ≤ q) → va_S A s.heap s.heap [] → va_P D vwCl wc s.heap → va_K D vwCl tys s → va_D A wc → zG N0 e s s.heap → (∀ q ∈ L, zs q.1 q.2.1 q.2.2 A s s.heap) → lv_has ls maxL (lv_args 0 av) →
      W p l ev rm s m av.toArray below meth c s.heap [] 0 0 (MQ below (Qc A) av.toArray s mc ms A) (F0 m 0 ls [])) :
    Met l y ws rm (va_Pc av (zP N0 e D tys wc sz mz L)) (Qc (va_A wc sz)) mc ms (va_A wc sz) := by
  refine Met.ofW (cc := cc) (maxL := maxL) (ret := ret) hy hw ?_
  intro p ev s m args below meth c s₁ B hml hv
  obtain ⟨rfl, hsz, hmz, hP, hK, hD0, hN, hG, hL⟩ := hv
  have hl := lv_entry av (n := maxL) hav
  rw [lg_entry_eq]
  have hA : ∀ q : Nat, s.heap.size ≤ q → va_A wc sz q := fun q h => Or.inr (by rw [← hsz]; exact h)
  have hF : ∀ q, va_A wc sz q → N0 ≤ q := by
    intro q hq
    rcases hq with ⟨k, e0, hk⟩ | hq
    · exact hD0.2 k _ hk
    · exact Nat.le_trans hN hq
  have hts : ∀ w ∈ ws, w.before av.toArray s = true := atoms_spec (ws := ws) B.pre
  exact body p ev s m below meth c _ _ B.exec B.bytes B.returns hml (by rw [← hR]; exact findClass_of_methodNamed B.named) hts B.notSynchronized (name_of_methodNamed B.named B.method).1
    hsz hmz hN rfl hA hF va_S.rf hP hK (hD0.self (sz := sz)) hG hL hl
section ZC
variable {p : Program} {l : Launch} {ev : Env} {R : Room} {s : State} {m : MethodId} {args : Array Value} {below : List Frame} {meth : Method} {c : Code} {H : Heap} {locs : List Loc} {cells slots : Nat} {Q : State → Prop}
variable {N0 : Nat} {e : zE} {D : va_G} {tys tysC : List (ClassId × FieldType)} {ws wc wr : va_W} {A : Nat → Prop} {L : List (Nat × Nat × Nat)}
/-- what a call needs of the caller's heap -/
theorem z_pre {av : List Value} (hK : va_K D vwCl tys s) (hP : va_P D vwCl ws H) (hD : va_D A ws) (hS : va_S A s.heap H locs) (hAN : ∀ q, A q → N0 ≤ q) (hN : N0 ≤ s.heap.size) (hG : zG N0 e s s.heap)
    (isC : List Nat) (hnd : va_nd isC = true) (hC : isC.map (fun i => ws[i]?) = wc.map some) (isT : List Nat) (hT : isT.filterMap (fun i => tys[i]?) = tysC) (hL : ∀ q ∈ L, zs q.1 q.2.1 q.2.2 (va_A wc H.size) s H) :
    ∀ U : State, U.heap = H → s.WarmedH U.vm → va_Pc av (zP N0 e D tysC wc H.size (zw H) L) av.toArray U := by
  intro U hU hW
  have hPc : va_P D vwCl wc H := by
    intro k q hk
    have h1 : (isC.map (fun i => ws[i]?))[k]? = some (some q) := by rw [hC, List.getElem?_map, hk]; rfl
    rw [List.getElem?_map] at h1
    cases hi : isC[k]? with
    | none => rw [hi] at h1; cases h1
    | some i => rw [hi] at h1; exact hP i q (Option.some.inj h1)
  refine ⟨rfl, by rw [hU], by rw [hU], by rw [hU]; exact hPc, va_K.moved hW.alike (hK.sub isT hT), (hD.sub isC hnd hC).weaken (fun _ q _ h => hAN _ h), Nat.le_trans hN hS.1, ?_, ?_⟩
  · rw [hU]
    exact (hG.kept (fun q hq hn => hS.2.1 q hq (fun h => hn (hAN q h)))).warm hW
  · intro q hq
    rw [hU]
    exact (hL q hq).moved hW.alike
end ZC
section ZCALL
variable {p : Program} {l : Launch} {ev : Env} {R : Room} {s : State} {m : MethodId} {args : Array Value} {below : List Frame} {meth : Method} {c : Code} {H : Heap} {locs : List Loc} {cells slots : Nat} {Q : State → Prop}
variable {N0 : Nat} {e : zE} {D : va_G} {tys tysC : List (ClassId × FieldType)} {ws wc wr : va_W} {A : Nat → Prop} {L : List (Nat × Nat × Nat)}
variable {pc : Nat} {ls : Array Slot} {rest st0 : List Value} {a : Array Value} {mc ms k kw : Nat} {S : Type} {w1 : S → va_W} {t1 : S → List (ClassId × FieldType)} {Y : S → State → Prop}
theorem z_calli {post : Int32 → S → Prop} (hr : va_Run p l ev R s m args below meth c H locs cells slots mc ms (F0 m pc ls st0) rest (zQi post D w1 t1 H.size k (zw H) kw Y (va_A wc H.size) a) (va_A wc H.size))
    (hK : va_K D vwCl tys s) (hP : va_P D vwCl ws H) (hD : va_D A ws) (hS : va_S A s.heap H locs) (hA : ∀ q, s.heap.size ≤ q → A q)
    (isC : List Nat) (hC : isC.map (fun i => ws[i]?) = wc.map some) (isR : List Nat) (hR : isR.map (fun i => ws[i]?) = wr.map some) (hn : va_nd isR = true) (hdis : ∀ i ∈ isR, i ∉ isC)
    (kk : ∀ (r : Int32) (u : S) (t : State) (H1 : Heap) (locs1 : List Loc), t.heap = H1 → s.vm.Alike t.vm → post r u → Y u t → H.size + k ≤ H1.size → zw H + kw ≤ zw H1 → (∀ q : Nat, q < H.size → ¬ va_A wc H.size q → H1[q]? = H[q]?) → va_K D vwCl (tys ++ t1 u) s → va_P D vwCl (wr ++ w1 u) H1 → va_D A (wr ++ w1 u) → va_S A s.heap H1 locs1 →
      W p l ev R s m args below meth c H1 locs1 (cells + mc) (slots + ms) Q (F0 m (pc + 3) ls (.int r :: rest))) : W p l ev R s m args below meth c H locs cells slots Q (F0 m pc ls st0) := by
  have hFc := va_free (wc := wc) hD hS hA isC hC
  refine va_calli hr hS (fun q _ h => hFc q h) hFc (fun r u t H1 locs1 ht hvm hw hB hz hk1 hS1 => ?_)
  obtain ⟨hP1, hK1, hD1, hz1, hm1, hY⟩ := hB
  rw [ht] at hP1 hz1 hm1
  have hK1 := va_K.moved hvm.symm hK1
  obtain ⟨hP2, hD2⟩ := va_join (wr := wr) hP hD isC isR hC hR hn hdis hk1 hFc hP1 hD1
  exact kk r u t H1 locs1 ht hvm hw hY hz1 hm1 hk1 (hK.app hK1) hP2 hD2 hS1
theorem z_callv {post : S → Prop} (hr : va_Run p l ev R s m args below meth c H locs cells slots mc ms (F0 m pc ls st0) rest (zQv post D w1 t1 H.size k (zw H) kw Y (va_A wc H.size) a) (va_A wc H.size))
    (hK : va_K D vwCl tys s) (hP : va_P D vwCl ws H) (hD : va_D A ws) (hS : va_S A s.heap H locs) (hA : ∀ q, s.heap.size ≤ q → A q)
    (isC : List Nat) (hC : isC.map (fun i => ws[i]?) = wc.map some) (isR : List Nat) (hR : isR.map (fun i => ws[i]?) = wr.map some) (hn : va_nd isR = true) (hdis : ∀ i ∈ isR, i ∉ isC)
    (kk : ∀ (u : S) (t : State) (H1 : Heap) (locs1 : List Loc), t.heap = H1 → s.vm.Alike t.vm → post u → Y u t → H.size + k ≤ H1.size → zw H + kw ≤ zw H1 → (∀ q : Nat, q < H.size → ¬ va_A wc H.size q → H1[q]? = H[q]?) → va_K D vwCl (tys ++ t1 u) s → va_P D vwCl (wr ++ w1 u) H1 → va_D A (wr ++ w1 u) → va_S A s.heap H1 locs1 →
      W p l ev R s m args below meth c H1 locs1 (cells + mc) (slots + ms) Q (F0 m (pc + 3) ls rest)) : W p l ev R s m args below meth c H locs cells slots Q (F0 m pc ls st0) := by
  have hFc := va_free (wc := wc) hD hS hA isC hC
  refine va_callv hr hS (fun q _ h => hFc q h) hFc (fun u t H1 locs1 ht hvm hw hB hz hk1 hS1 => ?_)
  obtain ⟨hP1, hK1, hD1, hz1, hm1, hY⟩ := hB
  rw [ht] at hP1 hz1 hm1
  have hK1 := va_K.moved hvm.symm hK1
  obtain ⟨hP2, hD2⟩ := va_join (wr := wr) hP hD isC isR hC hR hn hdis hk1 hFc hP1 hD1
  exact kk u t H1 locs1 ht hvm hw hY hz1 hm1 hk1 (hK.app hK1) hP2 hD2 hS1
theorem z_callr {post : S → Nat → Prop} (hr : va_Run p l ev R s m args below meth c H locs cells slots mc ms (F0 m pc ls st0) rest (zQr post D w1 t1 H.size k (zw H) kw Y (va_A wc H.size) a) (va_A wc H.size))
    (hK : va_K D vwCl tys s) (hP : va_P D vwCl ws H) (hD : va_D A ws) (hS : va_S A s.heap H locs) (hA : ∀ q, s.heap.size ≤ q → A q)
    (isC : List Nat) (hC : isC.map (fun i => ws[i]?) = wc.map some) (isR : List Nat) (hR : isR.map (fun i => ws[i]?) = wr.map some) (hn : va_nd isR = true) (hdis : ∀ i ∈ isR, i ∉ isC)
    (kk : ∀ (u : S) (ra : Nat) (t : State) (H1 : Heap) (locs1 : List Loc), t.heap = H1 → s.vm.Alike t.vm → post u ra → Y u t → H.size + k ≤ H1.size → zw H + kw ≤ zw H1 → (∀ q : Nat, q < H.size → ¬ va_A wc H.size q → H1[q]? = H[q]?) → va_K D vwCl (tys ++ t1 u) s → va_P D vwCl (wr ++ w1 u) H1 → va_D A (wr ++ w1 u) → va_S A s.heap H1 locs1 →
      W p l ev R s m args below meth c H1 locs1 (cells + mc) (slots + ms) Q (F0 m (pc + 3) ls (.ref ra :: rest))) : W p l ev R s m args below meth c H locs cells slots Q (F0 m pc ls st0) := by
  have hFc := va_free (wc := wc) hD hS hA isC hC
  refine va_callr hr hS (fun q _ h => hFc q h) hFc (fun u ra t H1 locs1 ht hvm _ hB hz hk1 hS1 => ?_)
  obtain ⟨hw, hP1, hK1, hD1, hz1, hm1, hY⟩ := hB
  rw [ht] at hP1 hz1 hm1
  have hK1 := va_K.moved hvm.symm hK1
  obtain ⟨hP2, hD2⟩ := va_join (wr := wr) hP hD isC isR hC hR hn hdis hk1 hFc hP1 hD1
  exact kk u ra t H1 locs1 ht hvm hw hY hz1 hm1 hk1 (hK.app hK1) hP2 hD2 hS1
end ZCALL
-- a new object: its place is the heap's end
section ZN
variable {p : Program} {l : Launch} {e : Env} {R : Room} {s : State} {m : MethodId} {args : Array Value} {below : List Frame} {meth : Method} {c : Code} {H : Heap} {locs : List Loc} {cells slots : Nat} {Q : State → Prop}
variable {cc : ByteArray} {pc : Nat} {ls : Array Slot} {rest : List Value} {D : va_G} {cl : List vw_C} {A : Nat → Prop} {a : Nat} {tys : List (ClassId × FieldType)} {ws : va_W} {H0 : Heap}
theorem z_new (hexec : p.tables.exec = Jvm.exec) (hb : c.code = cc) {own C : String} {T : u_T} {N ci index : Nat} {Ts : List Cond} (hts : ∀ w ∈ Ts, w.before args s = true) (hin : ∀ w ∈ u_ws C T N, w ∈ Ts) (ty : Nat → FieldType) (hty : ∀ k, k < N → parseFieldDescriptor (T k).2.2.1 = some (ty k)) (hown : s.vm.findClass own = some m.cls) (hcl : (Cond.classLink own index C).before args s = true) (hinst : (Cond.instantiable C N).before args s = true) (hini : (Cond.initialized C).before args s = true)
    (hK : va_K D cl tys s) (hP : va_P D cl ws H) (hD : va_D A ws) (hS : va_S A H0 H locs) (hA : ∀ q, H0.size ≤ q → A q) (hc : cl[ci]? = some (C, T, N)) {fs : List Value} (hfs : ∀ j, j < N → defaultValue (ty j) = vp_V fs j) (hcells : cells + 1 ≤ R.cells) (hslots : slots + N ≤ R.slots) (hdg : decode cc pc = .ok (.new index, 3))
    (kk : ∀ (q : Nat) (H1 : Heap), q = H.size → H1.size = H.size + 1 → zw H1 = zw H + (24 + 8 * N) → (∀ x : Nat, x < H.size → H1[x]? = H[x]?) → va_P D cl (ws ++ [(q, .inr (ci, fs))]) H1 → va_D A (ws ++ [(q, .inr (ci, fs))]) → va_S A H0 H1 locs →
      W p l e R s m args below meth c H1 locs (cells + 1) (slots + N) Q (F0 m (pc + 3) ls (.ref q :: rest))) : W p l e R s m args below meth c H locs cells slots Q (F0 m pc ls rest) := by
  have hKn := hK.1 ci _ hc
  refine W.newcK hexec hb hown hcl hinst hini rfl hdg hcells hslots hKn.2.1 rfl fun H1 kC hkC e1 z1 o1 => ?_
  have hk : ∀ (k : Nat) (x : Nat × va_E), ws[k]? = some x → H1[x.1]? = H[x.1]? := fun k x hx => o1 x.1 ((hP k x hx).lt)
  have hwt : zw H1 = zw H + (24 + 8 * N) := by
    obtain ⟨c0, k0, q1, q2, -, -, -, q3⟩ := Cond.instantiable_spec hinst
    cases hKn.2.1.symm.trans q1
    cases hkC.symm.trans q2
    rw [zw_snoc z1 o1 e1]
    show zw H + (24 + 8 * (kC.instanceTypes.map defaultValue).size) = _
    rw [Array.size_map, q3]
  refine kk H.size H1 rfl z1 hwt o1 ((hP.kept hk).app (fun k x hx => ?_)) (hD.push hP rfl (hA _ hS.1)) ⟨Nat.le_trans hS.1 (by omega), fun x h1 h2 => (o1 x (Nat.lt_of_lt_of_le h1 hS.1)).trans (hS.2.1 x h1 h2), hS.2.2⟩
  have hz : k < 1 := (List.getElem?_eq_some_iff.mp hx).1
  rw [show k = 0 by omega] at hx
  cases hx
  exact ⟨_, hc, (u_born ty hts hin hKn hkC e1 hty).to hfs⟩
theorem z_newa (hexec : p.tables.exec = Jvm.exec) (hb : c.code = cc) {atype : ArrayType} (harr : (Cond.arrayClass (newarray.typeOf atype)).before args s = true) {ty : FieldType} (hty : newarray.typeOf atype = ty) (hK : va_K D cl tys s) (hP : va_P D cl ws H) (hD : va_D A ws) (hS : va_S A H0 H locs) (hA : ∀ q, H0.size ≤ q → A q)
    {n : Int32} {N' : Nat} {a0 : vp_A} (ha : ∀ cA : ClassId, vp_cell cA a0 = arrV cA N' (fun _ => defaultValue ty)) (hn : ¬ n < 0) (hN : n.toNatClampNeg = N') (hbytes : N' * componentBytes ty ≤ 536870912) (hcells : cells + 1 ≤ R.cells) (hslots : slots + N' ≤ R.slots) (hdg : decode cc pc = .ok (.newarray atype, 2))
    (kk : ∀ (q : Nat) (cA : ClassId) (H1 : Heap), q = H.size → H1.size = H.size + 1 → zw H1 = zw H + (24 + 8 * N') → (∀ x : Nat, x < H.size → H1[x]? = H[x]?) → va_K D cl (tys ++ [(cA, ty)]) s → va_P D cl (ws ++ [(q, .inl (cA, a0))]) H1 → va_D A (ws ++ [(q, .inl (cA, a0))]) → va_S A H0 H1 locs →
      W p l e R s m args below meth c H1 locs (cells + 1) (slots + N') Q (F0 m (pc + 2) ls (.ref q :: rest))) : W p l e R s m args below meth c H locs cells slots Q (F0 m pc ls (.int n :: rest)) := by
  subst hty
  refine va_newaK hexec hb harr rfl hdg rfl hn hN hbytes hcells hslots rfl fun H1 cA e1 z1 o1 hAr hNm => ?_
  have hk : ∀ (k : Nat) (x : Nat × va_E), ws[k]? = some x → H1[x.1]? = H[x.1]? := fun k x hx => o1 x.1 ((hP k x hx).lt)
  have hwt : zw H1 = zw H + (24 + 8 * N') := by
    rw [zw_snoc z1 o1 e1, arrV_size]
  refine kk H.size cA H1 rfl z1 hwt o1 ⟨hK.1, fun k x hx => ?_⟩ ((hP.kept hk).app (fun k x hx => ?_)) (hD.push hP rfl (hA _ hS.1)) ⟨Nat.le_trans hS.1 (by omega), fun x h1 h2 => (o1 x (Nat.lt_of_lt_of_le h1 hS.1)).trans (hS.2.1 x h1 h2), hS.2.2⟩
  · by_cases hl : k < tys.length
    · rw [List.getElem?_append_left hl] at hx
      exact hK.2 k x hx
    · rw [List.getElem?_append_right (by omega)] at hx
      have hz : k - tys.length < 1 := (List.getElem?_eq_some_iff.mp hx).1
      rw [show k - tys.length = 0 by omega] at hx
      cases hx
      exact ⟨hAr, by cases atype <;> exact hNm⟩
  · have hz : k < 1 := (List.getElem?_eq_some_iff.mp hx).1
    rw [show k = 0 by omega] at hx
    cases hx
    show H1[H.size]? = some (vp_cell _ _)
    rw [ha]
    exact e1
end ZN
section ZRET
variable {p : Program} {l : Launch} {ev : Env} {R : Room} {s : State} {m : MethodId} {args : Array Value} {below : List Frame} {meth : Method} {c : Code} {H : Heap} {locs : List Loc}
variable {D : va_G} {tys : List (ClassId × FieldType)} {ws : va_W} {A : Nat → Prop} {cc : ByteArray}
variable {pc sz k mz kw mc ms : Nat} {ls : Array Slot} {S : Type} {w1 : S → va_W} {t1 : S → List (ClassId × FieldType)} {Y : S → State → Prop}
theorem va_P.pick {cl : List vw_C} {w : va_W} (hP : va_P D cl ws H) (is : List Nat) (hC : is.map (fun i => ws[i]?) = w.map some) : va_P D cl w H := by
  intro k q hk
  have h1 : (is.map (fun i => ws[i]?))[k]? = some (some q) := by rw [hC, List.getElem?_map, hk]; rfl
  rw [List.getElem?_map] at h1
  cases hi : is[k]? with
  | none => rw [hi] at h1; cases h1
  | some i => rw [hi] at h1; exact hP i q (Option.some.inj h1)
theorem z_reti {post : Int32 → S → Prop} {v : Int32} {ty : FieldType} (u : S) (hexec : p.tables.exec = Jvm.exec) (hb : c.code = cc) (hr : meth.sig.returnType = some ty) (hn : narrow ty (.int v) = .int v) (hlocks : meth.locks = false)
    (hpost : post v u) (hK : va_K D vwCl tys s) (isT : List Nat) (hT : isT.filterMap (fun i => tys[i]?) = t1 u) (hP : va_P D vwCl ws H) (hD : va_D A ws) (hS : va_S A s.heap H locs) (is : List Nat) (hnd : va_nd is = true) (hC : is.map (fun i => ws[i]?) = (w1 u).map some)
    (hk : sz + k ≤ H.size) (hkw : mz + kw ≤ zw H) (hY : ∀ t : State, t.heap = H → s.WarmedH t.vm → Y u t) (hdg : decode cc pc = .ok (.ireturn, 1)) :
    W p l ev R s m args below meth c H locs mc ms (MQ below (zQi post D w1 t1 sz k mz kw Y A) args s mc ms A) (F0 m pc ls [.int v]) := by
  refine W.zret (v := v) hexec hb hr hn (fun t ht hW => ⟨⟨v, u, rfl, hpost, ?_, ?_, hD.sub is hnd hC, by rw [ht]; exact hk, by rw [ht]; exact hkw, hY t ht hW⟩, hS.F ht⟩) hS.2.2 hdg hlocks
  · rw [ht]
    exact hP.pick is hC
  · exact va_K.moved hW.alike (hK.sub isT hT)
theorem z_retv {post : S → Prop} (u : S) (hexec : p.tables.exec = Jvm.exec) (hb : c.code = cc) (hr : meth.sig.returnType = none) (hlocks : meth.locks = false)
    (hpost : post u) (hK : va_K D vwCl tys s) (isT : List Nat) (hT : isT.filterMap (fun i => tys[i]?) = t1 u) (hP : va_P D vwCl ws H) (hD : va_D A ws) (hS : va_S A s.heap H locs) (is : List Nat) (hnd : va_nd is = true) (hC : is.map (fun i => ws[i]?) = (w1 u).map some)
    (hk : sz + k ≤ H.size) (hkw : mz + kw ≤ zw H) (hY : ∀ t : State, t.heap = H → s.WarmedH t.vm → Y u t) (hdg : decode cc pc = .ok (.return_, 1)) :
    W p l ev R s m args below meth c H locs mc ms (MQ below (zQv post D w1 t1 sz k mz kw Y A) args s mc ms A) (F0 m pc ls []) := by
  refine W.vret hexec hb hr (fun t ht hW => ⟨⟨u, rfl, hpost, ?_, ?_, hD.sub is hnd hC, by rw [ht]; exact hk, by rw [ht]; exact hkw, hY t ht hW⟩, hS.F ht⟩) hS.2.2 hdg hlocks
  · rw [ht]
    exact hP.pick is hC
  · exact va_K.moved hW.alike (hK.sub isT hT)
theorem z_retr {post : S → Nat → Prop} {q : Nat} {rt : FieldType} (u : S) (hexec : p.tables.exec = Jvm.exec) (hb : c.code = cc) (hr : meth.sig.returnType = some rt) (hrt : (∃ n, rt = .object n) ∨ ∃ t, rt = .array t) (hlocks : meth.locks = false)
    (hpost : post u q) (hK : va_K D vwCl tys s) (isT : List Nat) (hT : isT.filterMap (fun i => tys[i]?) = t1 u) (hP : va_P D vwCl ws H) (hD : va_D A ws) (hS : va_S A s.heap H locs) (is : List Nat) (hnd : va_nd is = true) (hC : is.map (fun i => ws[i]?) = (w1 u).map some)
    (hk : sz + k ≤ H.size) (hkw : mz + kw ≤ zw H) (hY : ∀ t : State, t.heap = H → s.WarmedH t.vm → Y u t) (hdg : decode cc pc = .ok (.areturn, 1)) :
    W p l ev R s m args below meth c H locs mc ms (MQ below (zQr post D w1 t1 sz k mz kw Y A) args s mc ms A) (F0 m pc ls [.ref q]) := by
  refine W.aret (v := .ref q) hexec hb hr hrt (Or.inr ⟨q, rfl⟩) (fun t ht hW => ⟨⟨u, q, rfl, trivial, hpost, ?_, ?_, hD.sub is hnd hC, by rw [ht]; exact hk, by rw [ht]; exact hkw, hY t ht hW⟩, hS.F ht⟩) hS.2.2 hdg hlocks
  · rw [ht]
    exact hP.pick is hC
  · exact va_K.moved hW.alike (hK.sub isT hT)
end ZRET
/-- a String that stands in the world, as a text beside it -/
theorem zs_of {s : State} {args : Array Value} {H : Heap} {D : va_G} {tys : List (ClassId × FieldType)} {ws : va_W} {Ts : List Cond} (hts : ∀ w ∈ Ts, w.before args s = true) (hin : ∀ w ∈ u_ws RJ0 TJ0 4, w ∈ Ts) (hK : va_K D vwCl tys s) (hP : va_P D vwCl ws H) (i j k : Nat) {a v n : Nat} {x y : Value} {cA : ClassId} {f : Nat → Int32}
    (hi : ws[i]? = some (a, .inr (0, [.ref v, .int (nI 0), x, y]))) (hj : ws[j]? = some (v, .inl (cA, n, .inl f))) (hk : tys[k]? = some (cA, .byte)) (hf : ∀ j, j < n → fits .byte (.int (f j)) = true) : zs a v n (fun _ => False) s H := by
  obtain ⟨r, h1, cell, q1, q2, q3, q4⟩ := hP i _ hi
  have hr : r = (RJ0, TJ0, 4) := Option.some.inj (h1.symm.trans rfl)
  subst hr
  obtain ⟨hS, hfc, kC, hkC, hkind⟩ := hK.1 0 _ rfl
  have hof : ∀ (q : Nat) (hq : q < 4) (w : Value), vp_V [.ref v, .int (nI 0), x, y] q = w → va_OF (TJ0 q).1 (TJ0 q).2.1 (TJ0 q).2.2.1 w a (fun _ => False) s H := by
    intro q hq w hw
    obtain ⟨cf, kf, fi, fd, hfi, hsl⟩ := hS q hq
    refine ⟨cf, kf, fi, fd, cell, hfi, (u_facts hfc hkC (u_lays hts hin hq) hfi).1, q1, by rw [q3]; exact fun h => (nomatch h), ?_, fun z => z⟩
    rw [hsl, q4 q hq, hw]
  have hc : H[v]? = some (arrV cA n (fun j => .int (f j))) := hP j _ hj
  refine ⟨⟨cell, q1, by rw [q3]; rfl, by rw [q2]; exact hfc, fun z => z⟩, hof 1 (by decide) _ rfl, hof 0 (by decide) _ rfl, f, ⟨_, hc, (hK.2 k _ hk).1 n _, fun h => (nomatch h), Nat.le_of_eq (arrV_size _ _ _).symm, by rw [arrV_size], fun j hj => arrV_read _ _ hj, fun z => z⟩, hf⟩
theorem z_cpyfit {f g : Nat → Int32} {sp dp n : Nat} (hf : ∀ j, j < n → fits .byte (.int (f (sp + j))) = true) (hg : ∀ j, fits .byte (.int (g j)) = true) : ∀ j, fits .byte (.int (va_cpy f g sp dp n j)) = true := by
  intro j
  unfold va_cpy
  split
  · rename_i h
    exact hf _ (by omega)
  · exact hg j
theorem z_suble {a b : Nat} (h : a ≤ b) (hb : b < 2 ^ 30) : nI a - nI b ≤ nI 0 := by
  rw [Int32.le_iff_toInt_le, pk_sub_toInt (by omega) hb, nI_toInt (by decide)]
  omega
/-- a text handed back: a constant, or new -/
def zR (N0 sz a v n : Nat) (t : State) : Prop := zs a v n (fun _ => False) t t.heap ∧ ((a < N0 ∧ v < N0) ∨ (sz ≤ a ∧ sz ≤ v))
theorem z_cpyq {fe : Nat → Option Nat} {cap sa : Nat} (hall : ∀ i y, fe i = some y → y = sa) : (∀ i, i < cap → va_cpy fe (fun _ => none) 0 0 cap i = fe i) ∧ (∀ i y, va_cpy fe (fun _ => none) 0 0 cap i = some y → y = sa) := by
  refine ⟨fun i hi => ?_, fun i y hy => ?_⟩
  · unfold va_cpy
    rw [if_pos ⟨Nat.zero_le _, by omega⟩, Nat.zero_add, Nat.sub_zero]
  · unfold va_cpy at hy
    split at hy
    · exact hall _ _ hy
    · cases hy
/-- the row holds n pieces, all of them sa -/
def zF (f : Nat → Option Nat) (n sa : Nat) : Prop := (∀ i, i < n → f i = some sa) ∧ (∀ i y, f i = some y → y = sa)
theorem zF.push {f : Nat → Option Nat} {n sa : Nat} (h : zF f n sa) : zF (va_up f n (some sa)) (n + 1) sa := by
  refine ⟨fun i hi => ?_, fun i y hy => ?_⟩
  · unfold va_up
    split
    · rfl
    · exact h.1 i (by omega)
  · unfold va_up at hy
    split at hy
    · exact (Option.some.inj hy).symm
    · exact h.2 i y hy
theorem zF.copy {f g : Nat → Option Nat} {n sa : Nat} (h : zF f n sa) (h1 : ∀ i, i < n → g i = f i) (h2 : ∀ i y, g i = some y → y = sa) : zF g n sa := ⟨fun i hi => (h1 i hi).trans (h.1 i hi), h2⟩
theorem zF.none {sa : Nat} : zF (fun _ => none) 0 sa := ⟨fun i hi => absurd hi (Nat.not_lt_zero i), fun i y hy => nomatch hy⟩
theorem z_nchar {w : Nat} (h : w < 65536) : narrow .char (.int (nI w)) = .int (nI w) := by
  have h1 : (nI w).toUInt32.toUInt16.toUInt32.toInt32 = nI w := by
    rw [← lg_i2c_nf]
    exact lg_i2c_word (by rw [nI_toInt (by omega)]; omega) (by rw [nI_toInt (by omega)]; omega)
  show Value.int _ = _
  rw [h1]
section ZLDC
variable {p : Program} {l : Launch} {ev : Env} {R : Room} {s : State} {m : MethodId} {args : Array Value} {below : List Frame} {meth : Method} {c : Code} {H : Heap} {locs : List Loc} {cells slots : Nat} {Q : State → Prop}
variable {cc : ByteArray} {pc : Nat} {ls : Array Slot} {rest : List Value}
theorem z_ldcwS (hexec : p.tables.exec = Jvm.exec) (hb : c.code = cc) {own tx : String} {index q : Nat} (hown : s.vm.findClass own = some m.cls) (hZ : vk_R own index tx q s) (hdg : decode cc pc = .ok (.ldc_w index, 3))
    (k : W p l ev R s m args below meth c H locs cells slots Q (F0 m (pc + 3) ls (.ref q :: rest))) : W p l ev R s m args below meth c H locs cells slots Q (F0 m pc ls rest) := by
  intro T hT X
  obtain ⟨t, a1, b1⟩ := k T hT X
  refine ⟨t, ?_, b1⟩
  obtain ⟨k0, cf, i, a', hk, hcf, hcp, -, hr, hev'⟩ := Cond.stringRef_spec (args := #[]) hown hZ.1
  cases hZ.2.symm.trans hev'
  obtain ⟨k', hk', he⟩ := X.warmed.alike.2.2 _ _ hk
  have hr' : k'.resolved[index]? = some (some (.string q)) := by
    rcases X.warmed.entry hk hk' index with h | ⟨h, -⟩
    · rw [h]; exact hr
    · rw [hr] at h; cases h
  jvm_step X.here [hexec, hb, hdg, ldc_w.wp_string (e := ev) (s := T) (f := F0 m pc ls rest) X.here.top hk' (by rw [he]; exact hcf) hcp hr']
  exact a1
end ZLDC
/-- how many signs the word with a number has -/
def zc (n : Nat) : Nat := if n < 60 then n % 4 else zLens.getD ([1, 4, 5, 6, 2, 3, 7, 8, 9, 10].getD (n - 60) 0) 0
