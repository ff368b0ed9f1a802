/-! THE CLAIM OF p26 IS FALSE: no premise left -/
set_option maxRecDepth 16384
theorem ze_room (r : Room) (h1 : zAbout.frames.length + r.frames ≤ 4096) (h2 : zAbout.heap.size + r.cells ≤ 4000000) (h3 : zAbout.slotsUsed + r.slots ≤ 30000000) (h4 : zAbout.localsInUse + r.locals ≤ zEnv.platform.maxStackSlots) (h5 : zAbout.localsInUse + r.locals + stackMargin ≤ realStackBytes / 8) : zAbout.hasRoom zEnv.platform r = true :=
  State.hasRoom_of rfl (Nat.le_trans h1 (Nat.le_max_left _ _)) h4 (Nat.le_trans h2 (Nat.le_max_right _ _)) (Nat.le_trans h3 (Nat.le_max_right _ _)) (by decide +kernel) h5
theorem ze_applies (r : Room) (h : zAbout.hasRoom zEnv.platform r = true) : (headSpec (Jvm.Cond.code x code maxLocals ret :: tables_1) r).applies x zEnv.platform zAbout = true :=
  (Spec.applies_iff (m := ⟨0, 0⟩) (args := start1.args0) (below := Lib.HandBits.below0) rfl).mpr ⟨rfl, rfl, rfl, by decide +kernel, by decide +kernel, by decide +kernel, h, atoms_intro zw_all⟩
def zVal : Value → Int32
  | .int v => v
  | _ => 0
def zScript : List Int32 := zCells.toList.map zVal
def zIsInt : Value → Bool
  | .int _ => true
  | _ => false
def zChk : Int32 → List Int32 → Bool
  | _, [] => true
  | v, a :: b :: c :: _ :: _ :: r => decide (a = v) && decide (b = nI 0) && decide (c = nI 0) && zChk (nI 4) r
  | _, _ => false
theorem zChk_at (n : Nat) : ∀ (v : Int32) (l : List Int32), zChk v l = true → l.length = 5 * n → ∀ k, k < n → l.getD (5 * k) 0 = (if k = 0 then v else nI 4) ∧ l.getD (5 * k + 1) 0 = nI 0 ∧ l.getD (5 * k + 2) 0 = nI 0 := by
  induction n with
  | zero =>
    intro v l _ _ k hk
    exact absurd hk (Nat.not_lt_zero k)
  | succ n ih =>
    intro v l h hl k hk
    match l, h, hl with
    | a :: b :: c :: d :: e :: r, h, hl =>
      simp only [zChk, Bool.and_eq_true, decide_eq_true_eq] at h
      obtain ⟨⟨⟨rfl, rfl⟩, rfl⟩, h4⟩ := h
      match k with
      | 0 => exact ⟨rfl, rfl, rfl⟩
      | k + 1 =>
        have h5 := ih (nI 4) r h4 (by simp only [List.length_cons] at hl; omega) k (by omega)
        have e0 : 5 * (k + 1) = 5 * k + 1 + 1 + 1 + 1 + 1 := by omega
        rw [e0]
        simp only [List.getD_cons_succ]
        rw [if_neg (Nat.succ_ne_zero k)]
        refine ⟨?_, h5.2.1, h5.2.2⟩
        rw [h5.1]
        split <;> rfl
    | [], h, hl => exact absurd hl (by simp only [List.length_nil]; omega)
    | [_], h, hl => exact absurd h (by simp [zChk])
    | [_, _], h, hl => exact absurd h (by simp [zChk])
    | [_, _, _], h, hl => exact absurd h (by simp [zChk])
    | [_, _, _, _], h, hl => exact absurd h (by simp [zChk])
theorem zScript_len : zScript.length = 2560 := by
  show (zCells.toList.map zVal).length = 2560
  rw [List.length_map]
  decide +kernel
theorem zScript_chk : zChk (nI 0) zScript = true := by decide +kernel
theorem zScript_ok : zScr (fun j => zScript.getD j 0) := fun k hk => zChk_at 512 (nI 0) zScript zScript_chk zScript_len k hk
theorem zCells_ints : zCells.toList.all zIsInt = true := by decide +kernel
theorem zCells_list : zCells.toList = zScript.map Value.int := by
  show zCells.toList = (zCells.toList.map zVal).map Value.int
  rw [List.map_map]
  refine Eq.trans (List.map_id _).symm (List.map_congr_left (fun v hv => ?_))
  have h := List.all_eq_true.mp zCells_ints v hv
  cases v <;> first | rfl | exact nomatch (show false = true from h)
theorem ze_ints : zAbout.IntsAt 0 zScript :=
  ⟨{ cls := 43, slots := zCells, vm := .none }, rfl, zCells_list, ⟨(fun k h => by cases h), _, rfl, _, rfl⟩, by rw [zScript_len]; decide⟩
theorem ze_rest : rest_1_c.before start1.args0 zAbout = true := by
  have ht : ∀ idx : List Nat, (Term.arg 0).eval start1.args0 zAbout none idx zAbout = some (.ref 0) := fun _ => rfl
  have h1 : (Cond.isInt (.length (.arg 0))).value start1.args0 zAbout none zAbout [] = some true := by
    simp only [Cond.value, ze_ints.length_eval (ht [])]
    rfl
  have h2 : (Cond.all (.arg 0) (.isInt (.elem (.arg 0) (.index 0)))).value start1.args0 zAbout none zAbout [] = some true := by
    refine ze_ints.all_value (ht []) (fun k hk => ?_)
    simp only [Cond.value, ze_ints.elem_nat (idx := [k]) (i := .index 0) (ht [k]) rfl hk]
    rfl
  show ((Cond.and (Cond.isInt (.length (.arg 0))) (Cond.all (.arg 0) (.isInt (.elem (.arg 0) (.index 0))))).value start1.args0 zAbout none zAbout [] == some true) = true
  rw [show (Cond.and (Cond.isInt (.length (.arg 0))) (Cond.all (.arg 0) (.isInt (.elem (.arg 0) (.index 0))))).value start1.args0 zAbout none zAbout [] = some true from by
    rw [Cond.value, h1]
    exact h2]
  rfl
theorem ze_pre : (Jvm.Cond.and given_1 narrow_1).before start1.args0 zAbout = true := by decide +kernel
theorem ze_fit : argsFit zAbout.vm ⟨0, 0⟩ start1.args0 = true := by decide +kernel
theorem ze_x0 : cellFits zAbout { cls := 43, slots := zCells, vm := .none } = true := by
  have hfit : ∀ (i : Nat) (x : Int32), zAbout.fitsSlot 43 .none i (.int x) = true := fun _ _ => rfl
  refine List.all_eq_true.mpr (fun i _ => ?_)
  show (match zCells[i]? with
    | some v => zAbout.fitsSlot 43 .none i v
    | none => true) = true
  cases hv : zCells[i]? with
  | none => rfl
  | some v =>
    have hm : v ∈ zCells.toList := Array.mem_toList_iff.mpr (Array.mem_of_getElem? hv)
    have h := List.all_eq_true.mp zCells_ints v hm
    cases v <;> first | exact hfit _ _ | exact nomatch (show false = true from h)
theorem ze_tail : start1.about.heap.toList.tail.all (cellFits zAbout) = true := by decide +kernel
theorem ze_heap : heapFits zAbout = true := by
  show zAbout.heap.all (cellFits zAbout) = true
  rw [← Array.all_toList]
  show (({ cls := 43, slots := zCells, vm := .none } : Cell) :: start1.about.heap.toList.tail).all (cellFits zAbout) = true
  rw [List.all_cons, ze_x0, ze_tail]
  rfl
theorem p29_false : ¬ (Claimed_1_1 ∧ Claimed_1_2) := fun h =>
  room_false zScript_len zScript_ok launch0 rfl lists_1 start1.p0 zEnv (launch0.admits_env _ _ _) fairChoices_fair.cas fairChoices_fair.clock zAbout ⟨0, 0⟩ 0 Lib.HandBits.below0 rfl ze_fit ze_heap (ze_applies room_1 (ze_room _ (by decide +kernel) (by decide +kernel) (by decide +kernel) (by decide +kernel) (by decide +kernel)))
    (ze_applies zBig (ze_room _ (by decide +kernel) (by decide +kernel) (by decide +kernel) (by decide +kernel) (by decide +kernel))) ze_ints ze_rest ze_pre h.1
set_option maxRecDepth 512
