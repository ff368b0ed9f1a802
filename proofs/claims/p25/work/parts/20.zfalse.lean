/-! THE CLAIM IS FALSE BY ROOM: over the script 'begin(0, 0), then 511 times add(0, 0)' the law makes new cells that weigh, 24 a cell and 8 a slot, 75350016 at the least, from every start that the Statement allows and whose launch has room enough to let it end; the Statement's frame allows 72768848 in all. -/
def zZ (below : List Frame) (s : State) : State → Prop := fun t => ∃ o, t.status = .running ∧ Ended t below o ∧ zw s.heap + 75350016 ≤ zw t.heap
theorem z_ret {p : Program} {l : Launch} {ev : Env} {s : State} {m : MethodId} {below : List Frame} {meth : Method} {c : Code} {b : Nat} {locs : List Loc} (hx : p.tables.exec = Jvm.exec) (hb : c.code = code) (hr : meth.sig.returnType = ret) (hlocks : meth.locks = false) {H : Heap} {ls : Array Slot} (hsz : zw s.heap + 75350016 ≤ zw H) :
    W p l ev zBig s m #[Value.ref b] below meth c H locs 3000000 20000000 (zZ below s) (F0 m 1224 ls [.int 1]) := by
  intro T hT X
  obtain ⟨fs, hret, hrun, hended, hW, hframe⟩ := X.leave (v := some (.int 1)) (hlocks := hlocks) (fun h => by rw [hr] at h; cases h)
  have hmeth' : T.vm.method? m = some meth := X.method'
  have hdg : decode code 1224 = .ok (.ireturn, 1) := dL_law_1224
  refine ⟨T.setFrames fs, ?_, .returned (some (.int 1)), hrun, hended, ?_⟩
  · jvm_step X.here [X.here.top, hx, hb, hdg, hmeth', hr, ret, narrow_b1]
    (try refine ⟨rfl, ?_⟩); (try refine ⟨rfl, ?_⟩)
    first | (intro acts; rw [hret _ acts rfl rfl rfl]) | rw [hret _ _ rfl rfl rfl]
    exact Steps.refl _
  · show zw s.heap + 75350016 ≤ zw T.heap
    rw [hT]
    exact hsz
/-- the start of the run: the script at b, the Statement's own premises -/
def zAt (b : Addr) (xs : List Int32) (args : Array Value) (s : State) : Prop := args = #[.ref b] ∧ s.IntsAt b xs ∧ xs.length = 2560 ∧ zScr (fun j => xs.getD j 0) ∧ (Jvm.Cond.and given_1 narrow_1).before args s = true
set_option maxHeartbeats 4000000 in
theorem z_walk (l : Launch) (b : Addr) (xs : List Int32) : MetFree l x (headSpec (Jvm.Cond.code x code maxLocals ret :: tables_1) zBig) (zAt b xs) (fun _ _ _ _ _ => True) (fun _ s _ t => zw s.heap + 75350016 ≤ zw t.heap) := by
  refine MetFree.of_bodyS (code := code) (maxLocals := maxLocals) (ret := ret) (by decide) ?_ ?_
  · intro args s m h hn
    obtain ⟨meth, c, h1, h2, h3, h4, h5, h6, -, -⟩ := Cond.code_spec hn (atoms_spec (ws := Jvm.Cond.code x code maxLocals ret :: tables_1) h _ List.mem_cons_self)
    exact ⟨meth, c, h1, h2, h3, h4, h5, h6⟩
  · intro p e s m args below meth c s₁ B hml0 hP _
    obtain ⟨rfl, hi, hlen, hscr, hgv⟩ := hP
    obtain ⟨scr, harrAt, hlist, hof, hsmall⟩ := hi
    obtain ⟨hcb, hkn, -, -⟩ := State.arrayAt?_spec harrAt
    have hown : s.vm.findClass RL = some m.cls := findClass_of_methodNamed B.named
    have hts0 : ∀ c ∈ (Jvm.Cond.code x code maxLocals ret :: tables_1), c.before #[Value.ref b] s = true := atoms_spec (ws := Jvm.Cond.code x code maxLocals ret :: tables_1) B.pre
    have hts1 : ∀ w ∈ lw_tbl, w.before #[Value.ref b] s = true := k2_hts_sels lw_privs (fun w hw => hts0 w (List.mem_cons_of_mem _ hw)) lw_privs_ok
    have hts := zz_hts hts1
    have hml : c.maxLocals = 7 := B.maxLocals_eq (hts0 _ List.mem_cons_self)
    have X₀ : Stand p l e zBig s m #[Value.ref b] below meth c s₁ [] 0 0 := Stand.of_body B
    have hh0 : s₁.heap = s.heap := by rw [B.state]; rfl
    have hsz : scr.slots.size = xs.length := by rw [← Array.length_toList, hlist, List.length_map]
    have hval : ∀ j : Nat, j < xs.length → scr.slots[j]? = some (.int (xs.getD j 0)) := fun j hj => by
      rw [← Array.getElem?_toList, hlist]
      simp [hj]
    have hbl : b < s.heap.size := (Array.getElem?_eq_some_iff.mp hcb).1
    have hX : va_X b 2560 (fun j => xs.getD j 0) s s.heap := ⟨scr, hcb, hof, hkn, by rw [hsz, hlen], by rw [← hlen]; exact hval⟩
    obtain ⟨e0, hG⟩ := z_start hts (flat_of_before _ hgv)
    obtain ⟨D, hK⟩ := z_classes hts
    have K : W p l e zBig s m #[Value.ref b] below meth c s₁.heap [] 0 0 (zZ below s) (entryFrame m ([Value.ref b] : List Value).toArray 7) := by
      rw [hh0]
      have hl := lv_entry ([.ref b]) (n := 7) (Nat.le_of_ble_eq_true rfl)
      rw [lg_entry_eq]
      generalize (lg_sl ([.ref b]) ++ List.replicate (7 - (lg_sl ([.ref b])).length) Slot.unset).toArray = ls at hl ⊢
      exact z_law l (e := e0) B.exec B.bytes hml hown hts hX hbl hscr hK hG (fun H locs ls _ hz => z_ret B.exec B.bytes B.returns B.notSynchronized hz) ls hl
    obtain ⟨t, a1, o, b1, b2, b3⟩ := K s₁ rfl X₀
    exact ⟨t, o, a1, b1, b2, b3⟩
theorem z_notboth {t : State} {below : List Frame} {o : Outcome} (hw : Within t below) (he : Ended t below o) : False := by
  obtain ⟨above, h1, h2, h3⟩ := hw
  cases o with
  | threw a =>
    have h4 : t.frames = [.throwing a] ++ below := he
    rw [h1] at h4
    exact h3 a (List.append_cancel_right h4)
  | returned v =>
    have hlen : t.frames.length = below.length := by
      simp only [Ended] at he
      split at he
      · obtain ⟨c, i, len, -, -, h5⟩ := he
        rw [h5]
        simp
      · rw [he]
        simp
      · rw [he]
        simp
      · rw [he.2]
    rw [h1, List.length_append] at hlen
    exact h2 (List.length_eq_zero_iff.mp (by omega))
/-- FALSE: a start that the Statement allows, with that script, in a launch with room enough, refutes the claim -/
theorem room_false {xs : List Int32} (hlen : xs.length = 2560) (hscr : zScr (fun j => xs.getD j 0)) (l : Launch) (hflags : l.flags = flags0) (hL : Lists l classFile x code maxLocals ret tables_1 room_1) (p : Program) (ev : Env) (hadm : l.admits ev) (hcas : FairCas ev.choices) (hclk : FairClock ev.choices) (s : State) (m : MethodId) (b : Addr) (below : List Frame)
    (hf : s.frames = .invoking m #[.ref b] :: below) (hfit : argsFit s.vm m #[.ref b] = true) (hheap : heapFits s = true) (happ : (headSpec (Jvm.Cond.code x code maxLocals ret :: tables_1) room_1).applies x ev.platform s = true) (hbig : (headSpec (Jvm.Cond.code x code maxLocals ret :: tables_1) zBig).applies x ev.platform s = true)
    (hints : s.IntsAt b xs) (hrest : rest_1 p.tables ev #[.ref b] s) (hpre : Pre_1 p.tables ev #[.ref b] s) : ¬ Claimed_1_1 := by
  intro h
  obtain ⟨n, o, w1, r1, e1, P1⟩ := h l hflags hL trivial p ev hadm hcas hclk s m _ below hf hfit hheap happ ⟨trivial, hrest, hpre⟩
  obtain ⟨n', o', w2, r2, e2, P2⟩ := z_walk l b xs p ev hadm hcas hclk s m _ below hf ((Spec.applies_iff_loose hf).mp hbig).1 ⟨rfl, hints, hlen, hscr, hpre⟩ trivial
  have hn : n = n' := by
    rcases Nat.lt_trichotomy n n' with q | q | q
    · exact (z_notboth (w2 n q) e1).elim
    · exact q
    · exact (z_notboth (w1 n' q) e2).elim
  subst hn
  have F := P1.2.2.2
  have hk : zKeeps s.heap (stepsAlone p.tables ev n s).heap := ⟨F.2.1, fun a k h => by
    obtain ⟨c', h1, -, h2, -⟩ := F.2.2.2.2.2 a k h
    exact ⟨c', h1, h2⟩⟩
  have e0 := zw_split hk
  have h3 : (stepsAlone p.tables ev n s).heap.size ≤ s.heap.size + room_1.cells := F.2.2.1
  have h5 : (((stepsAlone p.tables ev n s).heap.toList.drop s.heap.size).map (fun c : Cell => c.slots.size)).sum ≤ room_1.slots := F.2.2.2.2.1
  have h4 : 24 * room_1.cells + 8 * room_1.slots < 75350016 := by decide
  omega
