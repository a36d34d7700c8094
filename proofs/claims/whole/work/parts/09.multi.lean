/-! new int[N][K]: the outer array, then the inner ones one behind the other (own rows: the kit here has none for this instruction) -/
def mo (cA : ClassId) (N h i : Nat) : Cell := arrV cA N (fun j => if j < i then .ref (h + 1 + j) else .null)
def mi (cI : ClassId) (K : Nat) : Cell := arrV cI K (fun _ => .int 0)
/-- the state behind the first i inner arrays -/
def ms (s : State) (cA cI : ClassId) (N K : Nat) : Nat → State
  | 0 => s.pushCell (mo cA N s.heap.size 0)
  | i + 1 => ((ms s cA cI N K i).pushCell (mi cI K)).setCell s.heap.size (mo cA N s.heap.size (i + 1))
theorem mo_0 {cA : ClassId} {N h : Nat} : ({ cls := cA, slots := Array.replicate N .null, vm := .none } : Cell) = mo cA N h 0 := by
  rw [arrV_new]
  unfold mo
  congr 1
theorem mo_set {cA : ClassId} {N h i : Nat} : (mo cA N h i).setSlot i (.ref (h + 1 + i)) = mo cA N h (i + 1) := by
  unfold mo
  rw [arrV_store]
  congr 1
  funext j
  unfold updV
  by_cases e : j = i
  · subst e
    simp
  · by_cases h2 : j < i
    · simp [e, h2, Nat.lt_succ_of_lt h2]
    · have h3 : ¬ j < i + 1 := by omega
      simp [e, h2, h3]
theorem ms_facts (s : State) (cA cI : ClassId) (N K : Nat) : ∀ i : Nat, (ms s cA cI N K i).heap.size = s.heap.size + 1 + i ∧ (ms s cA cI N K i).heap[s.heap.size]? = some (mo cA N s.heap.size i) ∧ (ms s cA cI N K i).vm = s.vm ∧ (ms s cA cI N K i).slotsUsed = s.slotsUsed + N + i * K ∧ (∀ q, q < s.heap.size → (ms s cA cI N K i).heap[q]? = s.heap[q]?) ∧ ∀ j, j < i → (ms s cA cI N K i).heap[s.heap.size + 1 + j]? = some (mi cI K)
  | 0 => by
    refine ⟨by simp [ms], by simp [ms], rfl, by simp [ms, mo, arrV_size], fun q hq => State.heap_pushCell_of_lt _ _ hq, fun j hj => absurd hj (Nat.not_lt_zero j)⟩
  | i + 1 => by
    obtain ⟨a1, a2, a3, a4, a5, a6⟩ := ms_facts s cA cI N K i
    have hh : (ms s cA cI N K (i + 1)).heap = ((ms s cA cI N K i).heap.push (mi cI K)).setIfInBounds s.heap.size (mo cA N s.heap.size (i + 1)) := rfl
    have hget : ∀ q, q ≠ s.heap.size → q < s.heap.size + 1 + i → (ms s cA cI N K (i + 1)).heap[q]? = (ms s cA cI N K i).heap[q]? := fun q h1 h2 => by
      rw [hh, Array.getElem?_setIfInBounds_ne (Ne.symm h1), Array.getElem?_push, if_neg (by rw [a1]; omega)]
    refine ⟨?_, ?_, ?_, ?_, fun q hq => ?_, fun j hj => ?_⟩
    · rw [hh, Array.size_setIfInBounds, Array.size_push, a1]; omega
    · rw [hh, Array.getElem?_setIfInBounds_self_of_lt (by rw [Array.size_push, a1]; omega)]
    · show ((ms s cA cI N K i).pushCell (mi cI K)).vm = _
      exact a3
    · show ((ms s cA cI N K i).pushCell (mi cI K)).slotsUsed = _
      rw [State.slotsUsed_pushCell, a4]
      simp [mi, arrV_size, Nat.succ_mul]
      omega
    · rw [hget q (Nat.ne_of_lt hq) (by omega)]
      exact a5 q hq
    · by_cases e : j < i
      · rw [hget _ (by omega) (by omega)]
        exact a6 j e
      · have e2 : j = i := by omega
        subst e2
        rw [hh, Array.getElem?_setIfInBounds_ne (by omega), Array.getElem?_push, if_pos (by rw [a1])]
theorem ms_top (s : State) (f : JFrame) (cA cI : ClassId) (N K : Nat) : ∀ i : Nat, ms (s.setTop f) cA cI N K i = (ms s cA cI N K i).setTop f
  | 0 => rfl
  | i + 1 => by
    show ((ms (s.setTop f) cA cI N K i).pushCell _).setCell _ _ = _
    rw [ms_top s f cA cI N K i]
    rfl
section MU
variable {E : CtlPost} {e : Env} {b : Bool} {acts : List Action} {s : State}
theorem mw_make {cA cI cc : ClassId} {kA kI : Class} {n k : Int32} (hkA : s.vm.classes[cA]? = some kA) (hkindA : kA.kind = .array cI (.array .int)) (hkI : s.vm.classes[cI]? = some kI) (hkindI : kI.kind = .array cc .int) (hn : ¬ n < 0) (hk : ¬ k < 0)
    (hl1 : ¬ n.toNatClampNeg > e.platform.arrayLengthLimit) (hh1 : ¬ n.toNatClampNeg * 4 > e.platform.maxHeapBytes) (hl2 : ¬ k.toNatClampNeg > e.platform.arrayLengthLimit) (hh2 : ¬ k.toNatClampNeg * 4 > e.platform.maxHeapBytes)
    (hc : s.heap.size + 1 + n.toNatClampNeg ≤ e.platform.maxCells) (hs : s.slotsUsed + n.toNatClampNeg + n.toNatClampNeg * k.toNatClampNeg ≤ e.platform.maxSlots)
    {Q : Addr → Pre} (hq : ∀ b' acts', Q s.heap.size b' acts' (ms s cA cI n.toNatClampNeg k.toNatClampNeg n.toNatClampNeg)) : wp (Op.multianewarray.make cA [n, k]) Q E e b acts s := by
  have hfind : ([k].find? (· < 0)) = none := by simp [hk]
  rw [Op.multianewarray.make]
  simp only [wp_bind', W.ite, hn, if_false, wp_pure', W.theClass, hkA, hkindA, Option.some.injEq, exists_eq_left']
  refine W.newArray_of hkA hkindA hl1 hh1 (by omega) (by have := Nat.zero_le (n.toNatClampNeg * k.toNatClampNeg); omega) rfl (fun acts1 => ?_)
  simp only [hfind]
  rw [ite_self, wp_bind', Std.Legacy.Range.forIn_eq_forIn_range']
  have hsz : ([:n.toNatClampNeg] : Std.Legacy.Range).size = n.toNatClampNeg := by simp [Std.Legacy.Range.size]
  rw [hsz]
  show wp (forIn (List.range' 0 n.toNatClampNeg 1) PUnit.unit _) _ E e b acts1 _
  refine wp_forIn_inv (fun rest s' => ∃ i, i + rest.length = n.toNatClampNeg ∧ rest = List.range' i rest.length ∧ s' = ms s cA cI n.toNatClampNeg k.toNatClampNeg i) _ _ ⟨0, by simp, by simp, by rw [mo_0 (h := s.heap.size)]; rfl⟩ ?_ ?_
  · rintro x rest s' b' acts' Q' ⟨i, hi, hl, rfl⟩ hnext
    rw [List.length_cons, List.range'_succ] at hl
    obtain ⟨rfl, hrest⟩ := List.cons.inj hl
    rw [List.length_cons] at hi
    obtain ⟨a1, a2, a3, a4, -, -⟩ := ms_facts s cA cI n.toNatClampNeg k.toNatClampNeg x
    have hmul : x * k.toNatClampNeg + k.toNatClampNeg ≤ n.toNatClampNeg * k.toNatClampNeg := by
      have := Nat.mul_le_mul_right k.toNatClampNeg (show x + 1 ≤ n.toNatClampNeg by omega)
      rw [Nat.succ_mul] at this
      exact this
    simp only [wp_bind']
    rw [Op.multianewarray.make]
    simp only [wp_bind', W.ite, hk, if_false, wp_pure', W.theClass, a3, hkI, hkindI, Option.some.injEq, exists_eq_left']
    refine W.newArray_of (by rw [a3]; exact hkI) hkindI hl2 hh2 (by rw [a1]; omega) (by rw [a4]; omega) rfl (fun acts2 => ?_)
    have hlt0 : s.heap.size < (ms s cA cI n.toNatClampNeg k.toNatClampNeg x).heap.size := by rw [a1]; omega
    simp only [wp_bind', W.writeLoc, wp_pure']
    refine ⟨mo cA n.toNatClampNeg s.heap.size x, by rw [State.heap_pushCell_of_lt (h := hlt0)]; exact a2, (by intro h; cases h), (by unfold mo; rw [arrV_size]; omega), ?_, hnext _ _ _ ⟨x + 1, by omega, hrest, ?_⟩⟩
    · have e1 : (mo cA n.toNatClampNeg s.heap.size x).cls = cA := rfl
      have e2 : (mo cA n.toNatClampNeg s.heap.size x).vm = .none := rfl
      rw [e1, e2]
      simp [State.fitsSlot, State.slotType?, a3, hkA, hkindA, fits]
    · rw [a1, mo_set]
      show State.setCell (State.pushCell _ _) _ _ = State.setCell (State.pushCell _ _) _ _
      rw [show ({ cls := cI, slots := Array.replicate k.toNatClampNeg (defaultValue .int), vm := .none } : Cell) = mi cI k.toNatClampNeg from arrV_new _ _ _]
  · rintro s' b' acts' ⟨i, hi, hl, rfl⟩
    have e1 : i = n.toNatClampNeg := by simpa using hi
    subst e1
    simp only [wp_pure']
    exact hq _ _
end MU
/-- what a constructor is told beside its memory: the array of parts, and that int[][] is an array of int[] -/
def gM (G : Gm) (U : State) : Prop := va_AO RX3 U ∧ ∃ k : Class, U.vm.classes[G.2.2.2.1.2.2.1]? = some k ∧ k.kind = .array G.2.2.2.1.1 (.array .int)
theorem gM.moved {G : Gm} {u U : State} (hvm : u.vm.Alike U.vm) (h : gM G u) : gM G U := by
  obtain ⟨h1, k, h2, h3⟩ := h
  obtain ⟨k', hk', he⟩ := hvm.2.2 _ _ h2
  exact ⟨h1.moved hvm, k', hk', by rw [he]; exact h3⟩
section MV
variable {p : Program} {l : Launch} {e : Env} {R : Room} {s : State} {m : MethodId} {args : Array Value} {below : List Frame} {meth : Method} {c : Code} {T : State} {locs : List Loc} {cells slots : Nat}
theorem ms_stand (X : Stand p l e R s m args below meth c T locs cells slots) (cA cI : ClassId) (N K : Nat) : ∀ i : Nat, Stand p l e R s m args below meth c (ms T cA cI N K i) (locs ++ (List.range i).map fun j => ⟨T.heap.size, j⟩) (cells + 1 + i) (slots + N + i * K)
  | 0 => by
    have h := X.pushed (mo cA N T.heap.size 0)
    have e0 : (mo cA N T.heap.size 0).slots.size = N := arrV_size _ _ _
    rw [e0] at h
    simpa [ms] using h
  | i + 1 => by
    have Xi := ms_stand X cA cI N K i
    obtain ⟨a1, a2, -, -, -, -⟩ := ms_facts T cA cI N K i
    have hlt : T.heap.size < (ms T cA cI N K i).heap.size := by rw [a1]; omega
    have h := (Xi.pushed (mi cI K)).stored (a := T.heap.size) (cell := mo cA N T.heap.size i) (by rw [State.heap_pushCell_of_lt (h := hlt)]; exact a2) i (.ref (T.heap.size + 1 + i))
    have e0 : (mi cI K).slots.size = K := arrV_size _ _ _
    rw [e0, mo_set] at h
    rw [show (locs ++ (List.range (i + 1)).map fun j => (⟨T.heap.size, j⟩ : Loc)) = (locs ++ (List.range i).map fun j => (⟨T.heap.size, j⟩ : Loc)) ++ [⟨T.heap.size, i⟩] by simp [List.range_succ, List.append_assoc], show slots + N + (i + 1) * K = slots + N + i * K + K by rw [Nat.succ_mul]; omega]
    exact h
theorem mn_W {H : Heap} {Q : State → Prop} {cc : ByteArray} (hexec : p.tables.exec = Jvm.exec) (hb : c.code = cc) {own : String} {ix : Nat} {cA cI c0 : ClassId} {kA kI : Class} (hown : s.vm.findClass own = some m.cls) (hclink : (Cond.classLink own ix ("[" ++ (FieldType.array .int).toString)).before args s = true) (hfA : s.vm.findClass ("[" ++ (FieldType.array .int).toString) = some cA) (hkA : s.vm.classes[cA]? = some kA) (hkindA : kA.kind = .array cI (.array .int)) (hkI : s.vm.classes[cI]? = some kI) (hkindI : kI.kind = .array c0 .int)
    {pc : Nat} {ls : Array Slot} {rest : List Value} {n k : Int32} (hdg : decode cc pc = .ok (.multianewarray ix 2, 4)) (hn : ¬ n < 0) (hk : ¬ k < 0) (hb1 : n.toNatClampNeg * 4 ≤ 536870912) (hb2 : k.toNatClampNeg * 4 ≤ 536870912) (hcells : cells + (1 + n.toNatClampNeg) ≤ R.cells) (hslots : slots + (n.toNatClampNeg + n.toNatClampNeg * k.toNatClampNeg) ≤ R.slots)
    (kk : ∀ H1 : Heap, H1.size = H.size + 1 + n.toNatClampNeg → H1[H.size]? = some (mo cA n.toNatClampNeg H.size n.toNatClampNeg) → (∀ q, q < H.size → H1[q]? = H[q]?) → (∀ j, j < n.toNatClampNeg → H1[H.size + 1 + j]? = some (mi cI k.toNatClampNeg)) → s.heap.size ≤ H.size →
      W p l e R s m args below meth c H1 (locs ++ (List.range n.toNatClampNeg).map fun j => ⟨H.size, j⟩) (cells + 1 + n.toNatClampNeg) (slots + n.toNatClampNeg + n.toNatClampNeg * k.toNatClampNeg) Q (F0 m (pc + 4) ls (.ref H.size :: rest))) :
    W p l e R s m args below meth c H locs cells slots Q (F0 m pc ls (.int k :: .int n :: rest)) := by
  intro T hT X
  subst hT
  subst hb
  have hpl : e.platform.magicAccessors = ({} : Platform).magicAccessors := by rw [X.admits.platform]
  obtain ⟨cB, hfB, hcl⟩ := Cond.classLink_spec hown hclink e.platform hpl
  cases hfA.symm.trans hfB
  obtain ⟨hg1, hw1, -⟩ := State.classEntry (e := e) X.warmed hcl
  generalize T.vm.noted m.cls ix (.cls cA) = vm1 at hg1 hw1
  obtain ⟨kA1, hkA1, heA⟩ := hw1.alike.2.2 _ _ hkA
  obtain ⟨kI1, hkI1, heI⟩ := hw1.alike.2.2 _ _ hkI
  have XF := ms_stand (X.noted hw1) cA cI n.toNatClampNeg k.toNatClampNeg n.toNatClampNeg
  obtain ⟨a1, a2, -, -, a5, a6⟩ := ms_facts (T.setVm vm1) cA cI n.toNatClampNeg k.toNatClampNeg n.toNatClampNeg
  obtain ⟨t, st, hQ⟩ := kk (ms (T.setVm vm1) cA cI n.toNatClampNeg k.toNatClampNeg n.toNatClampNeg).heap a1 a2 a5 a6 X.same.2.1 _ rfl XF
  refine ⟨t, ?_, hQ⟩
  obtain ⟨hr1, hr2⟩ := X.roomAbove hcells hslots
  jvm_step X.here [hexec, hdg]
  simp only [Op.multianewarray.sem, wp_bind', W.resolveClassAt_links (t := T.setTop (F0 m pc ls (.int k :: .int n :: rest))) (mm := m) (vm' := vm1) (State.method?_setTop (F0 m pc ls (.int k :: .int n :: rest)) X.here.top) hg1]
  rw [W.popN, if_neg (by decide)]
  refine ⟨_, State.topJava?_setTop' (s := T.setVm vm1) _ X.here.top, [.int n, .int k], rest, rfl, rfl, ?_⟩
  simp only [List.mapM_cons, List.mapM_nil, wp_bind', wp_pure']
  refine mw_make (kA := kA1) (kI := kI1) (cc := c0) hkA1 (by rw [heA]; exact hkindA) hkI1 (by rw [heI]; exact hkindI) hn hk (by rw [Launch.admits_arrayLengthLimit X.admits]; omega) (by rw [Launch.admits_maxHeapBytes X.admits]; omega) (by rw [Launch.admits_arrayLengthLimit X.admits]; omega) (by rw [Launch.admits_maxHeapBytes X.admits]; omega) (by show T.heap.size + 1 + _ ≤ _; omega) (by show T.slotsUsed + _ + _ ≤ _; omega) (fun b' acts' => ?_)
  have eS : ∀ f f' : JFrame, ((T.setTop f).setVm vm1).setTop f' = (T.setVm vm1).setTop f' := fun f f' => by
    show ((T.setVm vm1).setTop f).setTop f' = _
    rw [State.setTop_setTop]
  rw [eS, ms_top]
  simp only [wp_bind', W.mark, W.pushRef, State.topJava?_setTop' _ XF.here.top, Option.some.injEq, exists_eq_left', State.setTop_setTop, State.heap_setTop]
  intro acts
  simp [jvm, XF.here.top]
  exact st
end MV
