/-- the tables' words that a caller may hand on -/
def tb : List Cond := lw_tbl.filter goodWord
theorem tb_at {w : Cond} (i : Nat) (h : lw_tbl[i]? = some w) (hg : goodWord w = true) : w ∈ tb := List.mem_filter.mpr ⟨List.mem_of_getElem? h, hg⟩
theorem tb_in {w : Cond} (h : w ∈ tb) : w ∈ lw_tbl := (List.mem_filter.mp h).1
theorem tbX0 : ∀ w ∈ wsX00, w ∈ tb := by decide +kernel
theorem tbX1 : ∀ w ∈ wsX10, w ∈ tb := by decide +kernel
theorem tbX2 : ∀ w ∈ wsX20, w ∈ tb := by decide +kernel
theorem tbX3 : ∀ w ∈ wsX30, w ∈ tb := by decide +kernel
theorem tbX4 : ∀ w ∈ wsX40, w ∈ tb := by decide +kernel
theorem tbX5 : ∀ w ∈ wsX50, w ∈ tb := by decide +kernel
theorem tbX6 : ∀ w ∈ wsX60, w ∈ tb := by decide +kernel
theorem tbX7 : ∀ w ∈ wsX70, w ∈ tb := by decide +kernel
/-! MEMORY: what the cells hold, as ints; the machine's heap stands for it; rows that walk the machine over it -/
abbrev Mm : Type := Nat → Nat → Int32
/-- where the cells lie, where the static arrays lie, the classes, the array classes (int[], boolean[], int[][], Part[]), the first address that may be written -/
abbrev Gm : Type := (Nat → Nat) × (Nat → Nat) × va_G × (ClassId × ClassId × ClassId × ClassId) × Nat
def gR (G : Gm) (k : Nat) : Nat := G.1 k
def gZ (G : Gm) (f : Nat) : Nat := G.2.1 f
def gA (G : Gm) : Nat → Prop := fun q => G.2.2.2.2 ≤ q
def gT (G : Gm) : List (ClassId × FieldType) := [(G.2.2.2.1.1, .int), (G.2.2.2.1.2.1, .boolean), (G.2.2.2.1.2.2.1, .array .int), (G.2.2.2.1.2.2.2, .object RX3)]
/-- the static arrays: class, name, contents -/
def sT : Nat → String × String × List Int32 := fun f => match f with
  | 0 => (RX6, "KIND_ABOVE", [-1, 0, 0, 1])
  | 1 => (RX1, "LETTER_PITCHES", [0, 2, 4, 5, 7, 9, 11])
  | 2 => (RX0, "RISES", [0, 12, 0, 19])
  | 3 => (RX0, "FINGERS", [1, 2, 1, 2])
  | 4 => (RX5, "WEIGHTS", [1, 3, 9, 27, 81, 243, 729])
  | 5 => (RX5, "TO_ONE_OTHER", [1, 1, -1])
  | 6 => (RX5, "TO_THE_OTHER", [2, -1, -2])
  | 7 => (RX7, "HIGHER", [0, 2, 4, 5, 7, 9, 11])
  | 8 => (RX7, "POWER", [1, 3, 9, 27, 81, 243, 729])
  | _ => (RX7, "FEET", [6, 0, 1, 2, 3, 4, 5])
def st_ (f j : Nat) : Int32 := (sT f).2.2.getD j 0
def en (G : Gm) (M : Mm) (k : Nat) : va_E := match ly k with
  | (0, n, _) => .inl (G.2.2.2.1.1, n, .inl (M k))
  | (1, n, _) => .inl (G.2.2.2.1.2.1, n, .inl (M k))
  | (2, n, t) => .inl (G.2.2.2.1.2.2.1, n, .inr (.inr (.inr (.inr (fun j => (t.getD j none).map (gR G))))))
  | (3, n, t) => .inl (G.2.2.2.1.2.2.2, n, .inr (.inr (.inr (.inr (fun j => (t.getD j none).map (gR G))))))
  | (i + 4, n, t) => .inr (i, (List.range n).map (fun j => match t.getD j none with
    | none => Value.int (M k j)
    | some q => Value.ref (gR G q)))
theorem en_congr {G : Gm} {M N : Mm} {k : Nat} (h : M k = N k) : en G M k = en G N k := by
  unfold en
  rw [h]
theorem en_I {G : Gm} {M : Mm} {k n : Nat} (h : isA k n) : en G M k = .inl (G.2.2.2.1.1, n, .inl (M k)) := by
  unfold en
  rw [h.2]
theorem en_Z {G : Gm} {M : Mm} {k n : Nat} (h : isB k n) : en G M k = .inl (G.2.2.2.1.2.1, n, .inl (M k)) := by
  unfold en
  rw [h.2]
theorem en_J {G : Gm} {M : Mm} {k n : Nat} {t : List (Option Nat)} (h : isJ k n t) : en G M k = .inl (G.2.2.2.1.2.2.1, n, .inr (.inr (.inr (.inr (fun j => (t.getD j none).map (gR G)))))) := by
  unfold en
  rw [h.2]
theorem en_P {G : Gm} {M : Mm} {k n : Nat} {t : List (Option Nat)} (h : isP k n t) : en G M k = .inl (G.2.2.2.1.2.2.2, n, .inr (.inr (.inr (.inr (fun j => (t.getD j none).map (gR G)))))) := by
  unfold en
  rw [h.2]
def fl_ (G : Gm) (M : Mm) (k : Nat) (t : List (Option Nat)) (j : Nat) : Value := match t.getD j none with
  | none => Value.int (M k j)
  | some q => Value.ref (gR G q)
theorem en_O {G : Gm} {M : Mm} {k n i : Nat} {t : List (Option Nat)} (h : isO k i n t) : en G M k = .inr (i, (List.range n).map (fl_ G M k t)) := by
  unfold en
  rw [h.2]
  rfl
def gW (G : Gm) (M : Mm) : va_W := (List.range 228).map (fun k => (gR G k, en G M k))
theorem gW_at {G : Gm} {M : Mm} {k : Nat} (h : k < 228) : (gW G M)[k]? = some (gR G k, en G M k) := by
  unfold gW
  rw [List.getElem?_map, List.getElem?_range h]
  rfl
theorem gW_inv {G : Gm} {M : Mm} {k : Nat} {q : Nat × va_E} (h : (gW G M)[k]? = some q) : k < 228 ∧ q = (gR G k, en G M k) := by
  have hk : k < 228 := by
    have := (List.getElem?_eq_some_iff.mp h).1
    simpa [gW] using this
  rw [gW_at hk] at h
  exact ⟨hk, (Option.some.inj h).symm⟩
def Rep (G : Gm) (M : Mm) (H : Heap) : Prop := va_P G.2.2.1 vwCl (gW G M) H
def gOK (G : Gm) (U : State) (H : Heap) : Prop :=
  va_K G.2.2.1 vwCl (gT G) U ∧
  (∀ f, f < 10 → va_Z (sT f).1 (sT f).2.1 "[I" (.ref (gZ G f)) (gA G) U H ∧ va_T .int (gZ G f) (sT f).2.2.length (fun j => .int (st_ f j)) (gA G) U H) ∧
  (∀ k, k < 228 → gA G (gR G k)) ∧ ∀ j k, j < 228 → k < 228 → gR G j = gR G k → j = k
theorem gOK.moved {G : Gm} {u U : State} {H : Heap} (hvm : u.vm.Alike U.vm) (h : gOK G u H) : gOK G U H :=
  ⟨h.1.moved hvm, fun f hf => ⟨(h.2.1 f hf).1.moved hvm, (h.2.1 f hf).2.moved hvm⟩, h.2.2⟩
theorem gOK.kept {G : Gm} {U : State} {H H1 : Heap} (h : gOK G U H) (hq : ∀ a : Nat, a < H.size → ¬ gA G a → H1[a]? = H[a]?) : gOK G U H1 :=
  ⟨h.1, fun f hf => ⟨(h.2.1 f hf).1.kept hq, (h.2.1 f hf).2.kept hq⟩, h.2.2⟩
theorem gD_ok {G : Gm} {U : State} {H : Heap} {M : Mm} (h : gOK G U H) : va_D (gA G) (gW G M) := by
  refine ⟨fun i j p q hi hj hpq => ?_, fun k q hk => ?_⟩
  · obtain ⟨h1, rfl⟩ := gW_inv hi
    obtain ⟨h2, rfl⟩ := gW_inv hj
    exact h.2.2.2 i j h1 h2 hpq
  · obtain ⟨h1, rfl⟩ := gW_inv hk
    exact h.2.2.1 k h1
/-- cell k holds g -/
def mu (M : Mm) (k : Nat) (g : Nat → Int32) : Mm := fun a => if a = k then g else M a
theorem mu_s {M : Mm} {k : Nat} {g : Nat → Int32} : mu M k g k = g := if_pos rfl
theorem mu_n {M : Mm} {k j : Nat} {g : Nat → Int32} (h : j ≠ k) : mu M k g j = M j := if_neg h
/-- slot j of cell k is v -/
def mw (M : Mm) (k j : Nat) (v : Int32) : Mm := mu M k (upd (M k) j v)
theorem gW_set {G : Gm} {M : Mm} {k : Nat} {g : Nat → Int32} {e : va_E} (he : en G (mu M k g) k = e) : (gW G M).set k (gR G k, e) = gW G (mu M k g) := by
  subst he
  apply List.ext_getElem?
  intro j
  by_cases hj : j < 228
  · by_cases hk : j = k
    · subst hk
      rw [List.getElem?_set_self (by simpa [gW] using hj), gW_at hj]
    · rw [List.getElem?_set_ne (Ne.symm hk), gW_at hj, gW_at hj, en_congr (mu_n hk)]
  · rw [List.getElem?_eq_none (by simp [gW]; omega), List.getElem?_eq_none (by simp [gW]; omega)]
/-! locals by their numbers -/
def lh (ls : Array Slot) (nL : Nat) (lv : List (Option Value)) : Prop := ls.size = nL ∧ lv_wf ls ∧ ∀ (i : Nat) (v : Value), lv[i]? = some (some v) → ls[i]? = some (.val v)
def la (lv : List (Option Value)) : List (Nat × Value) := (List.range lv.length).filterMap (fun i => (lv.getD i none).map (fun v => (i, v)))
theorem la_mem {lv : List (Option Value)} {i : Nat} {v : Value} : (i, v) ∈ la lv ↔ lv[i]? = some (some v) := by
  unfold la
  rw [List.mem_filterMap]
  constructor
  · rintro ⟨j, hj, h⟩
    rw [List.getD_eq_getElem?_getD] at h
    cases h1 : lv[j]? with
    | none => rw [h1] at h; simp at h
    | some o =>
      rw [h1] at h
      cases o with
      | none => simp at h
      | some w =>
        simp only [Option.getD_some, Option.map_some, Option.some.injEq, Prod.mk.injEq] at h
        obtain ⟨rfl, rfl⟩ := h
        exact h1
  · intro h
    refine ⟨i, List.mem_range.mpr (List.getElem?_eq_some_iff.mp h).1, ?_⟩
    rw [List.getD_eq_getElem?_getD, h]
    rfl
theorem lh_has {ls : Array Slot} {nL : Nat} {lv : List (Option Value)} : lh ls nL lv ↔ lv_has ls nL (la lv) := by
  constructor
  · intro h
    exact ⟨h.1, h.2.1, fun q hq => h.2.2 q.1 q.2 (la_mem.mp hq)⟩
  · intro h
    exact ⟨h.1, h.2.1, fun i v hv => h.2.2 (i, v) (la_mem.mpr hv)⟩
/-- no long stands just ahead of local i -/
def l_ok (lv : List (Option Value)) (i : Nat) : Bool := match i with
  | 0 => true
  | j + 1 => match lv.getD j none with
    | some v => !(v.category == 2)
    | none => true
theorem lh_1 {ls' : Array Slot} {nL i : Nat} {lv : List (Option Value)} {v : Value} (hk : l_ok lv i = true)
    (h : lv_has ls' nL ((i, v) :: (la lv).filter (fun q => !(q.1 == i) && !(q.1 + 1 == i && q.2.category == 2)))) : lh ls' nL (lv.set i (some v)) := by
  refine ⟨h.1, h.2.1, fun j w hj => ?_⟩
  by_cases e : i = j
  · subst e
    have hl : i < lv.length := by
      have := (List.getElem?_eq_some_iff.mp hj).1
      simpa using this
    rw [List.getElem?_set_self hl] at hj
    cases hj
    exact h.2.2 (i, v) List.mem_cons_self
  · rw [List.getElem?_set_ne e] at hj
    refine h.2.2 (j, w) (List.mem_cons_of_mem _ (List.mem_filter.mpr ⟨la_mem.mpr hj, ?_⟩))
    have e1 : (j == i) = false := by simpa using (fun q : j = i => e q.symm)
    by_cases e2 : j + 1 = i
    · subst e2
      simp only [l_ok, List.getD_eq_getElem?_getD, hj, Option.getD_some] at hk
      simp only [e1]
      simpa using hk
    · simp [e1, e2]
/-- a long in i, i + 1 -/
theorem lh_2 {ls' : Array Slot} {nL i : Nat} {lv lv' : List (Option Value)} {v : Value} {L : List (Nat × Value)} (h : lv_has ls' nL L) (hs : ∀ j w, lv'[j]? = some (some w) → (j, w) ∈ L) : lh ls' nL lv' :=
  ⟨h.1, h.2.1, fun j w hj => h.2.2 (j, w) (hs j w hj)⟩
/-! THE WALK over the memory -/
/-- launch, program, environment, room, the state at the method's entry, method, arguments, frames below, method, code, cells and slots made so far -/
abbrev Xm : Type := Launch × Program × Env × Room × State × MethodId × Array Value × List Frame × Method × Code × Nat × Nat
abbrev xl (X : Xm) : Launch := X.1
abbrev xs (X : Xm) : State := X.2.2.2.2.1
abbrev xg (X : Xm) : Array Value := X.2.2.2.2.2.2.1
abbrev xb (X : Xm) : List Frame := X.2.2.2.2.2.2.2.1
abbrev xh (X : Xm) : Method := X.2.2.2.2.2.2.2.2.1
def xW (X : Xm) (H : Heap) (locs : List Loc) (Q : State → Prop) (pc : Nat) (ls : Array Slot) (st : List Value) : Prop :=
  W X.2.1 X.1 X.2.2.1 X.2.2.2.1 X.2.2.2.2.1 X.2.2.2.2.2.1 X.2.2.2.2.2.2.1 X.2.2.2.2.2.2.2.1 X.2.2.2.2.2.2.2.2.1 X.2.2.2.2.2.2.2.2.2.1 H locs X.2.2.2.2.2.2.2.2.2.2.1 X.2.2.2.2.2.2.2.2.2.2.2 Q (F0 X.2.2.2.2.2.1 pc ls st)
/-- what holds in a method all along -/
def xc (G : Gm) (X : Xm) (cc : ByteArray) (nL : Nat) (own : String) (d : Nat) : Prop :=
  X.2.1.tables.exec = Jvm.exec ∧ X.2.2.2.2.2.2.2.2.2.1.code = cc ∧ X.2.2.2.2.2.2.2.2.2.1.maxLocals = nL ∧ X.2.2.2.2.1.vm.findClass own = some X.2.2.2.2.2.1.cls ∧ (∀ w ∈ tb, w.before X.2.2.2.2.2.2.1 X.2.2.2.2.1 = true) ∧ X.2.2.2.2.2.2.2.2.1.locks = false ∧ gOK G X.2.2.2.2.1 X.2.2.2.2.1.heap ∧
  d ≤ X.2.2.2.1.frames ∧ 40 * d ≤ X.2.2.2.1.locals ∧ X.2.2.2.2.2.2.2.2.2.2.1 ≤ X.2.2.2.1.cells ∧ X.2.2.2.2.2.2.2.2.2.2.2 ≤ X.2.2.2.1.slots
/-- the machine, at pc with locals lv and stack st over a heap of which P holds, comes to Q -/
def WR (G : Gm) (X : Xm) (Q : State → Prop) (P : Heap → Prop) (pc : Nat) (lv : List (Option Value)) (st : List Value) : Prop :=
  ∀ (H : Heap) (locs : List Loc) (ls : Array Slot), P H → va_S (gA G) X.2.2.2.2.1.heap H locs → lh ls lv.length lv → xW X H locs Q pc ls st
/-- .. over a heap that holds M -/
abbrev WM (G : Gm) (X : Xm) (Q : State → Prop) (M : Mm) (pc : Nat) (lv : List (Option Value)) (st : List Value) : Prop := WR G X Q (Rep G M) pc lv st
/-- a method's end: it answers r, the heap holds M -/
def qc (G : Gm) (r : Option Value) (M : Mm) : Array Value → State → Outcome → State → Prop := fun _ st oc t => oc = .returned r ∧ Rep G M t.heap ∧ va_F (gA G) st t
def qQ (G : Gm) (X : Xm) (r : Option Value) (M : Mm) : State → Prop := MQ (xb X) (qc G r M) (xg X) (xs X) X.2.2.2.2.2.2.2.2.2.2.1 X.2.2.2.2.2.2.2.2.2.2.2 (gA G)
/-- the contract of a method: with these arguments, over M, it answers r and leaves N -/
def Cm (G : Gm) (l : Launch) (d : Nat) (y : MethodName) (cc : ByteArray) (nL : Nat) (ret : Option FieldType) (av : List Value) (M : Mm) (r : Option Value) (N : Mm) : Prop :=
  Met l y (Cond.code y cc nL ret :: tb) ({ frames := d, cells := 0, slots := 0, locals := 40 * d } : Room) (va_Pc av (fun U => gOK G U U.heap ∧ Rep G M U.heap)) (qc G r N) 0 0 (gA G)
section MR
variable {G : Gm} {X : Xm} {Q : State → Prop} {M : Mm} {P : Heap → Prop} {pc nL d : Nat} {lv : List (Option Value)} {st : List Value} {cc : ByteArray} {own : String}
theorem lh_at {ls : Array Slot} {n : Nat} (h : lh ls n lv) {i : Nat} {v : Value} (hv : lv[i]? = some (some v)) : ls[i]? = some (.val v) := h.2.2 i v hv

theorem m_iconst (hc : xc G X cc nL own d) {n : Int} {v : Int32} (hd : decode cc pc = .ok (.iconst n, 1)) (hv : Int32.ofInt n = v) (kk : WR G X Q P (pc + 1) lv (.int v :: st)) : WR G X Q P pc lv (st) := by
  intro H locs ls hR hS hl
  exact lv_iconst hc.1 hc.2.1 hd hv (kk H locs ls hR hS hl)
theorem m_bipush (hc : xc G X cc nL own d) {n : Int} {v : Int32} (hd : decode cc pc = .ok (.bipush n, 2)) (hv : (Int8.ofInt n).toInt32 = v) (kk : WR G X Q P (pc + 2) lv (.int v :: st)) : WR G X Q P pc lv (st) := by
  intro H locs ls hR hS hl
  exact lv_bipush hc.1 hc.2.1 hd hv (kk H locs ls hR hS hl)
theorem m_sipush (hc : xc G X cc nL own d) {n : Int} {v : Int32} (hd : decode cc pc = .ok (.sipush n, 3)) (hv : (Int16.ofInt n).toInt32 = v) (kk : WR G X Q P (pc + 3) lv (.int v :: st)) : WR G X Q P pc lv (st) := by
  intro H locs ls hR hS hl
  exact lv_sipush hc.1 hc.2.1 hd hv (kk H locs ls hR hS hl)
theorem m_lconst (hc : xc G X cc nL own d) {n : Fin 2} {v : Int64} (hd : decode cc pc = .ok (.lconst n, 1)) (hv : Int64.ofNat (n : Nat) = v) (kk : WR G X Q P (pc + 1) lv (.long v :: st)) : WR G X Q P pc lv (st) := by
  intro H locs ls hR hS hl
  exact lv_lconst hc.1 hc.2.1 hd hv (kk H locs ls hR hS hl)
theorem m_ldc (hc : xc G X cc nL own d) {ix : Nat} {v : Int32} (hd : decode cc pc = .ok (.ldc ix, 2)) (hw : Cond.constant own ix v ∈ tb) (kk : WR G X Q P (pc + 2) lv (.int v :: st)) : WR G X Q P pc lv (st) := by
  intro H locs ls hR hS hl
  exact lv_ldc hc.1 hc.2.1 hc.2.2.2.1 (hc.2.2.2.2.1 _ hw) hd (kk H locs ls hR hS hl)
theorem m_iload_n (hc : xc G X cc nL own d) {k : Fin 4} {x : Int32} (hd : decode cc pc = .ok (.iload_n k, 1)) (hv : lv[(k : Nat)]? = some (some (.int x))) (kk : WR G X Q P (pc + 1) lv (.int x :: st)) : WR G X Q P pc lv (st) := by
  intro H locs ls hR hS hl
  exact lv_iload_n hc.1 hc.2.1 hd rfl (lh_at hl hv) (kk H locs ls hR hS hl)
theorem m_iload (hc : xc G X cc nL own d) {i : Nat} {x : Int32} (hd : decode cc pc = .ok (.iload i, 2)) (hv : lv[i]? = some (some (.int x))) (kk : WR G X Q P (pc + 2) lv (.int x :: st)) : WR G X Q P pc lv (st) := by
  intro H locs ls hR hS hl
  exact lv_iload hc.1 hc.2.1 hd (lh_at hl hv) (kk H locs ls hR hS hl)
theorem m_aload_n (hc : xc G X cc nL own d) {k : Fin 4} {x : Nat} (hd : decode cc pc = .ok (.aload_n k, 1)) (hv : lv[(k : Nat)]? = some (some (.ref x))) (kk : WR G X Q P (pc + 1) lv (.ref x :: st)) : WR G X Q P pc lv (st) := by
  intro H locs ls hR hS hl
  exact lv_aload_n hc.1 hc.2.1 hd rfl (lh_at hl hv) (kk H locs ls hR hS hl)
theorem m_aload (hc : xc G X cc nL own d) {i : Nat} {x : Nat} (hd : decode cc pc = .ok (.aload i, 2)) (hv : lv[i]? = some (some (.ref x))) (kk : WR G X Q P (pc + 2) lv (.ref x :: st)) : WR G X Q P pc lv (st) := by
  intro H locs ls hR hS hl
  exact lv_aload hc.1 hc.2.1 hd (lh_at hl hv) (kk H locs ls hR hS hl)
theorem m_lload_n (hc : xc G X cc nL own d) {k : Fin 4} {x : Int64} (hd : decode cc pc = .ok (.lload_n k, 1)) (hv : lv[(k : Nat)]? = some (some (.long x))) (kk : WR G X Q P (pc + 1) lv (.long x :: st)) : WR G X Q P pc lv (st) := by
  intro H locs ls hR hS hl
  exact lv_lload_n hc.1 hc.2.1 hd rfl (lh_at hl hv) (kk H locs ls hR hS hl)
theorem m_lload (hc : xc G X cc nL own d) {i : Nat} {x : Int64} (hd : decode cc pc = .ok (.lload i, 2)) (hv : lv[i]? = some (some (.long x))) (kk : WR G X Q P (pc + 2) lv (.long x :: st)) : WR G X Q P pc lv (st) := by
  intro H locs ls hR hS hl
  exact lv_lload hc.1 hc.2.1 hd (lh_at hl hv) (kk H locs ls hR hS hl)
theorem m_istore_n (hc : xc G X cc nL own d) {k : Fin 4} {x : Int32} {lv' : List (Option Value)} (hd : decode cc pc = .ok (.istore_n k, 1)) (hi : (k : Nat) < lv.length) (hk : l_ok lv (k : Nat) = true) (hs : lv.set (k : Nat) (some (.int x)) = lv') (kk : WR G X Q P (pc + 1) lv' (st)) : WR G X Q P pc lv (.int x :: st) := by
  intro H locs ls hR hS hl
  refine lv_istore_n hc.1 hc.2.1 hd rfl (lh_has.mp hl) hi rfl fun ls' hl' => ?_
  have h2 := lh_1 hk hl'
  have e : lv'.length = lv.length := by rw [← hs]; simp
  rw [hs] at h2
  exact kk H locs ls' hR hS (e ▸ h2)
theorem m_istore (hc : xc G X cc nL own d) {i : Nat} {x : Int32} {lv' : List (Option Value)} (hd : decode cc pc = .ok (.istore i, 2)) (hi : i < lv.length) (hk : l_ok lv i = true) (hs : lv.set i (some (.int x)) = lv') (kk : WR G X Q P (pc + 2) lv' (st)) : WR G X Q P pc lv (.int x :: st) := by
  intro H locs ls hR hS hl
  refine lv_istore hc.1 hc.2.1 hd (lh_has.mp hl) hi rfl fun ls' hl' => ?_
  have h2 := lh_1 hk hl'
  have e : lv'.length = lv.length := by rw [← hs]; simp
  rw [hs] at h2
  exact kk H locs ls' hR hS (e ▸ h2)
theorem m_astore_n (hc : xc G X cc nL own d) {k : Fin 4} {x : Nat} {lv' : List (Option Value)} (hd : decode cc pc = .ok (.astore_n k, 1)) (hi : (k : Nat) < lv.length) (hk : l_ok lv (k : Nat) = true) (hs : lv.set (k : Nat) (some (.ref x)) = lv') (kk : WR G X Q P (pc + 1) lv' (st)) : WR G X Q P pc lv (.ref x :: st) := by
  intro H locs ls hR hS hl
  refine lv_astore_n hc.1 hc.2.1 hd rfl (lh_has.mp hl) hi rfl fun ls' hl' => ?_
  have h2 := lh_1 hk hl'
  have e : lv'.length = lv.length := by rw [← hs]; simp
  rw [hs] at h2
  exact kk H locs ls' hR hS (e ▸ h2)
theorem m_astore (hc : xc G X cc nL own d) {i : Nat} {x : Nat} {lv' : List (Option Value)} (hd : decode cc pc = .ok (.astore i, 2)) (hi : i < lv.length) (hk : l_ok lv i = true) (hs : lv.set i (some (.ref x)) = lv') (kk : WR G X Q P (pc + 2) lv' (st)) : WR G X Q P pc lv (.ref x :: st) := by
  intro H locs ls hR hS hl
  refine lv_astore hc.1 hc.2.1 hd (lh_has.mp hl) hi rfl fun ls' hl' => ?_
  have h2 := lh_1 hk hl'
  have e : lv'.length = lv.length := by rw [← hs]; simp
  rw [hs] at h2
  exact kk H locs ls' hR hS (e ▸ h2)
theorem m_iinc (hc : xc G X cc nL own d) {i : Nat} {n : Int} {x v : Int32} {lv' : List (Option Value)} (hd : decode cc pc = .ok (.iinc i n, 3)) (hx : lv[i]? = some (some (.int x))) (hv : x + Int32.ofInt n = v) (hk : l_ok lv i = true) (hs : lv.set i (some (.int v)) = lv') (kk : WR G X Q P (pc + 3) lv' st) : WR G X Q P pc lv st := by
  intro H locs ls hR hS hl
  obtain ⟨k, hk1⟩ := List.getElem?_of_mem (la_mem.mpr hx)
  refine lv_iinc hc.1 hc.2.1 hd (lh_has.mp hl) hk1 hv (List.getElem?_eq_some_iff.mp hx).1 rfl fun ls' hl' => ?_
  have h2 := lh_1 hk hl'
  have e : lv'.length = lv.length := by rw [← hs]; simp
  rw [hs] at h2
  exact kk H locs ls' hR hS (e ▸ h2)
theorem l2_get {i j : Nat} {v w : Value} (h : ((lv.set i (some v)).set (i + 1) none)[j]? = some (some w)) : (j = i ∧ w = v) ∨ (j ≠ i ∧ j ≠ i + 1 ∧ lv[j]? = some (some w)) := by
  by_cases e2 : i + 1 = j
  · subst e2
    have hl : i + 1 < (lv.set i (some v)).length := by
      have := (List.getElem?_eq_some_iff.mp h).1
      simpa using this
    rw [List.getElem?_set_self hl] at h
    cases h
  · rw [List.getElem?_set_ne e2] at h
    by_cases e1 : i = j
    · subst e1
      have hl : i < lv.length := by
        have := (List.getElem?_eq_some_iff.mp h).1
        simpa using this
      rw [List.getElem?_set_self hl] at h
      cases h
      exact Or.inl ⟨rfl, rfl⟩
    · rw [List.getElem?_set_ne e1] at h
      exact Or.inr ⟨fun q => e1 q.symm, fun q => e2 q.symm, h⟩
theorem m_lstore_n (hc : xc G X cc nL own d) {k : Fin 4} {x : Int64} {lv' : List (Option Value)} (hd : decode cc pc = .ok (.lstore_n k, 1)) (hi : (k : Nat) + 1 < lv.length) (hk : l_ok lv (k : Nat) = true) (hs : (lv.set (k : Nat) (some (.long x))).set ((k : Nat) + 1) none = lv') (kk : WR G X Q P (pc + 1) lv' st) : WR G X Q P pc lv (.long x :: st) := by
  intro H locs ls hR hS hl
  refine lv_lstore_n hc.1 hc.2.1 hd rfl (lh_has.mp hl) hi rfl fun ls' hl' => ?_
  have e : lv'.length = lv.length := by rw [← hs]; simp
  refine kk H locs ls' hR hS (e ▸ ⟨hl'.1, hl'.2.1, fun j w hj => ?_⟩)
  rw [← hs] at hj
  rcases l2_get hj with ⟨rfl, rfl⟩ | ⟨h1, h2, h3⟩
  · exact hl'.2.2 (_, _) List.mem_cons_self
  · refine hl'.2.2 (j, w) (List.mem_cons_of_mem _ (List.mem_filter.mpr ⟨la_mem.mpr h3, ?_⟩))
    by_cases e2 : j + 1 = (k : Nat)
    · rw [← e2] at hk
      simp only [l_ok, List.getD_eq_getElem?_getD, h3, Option.getD_some] at hk
      have hk' : ¬ w.category = 2 := by simpa using hk
      simp [h1, h2, hk']
    · simp [h1, h2, e2]
theorem m_lstore (hc : xc G X cc nL own d) {i : Nat} {x : Int64} {lv' : List (Option Value)} (hd : decode cc pc = .ok (.lstore i, 2)) (hi : i + 1 < lv.length) (hk : l_ok lv i = true) (hs : (lv.set i (some (.long x))).set (i + 1) none = lv') (kk : WR G X Q P (pc + 2) lv' st) : WR G X Q P pc lv (.long x :: st) := by
  intro H locs ls hR hS hl
  refine lv_lstore hc.1 hc.2.1 hd (lh_has.mp hl) hi rfl fun ls' hl' => ?_
  have e : lv'.length = lv.length := by rw [← hs]; simp
  refine kk H locs ls' hR hS (e ▸ ⟨hl'.1, hl'.2.1, fun j w hj => ?_⟩)
  rw [← hs] at hj
  rcases l2_get hj with ⟨rfl, rfl⟩ | ⟨h1, h2, h3⟩
  · exact hl'.2.2 (_, _) List.mem_cons_self
  · refine hl'.2.2 (j, w) (List.mem_cons_of_mem _ (List.mem_filter.mpr ⟨la_mem.mpr h3, ?_⟩))
    by_cases e2 : j + 1 = i
    · rw [← e2] at hk
      simp only [l_ok, List.getD_eq_getElem?_getD, h3, Option.getD_some] at hk
      have hk' : ¬ w.category = 2 := by simpa using hk
      simp [h1, h2, hk']
    · simp [h1, h2, e2]
theorem m_iadd (hc : xc G X cc nL own d) {x y : Int32} (hd : decode cc pc = .ok (.iadd, 1)) (kk : WR G X Q P (pc + 1) lv (.int (x + y) :: st)) : WR G X Q P pc lv (.int y :: .int x :: st) := by
  intro H locs ls hR hS hl
  exact lv_iadd hc.1 hc.2.1 hd (kk H locs ls hR hS hl)
theorem m_isub (hc : xc G X cc nL own d) {x y : Int32} (hd : decode cc pc = .ok (.isub, 1)) (kk : WR G X Q P (pc + 1) lv (.int (x - y) :: st)) : WR G X Q P pc lv (.int y :: .int x :: st) := by
  intro H locs ls hR hS hl
  exact lv_isub hc.1 hc.2.1 hd (kk H locs ls hR hS hl)
theorem m_imul (hc : xc G X cc nL own d) {x y : Int32} (hd : decode cc pc = .ok (.imul, 1)) (kk : WR G X Q P (pc + 1) lv (.int (x * y) :: st)) : WR G X Q P pc lv (.int y :: .int x :: st) := by
  intro H locs ls hR hS hl
  exact lv_imul hc.1 hc.2.1 hd (kk H locs ls hR hS hl)
theorem m_iand (hc : xc G X cc nL own d) {x y : Int32} (hd : decode cc pc = .ok (.iand, 1)) (kk : WR G X Q P (pc + 1) lv (.int (x &&& y) :: st)) : WR G X Q P pc lv (.int y :: .int x :: st) := by
  intro H locs ls hR hS hl
  exact lv_iand hc.1 hc.2.1 hd (kk H locs ls hR hS hl)
theorem m_ior (hc : xc G X cc nL own d) {x y : Int32} (hd : decode cc pc = .ok (.ior, 1)) (kk : WR G X Q P (pc + 1) lv (.int (x ||| y) :: st)) : WR G X Q P pc lv (.int y :: .int x :: st) := by
  intro H locs ls hR hS hl
  exact lv_ior hc.1 hc.2.1 hd (kk H locs ls hR hS hl)
theorem m_ixor (hc : xc G X cc nL own d) {x y : Int32} (hd : decode cc pc = .ok (.ixor, 1)) (kk : WR G X Q P (pc + 1) lv (.int (x ^^^ y) :: st)) : WR G X Q P pc lv (.int y :: .int x :: st) := by
  intro H locs ls hR hS hl
  exact lv_ixor hc.1 hc.2.1 hd (kk H locs ls hR hS hl)
theorem m_ishl (hc : xc G X cc nL own d) {x y : Int32} (hd : decode cc pc = .ok (.ishl, 1)) (kk : WR G X Q P (pc + 1) lv (.int (x <<< (y &&& 31)) :: st)) : WR G X Q P pc lv (.int y :: .int x :: st) := by
  intro H locs ls hR hS hl
  exact lv_ishl hc.1 hc.2.1 hd (kk H locs ls hR hS hl)
theorem m_ishr (hc : xc G X cc nL own d) {x y : Int32} (hd : decode cc pc = .ok (.ishr, 1)) (kk : WR G X Q P (pc + 1) lv (.int (x >>> (y &&& 31)) :: st)) : WR G X Q P pc lv (.int y :: .int x :: st) := by
  intro H locs ls hR hS hl
  exact lv_ishr hc.1 hc.2.1 hd (kk H locs ls hR hS hl)
theorem m_ineg (hc : xc G X cc nL own d) {x : Int32} (hd : decode cc pc = .ok (.ineg, 1)) (kk : WR G X Q P (pc + 1) lv (.int (-x) :: st)) : WR G X Q P pc lv (.int x :: st) := by
  intro H locs ls hR hS hl
  exact lv_ineg hc.1 hc.2.1 hd (kk H locs ls hR hS hl)
/-- the rest of a division, as the machine tells it -/
theorem m_idiv (hc : xc G X cc nL own d) {x y : Int32} (hd : decode cc pc = .ok (.idiv, 1)) (hne : ¬ y = 0) (kk : WR G X Q P (pc + 1) lv (.int (x / y) :: st)) : WR G X Q P pc lv (.int y :: .int x :: st) := by
  intro H locs ls hR hS hl
  exact lv_idiv hc.1 hc.2.1 hd hne (kk H locs ls hR hS hl)
theorem m_irem (hc : xc G X cc nL own d) {x y : Int32} (hd : decode cc pc = .ok (.irem, 1)) (hne : ¬ y = 0) (kk : WR G X Q P (pc + 1) lv (.int (x - x / y * y) :: st)) : WR G X Q P pc lv (.int y :: .int x :: st) := by
  intro H locs ls hR hS hl
  exact lv_irem hc.1 hc.2.1 hd hne (kk H locs ls hR hS hl)
theorem m_land (hc : xc G X cc nL own d) {x y : Int64} (hd : decode cc pc = .ok (.land, 1)) (kk : WR G X Q P (pc + 1) lv (.long (x &&& y) :: st)) : WR G X Q P pc lv (.long y :: .long x :: st) := by
  intro H locs ls hR hS hl
  exact lv_land hc.1 hc.2.1 hd (kk H locs ls hR hS hl)
theorem m_lor (hc : xc G X cc nL own d) {x y : Int64} (hd : decode cc pc = .ok (.lor, 1)) (kk : WR G X Q P (pc + 1) lv (.long (x ||| y) :: st)) : WR G X Q P pc lv (.long y :: .long x :: st) := by
  intro H locs ls hR hS hl
  exact lv_lor hc.1 hc.2.1 hd (kk H locs ls hR hS hl)
theorem m_lshl (hc : xc G X cc nL own d) {x : Int64} {y : Int32} (hd : decode cc pc = .ok (.lshl, 1)) (kk : WR G X Q P (pc + 1) lv (.long (x <<< (y.toInt64 &&& 63)) :: st)) : WR G X Q P pc lv (.int y :: .long x :: st) := by
  intro H locs ls hR hS hl
  exact lv_lshl hc.1 hc.2.1 hd rfl (kk H locs ls hR hS hl)
theorem m_lshr (hc : xc G X cc nL own d) {x : Int64} {y : Int32} (hd : decode cc pc = .ok (.lshr, 1)) (kk : WR G X Q P (pc + 1) lv (.long (x >>> (y.toInt64 &&& 63)) :: st)) : WR G X Q P pc lv (.int y :: .long x :: st) := by
  intro H locs ls hR hS hl
  exact lv_lshr hc.1 hc.2.1 hd rfl (kk H locs ls hR hS hl)
theorem m_lcmp (hc : xc G X cc nL own d) {x y : Int64} (hd : decode cc pc = .ok (.lcmp, 1)) (kk : WR G X Q P (pc + 1) lv (.int (lg_cmp x y) :: st)) : WR G X Q P pc lv (.long y :: .long x :: st) := by
  intro H locs ls hR hS hl
  exact W.lcmp hc.1 hc.2.1 hd (kk H locs ls hR hS hl)
theorem m_i2b (hc : xc G X cc nL own d) {x : Int32} (hd : decode cc pc = .ok (.i2b, 1)) (kk : WR G X Q P (pc + 1) lv (.int (x.toInt8.toInt32) :: st)) : WR G X Q P pc lv (.int x :: st) := by
  intro H locs ls hR hS hl
  exact lv_i2b hc.1 hc.2.1 hd rfl (kk H locs ls hR hS hl)
theorem m_i2s (hc : xc G X cc nL own d) {x : Int32} (hd : decode cc pc = .ok (.i2s, 1)) (kk : WR G X Q P (pc + 1) lv (.int (x.toInt16.toInt32) :: st)) : WR G X Q P pc lv (.int x :: st) := by
  intro H locs ls hR hS hl
  exact lv_i2s hc.1 hc.2.1 hd rfl (kk H locs ls hR hS hl)
theorem m_dup (hc : xc G X cc nL own d) {v : Value} (hd : decode cc pc = .ok (.dup, 1)) (hv : v.category = 1) (kk : WR G X Q P (pc + 1) lv (v :: v :: st)) : WR G X Q P pc lv (v :: st) := by
  intro H locs ls hR hS hl
  exact lv_dup hc.1 hc.2.1 hd hv (kk H locs ls hR hS hl)
theorem m_pop (hc : xc G X cc nL own d) {v : Value} (hd : decode cc pc = .ok (.pop, 1)) (hv : v.category = 1) (kk : WR G X Q P (pc + 1) lv (st)) : WR G X Q P pc lv (v :: st) := by
  intro H locs ls hR hS hl
  exact lv_pop hc.1 hc.2.1 hd hv (kk H locs ls hR hS hl)
theorem m_dup2 (hc : xc G X cc nL own d) {v w : Value} (hd : decode cc pc = .ok (.dup2, 1)) (hv : v.category = 1) (hw : w.category = 1) (kk : WR G X Q P (pc + 1) lv (v :: w :: v :: w :: st)) : WR G X Q P pc lv (v :: w :: st) := by
  intro H locs ls hR hS hl
  exact lv_dup2_11 hc.1 hc.2.1 hd hv hw (kk H locs ls hR hS hl)
theorem m_goto (hc : xc G X cc nL own d) {off : Int} {tgt : Nat} (hd : decode cc pc = .ok (.goto off, 3)) (ht : (pc : Int) + off = (tgt : Int)) (kk : WR G X Q P (tgt) lv (st)) : WR G X Q P pc lv (st) := by
  intro H locs ls hR hS hl
  exact lv_goto hc.1 hc.2.1 hd ht (kk H locs ls hR hS hl)
theorem m_ifeq (hc : xc G X cc nL own d) {x : Int32} {off : Int} {tgt : Nat} (hd : decode cc pc = .ok (.ifCond .eq off, 3)) (ht : (pc : Int) + off = (tgt : Int)) (kt : x = 0 → WR G X Q P tgt lv st) (kf : ¬ x = 0 → WR G X Q P (pc + 3) lv st) : WR G X Q P pc lv (.int x :: st) := by
  intro H locs ls hR hS hl
  exact lv_if_eq hc.1 hc.2.1 hd ht (fun q => kt q H locs ls hR hS hl) (fun q => kf q H locs ls hR hS hl)
theorem m_iceq (hc : xc G X cc nL own d) {x y : Int32} {off : Int} {tgt : Nat} (hd : decode cc pc = .ok (.if_icmp .eq off, 3)) (ht : (pc : Int) + off = (tgt : Int)) (kt : x = y → WR G X Q P tgt lv st) (kf : ¬ x = y → WR G X Q P (pc + 3) lv st) : WR G X Q P pc lv (.int y :: .int x :: st) := by
  intro H locs ls hR hS hl
  exact lv_icmp_eq hc.1 hc.2.1 hd ht (fun q => kt q H locs ls hR hS hl) (fun q => kf q H locs ls hR hS hl)
theorem m_ifne (hc : xc G X cc nL own d) {x : Int32} {off : Int} {tgt : Nat} (hd : decode cc pc = .ok (.ifCond .ne off, 3)) (ht : (pc : Int) + off = (tgt : Int)) (kt : ¬ x = 0 → WR G X Q P tgt lv st) (kf : x = 0 → WR G X Q P (pc + 3) lv st) : WR G X Q P pc lv (.int x :: st) := by
  intro H locs ls hR hS hl
  exact lv_if_ne hc.1 hc.2.1 hd ht (fun q => kt q H locs ls hR hS hl) (fun q => kf q H locs ls hR hS hl)
theorem m_icne (hc : xc G X cc nL own d) {x y : Int32} {off : Int} {tgt : Nat} (hd : decode cc pc = .ok (.if_icmp .ne off, 3)) (ht : (pc : Int) + off = (tgt : Int)) (kt : ¬ x = y → WR G X Q P tgt lv st) (kf : x = y → WR G X Q P (pc + 3) lv st) : WR G X Q P pc lv (.int y :: .int x :: st) := by
  intro H locs ls hR hS hl
  exact lv_icmp_ne hc.1 hc.2.1 hd ht (fun q => kt q H locs ls hR hS hl) (fun q => kf q H locs ls hR hS hl)
theorem m_iflt (hc : xc G X cc nL own d) {x : Int32} {off : Int} {tgt : Nat} (hd : decode cc pc = .ok (.ifCond .lt off, 3)) (ht : (pc : Int) + off = (tgt : Int)) (kt : x < 0 → WR G X Q P tgt lv st) (kf : ¬ x < 0 → WR G X Q P (pc + 3) lv st) : WR G X Q P pc lv (.int x :: st) := by
  intro H locs ls hR hS hl
  exact lv_if_lt hc.1 hc.2.1 hd ht (fun q => kt q H locs ls hR hS hl) (fun q => kf q H locs ls hR hS hl)
theorem m_iclt (hc : xc G X cc nL own d) {x y : Int32} {off : Int} {tgt : Nat} (hd : decode cc pc = .ok (.if_icmp .lt off, 3)) (ht : (pc : Int) + off = (tgt : Int)) (kt : x < y → WR G X Q P tgt lv st) (kf : ¬ x < y → WR G X Q P (pc + 3) lv st) : WR G X Q P pc lv (.int y :: .int x :: st) := by
  intro H locs ls hR hS hl
  exact lv_icmp_lt hc.1 hc.2.1 hd ht (fun q => kt q H locs ls hR hS hl) (fun q => kf q H locs ls hR hS hl)
theorem m_ifge (hc : xc G X cc nL own d) {x : Int32} {off : Int} {tgt : Nat} (hd : decode cc pc = .ok (.ifCond .ge off, 3)) (ht : (pc : Int) + off = (tgt : Int)) (kt : 0 ≤ x → WR G X Q P tgt lv st) (kf : ¬ 0 ≤ x → WR G X Q P (pc + 3) lv st) : WR G X Q P pc lv (.int x :: st) := by
  intro H locs ls hR hS hl
  exact lv_if_ge hc.1 hc.2.1 hd ht (fun q => kt q H locs ls hR hS hl) (fun q => kf q H locs ls hR hS hl)
theorem m_icge (hc : xc G X cc nL own d) {x y : Int32} {off : Int} {tgt : Nat} (hd : decode cc pc = .ok (.if_icmp .ge off, 3)) (ht : (pc : Int) + off = (tgt : Int)) (kt : y ≤ x → WR G X Q P tgt lv st) (kf : ¬ y ≤ x → WR G X Q P (pc + 3) lv st) : WR G X Q P pc lv (.int y :: .int x :: st) := by
  intro H locs ls hR hS hl
  exact lv_icmp_ge hc.1 hc.2.1 hd ht (fun q => kt q H locs ls hR hS hl) (fun q => kf q H locs ls hR hS hl)
theorem m_ifgt (hc : xc G X cc nL own d) {x : Int32} {off : Int} {tgt : Nat} (hd : decode cc pc = .ok (.ifCond .gt off, 3)) (ht : (pc : Int) + off = (tgt : Int)) (kt : 0 < x → WR G X Q P tgt lv st) (kf : ¬ 0 < x → WR G X Q P (pc + 3) lv st) : WR G X Q P pc lv (.int x :: st) := by
  intro H locs ls hR hS hl
  exact lv_if_gt hc.1 hc.2.1 hd ht (fun q => kt q H locs ls hR hS hl) (fun q => kf q H locs ls hR hS hl)
theorem m_icgt (hc : xc G X cc nL own d) {x y : Int32} {off : Int} {tgt : Nat} (hd : decode cc pc = .ok (.if_icmp .gt off, 3)) (ht : (pc : Int) + off = (tgt : Int)) (kt : y < x → WR G X Q P tgt lv st) (kf : ¬ y < x → WR G X Q P (pc + 3) lv st) : WR G X Q P pc lv (.int y :: .int x :: st) := by
  intro H locs ls hR hS hl
  exact lv_icmp_gt hc.1 hc.2.1 hd ht (fun q => kt q H locs ls hR hS hl) (fun q => kf q H locs ls hR hS hl)
theorem m_ifle (hc : xc G X cc nL own d) {x : Int32} {off : Int} {tgt : Nat} (hd : decode cc pc = .ok (.ifCond .le off, 3)) (ht : (pc : Int) + off = (tgt : Int)) (kt : x ≤ 0 → WR G X Q P tgt lv st) (kf : ¬ x ≤ 0 → WR G X Q P (pc + 3) lv st) : WR G X Q P pc lv (.int x :: st) := by
  intro H locs ls hR hS hl
  exact lv_if_le hc.1 hc.2.1 hd ht (fun q => kt q H locs ls hR hS hl) (fun q => kf q H locs ls hR hS hl)
theorem m_icle (hc : xc G X cc nL own d) {x y : Int32} {off : Int} {tgt : Nat} (hd : decode cc pc = .ok (.if_icmp .le off, 3)) (ht : (pc : Int) + off = (tgt : Int)) (kt : x ≤ y → WR G X Q P tgt lv st) (kf : ¬ x ≤ y → WR G X Q P (pc + 3) lv st) : WR G X Q P pc lv (.int y :: .int x :: st) := by
  intro H locs ls hR hS hl
  exact lv_icmp_le hc.1 hc.2.1 hd ht (fun q => kt q H locs ls hR hS hl) (fun q => kf q H locs ls hR hS hl)
theorem m_tsOut (hc : xc G X cc nL own d) {dflt lo hi : Int} {offs : Array Int} {len : Nat} {x : Int32} {tgt : Nat} (hd : decode cc pc = .ok (.tableswitch dflt lo hi offs, len)) (h : x.toInt < lo ∨ hi < x.toInt) (ht : (pc : Int) + dflt = (tgt : Int)) (kk : WR G X Q P tgt lv st) : WR G X Q P pc lv (.int x :: st) := by
  intro H locs ls hR hS hl
  exact lv_tableOut hc.1 hc.2.1 hd h ht (kk H locs ls hR hS hl)
theorem m_tsIn (hc : xc G X cc nL own d) {dflt lo hi : Int} {offs : Array Int} {len : Nat} {x : Int32} {off : Int} {tgt : Nat} (hd : decode cc pc = .ok (.tableswitch dflt lo hi offs, len)) (h1 : ¬ x.toInt < lo) (h2 : ¬ hi < x.toInt) (ho : offs[(x.toInt - lo).toNat]? = some off) (ht : (pc : Int) + off = (tgt : Int)) (kk : WR G X Q P tgt lv st) : WR G X Q P pc lv (.int x :: st) := by
  intro H locs ls hR hS hl
  exact lv_tableIn hc.1 hc.2.1 hd h1 h2 ho ht (kk H locs ls hR hS hl)
/-- naming, and forgetting -/
theorem m_lv {lv' : List (Option Value)} (hl' : lv'.length = lv.length) (h : ∀ (i : Nat) (v : Value), lv'[i]? = some (some v) → lv[i]? = some (some v)) (kk : WR G X Q P pc lv' st) : WR G X Q P pc lv st := by
  intro H locs ls hR hS hl
  exact kk H locs ls hR hS ⟨by rw [hl']; exact hl.1, hl.2.1, fun i v q => hl.2.2 i v (h i v q)⟩
/-! fields -/
theorem fl_I {k : Nat} {t : List (Option Nat)} {j : Nat} (h : t.getD j none = none) : fl_ G M k t j = .int (M k j) := by
  unfold fl_
  rw [h]
theorem fl_R {k q : Nat} {t : List (Option Nat)} {j : Nat} (h : t.getD j none = some q) : fl_ G M k t j = .ref (gR G q) := by
  unfold fl_
  rw [h]
theorem m_get (hc : xc G X cc nL own d) {a ci n : Nat} {t : List (Option Nat)} (ho : isO a ci n t) {C : String} {T : u_T} (hC : vwCl[ci]? = some (C, T, n)) (hin : ∀ w ∈ u_ws C T n, w ∈ tb) {ix : Nat} (j : Nat) (hj : j < n) (hw : Cond.fieldLink own ix (T j).1 (T j).2.1 (T j).2.2.1 ∈ tb) {v : Value} (hv : fl_ G M a t j = v) (hd : decode cc pc = .ok (.getfield ix, 3)) (kk : WM G X Q M (pc + 3) lv (v :: st)) : WM G X Q M pc lv (.ref (gR G a) :: st) := by
  intro H locs ls hR hS hl
  obtain ⟨hx, hb, hml, hown, hts, hlk, hg, -⟩ := hc
  have he := gW_at (G := G) (M := M) ho.1
  rw [en_O ho] at he
  exact va_get hx hb hts hin hown hg.1 hR a he hC j hj (hts _ hw) (fun _ h => h) (by rw [List.getElem?_map, List.getElem?_range hj, ← hv]; rfl) hd (kk H locs ls hR hS hl)
/-- an int field, a reference's -/
theorem m_getI (hc : xc G X cc nL own d) {a ci n : Nat} {t : List (Option Nat)} (ho : isO a ci n t) {C : String} {T : u_T} (hC : vwCl[ci]? = some (C, T, n)) (hin : ∀ w ∈ u_ws C T n, w ∈ tb) {ix : Nat} (j : Nat) (hj : j < n) (hw : Cond.fieldLink own ix (T j).1 (T j).2.1 (T j).2.2.1 ∈ tb) (ht : t.getD j none = none) (hd : decode cc pc = .ok (.getfield ix, 3)) (kk : WM G X Q M (pc + 3) lv (.int (M a j) :: st)) : WM G X Q M pc lv (.ref (gR G a) :: st) :=
  m_get hc ho hC hin j hj hw (fl_I ht) hd kk
theorem m_getR (hc : xc G X cc nL own d) {a ci n q : Nat} {t : List (Option Nat)} (ho : isO a ci n t) {C : String} {T : u_T} (hC : vwCl[ci]? = some (C, T, n)) (hin : ∀ w ∈ u_ws C T n, w ∈ tb) {ix : Nat} (j : Nat) (hj : j < n) (hw : Cond.fieldLink own ix (T j).1 (T j).2.1 (T j).2.2.1 ∈ tb) (ht : t.getD j none = some q) (hd : decode cc pc = .ok (.getfield ix, 3)) (kk : WM G X Q M (pc + 3) lv (.ref (gR G q) :: st)) : WM G X Q M pc lv (.ref (gR G a) :: st) :=
  m_get hc ho hC hin j hj hw (fl_R ht) hd kk
theorem fl_set {a n : Nat} {t : List (Option Nat)} {j : Nat} {x : Int32} (hj : j < n) (ht : t.getD j none = none) : ((List.range n).map (fl_ G M a t)).set j (.int x) = (List.range n).map (fl_ G (mw M a j x) a t) := by
  apply List.ext_getElem?
  intro i
  by_cases hi : i < n
  · by_cases e : i = j
    · subst e
      rw [List.getElem?_set_self (by simpa using hi), List.getElem?_map, List.getElem?_range hi, Option.map_some, fl_I ht]
      simp [mw, mu_s, upd]
    · rw [List.getElem?_set_ne (Ne.symm e), List.getElem?_map, List.getElem?_map, List.getElem?_range hi]
      simp [fl_, mw, mu_s, upd, e]
  · rw [List.getElem?_eq_none (by simp; omega), List.getElem?_eq_none (by simp; omega)]
theorem m_putI (hc : xc G X cc nL own d) {a ci n : Nat} {t : List (Option Nat)} (ho : isO a ci n t) {C : String} {T : u_T} (hC : vwCl[ci]? = some (C, T, n)) (hin : ∀ w ∈ u_ws C T n, w ∈ tb) (ty0 : Nat → FieldType) (hty : ∀ k, k < n → parseFieldDescriptor (T k).2.2.1 = some (ty0 k)) (hnm : ∀ a, a < n → ∀ b, b < n → a ≠ b → (T a).2.1 ≠ (T b).2.1) {ix : Nat} (j : Nat) (hj : j < n) (hw : Cond.fieldLink own ix (T j).1 (T j).2.1 (T j).2.2.1 ∈ tb) (hfin : (T j).2.2.2 = false) (ht : t.getD j none = none) {x : Int32} (hn : narrow (ty0 j) (.int x) = .int x) (hf : fits (ty0 j) (.int x) = true) (hd : decode cc pc = .ok (.putfield ix, 3)) (kk : WM G X Q (mw M a j x) (pc + 3) lv st) : WM G X Q M pc lv (.int x :: .ref (gR G a) :: st) := by
  intro H locs ls hR hS hl
  obtain ⟨hx, hb, hml, hown, hts, hlk, hg, -⟩ := hc
  have he := gW_at (G := G) (M := M) ho.1
  rw [en_O ho] at he
  refine va_put hx hb hts hin ty0 hty hnm hown hg.1 hR (gD_ok hg) hS a he hC j hj (hts _ hw) (fun _ h => h) hfin (hty j hj) hn hf (by simpa using hj) hd (fun H1 locs1 hP1 hD1 hS1 => ?_)
  rw [fl_set hj ht, ← en_O ho, gW_set (G := G) (M := M) (k := a) (g := upd (M a) j x) (e := en G (mw M a j x) a) rfl] at hP1
  exact kk H1 locs1 ls hP1 hS1 hl
/-! arrays -/
/-- an index within -/
abbrev ib (i : Int32) (n : Nat) : Prop := 0 ≤ i.toInt ∧ i.toInt < n
theorem ib_vp {i : Int32} {n : Nat} (h : ib i n) : vp_in i n := vp_in_iff.mpr h
theorem ib_lt {i : Int32} {n : Nat} (h : ib i n) : i.toNatClampNeg < n := Nat.not_le.mp fun q => ib_vp h (Or.inr q)
theorem m_iald (hc : xc G X cc nL own d) {a n : Nat} (ha : isA a n) {i : Int32} (hi : ib i n) (hd : decode cc pc = .ok (.iaload, 1)) (kk : WM G X Q M (pc + 1) lv (.int (M a i.toNatClampNeg) :: st)) : WM G X Q M pc lv (.int i :: .ref (gR G a) :: st) := by
  intro H locs ls hR hS hl
  have he := gW_at (G := G) (M := M) ha.1
  rw [en_I ha] at he
  exact va_iald hc.1 hc.2.1 hc.2.2.2.2.2.2.1.1 hR a 0 he rfl (ib_vp hi) hd (kk H locs ls hR hS hl)
theorem m_zald (hc : xc G X cc nL own d) {a n : Nat} (ha : isB a n) {i : Int32} (hi : ib i n) (hd : decode cc pc = .ok (.baload, 1)) (kk : WM G X Q M (pc + 1) lv (.int (M a i.toNatClampNeg) :: st)) : WM G X Q M pc lv (.int i :: .ref (gR G a) :: st) := by
  intro H locs ls hR hS hl
  have he := gW_at (G := G) (M := M) ha.1
  rw [en_Z ha] at he
  exact va_zald hc.1 hc.2.1 hc.2.2.2.2.2.2.1.1 hR a 1 he rfl (ib_vp hi) hd (kk H locs ls hR hS hl)
theorem m_iast (hc : xc G X cc nL own d) {a n : Nat} (ha : isA a n) {i x : Int32} (hi : ib i n) (hd : decode cc pc = .ok (.iastore, 1)) (kk : WM G X Q (mw M a i.toNatClampNeg x) (pc + 1) lv st) : WM G X Q M pc lv (.int x :: .int i :: .ref (gR G a) :: st) := by
  intro H locs ls hR hS hl
  have he := gW_at (G := G) (M := M) ha.1
  rw [en_I ha] at he
  refine va_iast hc.1 hc.2.1 hc.2.2.2.2.2.2.1.1 hR (gD_ok hc.2.2.2.2.2.2.1) hS a 0 he rfl (ib_vp hi) hd (fun H1 locs1 hP1 hD1 hS1 => ?_)
  rw [gW_set (g := upd (M a) i.toNatClampNeg x) (by rw [en_I ha, mu_s])] at hP1
  exact kk H1 locs1 ls hP1 hS1 hl
theorem m_zast (hc : xc G X cc nL own d) {a n : Nat} (ha : isB a n) {i x : Int32} (hi : ib i n) (hd : decode cc pc = .ok (.bastore, 1)) (kk : WM G X Q (mw M a i.toNatClampNeg (vp_nar .boolean x)) (pc + 1) lv st) : WM G X Q M pc lv (.int x :: .int i :: .ref (gR G a) :: st) := by
  intro H locs ls hR hS hl
  have he := gW_at (G := G) (M := M) ha.1
  rw [en_Z ha] at he
  refine va_zast hc.1 hc.2.1 hc.2.2.2.2.2.2.1.1 hR (gD_ok hc.2.2.2.2.2.2.1) hS a 1 he rfl (ib_vp hi) hd (fun H1 locs1 hP1 hD1 hS1 => ?_)
  rw [gW_set (g := upd (M a) i.toNatClampNeg (vp_nar .boolean x)) (by rw [en_Z ha, mu_s])] at hP1
  exact kk H1 locs1 ls hP1 hS1 hl
theorem m_alen (hc : xc G X cc nL own d) {a n : Nat} (ha : isA a n) (hd : decode cc pc = .ok (.arraylength, 1)) (kk : WM G X Q M (pc + 1) lv (.int (nI n) :: st)) : WM G X Q M pc lv (.ref (gR G a) :: st) := by
  intro H locs ls hR hS hl
  have he := gW_at (G := G) (M := M) ha.1
  rw [en_I ha] at he
  exact va_alen hc.1 hc.2.1 hc.2.2.2.2.2.2.1.1 hR a 0 he rfl rfl hd (kk H locs ls hR hS hl)
/-- an array of arrays -/
theorem m_jald (hc : xc G X cc nL own d) {a n : Nat} {t : List (Option Nat)} (ha : isJ a n t) {i : Int32} (hi : ib i n) {q : Nat} (hq : t.getD i.toNatClampNeg none = some q) (hd : decode cc pc = .ok (.aaload, 1)) (kk : WM G X Q M (pc + 1) lv (.ref (gR G q) :: st)) : WM G X Q M pc lv (.int i :: .ref (gR G a) :: st) := by
  intro H locs ls hR hS hl
  have he := gW_at (G := G) (M := M) ha.1
  rw [en_J ha] at he
  have hT : (gT G)[2]? = some (G.2.2.2.1.2.2.1, .array .int) := rfl
  have hlt := ib_lt hi
  exact W.aald (v := .ref (gR G q)) (ty := .array .int) hc.1 hc.2.1 (hR a _ he) ((hc.2.2.2.2.2.2.1.1.2 2 _ hT).1 n (fun j => va_rf ((t.getD j none).map (gR G)))) rfl (fun q => by cases q) (by show ¬ (i < 0 ∨ (arrV _ _ _).slots.size ≤ _); rw [arrV_size]; exact ib_vp hi) (by show (arrV _ _ _).slots[_]? = _; rw [arrV_read _ _ hlt]; show some (va_rf ((t.getD i.toNatClampNeg none).map (gR G))) = _; rw [hq]; rfl) rfl rfl hd (kk H locs ls hR hS hl)
/-- the array of parts -/
theorem m_pald (hc : xc G X cc nL own d) {a n : Nat} {t : List (Option Nat)} (ha : isP a n t) {i : Int32} (hi : ib i n) {q : Nat} (hq : t.getD i.toNatClampNeg none = some q) (hd : decode cc pc = .ok (.aaload, 1)) (kk : WM G X Q M (pc + 1) lv (.ref (gR G q) :: st)) : WM G X Q M pc lv (.int i :: .ref (gR G a) :: st) := by
  intro H locs ls hR hS hl
  have he := gW_at (G := G) (M := M) ha.1
  rw [en_P ha] at he
  have hT : (gT G)[3]? = some (G.2.2.2.1.2.2.2, .object RX3) := rfl
  have hlt := ib_lt hi
  exact W.aald (v := .ref (gR G q)) (ty := .object RX3) hc.1 hc.2.1 (hR a _ he) ((hc.2.2.2.2.2.2.1.1.2 3 _ hT).1 n (fun j => va_rf ((t.getD j none).map (gR G)))) rfl (fun q => by cases q) (by show ¬ (i < 0 ∨ (arrV _ _ _).slots.size ≤ _); rw [arrV_size]; exact ib_vp hi) (by show (arrV _ _ _).slots[_]? = _; rw [arrV_read _ _ hlt]; show some (va_rf ((t.getD i.toNatClampNeg none).map (gR G))) = _; rw [hq]; rfl) rfl rfl hd (kk H locs ls hR hS hl)
/-! static arrays -/
theorem m_sget (hc : xc G X cc nL own d) (f : Nat) (hf : f < 10) {ix : Nat} (hw : Cond.fieldLink own ix (sT f).1 (sT f).2.1 "[I" ∈ tb) (hd : decode cc pc = .ok (.getstatic ix, 3)) (kk : WM G X Q M (pc + 3) lv (.ref (gZ G f) :: st)) : WM G X Q M pc lv st := by
  intro H locs ls hR hS hl
  obtain ⟨hx, hb, hml, hown, hts, hlk, hg, -⟩ := hc
  exact va_gets hx hb (hg.2.1 f hf).1 hS hown (hts _ hw) (fun _ h => h) hd (kk H locs ls hR hS hl)
theorem m_sald (hc : xc G X cc nL own d) (f : Nat) (hf : f < 10) {n : Nat} (hn : (sT f).2.2.length = n) {i : Int32} (hi : ib i n) (hd : decode cc pc = .ok (.iaload, 1)) (kk : WM G X Q M (pc + 1) lv (.int (st_ f i.toNatClampNeg) :: st)) : WM G X Q M pc lv (.int i :: .ref (gZ G f) :: st) := by
  intro H locs ls hR hS hl
  subst hn
  exact va_ti hc.1 hc.2.1 (hc.2.2.2.2.2.2.1.2.1 f hf).2 hS (ib_vp hi) rfl hd (kk H locs ls hR hS hl)

/-! copying -/
def cpy (f g : Nat → Int32) (sp dp n : Int32) : Nat → Int32 := va_cpy f g sp.toNatClampNeg dp.toNatClampNeg n.toNatClampNeg
theorem m_acpy (hc : xc G X cc nL own d) (hd1 : 1 ≤ d) {a b na nb : Nat} (ha : isA a na) (hb : isA b nb) {ix : Nat} (hw : Cond.methodLink own ix arraycopyName ∈ tb) (hw1 : Cond.native arraycopyName ∈ tb) (hw2 : Cond.static arraycopyName ∈ tb) (hw3 : Cond.initialized "java/lang/System" ∈ tb) {sp dp n : Int32} (h1 : 0 ≤ sp.toInt) (h2 : 0 ≤ dp.toInt) (h3 : 0 ≤ n.toInt) (h4 : sp.toInt + n.toInt ≤ na) (h5 : dp.toInt + n.toInt ≤ nb) (hlen : lv.length = nL) (hst : (st.map fun v => v.category).sum ≤ 8) (hd : decode cc pc = .ok (.invokestatic ix, 3)) (kk : WM G X Q (mu M b (cpy (M a) (M b) sp dp n)) (pc + 3) lv st) : WM G X Q M pc lv (.int n :: .int dp :: .ref (gR G b) :: .int sp :: .ref (gR G a) :: st) := by
  intro H locs ls hR hS hl
  obtain ⟨hx, hbb, hml, hown, hts, hlk, hg, hr1, hr2, -⟩ := hc
  have he := gW_at (G := G) (M := M) ha.1
  rw [en_I ha] at he
  have he2 := gW_at (G := G) (M := M) hb.1
  rw [en_I hb] at he2
  have nn : ∀ z : Int32, 0 ≤ z.toInt → (z.toNatClampNeg : Int) = z.toInt := fun z hz => by show ((z.toInt.toNat : Nat) : Int) = _; omega
  have nl : ∀ z : Int32, 0 ≤ z.toInt → ¬ z < 0 := fun z hz h => by
    have := Int32.lt_iff_toInt_lt.mp h
    simp at this
    omega
  have e1 := nn sp h1
  have e2 := nn dp h2
  have e3 := nn n h3
  refine va_copyi hx hbb (by rw [hml, ← hlen]; exact hl.1.symm) hown (hts _ hw) (hts _ hw1) (hts _ hw2) (hts _ hw3) hg.1 hR (gD_ok hg) hS a b 0 0 he he2 rfl rfl rfl (nl sp h1) (nl dp h2) (nl n h3) (by omega) (by omega) (fun _ _ => rfl) (Nat.le_trans hd1 hr1) ?_ hd (fun H1 locs1 hP1 hD1 hS1 => ?_)
  · have : nativeFrameWords "java/lang/System" "arraycopy" 5 ≤ 15 := by decide +kernel
    omega
  · rw [gW_set (g := cpy (M a) (M b) sp dp n) (by rw [en_I hb, mu_s]; rfl)] at hP1
    exact kk H1 locs1 ls hP1 hS1 hl
/-! calls -/
theorem gOK_blind {av : List Value} : FrameBlind (va_Pc av (fun U => gOK G U U.heap ∧ Rep G M U.heap)) := fun a U g mk q => by
  obtain ⟨q0, q1, q2⟩ := q
  exact ⟨q0, gOK.moved (u := U) (U := U.calling g mk a) (Vm.Alike.refl U.vm) q1, q2⟩
theorem lw_good : tb.all goodWord = true := List.all_eq_true.mpr (fun _ h => (List.mem_filter.mp h).2)
theorem m_runQ {H : Heap} {locs : List Loc} {ls : Array Slot} {st0 : List Value} {r : Option Value} {N : Mm} {av : Array Value} {l : Launch} {p : Program} {e : Env} {R : Room} {s : State} {m : MethodId} {args : Array Value} {below : List Frame} {meth : Method} {c : Code} {cells slots : Nat}
    (hr : va_Run p l e R s m args below meth c H locs cells slots 0 0 (F0 m pc ls st0) st (qc G r N av) (gA G)) (hS : va_S (gA G) s.heap H locs) (hl : lh ls lv.length lv) (kk : WM G (l, p, e, R, s, m, args, below, meth, c, cells, slots) Q N (pc + 3) lv (r.toList ++ st)) : W p l e R s m args below meth c H locs cells slots Q (F0 m pc ls st0) := by
  intro T hT X
  obtain ⟨v, st₀, t, T', L, h0, X', hL, e1, e2, ⟨hv, hR1, hz, hk⟩, stp⟩ := hr T hT X
  cases hv
  rw [h0] at hz hk
  obtain ⟨t2, a1, b1⟩ := kk T'.heap (locs ++ L) ls (by rw [e1]; exact hR1) ⟨Nat.le_trans hS.1 (by rw [e1]; exact hz), fun q h1 h2 => by rw [e1, hk q (Nat.lt_of_lt_of_le h1 hS.1) h2]; exact hS.2.1 q h1 h2, fun q hq => by
      rcases List.mem_append.mp hq with h | h
      · exact hS.2.2 q h
      · exact hL q h⟩ hl T' rfl X'
  exact ⟨t2, stp t2 a1, b1⟩
theorem m_callS (hc : xc G X cc nL own d) {y : MethodName} {bytes : ByteArray} {maxL n d' : Nat} {ret : Option FieldType} {As : List Value} {r : Option Value} {N : Mm} (hM : Cm G X.1 d' y bytes maxL ret As M r N) {ix : Nat} (hdd : d' + 1 ≤ d) (hmx : maxL ≤ 21) (hw : Cond.methodLink own ix y ∈ tb) (hw1 : Cond.static y ∈ tb) (hw2 : Cond.initialized y.cls ∈ tb) (hw3 : Cond.code y bytes maxL ret ∈ tb) (hy : y.cls ≠ "java/lang/invoke/MethodHandle" ∧ y.cls ≠ "java/lang/invoke/VarHandle" ∧ (parseMethodDescriptor y.desc).map (fun d => d.parameters.length) = some n) (hn : As.length = n) {st0 : List Value} (hst : st0 = As.reverse ++ st) (hlen : lv.length = nL) (hsum : (st.map fun v => v.category).sum ≤ 8) (hd : decode cc pc = .ok (.invokestatic ix, 3)) (kk : WM G X Q N (pc + 3) lv (r.toList ++ st)) : WM G X Q M pc lv st0 := by
  obtain ⟨l, p, e, R, s, m, args, below, meth, c, cells, slots⟩ := X
  intro H locs ls hR hS hl
  obtain ⟨hx, hb, hml, hown, hts, hlk, hg, hr1, hr2, hr3, hr4⟩ := hc
  have hG : GoodIn tb (va_wsS own ix y (Cond.code y bytes maxL ret :: tb)) := fun w hw9 => by
    have hm : w ∈ tb := by
      simp only [va_wsS, List.cons_append, List.nil_append, List.mem_cons] at hw9
      rcases hw9 with rfl | rfl | rfl | rfl | h
      · exact hw
      · exact hw1
      · exact hw2
      · exact hw3
      · exact h
    exact ⟨hm, good_of_word (List.all_eq_true.mp lw_good w hm)⟩
  dsimp only at hr1 hr2 hr3 hr4 hx hb hml hown hts hlk hg hS
  refine m_runQ (va_runS (rest := st) ⟨hx, hb, hml, hown, hts⟩ hM (va_cwS n hts hG rfl rfl rfl hy ⟨by show d' + 1 ≤ R.frames; omega, by show 8 + (maxL + 11) + 40 * d' ≤ R.locals; omega⟩) ⟨gOK_blind, fun U hU hW => ⟨rfl, by rw [hU]; exact (gOK.moved hW.alike hg).kept (fun a h1 h2 => hS.2.1 a h1 h2), by rw [hU]; exact hR⟩⟩ rfl hn (hl.1.trans hlen) hst (lv_room hsum) hd ⟨hr3, hr4⟩) hS hl kk
theorem rep_recv {a ci n : Nat} {t : List (Option Nat)} {C : String} {T : u_T} {H : Heap} {s : State} (hg : gOK G s s.heap) (hR : Rep G M H) (ho : isO a ci n t) (hC : vwCl[ci]? = some (C, T, n)) : ∃ cell : Cell, H[gR G a]? = some cell ∧ cell.vm.isStatics = false ∧ s.vm.findClass C = some cell.cls := by
  have he := gW_at (G := G) (M := M) ho.1
  rw [en_O ho] at he
  exact va_recv hg.1 hR hC he
theorem m_callV (hc : xc G X cc nL own d) {y : MethodName} {bytes : ByteArray} {maxL n d' : Nat} {ret : Option FieldType} {a ci nf : Nat} {t : List (Option Nat)} {T : u_T} (ho : isO a ci nf t) {C : String} (hC : vwCl[ci]? = some (C, T, nf)) {As : List Value} {r : Option Value} {N : Mm} (hM : Cm G X.1 d' y bytes maxL ret (.ref (gR G a) :: As) M r N) {ix : Nat} (hdd : d' + 1 ≤ d) (hmx : maxL ≤ 21) (hw : Cond.methodLink own ix y ∈ tb) (hw1 : Cond.instanceMethod y ∈ tb) (hw2 : Cond.selects C y y ∈ tb) (hw3 : Cond.initialized C ∈ tb) (hw4 : Cond.code y bytes maxL ret ∈ tb) (hy : y.cls = C ∧ y.cls ≠ "java/lang/invoke/MethodHandle" ∧ y.cls ≠ "java/lang/invoke/VarHandle" ∧ (parseMethodDescriptor y.desc).map (fun d => d.parameters.length) = some n) (hn : As.length = n) {st0 : List Value} (hst : st0 = As.reverse ++ .ref (gR G a) :: st) (hlen : lv.length = nL) (hsum : (st.map fun v => v.category).sum ≤ 8) (hd : decode cc pc = .ok (.invokevirtual ix, 3)) (kk : WM G X Q N (pc + 3) lv (r.toList ++ st)) : WM G X Q M pc lv st0 := by
  obtain ⟨l, p, e, R, s, m, args, below, meth, c, cells, slots⟩ := X
  intro H locs ls hR hS hl
  obtain ⟨hx, hb, hml, hown, hts, hlk, hg, hr1, hr2, hr3, hr4⟩ := hc
  have hG : GoodIn tb (wsV own ix C y (Cond.code y bytes maxL ret :: tb)) := fun w hw9 => by
    have hm : w ∈ tb := by
      simp only [wsV, List.cons_append, List.nil_append, List.mem_cons] at hw9
      rcases hw9 with rfl | rfl | rfl | rfl | rfl | h
      · exact hw
      · exact hw1
      · exact hw2
      · exact hw3
      · exact hw4
      · exact h
    exact ⟨hm, good_of_word (List.all_eq_true.mp lw_good w hm)⟩
  dsimp only at hr1 hr2 hr3 hr4 hx hb hml hown hts hlk hg hS
  refine m_runQ (va_runV (As := As) (rest := st) ⟨hx, hb, hml, hown, hts⟩ hM (cwV n hts hG rfl rfl rfl hy ⟨by show d' + 1 ≤ R.frames; omega, by show 8 + (maxL + 11) + 40 * d' ≤ R.locals; omega⟩) ⟨gOK_blind, rep_recv hg hR ho hC, fun U hU hW => ⟨rfl, by rw [hU]; exact (gOK.moved hW.alike hg).kept (fun a h1 h2 => hS.2.1 a h1 h2), by rw [hU]; exact hR⟩⟩ rfl hn (hl.1.trans hlen) hst (lv_room hsum) hd ⟨hr3, hr4⟩) hS hl kk
/-! a method's beginning and end -/
theorem m_iret (hc : xc G X cc nL own d) (hr : (xh X).sig.returnType = some .int) {v : Int32} (hd : decode cc pc = .ok (.ireturn, 1)) : WM G X (qQ G X (some (.int v)) M) M pc lv [.int v] := by
  intro H locs ls hR hS hl
  exact W.iret hc.1 hc.2.1 hr (fun t ht hW => ⟨rfl, by rw [ht]; exact hR, hS.F ht⟩) hS.2.2 hd hc.2.2.2.2.2.1
theorem m_zret (hc : xc G X cc nL own d) (hr : (xh X).sig.returnType = some .boolean) {v : Int32} (hn : narrow .boolean (.int v) = .int v) (hd : decode cc pc = .ok (.ireturn, 1)) : WM G X (qQ G X (some (.int v)) M) M pc lv [.int v] := by
  intro H locs ls hR hS hl
  exact W.zret hc.1 hc.2.1 hr hn (fun t ht hW => ⟨rfl, by rw [ht]; exact hR, hS.F ht⟩) hS.2.2 hd hc.2.2.2.2.2.1
theorem m_vret (hc : xc G X cc nL own d) (hr : (xh X).sig.returnType = none) (hd : decode cc pc = .ok (.return_, 1)) : WM G X (qQ G X none M) M pc lv [] := by
  intro H locs ls hR hS hl
  exact W.vret hc.1 hc.2.1 hr (fun t ht hW => ⟨rfl, by rw [ht]; exact hR, hS.F ht⟩) hS.2.2 hd hc.2.2.2.2.2.1
/-- arguments of one slot each -/
def cat1 (av : List Value) : Bool := av.all (fun v => v.category == 1)
theorem cat1_sl : ∀ (av : List Value), cat1 av = true → lg_sl av = av.map Slot.val
  | [], _ => rfl
  | v :: av, h => by
    have h0 : v.category = 1 ∧ cat1 av = true := by simpa [cat1] using h
    have ih := cat1_sl av h0.2
    show (if v.category = 2 then [Slot.val v, .second] else [Slot.val v]) ++ lg_sl av = _
    rw [if_neg (by omega), ih]
    rfl
theorem cat1_args : ∀ (av : List Value) (k : Nat), cat1 av = true → ∀ (i : Nat) (v : Value), av[i]? = some v → (k + i, v) ∈ lv_args k av
  | [], _, _, i, v, hv => by simp at hv
  | w :: av, k, h, i, v, hv => by
    have h0 : w.category = 1 ∧ cat1 av = true := by simpa [cat1] using h
    have e : lv_args k (w :: av) = (k, w) :: lv_args (k + 1) av := by
      first | (simp [lv_args, h0.1]; done) | (unfold lv_args; simp [h0.1])
    rw [e]
    cases i with
    | zero =>
      rw [List.getElem?_cons_zero] at hv
      cases hv
      exact List.mem_cons_self
    | succ i =>
      rw [List.getElem?_cons_succ] at hv
      have := cat1_args av (k + 1) h0.2 i v hv
      rw [show k + (i + 1) = k + 1 + i by omega]
      exact List.mem_cons_of_mem _ this
theorem m_met {l : Launch} {y : MethodName} {maxL : Nat} {ret : Option FieldType} {av : List Value} {r : Option Value} {N : Mm} (hy : plainName y.cls = true) (ho : y.cls = own) (hav : cat1 av = true) (hal : av.length ≤ maxL) (hlv : av.map some ++ List.replicate (maxL - av.length) none = lv)
    (body : ∀ X : Xm, X.1 = l → xc G X cc maxL own d → (xh X).sig.returnType = ret → WM G X (qQ G X r N) M 0 lv []) : Cm G l d y cc maxL ret av M r N := by
  refine Met.ofW (cc := cc) (maxL := maxL) (ret := ret) hy rfl ?_
  intro p e s m args below meth c s₁ B hml hv
  obtain ⟨rfl, hg, hR⟩ := hv
  have hts := atoms_spec (ws := Cond.code y cc maxL ret :: tb) B.pre
  have hown : s.vm.findClass own = some m.cls := ho ▸ findClass_of_methodNamed B.named
  have hl := lv_entry av (n := maxL) (by rw [cat1_sl av hav]; simpa using hal)
  rw [lg_entry_eq]
  have hlen : lv.length = maxL := by rw [← hlv]; simp; omega
  refine body (l, p, e, (headSpec (Cond.code y cc maxL ret :: tb) ({ frames := d, cells := 0, slots := 0, locals := 40 * d } : Room)).room, s, m, av.toArray, below, meth, c, 0, 0) rfl ⟨B.exec, B.bytes, hml, hown, fun w hw => hts w (List.mem_cons_of_mem _ hw), B.notSynchronized, hg, Nat.le_refl _, Nat.le_refl _, Nat.zero_le _, Nat.zero_le _⟩ B.returns s.heap [] _ hR va_S.rf ⟨?_, hl.2.1, fun i v hv => ?_⟩
  · rw [hlen]; exact hl.1
  · rw [← hlv] at hv
    have hi : av[i]? = some v := by
      by_cases hi : i < av.length
      · rw [List.getElem?_append_left (by simpa using hi), List.getElem?_map] at hv
        cases h1 : av[i]? with
        | none => rw [h1] at hv; simp at hv
        | some w => rw [h1] at hv; simpa using hv
      · rw [List.getElem?_append_right (by simpa using hi)] at hv
        rw [List.getElem?_replicate] at hv
        split at hv <;> simp at hv
    have := cat1_args av 0 hav i v hi
    rw [Nat.zero_add] at this
    exact hl.2.2 (i, v) this
/-! the words of the written-out functions -/
def ck {α : Type} (c : Prop) [Decidable c] (x : Option α) : Option α := if c then x else none
theorem ck_o {α : Type} {c : Prop} [Decidable c] {x : Option α} {r : α} (h : ck c x = some r) : c ∧ x = some r := by
  unfold ck at h
  split at h
  · exact ⟨by assumption, h⟩
  · cases h
def nm {α β : Type} (v : α) (f : α → β) : β := f v
theorem nm_o {α β : Type} {v : α} {f : α → β} {r : β} (h : nm v f = r) : ∃ x, v = x ∧ f x = r := ⟨v, rfl, h⟩
theorem nm_x {α β : Type} {v x : α} {f : α → β} {r : β} (e : x = v) (h : nm v f = r) : f x = r := by subst e; exact h
theorem bd_o {α β : Type} {x : Option α} {f : α → Option β} {r : β} (h : Option.bind x f = some r) : ∃ y, x = some y ∧ f y = some r := by
  cases x with
  | none => cases h
  | some y => exact ⟨y, rfl, h⟩
/-- more turns than any loop has -/
def FU : Nat := 10000
abbrev cpo (sp dp n : Int32) (na nb : Nat) : Prop := 0 ≤ sp.toInt ∧ 0 ≤ dp.toInt ∧ 0 ≤ n.toInt ∧ sp.toInt + n.toInt ≤ na ∧ dp.toInt + n.toInt ≤ nb
theorem m_topI {x : Int32} (k : ∀ y : Int32, y = x → WR G X Q P pc lv (.int y :: st)) : WR G X Q P pc lv (.int x :: st) := k x rfl
theorem m_topL {x : Int64} (k : ∀ y : Int64, y = x → WR G X Q P pc lv (.long y :: st)) : WR G X Q P pc lv (.long x :: st) := k x rfl
theorem m_topM (k : ∀ N : Mm, N = M → WM G X Q N pc lv st) : WM G X Q M pc lv st := k M rfl
def fgl (lv : List (Option Value)) (is : List Nat) : List (Option Value) := is.foldl (fun l i => l.set i none) lv
theorem fgl_len (is : List Nat) : ∀ lv : List (Option Value), (fgl lv is).length = lv.length := by
  induction is with
  | nil => intro lv; rfl
  | cons i is ih => intro lv; show (fgl (lv.set i none) is).length = _; rw [ih]; simp
theorem fgl_get (is : List Nat) : ∀ (lv : List (Option Value)) (j : Nat) (v : Value), (fgl lv is)[j]? = some (some v) → lv[j]? = some (some v) := by
  induction is with
  | nil => intro lv j v h; exact h
  | cons i is ih =>
    intro lv j v h
    have h1 := ih (lv.set i none) j v h
    by_cases e : i = j
    · subst e
      rw [List.getElem?_set_self (by have := (List.getElem?_eq_some_iff.mp h1).1; simpa using this)] at h1
      cases h1
    · rw [List.getElem?_set_ne e] at h1
      exact h1
theorem m_fg (is : List Nat) {lv' : List (Option Value)} (hs : fgl lv is = lv') (kk : WR G X Q P pc lv' st) : WR G X Q P pc lv st := by
  subst hs
  exact m_lv (fgl_len is lv) (fgl_get is lv) kk
theorem m_callSi (hc : xc G X cc nL own d) {y : MethodName} {bytes : ByteArray} {maxL n d' : Nat} {ret : Option FieldType} {As : List Value} {v : Int32} {N : Mm} (hM : Cm G X.1 d' y bytes maxL ret As M (some (.int v)) N) {ix : Nat} (hdd : d' + 1 ≤ d) (hmx : maxL ≤ 21) (hw : Cond.methodLink own ix y ∈ tb) (hw1 : Cond.static y ∈ tb) (hw2 : Cond.initialized y.cls ∈ tb) (hw3 : Cond.code y bytes maxL ret ∈ tb) (hy : y.cls ≠ "java/lang/invoke/MethodHandle" ∧ y.cls ≠ "java/lang/invoke/VarHandle" ∧ (parseMethodDescriptor y.desc).map (fun d => d.parameters.length) = some n) (hn : As.length = n) {st0 : List Value} (hst : st0 = As.reverse ++ st) (hlen : lv.length = nL) (hsum : (st.map fun v => v.category).sum ≤ 8) (hd : decode cc pc = .ok (.invokestatic ix, 3)) (kk : WM G X Q N (pc + 3) lv (.int v :: st)) : WM G X Q M pc lv st0 :=
  m_callS hc hM hdd hmx hw hw1 hw2 hw3 hy hn hst hlen hsum hd kk
theorem m_callSv (hc : xc G X cc nL own d) {y : MethodName} {bytes : ByteArray} {maxL n d' : Nat} {ret : Option FieldType} {As : List Value} {N : Mm} (hM : Cm G X.1 d' y bytes maxL ret As M none N) {ix : Nat} (hdd : d' + 1 ≤ d) (hmx : maxL ≤ 21) (hw : Cond.methodLink own ix y ∈ tb) (hw1 : Cond.static y ∈ tb) (hw2 : Cond.initialized y.cls ∈ tb) (hw3 : Cond.code y bytes maxL ret ∈ tb) (hy : y.cls ≠ "java/lang/invoke/MethodHandle" ∧ y.cls ≠ "java/lang/invoke/VarHandle" ∧ (parseMethodDescriptor y.desc).map (fun d => d.parameters.length) = some n) (hn : As.length = n) {st0 : List Value} (hst : st0 = As.reverse ++ st) (hlen : lv.length = nL) (hsum : (st.map fun v => v.category).sum ≤ 8) (hd : decode cc pc = .ok (.invokestatic ix, 3)) (kk : WM G X Q N (pc + 3) lv st) : WM G X Q M pc lv st0 :=
  m_callS hc hM hdd hmx hw hw1 hw2 hw3 hy hn hst hlen hsum hd kk
theorem m_callVi (hc : xc G X cc nL own d) {y : MethodName} {bytes : ByteArray} {maxL n d' : Nat} {ret : Option FieldType} {a ci nf : Nat} {t : List (Option Nat)} {T : u_T} (ho : isO a ci nf t) {C : String} (hC : vwCl[ci]? = some (C, T, nf)) {As : List Value} {v : Int32} {N : Mm} (hM : Cm G X.1 d' y bytes maxL ret (.ref (gR G a) :: As) M (some (.int v)) N) {ix : Nat} (hdd : d' + 1 ≤ d) (hmx : maxL ≤ 21) (hw : Cond.methodLink own ix y ∈ tb) (hw1 : Cond.instanceMethod y ∈ tb) (hw2 : Cond.selects C y y ∈ tb) (hw3 : Cond.initialized C ∈ tb) (hw4 : Cond.code y bytes maxL ret ∈ tb) (hy : y.cls = C ∧ y.cls ≠ "java/lang/invoke/MethodHandle" ∧ y.cls ≠ "java/lang/invoke/VarHandle" ∧ (parseMethodDescriptor y.desc).map (fun d => d.parameters.length) = some n) (hn : As.length = n) {st0 : List Value} (hst : st0 = As.reverse ++ .ref (gR G a) :: st) (hlen : lv.length = nL) (hsum : (st.map fun v => v.category).sum ≤ 8) (hd : decode cc pc = .ok (.invokevirtual ix, 3)) (kk : WM G X Q N (pc + 3) lv (.int v :: st)) : WM G X Q M pc lv st0 :=
  m_callV hc ho hC hM hdd hmx hw hw1 hw2 hw3 hw4 hy hn hst hlen hsum hd kk
theorem m_callVv (hc : xc G X cc nL own d) {y : MethodName} {bytes : ByteArray} {maxL n d' : Nat} {ret : Option FieldType} {a ci nf : Nat} {t : List (Option Nat)} {T : u_T} (ho : isO a ci nf t) {C : String} (hC : vwCl[ci]? = some (C, T, nf)) {As : List Value} {N : Mm} (hM : Cm G X.1 d' y bytes maxL ret (.ref (gR G a) :: As) M none N) {ix : Nat} (hdd : d' + 1 ≤ d) (hmx : maxL ≤ 21) (hw : Cond.methodLink own ix y ∈ tb) (hw1 : Cond.instanceMethod y ∈ tb) (hw2 : Cond.selects C y y ∈ tb) (hw3 : Cond.initialized C ∈ tb) (hw4 : Cond.code y bytes maxL ret ∈ tb) (hy : y.cls = C ∧ y.cls ≠ "java/lang/invoke/MethodHandle" ∧ y.cls ≠ "java/lang/invoke/VarHandle" ∧ (parseMethodDescriptor y.desc).map (fun d => d.parameters.length) = some n) (hn : As.length = n) {st0 : List Value} (hst : st0 = As.reverse ++ .ref (gR G a) :: st) (hlen : lv.length = nL) (hsum : (st.map fun v => v.category).sum ≤ 8) (hd : decode cc pc = .ok (.invokevirtual ix, 3)) (kk : WM G X Q N (pc + 3) lv st) : WM G X Q M pc lv st0 :=
  m_callV hc ho hC hM hdd hmx hw hw1 hw2 hw3 hw4 hy hn hst hlen hsum hd kk
theorem m_tsK (hc : xc G X cc nL own d) {dflt lo hi : Int} {offs : Array Int} {len : Nat} {x k : Int32} {off : Int} {tgt : Nat} (hx : x = k) (hd : decode cc pc = .ok (.tableswitch dflt lo hi offs, len)) (h1 : ¬ k.toInt < lo) (h2 : ¬ hi < k.toInt) (ho : offs[(k.toInt - lo).toNat]? = some off) (ht : (pc : Int) + off = (tgt : Int)) (kk : WR G X Q P tgt lv st) : WR G X Q P pc lv (.int x :: st) := by
  subst hx
  exact m_tsIn hc hd h1 h2 ho ht kk
theorem m_lsw (hc : xc G X cc nL own d) {dflt : Int} {ps : Array (Int × Int)} {len : Nat} {x : Int32} {off : Int} {tgt : Nat} (hd : decode cc pc = .ok (.lookupswitch dflt ps, len)) (hp : (ps.toList.zip (ps.toList.drop 1)).all (fun (a, next) => a.1 < next.1) = true) (ho : Op.lookupswitch.offset ps.toList dflt x.toInt = off) (ht : (pc : Int) + off = (tgt : Int)) (kk : WR G X Q P tgt lv st) : WR G X Q P pc lv (.int x :: st) := by
  intro H locs ls hR hS hl
  exact lv_lookup hc.1 hc.2.1 hd hp ho ht (kk H locs ls hR hS hl)
def jmin (x y : Int32) : Int32 := if y < x then y else x
def jmax (x y : Int32) : Int32 := if x < y then y else x
def jabs (x : Int32) : Int32 := if 0 ≤ x then x else 0 - x
theorem m_mmin (hc : xc G X cc nL own d) (hd1 : 1 ≤ d) {ix : Nat} (hw : Cond.methodLink own ix Lib.Math.min.name ∈ tb) (hw1 : Cond.static Lib.Math.min.name ∈ tb) (hw2 : Cond.initialized "java/lang/Math" ∈ tb) (hw3 : Cond.code Lib.Math.min.name Lib.Math.min.code 2 (some .int) ∈ tb) {x y : Int32} (hlen : lv.length = nL) (hsum : (st.map fun v => v.category).sum ≤ 8) (hd : decode cc pc = .ok (.invokestatic ix, 3)) (kk : WM G X Q M (pc + 3) lv (.int (jmin x y) :: st)) : WM G X Q M pc lv (.int y :: .int x :: st) := by
  intro H locs ls hR hS hl
  obtain ⟨hx, hb, hml, hown, hts, hlk, hg, hr1, hr2, hr3, hr4⟩ := hc
  exact va_mmin hx hb (by rw [hml, ← hlen]; exact hl.1.symm) hown (hts _ hw) (hts _ hw1) (hts _ hw2) (hts _ hw3) (Nat.le_trans hd1 hr1) (by omega) hr3 hr4 hd (kk H locs ls hR hS hl)
theorem m_mmax (hc : xc G X cc nL own d) (hd1 : 1 ≤ d) {ix : Nat} (hw : Cond.methodLink own ix Lib.Math.max.name ∈ tb) (hw1 : Cond.static Lib.Math.max.name ∈ tb) (hw2 : Cond.initialized "java/lang/Math" ∈ tb) (hw3 : Cond.code Lib.Math.max.name Lib.Math.max.code 2 (some .int) ∈ tb) {x y : Int32} (hlen : lv.length = nL) (hsum : (st.map fun v => v.category).sum ≤ 8) (hd : decode cc pc = .ok (.invokestatic ix, 3)) (kk : WM G X Q M (pc + 3) lv (.int (jmax x y) :: st)) : WM G X Q M pc lv (.int y :: .int x :: st) := by
  intro H locs ls hR hS hl
  obtain ⟨hx, hb, hml, hown, hts, hlk, hg, hr1, hr2, hr3, hr4⟩ := hc
  exact va_mmax hx hb (by rw [hml, ← hlen]; exact hl.1.symm) hown (hts _ hw) (hts _ hw1) (hts _ hw2) (hts _ hw3) (Nat.le_trans hd1 hr1) (by omega) hr3 hr4 hd (kk H locs ls hR hS hl)
theorem m_mabs (hc : xc G X cc nL own d) (hd1 : 1 ≤ d) {ix : Nat} (hw : Cond.methodLink own ix Lib.Math.abs.name ∈ tb) (hw1 : Cond.static Lib.Math.abs.name ∈ tb) (hw2 : Cond.initialized "java/lang/Math" ∈ tb) (hw3 : Cond.code Lib.Math.abs.name Lib.Math.abs.code 1 (some .int) ∈ tb) {x : Int32} (hlen : lv.length = nL) (hsum : (st.map fun v => v.category).sum ≤ 8) (hd : decode cc pc = .ok (.invokestatic ix, 3)) (kk : WM G X Q M (pc + 3) lv (.int (jabs x) :: st)) : WM G X Q M pc lv (.int x :: st) := by
  intro H locs ls hR hS hl
  obtain ⟨hx, hb, hml, hown, hts, hlk, hg, hr1, hr2, hr3, hr4⟩ := hc
  exact va_mabs hx hb (by rw [hml, ← hlen]; exact hl.1.symm) hown (hts _ hw) (hts _ hw1) (hts _ hw2) (hts _ hw3) (Nat.le_trans hd1 hr1) (by omega) hr3 hr4 hd (kk H locs ls hR hS hl)
/-! the law's script -/
theorem m_xald (hc : xc G X cc nL own d) {b L : Nat} {sx : Nat → Int32} (hX : va_X b L sx X.2.2.2.2.1 X.2.2.2.2.1.heap) (hbl : b < X.2.2.2.2.1.heap.size) (hbA : ¬ gA G b) {i : Int32} (hi : ib i L) (hd : decode cc pc = .ok (.iaload, 1)) (kk : WR G X Q P (pc + 1) lv (.int (sx i.toNatClampNeg) :: st)) : WR G X Q P pc lv (.int i :: .ref b :: st) := by
  intro H locs ls hR hS hl
  exact va_sld hc.1 hc.2.1 hX hbl hbA hS (ib_vp hi) hd (kk H locs ls hR hS hl)
theorem m_xlen (hc : xc G X cc nL own d) {b L : Nat} {sx : Nat → Int32} (hX : va_X b L sx X.2.2.2.2.1 X.2.2.2.2.1.heap) (hbl : b < X.2.2.2.2.1.heap.size) (hbA : ¬ gA G b) (hd : decode cc pc = .ok (.arraylength, 1)) (kk : WR G X Q P (pc + 1) lv (.int (nI L) :: st)) : WR G X Q P pc lv (.ref b :: st) := by
  intro H locs ls hR hS hl
  exact va_slen hc.1 hc.2.1 hX hbl hbA hS hd (kk H locs ls hR hS hl)
theorem sw_ne {x k : Int32} {a : Int} (h : ¬ x = k) (hk : k.toInt = a) : ¬ x.toInt = a := lv_neT h hk

end MR
