/-! THE CLAIM OUT OF ONE WALK OF THE LAW'S BODY. Your part is whole_start (and what it stands on); all else here is the same for every law, but numbers. -/
def R_law : String := "SevenPedalsLaw"
def lw_P (b : Addr) (xs : List Int32) (args : Array Value) (s : State) : Prop := args = #[.ref b] ∧ s.IntsAt b xs ∧ xs.length ≤ 3072 ∧ (Jvm.Cond.and given_1 narrow_1).before args s = true
def lw_Q (_ : Array Value) (s : State) (o : Outcome) (t : State) : Prop := o = .returned (some (.int 1)) ∧ Framed s o t [] 600000 7302250
def lw_Z (below : List Frame) (a : Array Value) (s : State) : State → Prop := fun t => ∃ o, t.status = .running ∧ Ended t below o ∧ lw_Q a s o t
/-- the law's own end, with 1 on the stack, nothing written that was there before, its room as the claim has it -/
theorem lw_ret {p : Program} {l : Launch} {e : Env} {s : State} {m : MethodId} {below : List Frame} {meth : Method} {c : Code} {b : Nat} (hx : p.tables.exec = Jvm.exec) (hb : c.code = code) (hr : meth.sig.returnType = ret) (hlocks : meth.locks = false) {pc : Nat} {H : Heap} {ls : Array Slot} (hdg : decode code pc = .ok (.ireturn, 1)) : W p l e room_1 s m #[Value.ref b] below meth c H [] 600000 7302250 (lw_Z below #[Value.ref b] s) (F0 m pc ls [.int 1]) := by
  intro T hT X
  obtain ⟨fs, hret, hrun, hended, hW, hframe⟩ := X.leave (v := some (.int 1)) (hlocks := hlocks) (fun h => by rw [hr] at h; cases h)
  have hmeth' : T.vm.method? m = some meth := X.method'
  refine ⟨T.setFrames fs, ?_, .returned (some (.int 1)), hrun, hended, rfl, ⟨_, rfl⟩, hW, hframe⟩
  jvm_step X.here [X.here.top, hx, hb, hdg, hmeth', hr, ret, narrow_b1]
  (try refine ⟨rfl, ?_⟩); (try refine ⟨rfl, ?_⟩)
  first | (intro acts; rw [hret _ acts rfl rfl rfl]) | rw [hret _ _ rfl rfl rfl]
  exact Steps.refl _
/-- what holds at the law's entry: the machine, the code, the tables' words (any of lw_tbl by 'hts w (by decide +kernel)'), the script of L ints xs at the cell b, what the Statement gives of the start (any of its parts by flat_of_before) -/
def lw_At (p : Program) (s : State) (m : MethodId) (meth : Method) (c : Code) (b L : Nat) (xs : Nat → Int32) : Prop :=
  p.tables.exec = Jvm.exec ∧ c.code = code ∧ meth.sig.returnType = ret ∧ c.maxLocals = 4 ∧ s.vm.findClass R_law = some m.cls ∧ (∀ w ∈ lw_tbl, w.before #[Value.ref b] s = true) ∧ va_X b L xs s s.heap ∧ b < s.heap.size ∧ meth.locks = false ∧ (Jvm.Cond.and given_1 narrow_1).before #[Value.ref b] s = true
theorem sz_0 {args : Array Value} {s : State} {A : Nat → Prop} (hs : ∀ c ∈ flatC (Jvm.Cond.and given_1 narrow_1), c.before args s = true) (hts : ∀ w ∈ lw_tbl, w.before args s = true) (hA : ∀ a : Nat, a < s.heap.size → ¬ A a) : ∃ z : Nat, va_Z (sT 0).1 (sT 0).2.1 "[I" (.ref z) A s s.heap ∧ va_T .int z (sT 0).2.2.length (fun j => .int (st_ 0 j)) A s s.heap := by
  obtain ⟨z, h1, h2⟩ := va_Tof (tm := (.static "SevenPedals" "KIND_ABOVE" "[I")) (ty := .int) (N := 4) (f := fun j => .int (st_ 0 j)) (A := A) (by decide) (hs _ (by decide +kernel)) (va_eqt (hs (.eq (.length (.static "SevenPedals" "KIND_ABOVE" "[I")) (.int 4)) (by decide +kernel))) (fun j hj => by
    have e : j = 0 ∨ j = 1 ∨ j = 2 ∨ j = 3 := by omega
    rcases e with rfl | rfl | rfl | rfl
    · exact va_eqt (hs (.eq (.elem (.static "SevenPedals" "KIND_ABOVE" "[I") (.int 0)) (.int (-1))) (by decide +kernel))
    · exact va_eqt (hs (.eq (.elem (.static "SevenPedals" "KIND_ABOVE" "[I") (.int 1)) (.int 0)) (by decide +kernel))
    · exact va_eqt (hs (.eq (.elem (.static "SevenPedals" "KIND_ABOVE" "[I") (.int 2)) (.int 0)) (by decide +kernel))
    · exact va_eqt (hs (.eq (.elem (.static "SevenPedals" "KIND_ABOVE" "[I") (.int 3)) (.int 1)) (by decide +kernel))) hA
  exact ⟨z, va_Zof (hts (.laysStatic "SevenPedals" "KIND_ABOVE" "[I") (by decide +kernel)) (hts (.initialized "SevenPedals") (by decide +kernel)) h1 hA, h2⟩
theorem sz_1 {args : Array Value} {s : State} {A : Nat → Prop} (hs : ∀ c ∈ flatC (Jvm.Cond.and given_1 narrow_1), c.before args s = true) (hts : ∀ w ∈ lw_tbl, w.before args s = true) (hA : ∀ a : Nat, a < s.heap.size → ¬ A a) : ∃ z : Nat, va_Z (sT 1).1 (sT 1).2.1 "[I" (.ref z) A s s.heap ∧ va_T .int z (sT 1).2.2.length (fun j => .int (st_ 1 j)) A s s.heap := by
  obtain ⟨z, h1, h2⟩ := va_Tof (tm := (.static "SevenPedals$Harp" "LETTER_PITCHES" "[I")) (ty := .int) (N := 7) (f := fun j => .int (st_ 1 j)) (A := A) (by decide) (hs _ (by decide +kernel)) (va_eqt (hs (.eq (.length (.static "SevenPedals$Harp" "LETTER_PITCHES" "[I")) (.int 7)) (by decide +kernel))) (fun j hj => by
    have e : j = 0 ∨ j = 1 ∨ j = 2 ∨ j = 3 ∨ j = 4 ∨ j = 5 ∨ j = 6 := by omega
    rcases e with rfl | rfl | rfl | rfl | rfl | rfl | rfl
    · exact va_eqt (hs (.eq (.elem (.static "SevenPedals$Harp" "LETTER_PITCHES" "[I") (.int 0)) (.int 0)) (by decide +kernel))
    · exact va_eqt (hs (.eq (.elem (.static "SevenPedals$Harp" "LETTER_PITCHES" "[I") (.int 1)) (.int 2)) (by decide +kernel))
    · exact va_eqt (hs (.eq (.elem (.static "SevenPedals$Harp" "LETTER_PITCHES" "[I") (.int 2)) (.int 4)) (by decide +kernel))
    · exact va_eqt (hs (.eq (.elem (.static "SevenPedals$Harp" "LETTER_PITCHES" "[I") (.int 3)) (.int 5)) (by decide +kernel))
    · exact va_eqt (hs (.eq (.elem (.static "SevenPedals$Harp" "LETTER_PITCHES" "[I") (.int 4)) (.int 7)) (by decide +kernel))
    · exact va_eqt (hs (.eq (.elem (.static "SevenPedals$Harp" "LETTER_PITCHES" "[I") (.int 5)) (.int 9)) (by decide +kernel))
    · exact va_eqt (hs (.eq (.elem (.static "SevenPedals$Harp" "LETTER_PITCHES" "[I") (.int 6)) (.int 11)) (by decide +kernel))) hA
  exact ⟨z, va_Zof (hts (.laysStatic "SevenPedals$Harp" "LETTER_PITCHES" "[I") (by decide +kernel)) (hts (.initialized "SevenPedals$Harp") (by decide +kernel)) h1 hA, h2⟩
theorem sz_2 {args : Array Value} {s : State} {A : Nat → Prop} (hs : ∀ c ∈ flatC (Jvm.Cond.and given_1 narrow_1), c.before args s = true) (hts : ∀ w ∈ lw_tbl, w.before args s = true) (hA : ∀ a : Nat, a < s.heap.size → ¬ A a) : ∃ z : Nat, va_Z (sT 2).1 (sT 2).2.1 "[I" (.ref z) A s s.heap ∧ va_T .int z (sT 2).2.2.length (fun j => .int (st_ 2 j)) A s s.heap := by
  obtain ⟨z, h1, h2⟩ := va_Tof (tm := (.static "SevenPedals$Chord" "RISES" "[I")) (ty := .int) (N := 4) (f := fun j => .int (st_ 2 j)) (A := A) (by decide) (hs _ (by decide +kernel)) (va_eqt (hs (.eq (.length (.static "SevenPedals$Chord" "RISES" "[I")) (.int 4)) (by decide +kernel))) (fun j hj => by
    have e : j = 0 ∨ j = 1 ∨ j = 2 ∨ j = 3 := by omega
    rcases e with rfl | rfl | rfl | rfl
    · exact va_eqt (hs (.eq (.elem (.static "SevenPedals$Chord" "RISES" "[I") (.int 0)) (.int 0)) (by decide +kernel))
    · exact va_eqt (hs (.eq (.elem (.static "SevenPedals$Chord" "RISES" "[I") (.int 1)) (.int 12)) (by decide +kernel))
    · exact va_eqt (hs (.eq (.elem (.static "SevenPedals$Chord" "RISES" "[I") (.int 2)) (.int 0)) (by decide +kernel))
    · exact va_eqt (hs (.eq (.elem (.static "SevenPedals$Chord" "RISES" "[I") (.int 3)) (.int 19)) (by decide +kernel))) hA
  exact ⟨z, va_Zof (hts (.laysStatic "SevenPedals$Chord" "RISES" "[I") (by decide +kernel)) (hts (.initialized "SevenPedals$Chord") (by decide +kernel)) h1 hA, h2⟩
theorem sz_3 {args : Array Value} {s : State} {A : Nat → Prop} (hs : ∀ c ∈ flatC (Jvm.Cond.and given_1 narrow_1), c.before args s = true) (hts : ∀ w ∈ lw_tbl, w.before args s = true) (hA : ∀ a : Nat, a < s.heap.size → ¬ A a) : ∃ z : Nat, va_Z (sT 3).1 (sT 3).2.1 "[I" (.ref z) A s s.heap ∧ va_T .int z (sT 3).2.2.length (fun j => .int (st_ 3 j)) A s s.heap := by
  obtain ⟨z, h1, h2⟩ := va_Tof (tm := (.static "SevenPedals$Chord" "FINGERS" "[I")) (ty := .int) (N := 4) (f := fun j => .int (st_ 3 j)) (A := A) (by decide) (hs _ (by decide +kernel)) (va_eqt (hs (.eq (.length (.static "SevenPedals$Chord" "FINGERS" "[I")) (.int 4)) (by decide +kernel))) (fun j hj => by
    have e : j = 0 ∨ j = 1 ∨ j = 2 ∨ j = 3 := by omega
    rcases e with rfl | rfl | rfl | rfl
    · exact va_eqt (hs (.eq (.elem (.static "SevenPedals$Chord" "FINGERS" "[I") (.int 0)) (.int 1)) (by decide +kernel))
    · exact va_eqt (hs (.eq (.elem (.static "SevenPedals$Chord" "FINGERS" "[I") (.int 1)) (.int 2)) (by decide +kernel))
    · exact va_eqt (hs (.eq (.elem (.static "SevenPedals$Chord" "FINGERS" "[I") (.int 2)) (.int 1)) (by decide +kernel))
    · exact va_eqt (hs (.eq (.elem (.static "SevenPedals$Chord" "FINGERS" "[I") (.int 3)) (.int 2)) (by decide +kernel))) hA
  exact ⟨z, va_Zof (hts (.laysStatic "SevenPedals$Chord" "FINGERS" "[I") (by decide +kernel)) (hts (.initialized "SevenPedals$Chord") (by decide +kernel)) h1 hA, h2⟩
theorem sz_4 {args : Array Value} {s : State} {A : Nat → Prop} (hs : ∀ c ∈ flatC (Jvm.Cond.and given_1 narrow_1), c.before args s = true) (hts : ∀ w ∈ lw_tbl, w.before args s = true) (hA : ∀ a : Nat, a < s.heap.size → ¬ A a) : ∃ z : Nat, va_Z (sT 4).1 (sT 4).2.1 "[I" (.ref z) A s s.heap ∧ va_T .int z (sT 4).2.2.length (fun j => .int (st_ 4 j)) A s s.heap := by
  obtain ⟨z, h1, h2⟩ := va_Tof (tm := (.static "SevenPedals$Way" "WEIGHTS" "[I")) (ty := .int) (N := 7) (f := fun j => .int (st_ 4 j)) (A := A) (by decide) (hs _ (by decide +kernel)) (va_eqt (hs (.eq (.length (.static "SevenPedals$Way" "WEIGHTS" "[I")) (.int 7)) (by decide +kernel))) (fun j hj => by
    have e : j = 0 ∨ j = 1 ∨ j = 2 ∨ j = 3 ∨ j = 4 ∨ j = 5 ∨ j = 6 := by omega
    rcases e with rfl | rfl | rfl | rfl | rfl | rfl | rfl
    · exact va_eqt (hs (.eq (.elem (.static "SevenPedals$Way" "WEIGHTS" "[I") (.int 0)) (.int 1)) (by decide +kernel))
    · exact va_eqt (hs (.eq (.elem (.static "SevenPedals$Way" "WEIGHTS" "[I") (.int 1)) (.int 3)) (by decide +kernel))
    · exact va_eqt (hs (.eq (.elem (.static "SevenPedals$Way" "WEIGHTS" "[I") (.int 2)) (.int 9)) (by decide +kernel))
    · exact va_eqt (hs (.eq (.elem (.static "SevenPedals$Way" "WEIGHTS" "[I") (.int 3)) (.int 27)) (by decide +kernel))
    · exact va_eqt (hs (.eq (.elem (.static "SevenPedals$Way" "WEIGHTS" "[I") (.int 4)) (.int 81)) (by decide +kernel))
    · exact va_eqt (hs (.eq (.elem (.static "SevenPedals$Way" "WEIGHTS" "[I") (.int 5)) (.int 243)) (by decide +kernel))
    · exact va_eqt (hs (.eq (.elem (.static "SevenPedals$Way" "WEIGHTS" "[I") (.int 6)) (.int 729)) (by decide +kernel))) hA
  exact ⟨z, va_Zof (hts (.laysStatic "SevenPedals$Way" "WEIGHTS" "[I") (by decide +kernel)) (hts (.initialized "SevenPedals$Way") (by decide +kernel)) h1 hA, h2⟩
theorem sz_5 {args : Array Value} {s : State} {A : Nat → Prop} (hs : ∀ c ∈ flatC (Jvm.Cond.and given_1 narrow_1), c.before args s = true) (hts : ∀ w ∈ lw_tbl, w.before args s = true) (hA : ∀ a : Nat, a < s.heap.size → ¬ A a) : ∃ z : Nat, va_Z (sT 5).1 (sT 5).2.1 "[I" (.ref z) A s s.heap ∧ va_T .int z (sT 5).2.2.length (fun j => .int (st_ 5 j)) A s s.heap := by
  obtain ⟨z, h1, h2⟩ := va_Tof (tm := (.static "SevenPedals$Way" "TO_ONE_OTHER" "[I")) (ty := .int) (N := 3) (f := fun j => .int (st_ 5 j)) (A := A) (by decide) (hs _ (by decide +kernel)) (va_eqt (hs (.eq (.length (.static "SevenPedals$Way" "TO_ONE_OTHER" "[I")) (.int 3)) (by decide +kernel))) (fun j hj => by
    have e : j = 0 ∨ j = 1 ∨ j = 2 := by omega
    rcases e with rfl | rfl | rfl
    · exact va_eqt (hs (.eq (.elem (.static "SevenPedals$Way" "TO_ONE_OTHER" "[I") (.int 0)) (.int 1)) (by decide +kernel))
    · exact va_eqt (hs (.eq (.elem (.static "SevenPedals$Way" "TO_ONE_OTHER" "[I") (.int 1)) (.int 1)) (by decide +kernel))
    · exact va_eqt (hs (.eq (.elem (.static "SevenPedals$Way" "TO_ONE_OTHER" "[I") (.int 2)) (.int (-1))) (by decide +kernel))) hA
  exact ⟨z, va_Zof (hts (.laysStatic "SevenPedals$Way" "TO_ONE_OTHER" "[I") (by decide +kernel)) (hts (.initialized "SevenPedals$Way") (by decide +kernel)) h1 hA, h2⟩
theorem sz_6 {args : Array Value} {s : State} {A : Nat → Prop} (hs : ∀ c ∈ flatC (Jvm.Cond.and given_1 narrow_1), c.before args s = true) (hts : ∀ w ∈ lw_tbl, w.before args s = true) (hA : ∀ a : Nat, a < s.heap.size → ¬ A a) : ∃ z : Nat, va_Z (sT 6).1 (sT 6).2.1 "[I" (.ref z) A s s.heap ∧ va_T .int z (sT 6).2.2.length (fun j => .int (st_ 6 j)) A s s.heap := by
  obtain ⟨z, h1, h2⟩ := va_Tof (tm := (.static "SevenPedals$Way" "TO_THE_OTHER" "[I")) (ty := .int) (N := 3) (f := fun j => .int (st_ 6 j)) (A := A) (by decide) (hs _ (by decide +kernel)) (va_eqt (hs (.eq (.length (.static "SevenPedals$Way" "TO_THE_OTHER" "[I")) (.int 3)) (by decide +kernel))) (fun j hj => by
    have e : j = 0 ∨ j = 1 ∨ j = 2 := by omega
    rcases e with rfl | rfl | rfl
    · exact va_eqt (hs (.eq (.elem (.static "SevenPedals$Way" "TO_THE_OTHER" "[I") (.int 0)) (.int 2)) (by decide +kernel))
    · exact va_eqt (hs (.eq (.elem (.static "SevenPedals$Way" "TO_THE_OTHER" "[I") (.int 1)) (.int (-1))) (by decide +kernel))
    · exact va_eqt (hs (.eq (.elem (.static "SevenPedals$Way" "TO_THE_OTHER" "[I") (.int 2)) (.int (-2))) (by decide +kernel))) hA
  exact ⟨z, va_Zof (hts (.laysStatic "SevenPedals$Way" "TO_THE_OTHER" "[I") (by decide +kernel)) (hts (.initialized "SevenPedals$Way") (by decide +kernel)) h1 hA, h2⟩
theorem sz_7 {args : Array Value} {s : State} {A : Nat → Prop} (hs : ∀ c ∈ flatC (Jvm.Cond.and given_1 narrow_1), c.before args s = true) (hts : ∀ w ∈ lw_tbl, w.before args s = true) (hA : ∀ a : Nat, a < s.heap.size → ¬ A a) : ∃ z : Nat, va_Z (sT 7).1 (sT 7).2.1 "[I" (.ref z) A s s.heap ∧ va_T .int z (sT 7).2.2.length (fun j => .int (st_ 7 j)) A s s.heap := by
  obtain ⟨z, h1, h2⟩ := va_Tof (tm := (.static "SevenPedalsModel" "HIGHER" "[I")) (ty := .int) (N := 7) (f := fun j => .int (st_ 7 j)) (A := A) (by decide) (hs _ (by decide +kernel)) (va_eqt (hs (.eq (.length (.static "SevenPedalsModel" "HIGHER" "[I")) (.int 7)) (by decide +kernel))) (fun j hj => by
    have e : j = 0 ∨ j = 1 ∨ j = 2 ∨ j = 3 ∨ j = 4 ∨ j = 5 ∨ j = 6 := by omega
    rcases e with rfl | rfl | rfl | rfl | rfl | rfl | rfl
    · exact va_eqt (hs (.eq (.elem (.static "SevenPedalsModel" "HIGHER" "[I") (.int 0)) (.int 0)) (by decide +kernel))
    · exact va_eqt (hs (.eq (.elem (.static "SevenPedalsModel" "HIGHER" "[I") (.int 1)) (.int 2)) (by decide +kernel))
    · exact va_eqt (hs (.eq (.elem (.static "SevenPedalsModel" "HIGHER" "[I") (.int 2)) (.int 4)) (by decide +kernel))
    · exact va_eqt (hs (.eq (.elem (.static "SevenPedalsModel" "HIGHER" "[I") (.int 3)) (.int 5)) (by decide +kernel))
    · exact va_eqt (hs (.eq (.elem (.static "SevenPedalsModel" "HIGHER" "[I") (.int 4)) (.int 7)) (by decide +kernel))
    · exact va_eqt (hs (.eq (.elem (.static "SevenPedalsModel" "HIGHER" "[I") (.int 5)) (.int 9)) (by decide +kernel))
    · exact va_eqt (hs (.eq (.elem (.static "SevenPedalsModel" "HIGHER" "[I") (.int 6)) (.int 11)) (by decide +kernel))) hA
  exact ⟨z, va_Zof (hts (.laysStatic "SevenPedalsModel" "HIGHER" "[I") (by decide +kernel)) (hts (.initialized "SevenPedalsModel") (by decide +kernel)) h1 hA, h2⟩
theorem sz_8 {args : Array Value} {s : State} {A : Nat → Prop} (hs : ∀ c ∈ flatC (Jvm.Cond.and given_1 narrow_1), c.before args s = true) (hts : ∀ w ∈ lw_tbl, w.before args s = true) (hA : ∀ a : Nat, a < s.heap.size → ¬ A a) : ∃ z : Nat, va_Z (sT 8).1 (sT 8).2.1 "[I" (.ref z) A s s.heap ∧ va_T .int z (sT 8).2.2.length (fun j => .int (st_ 8 j)) A s s.heap := by
  obtain ⟨z, h1, h2⟩ := va_Tof (tm := (.static "SevenPedalsModel" "POWER" "[I")) (ty := .int) (N := 7) (f := fun j => .int (st_ 8 j)) (A := A) (by decide) (hs _ (by decide +kernel)) (va_eqt (hs (.eq (.length (.static "SevenPedalsModel" "POWER" "[I")) (.int 7)) (by decide +kernel))) (fun j hj => by
    have e : j = 0 ∨ j = 1 ∨ j = 2 ∨ j = 3 ∨ j = 4 ∨ j = 5 ∨ j = 6 := by omega
    rcases e with rfl | rfl | rfl | rfl | rfl | rfl | rfl
    · exact va_eqt (hs (.eq (.elem (.static "SevenPedalsModel" "POWER" "[I") (.int 0)) (.int 1)) (by decide +kernel))
    · exact va_eqt (hs (.eq (.elem (.static "SevenPedalsModel" "POWER" "[I") (.int 1)) (.int 3)) (by decide +kernel))
    · exact va_eqt (hs (.eq (.elem (.static "SevenPedalsModel" "POWER" "[I") (.int 2)) (.int 9)) (by decide +kernel))
    · exact va_eqt (hs (.eq (.elem (.static "SevenPedalsModel" "POWER" "[I") (.int 3)) (.int 27)) (by decide +kernel))
    · exact va_eqt (hs (.eq (.elem (.static "SevenPedalsModel" "POWER" "[I") (.int 4)) (.int 81)) (by decide +kernel))
    · exact va_eqt (hs (.eq (.elem (.static "SevenPedalsModel" "POWER" "[I") (.int 5)) (.int 243)) (by decide +kernel))
    · exact va_eqt (hs (.eq (.elem (.static "SevenPedalsModel" "POWER" "[I") (.int 6)) (.int 729)) (by decide +kernel))) hA
  exact ⟨z, va_Zof (hts (.laysStatic "SevenPedalsModel" "POWER" "[I") (by decide +kernel)) (hts (.initialized "SevenPedalsModel") (by decide +kernel)) h1 hA, h2⟩
theorem sz_9 {args : Array Value} {s : State} {A : Nat → Prop} (hs : ∀ c ∈ flatC (Jvm.Cond.and given_1 narrow_1), c.before args s = true) (hts : ∀ w ∈ lw_tbl, w.before args s = true) (hA : ∀ a : Nat, a < s.heap.size → ¬ A a) : ∃ z : Nat, va_Z (sT 9).1 (sT 9).2.1 "[I" (.ref z) A s s.heap ∧ va_T .int z (sT 9).2.2.length (fun j => .int (st_ 9 j)) A s s.heap := by
  obtain ⟨z, h1, h2⟩ := va_Tof (tm := (.static "SevenPedalsModel" "FEET" "[I")) (ty := .int) (N := 7) (f := fun j => .int (st_ 9 j)) (A := A) (by decide) (hs _ (by decide +kernel)) (va_eqt (hs (.eq (.length (.static "SevenPedalsModel" "FEET" "[I")) (.int 7)) (by decide +kernel))) (fun j hj => by
    have e : j = 0 ∨ j = 1 ∨ j = 2 ∨ j = 3 ∨ j = 4 ∨ j = 5 ∨ j = 6 := by omega
    rcases e with rfl | rfl | rfl | rfl | rfl | rfl | rfl
    · exact va_eqt (hs (.eq (.elem (.static "SevenPedalsModel" "FEET" "[I") (.int 0)) (.int 6)) (by decide +kernel))
    · exact va_eqt (hs (.eq (.elem (.static "SevenPedalsModel" "FEET" "[I") (.int 1)) (.int 0)) (by decide +kernel))
    · exact va_eqt (hs (.eq (.elem (.static "SevenPedalsModel" "FEET" "[I") (.int 2)) (.int 1)) (by decide +kernel))
    · exact va_eqt (hs (.eq (.elem (.static "SevenPedalsModel" "FEET" "[I") (.int 3)) (.int 2)) (by decide +kernel))
    · exact va_eqt (hs (.eq (.elem (.static "SevenPedalsModel" "FEET" "[I") (.int 4)) (.int 3)) (by decide +kernel))
    · exact va_eqt (hs (.eq (.elem (.static "SevenPedalsModel" "FEET" "[I") (.int 5)) (.int 4)) (by decide +kernel))
    · exact va_eqt (hs (.eq (.elem (.static "SevenPedalsModel" "FEET" "[I") (.int 6)) (.int 5)) (by decide +kernel))) hA
  exact ⟨z, va_Zof (hts (.laysStatic "SevenPedalsModel" "FEET" "[I") (by decide +kernel)) (hts (.initialized "SevenPedalsModel") (by decide +kernel)) h1 hA, h2⟩
