/-! calls of constructors, and of Arrays.fill, while the heap is still being made -/
def qn (G : Gm) (n : Nat) (op : List (Nat × va_E)) (M : Mm) : Array Value → State → Outcome → State → Prop := fun _ st oc t => oc = .returned none ∧ RN G n op M t.heap ∧ va_F (gA G) st t
def Cn (G : Gm) (l : Launch) (d : Nat) (y : MethodName) (cc : ByteArray) (nL : Nat) (av : List Value) (n : Nat) (op : List (Nat × va_E)) (M : Mm) (n' : Nat) (op' : List (Nat × va_E)) (N : Mm) (mc ms : Nat) : Prop :=
  Met l y (Cond.code y cc nL none :: tb) ({ frames := d, cells := mc, slots := ms, locals := 40 * d } : Room) (va_Pc av (fun U => (gOK G U U.heap ∧ gM G U) ∧ RN G n op M U.heap)) (qn G n' op' N) mc ms (gA G)
def qNQ (G : Gm) (X : Xm) (n : Nat) (op : List (Nat × va_E)) (M : Mm) (mc ms : Nat) : State → Prop := MQ (xb X) (qn G n op M) (xg X) (xs X) mc ms (gA G)
theorem gN_blind {G : Gm} {n : Nat} {op : List (Nat × va_E)} {M : Mm} {av : List Value} : FrameBlind (va_Pc av (fun U => (gOK G U U.heap ∧ gM G U) ∧ RN G n op M U.heap)) := fun a U g mk q => by
  obtain ⟨q0, ⟨q1, q3⟩, q2⟩ := q
  exact ⟨q0, ⟨gOK.moved (u := U) (U := U.calling g mk a) (Vm.Alike.refl U.vm) q1, gM.moved (u := U) (U := U.calling g mk a) (Vm.Alike.refl U.vm) q3⟩, q2⟩
/-- all of X but the cells and slots made so far -/
def x10 (X : Xm) : Launch × Program × Env × Room × State × MethodId × Array Value × List Frame × Method × Code := (X.1, X.2.1, X.2.2.1, X.2.2.2.1, X.2.2.2.2.1, X.2.2.2.2.2.1, X.2.2.2.2.2.2.1, X.2.2.2.2.2.2.2.1, X.2.2.2.2.2.2.2.2.1, X.2.2.2.2.2.2.2.2.2.1)
theorem x10_p {X : Xm} {k n : Nat} : x10 (xp X k n) = x10 X := rfl
section CR
variable {G : Gm} {X : Xm} {Q : State → Prop} {M : Mm} {P : Heap → Prop} {pc nL d n : Nat} {lv : List (Option Value)} {st : List Value} {cc : ByteArray} {own : String} {op : List (Nat × va_E)}
theorem n_runQ {H : Heap} {locs : List Loc} {ls : Array Slot} {st0 : List Value} {n' : Nat} {op' : List (Nat × va_E)} {N : Mm} {av : Array Value} {l : Launch} {p : Program} {e : Env} {R : Room} {s : State} {m : MethodId} {args : Array Value} {below : List Frame} {meth : Method} {c : Code} {cells slots mc ms : Nat}
    (hr : va_Run p l e R s m args below meth c H locs cells slots mc ms (F0 m pc ls st0) st (qn G n' op' N av) (gA G)) (hS : va_S (gA G) s.heap H locs) (hl : lh ls lv.length lv) (kk : WR G (l, p, e, R, s, m, args, below, meth, c, cells + mc, slots + ms) Q (RN G n' op' N) (pc + 3) lv st) : W p l e R s m args below meth c H locs cells slots Q (F0 m pc ls st0) := by
  intro T hT X
  obtain ⟨v, st₀, t, T', L, h0, X', hL, e1, e2, ⟨hv, hR1, hz, hk⟩, stp⟩ := hr T hT X
  cases hv
  rw [h0] at hz hk
  obtain ⟨t2, a1, b1⟩ := kk T'.heap (locs ++ L) ls (by rw [e1]; exact hR1) ⟨Nat.le_trans hS.1 (by rw [e1]; exact hz), fun q h1 h2 => by rw [e1, hk q (Nat.lt_of_lt_of_le h1 hS.1) h2]; exact hS.2.1 q h1 h2, fun q hq => by
      rcases List.mem_append.mp hq with h | h
      · exact hS.2.2 q h
      · exact hL q h⟩ hl T' rfl X'
  exact ⟨t2, stp t2 a1, b1⟩
theorem n_good {ws : List Cond} (h : ∀ w ∈ ws, w ∈ tb) : GoodIn tb ws := fun w hw => ⟨h w hw, good_of_word (List.all_eq_true.mp lw_good w (h w hw))⟩
theorem n_init (hc : xc G X cc nL own d) (hgm : gM G (xs X)) {y : MethodName} {bytes : ByteArray} {maxL k d' a n' mc ms : Nat} {op' : List (Nat × va_E)} {As : List Value} {N : Mm} (hM : Cn G X.1 d' y bytes maxL (.ref (gR G a) :: As) n op M n' op' N mc ms) {ix : Nat} (hdd : d' + 1 ≤ d) (hmx : maxL ≤ 21) (hw : Cond.methodLink own ix y ∈ tb) (hw1 : Cond.instanceMethod y ∈ tb) (hw2 : Cond.initialized y.cls ∈ tb) (hw3 : Cond.code y bytes maxL none ∈ tb) (hy1 : y.name = "<init>") (hy : y.cls ≠ "java/lang/invoke/MethodHandle" ∧ y.cls ≠ "java/lang/invoke/VarHandle" ∧ (parseMethodDescriptor y.desc).map (fun d => d.parameters.length) = some k) (hn : As.length = k) {st0 : List Value} (hst : st0 = As.reverse ++ .ref (gR G a) :: st) (hlen : lv.length = nL) (hsum : (st.map fun v => v.category).sum ≤ 8) (h1 : xC X + mc ≤ (xR X).cells) (h2 : xS X + ms ≤ (xR X).slots) (hd : decode cc pc = .ok (.invokespecial ix, 3)) (kk : xc G (xp X mc ms) cc nL own d → WR G (xp X mc ms) Q (RN G n' op' N) (pc + 3) lv st) : WR G X Q (RN G n op M) pc lv st0 := by
  have hc' := xc_p hc h1 h2
  obtain ⟨l, p, e, R, s, m, args, below, meth, c, cells, slots⟩ := X
  intro H locs ls hR hS hl
  obtain ⟨hx, hb, hml, hown, hts, hlk, hg, hr1, hr2, hr3, hr4⟩ := hc
  dsimp only at hr1 hr2 hr3 hr4 hx hb hml hown hts hlk hg hS hgm h1 h2
  have hG2 : GoodIn tb (Cond.code y bytes maxL none :: tb) := n_good (fun w h9 => by
    rcases List.mem_cons.mp h9 with rfl | h9
    · exact hw3
    · exact h9)
  exact n_runQ (va_runI (As := As) (rest := st) ⟨hx, hb, hml, hown, hts⟩ hM (cwI k hts hG2 rfl rfl rfl (hts _ hw2) (hts _ hw) (hts _ hw1) hy1 hy ⟨by show d' + 1 ≤ R.frames; omega, by show 8 + (maxL + 11) + 40 * d' ≤ R.locals; omega⟩) ⟨gN_blind, fun U hU hW => ⟨rfl, by rw [hU]; exact ⟨(gOK.moved hW.alike hg).kept (fun a h1 h2 => hS.2.1 a h1 h2), gM.moved hW.alike hgm⟩, by rw [hU]; exact hR⟩⟩ rfl hn (hl.1.trans hlen) hst (lv_room hsum) hd ⟨h1, h2⟩) hS hl (kk hc')
theorem n_callS (hc : xc G X cc nL own d) (hgm : gM G (xs X)) {y : MethodName} {bytes : ByteArray} {maxL k d' n' : Nat} {op' : List (Nat × va_E)} {As : List Value} {N : Mm} (hM : Cn G X.1 d' y bytes maxL As n op M n' op' N 0 0) {ix : Nat} (hdd : d' + 1 ≤ d) (hmx : maxL ≤ 21) (hw : Cond.methodLink own ix y ∈ tb) (hw1 : Cond.static y ∈ tb) (hw2 : Cond.initialized y.cls ∈ tb) (hw3 : Cond.code y bytes maxL none ∈ tb) (hy : y.cls ≠ "java/lang/invoke/MethodHandle" ∧ y.cls ≠ "java/lang/invoke/VarHandle" ∧ (parseMethodDescriptor y.desc).map (fun d => d.parameters.length) = some k) (hn : As.length = k) {st0 : List Value} (hst : st0 = As.reverse ++ st) (hlen : lv.length = nL) (hsum : (st.map fun v => v.category).sum ≤ 8) (hd : decode cc pc = .ok (.invokestatic ix, 3)) (kk : WR G X Q (RN G n' op' N) (pc + 3) lv st) : WR G X Q (RN G n op M) pc lv st0 := by
  obtain ⟨l, p, e, R, s, m, args, below, meth, c, cells, slots⟩ := X
  intro H locs ls hR hS hl
  obtain ⟨hx, hb, hml, hown, hts, hlk, hg, hr1, hr2, hr3, hr4⟩ := hc
  dsimp only at hr1 hr2 hr3 hr4 hx hb hml hown hts hlk hg hS hgm
  have hG2 : GoodIn tb (va_wsS own ix y (Cond.code y bytes maxL none :: tb)) := n_good (fun w h9 => by
    simp only [va_wsS, List.cons_append, List.nil_append, List.mem_cons] at h9
    rcases h9 with rfl | rfl | rfl | rfl | h
    · exact hw
    · exact hw1
    · exact hw2
    · exact hw3
    · exact h)
  exact n_runQ (va_runS (rest := st) ⟨hx, hb, hml, hown, hts⟩ hM (va_cwS k hts hG2 rfl rfl rfl hy ⟨by show d' + 1 ≤ R.frames; omega, by show 8 + (maxL + 11) + 40 * d' ≤ R.locals; omega⟩) ⟨gN_blind, fun U hU hW => ⟨rfl, by rw [hU]; exact ⟨(gOK.moved hW.alike hg).kept (fun a h1 h2 => hS.2.1 a h1 h2), gM.moved hW.alike hgm⟩, by rw [hU]; exact hR⟩⟩ rfl hn (hl.1.trans hlen) hst (lv_room hsum) hd ⟨hr3, hr4⟩) hS hl kk
theorem n_vret (hc : xc G X cc nL own d) (hr : (xh X).sig.returnType = none) {X0 : Xm} {mc ms : Nat} (hX : x10 X = x10 X0) (h1 : xC X ≤ mc) (h2 : xS X ≤ ms) (hd : decode cc pc = .ok (.return_, 1)) : WR G X (qNQ G X0 n op M mc ms) (RN G n op M) pc lv [] := by
  obtain ⟨l, p, e, R, s, m, args, below, meth, c, cells, slots⟩ := X
  obtain ⟨l0, p0, e0, R0, s0, m0, args0, below0, meth0, c0, cells0, slots0⟩ := X0
  simp only [x10, Prod.mk.injEq] at hX
  obtain ⟨rfl, rfl, rfl, rfl, rfl, rfl, rfl, rfl, rfl, rfl⟩ := hX
  intro H locs ls hR hS hl
  refine W.widen (k := mc) (n := ms) h1 h2 ?_
  exact W.vret hc.1 hc.2.1 hr (fun t ht hW => ⟨rfl, by rw [ht]; exact hR, hS.F ht⟩) hS.2.2 hd hc.2.2.2.2.2.1
theorem n_met {l : Launch} {y : MethodName} {maxL n' mc ms : Nat} {op' : List (Nat × va_E)} {av : List Value} {N : Mm} (hy : plainName y.cls = true) (ho : y.cls = own) (hav : cat1 av = true) (hal : av.length ≤ maxL) (hlv : av.map some ++ List.replicate (maxL - av.length) none = lv)
    (body : ∀ X : Xm, X.1 = l → xc G X cc maxL own d → (xh X).sig.returnType = none → (xh X).name = y.name → gM G (xs X) → xC X = 0 → xS X = 0 → (xR X).cells = mc → (xR X).slots = ms → WR G X (qNQ G X n' op' N mc ms) (RN G n op M) 0 lv []) : Cn G l d y cc maxL av n op M n' op' N mc ms := by
  refine Met.ofW (cc := cc) (maxL := maxL) (ret := none) hy rfl ?_
  intro p e s m args below meth c s₁ B hml hv
  obtain ⟨rfl, ⟨hg, hgm⟩, hR⟩ := hv
  have hts := atoms_spec (ws := Cond.code y cc maxL none :: tb) B.pre
  have hown : s.vm.findClass own = some m.cls := ho ▸ findClass_of_methodNamed B.named
  have hl := lv_entry av (n := maxL) (by rw [cat1_sl av hav]; simpa using hal)
  rw [lg_entry_eq]
  have hlen : lv.length = maxL := by rw [← hlv]; simp; omega
  refine body (l, p, e, (headSpec (Cond.code y cc maxL none :: tb) ({ frames := d, cells := mc, slots := ms, locals := 40 * d } : Room)).room, s, m, av.toArray, below, meth, c, 0, 0) rfl ⟨B.exec, B.bytes, hml, hown, fun w hw => hts w (List.mem_cons_of_mem _ hw), B.notSynchronized, hg, Nat.le_refl _, Nat.le_refl _, Nat.zero_le _, Nat.zero_le _⟩ B.returns (name_of_methodNamed B.named B.method).1 hgm rfl rfl rfl rfl s.heap [] _ hR va_S.rf ⟨?_, hl.2.1, fun i v hv => ?_⟩
  · rw [hlen]; exact hl.1
  · rw [← hlv] at hv
    have hi : av[i]? = some v := by
      by_cases hi : i < av.length
      · rw [List.getElem?_append_left (by simpa using hi), List.getElem?_map] at hv
        cases h1 : av[i]? with
        | none => rw [h1] at hv; simp at hv
        | some w => rw [h1] at hv; simpa using hv
      · rw [List.getElem?_append_right (by simpa using hi)] at hv
        rw [List.getElem?_replicate] at hv
        split at hv <;> simp at hv
    have := cat1_args av 0 hav i v hi
    rw [Nat.zero_add] at this
    exact hl.2.2 (i, v) this
theorem arrV_congr {c : ClassId} {N : Nat} {f g : Nat → Value} (h : ∀ j, j < N → f j = g j) : arrV c N f = arrV c N g := by
  unfold arrV
  congr 1
  apply Array.ext
  · simp
  · intro i h1 h2
    simp at h1
    simp [h i h1]
theorem RN_multi {H H1 : Heap} {N K : Nat} {t : List (Option Nat)} (hG : gB G) (hr : RN G n op M H) (hj : isJ n N t) (ht : ∀ j, j < N → t.getD j none = some (n + 1 + j)) (hA : ∀ j, j < N → isA (n + 1 + j) K) (hz : ∀ j, j < N → M (n + 1 + j) = fun _ => 0) (hk : kb op n) (z1 : H1.size = H.size + 1 + N) (e1 : H1[H.size]? = some (mo G.2.2.2.1.2.2.1 N H.size N)) (o1 : ∀ q, q < H.size → H1[q]? = H[q]?) (i1 : ∀ j, j < N → H1[H.size + 1 + j]? = some (mi G.2.2.2.1.1 K)) : RN G (n + 1 + N) op M H1 := by
  refine ⟨by rw [z1, hr.1]; omega, fun k q hq => ?_⟩
  obtain ⟨hkn, rfl⟩ := nW_inv hq
  by_cases h1 : k < n
  · have h9 := hr.2 k _ (nW_at h1)
    exact h9.kept (o1 _ h9.lt)
  · by_cases h2 : k = n
    · subst h2
      rw [oE_kb hk (Nat.le_refl _), en_J hj]
      show H1[gR G k]? = some (vp_cell _ _)
      rw [hG k, ← hr.1, e1, vp_cell_q]
      unfold mo
      rw [arrV_congr (g := fun j => va_rf ((t.getD j none).map (gR G)))]
      intro j hj2
      have e9 := hr.1
      have e8 : H.size + 1 + j = gR G (k + 1 + j) := by rw [hG (k + 1 + j)]; omega
      rw [if_pos hj2, ht j hj2, Option.map_some, e8]
      rfl
    · obtain ⟨j, rfl⟩ : ∃ j, k = n + 1 + j := ⟨k - (n + 1), by omega⟩
      have hj2 : j < N := by omega
      rw [oE_kb hk (by omega), en_I (hA j hj2), hz j hj2]
      show H1[gR G (n + 1 + j)]? = some (vp_cell _ _)
      rw [hG (n + 1 + j), show G.2.2.2.2 + (n + 1 + j) = H.size + 1 + j by rw [hr.1]; omega, i1 j hj2]
      rfl
theorem n_mna (hc : xc G X cc nL own d) (hG : gB G) (hgm : gM G (xs X)) {N K : Nat} {t : List (Option Nat)} (hj : isJ n N t) (ht : ∀ j, j < N → t.getD j none = some (n + 1 + j)) (hA : ∀ j, j < N → isA (n + 1 + j) K) (hz : ∀ j, j < N → M (n + 1 + j) = fun _ => 0) (hk : kb op n) {i k : Int32} (hn1 : ¬ i < 0) (hn2 : ¬ k < 0) (hN : i.toNatClampNeg = N) (hK : k.toNatClampNeg = K) (hb1 : N * 4 ≤ 536870912) (hb2 : K * 4 ≤ 536870912) {ix : Nat} (hw : Cond.classLink own ix ("[" ++ (FieldType.array .int).toString) ∈ tb) (h1 : xC X + (1 + N) ≤ (xR X).cells) (h2 : xS X + (N + N * K) ≤ (xR X).slots) (hd : decode cc pc = .ok (.multianewarray ix 2, 4))
    (kk : xc G (xp (xp X 1 N) N (N * K)) cc nL own d → WR G (xp (xp X 1 N) N (N * K)) Q (RN G (n + 1 + N) op M) (pc + 4) lv (.ref (gR G n) :: st)) : WR G X Q (RN G n op M) pc lv (.int k :: .int i :: st) := by
  have hc' : xc G (xp (xp X 1 N) N (N * K)) cc nL own d := xc_p (xc_p hc (by omega) (by omega)) (by show xC X + 1 + N ≤ (xR X).cells; omega) (by show xS X + N + N * K ≤ (xR X).slots; omega)
  intro H locs ls hR hS hl
  obtain ⟨hx, hb, hml, hown, hts, hlk, hg, hr1, hr2, hr3, hr4⟩ := hc
  subst hN
  subst hK
  obtain ⟨-, kJ, hkJ, hkindJ⟩ := hgm
  have hfJ : X.2.2.2.2.1.vm.findClass ("[" ++ (FieldType.array .int).toString) = some G.2.2.2.1.2.2.1 := (hg.1.2 2 (G.2.2.2.1.2.2.1, .array .int) rfl).2
  obtain ⟨-, kI, hkI, c0, hkindI⟩ := (hg.1.2 0 (G.2.2.2.1.1, .int) rfl).1 0 (fun _ => .int 0)
  have hsz : H.size = gR G n := by rw [hG n]; exact hR.1
  refine mn_W hx hb hown (hts _ hw) hfJ hkJ hkindJ hkI hkindI hd hn1 hn2 hb1 hb2 h1 h2 (fun H1 z1 e1 o1 i1 hle => ?_)
  have hk2 := kk hc' H1 (locs ++ (List.range i.toNatClampNeg).map fun j => ⟨H.size, j⟩) ls (RN_multi hG hR hj ht hA hz hk z1 e1 o1 i1) ⟨by show X.2.2.2.2.1.heap.size ≤ H1.size; rw [z1]; have := hS.1; omega, fun q g1 g2 => (o1 q (Nat.lt_of_lt_of_le g1 hS.1)).trans (hS.2.1 q g1 g2), fun q hq => by
    rcases List.mem_append.mp hq with h | h
    · exact hS.2.2 q h
    · obtain ⟨j, -, rfl⟩ := List.mem_map.mp h
      show G.2.2.2.2 ≤ H.size
      rw [hR.1]
      omega⟩ hl
  rw [← hsz] at hk2
  exact hk2
theorem n_topM (k : ∀ N : Mm, N = M → WR G X Q (RN G n op N) pc lv st) : WR G X Q (RN G n op M) pc lv st := k M rfl
end CR
