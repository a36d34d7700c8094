/-! MAKING: the constructors' walk. The first n cells are there; those of `op` are still open (they hold what `op` says), all others hold what M says -/
def oE (G : Gm) (M : Mm) (op : List (Nat × va_E)) (k : Nat) : va_E := match op with
  | [] => en G M k
  | q :: op' => if k = q.1 then q.2 else oE G M op' k
theorem oE_hd {G : Gm} {M : Mm} {op : List (Nat × va_E)} {a : Nat} {e : va_E} : oE G M ((a, e) :: op) a = e := if_pos rfl
theorem oE_tl {G : Gm} {M : Mm} {op : List (Nat × va_E)} {a k : Nat} {e : va_E} (h : k ≠ a) : oE G M ((a, e) :: op) k = oE G M op k := if_neg h
/-- all open cells lie below a -/
def kb (op : List (Nat × va_E)) (a : Nat) : Prop := ∀ q ∈ op, q.1 < a
theorem kb_nil {a : Nat} : kb [] a := fun q h => by cases h
theorem kb_cons {op : List (Nat × va_E)} {a b : Nat} {e : va_E} (h : kb op a) (hb : b < a) : kb ((b, e) :: op) a := fun q hq => by
  rcases List.mem_cons.mp hq with rfl | h1
  · exact hb
  · exact h q h1
theorem kb_mono {op : List (Nat × va_E)} {a b : Nat} (h : kb op a) (hb : a ≤ b) : kb op b := fun q hq => Nat.lt_of_lt_of_le (h q hq) hb
theorem oE_kb {G : Gm} {M : Mm} : ∀ {op : List (Nat × va_E)} {a k : Nat}, kb op a → a ≤ k → oE G M op k = en G M k
  | [], _, _, _, _ => rfl
  | q :: op, a, k, h, hk => by
    have h1 : q.1 < a := h q List.mem_cons_self
    show (if k = q.1 then q.2 else oE G M op k) = _
    rw [if_neg (by omega)]
    exact oE_kb (fun z hz => h z (List.mem_cons_of_mem _ hz)) hk
theorem oE_congr {G : Gm} {M N : Mm} : ∀ {op : List (Nat × va_E)} {k : Nat}, M k = N k → oE G M op k = oE G N op k
  | [], _, h => en_congr h
  | q :: op, k, h => by
    show (if k = q.1 then q.2 else oE G M op k) = if k = q.1 then q.2 else oE G N op k
    rw [oE_congr h]
def nW (G : Gm) (n : Nat) (op : List (Nat × va_E)) (M : Mm) : va_W := (List.range n).map (fun k => (gR G k, oE G M op k))
theorem nW_at {G : Gm} {M : Mm} {op : List (Nat × va_E)} {n k : Nat} (h : k < n) : (nW G n op M)[k]? = some (gR G k, oE G M op k) := by
  unfold nW
  rw [List.getElem?_map, List.getElem?_range h]
  rfl
theorem nW_inv {G : Gm} {M : Mm} {op : List (Nat × va_E)} {n k : Nat} {q : Nat × va_E} (h : (nW G n op M)[k]? = some q) : k < n ∧ q = (gR G k, oE G M op k) := by
  have hk : k < n := by
    have := (List.getElem?_eq_some_iff.mp h).1
    simpa [nW] using this
  rw [nW_at hk] at h
  exact ⟨hk, (Option.some.inj h).symm⟩
theorem nW_eq {G : Gm} {M N : Mm} {op op' : List (Nat × va_E)} {n : Nat} (h : ∀ k, k < n → oE G M op k = oE G N op' k) : nW G n op M = nW G n op' N := by
  unfold nW
  apply List.map_congr_left
  intro k hk
  rw [h k (List.mem_range.mp hk)]
theorem nW_push {G : Gm} {M N : Mm} {op op' : List (Nat × va_E)} {n : Nat} (h : ∀ k, k < n → oE G M op k = oE G N op' k) : nW G (n + 1) op' N = nW G n op M ++ [(gR G n, oE G N op' n)] := by
  rw [nW_eq h]
  unfold nW
  rw [List.range_succ, List.map_append]
  rfl
theorem nW_set {G : Gm} {M N : Mm} {op op' : List (Nat × va_E)} {n k : Nat} {e : va_E} (hk : k < n) (he : oE G N op' k = e) (ho : ∀ j, j < n → j ≠ k → oE G M op j = oE G N op' j) : (nW G n op M).set k (gR G k, e) = nW G n op' N := by
  subst he
  apply List.ext_getElem?
  intro j
  by_cases hj : j < n
  · by_cases e : j = k
    · subst e
      rw [List.getElem?_set_self (by simpa [nW] using hj), nW_at hj]
    · rw [List.getElem?_set_ne (Ne.symm e), nW_at hj, nW_at hj, ho j hj e]
  · rw [List.getElem?_eq_none (by simp [nW]; omega), List.getElem?_eq_none (by simp [nW]; omega)]
def RN (G : Gm) (n : Nat) (op : List (Nat × va_E)) (M : Mm) (H : Heap) : Prop := H.size = G.2.2.2.2 + n ∧ va_P G.2.2.1 vwCl (nW G n op M) H
/-- the cells lie one behind the other -/
def gB (G : Gm) : Prop := ∀ k, gR G k = G.2.2.2.2 + k
theorem nD_ok {G : Gm} {M : Mm} {op : List (Nat × va_E)} {n : Nat} (h : gB G) : va_D (gA G) (nW G n op M) := by
  refine ⟨fun i j p q hi hj hpq => ?_, fun k q hk => ?_⟩
  · obtain ⟨h1, rfl⟩ := nW_inv hi
    obtain ⟨h2, rfl⟩ := nW_inv hj
    have : gR G i = gR G j := hpq
    rw [h i, h j] at this
    omega
  · obtain ⟨h1, rfl⟩ := nW_inv hk
    show G.2.2.2.2 ≤ gR G k
    rw [h k]
    omega
theorem RN_conv {G : Gm} {M N : Mm} {op op' : List (Nat × va_E)} {n : Nat} {H : Heap} (h : ∀ k, k < n → oE G M op k = oE G N op' k) (hr : RN G n op M H) : RN G n op' N H := ⟨hr.1, by rw [← nW_eq h]; exact hr.2⟩
theorem RN_rep {G : Gm} {M : Mm} {H : Heap} (h : RN G 228 [] M H) : Rep G M H := by
  have h2 := h.2
  have e : nW G 228 [] M = gW G M := rfl
  rw [e] at h2
  exact h2
/-- one more cell at the end of the heap -/
theorem RN_push {G : Gm} {M N : Mm} {op op' : List (Nat × va_E)} {n : Nat} {H H1 : Heap} (hG : gB G) (hr : RN G n op M H) (h : ∀ k, k < n → oE G M op k = oE G N op' k) (hz : H1.size = H.size + 1) (ho : ∀ q, q < H.size → H1[q]? = H[q]?) (he : va_at G.2.2.1 vwCl (gR G n, oE G N op' n) H1) : RN G (n + 1) op' N H1 := by
  refine ⟨by rw [hz, hr.1]; omega, ?_⟩
  rw [nW_push h]
  refine va_P.app (hr.2.kept (fun k q hk => ho q.1 ((hr.2 k q hk).lt))) (fun k q hk => ?_)
  have hz : k < 1 := (List.getElem?_eq_some_iff.mp hk).1
  rw [show k = 0 by omega] at hk
  cases hk
  exact he
theorem va_S.grow {A : Nat → Prop} {H0 H H1 : Heap} {locs : List Loc} (hS : va_S A H0 H locs) (hz : H.size ≤ H1.size) (ho : ∀ q, q < H.size → H1[q]? = H[q]?) : va_S A H0 H1 locs :=
  ⟨Nat.le_trans hS.1 hz, fun q h1 h2 => (ho q (Nat.lt_of_lt_of_le h1 hS.1)).trans (hS.2.1 q h1 h2), hS.2.2⟩
/-- X with k more cells and n more slots -/
def xp (X : Xm) (k n : Nat) : Xm := (X.1, X.2.1, X.2.2.1, X.2.2.2.1, X.2.2.2.2.1, X.2.2.2.2.2.1, X.2.2.2.2.2.2.1, X.2.2.2.2.2.2.2.1, X.2.2.2.2.2.2.2.2.1, X.2.2.2.2.2.2.2.2.2.1, X.2.2.2.2.2.2.2.2.2.2.1 + k, X.2.2.2.2.2.2.2.2.2.2.2 + n)
abbrev xC (X : Xm) : Nat := X.2.2.2.2.2.2.2.2.2.2.1
abbrev xS (X : Xm) : Nat := X.2.2.2.2.2.2.2.2.2.2.2
abbrev xR (X : Xm) : Room := X.2.2.2.1
theorem xc_p {G : Gm} {X : Xm} {cc : ByteArray} {nL d k n : Nat} {own : String} (hc : xc G X cc nL own d) (h1 : xC X + k ≤ (xR X).cells) (h2 : xS X + n ≤ (xR X).slots) : xc G (xp X k n) cc nL own d := by
  obtain ⟨a1, a2, a3, a4, a5, a6, a7, a8, a9, -, -⟩ := hc
  exact ⟨a1, a2, a3, a4, a5, a6, a7, a8, a9, h1, h2⟩
section NR
variable {G : Gm} {X : Xm} {Q : State → Prop} {M : Mm} {P : Heap → Prop} {pc nL d n : Nat} {lv : List (Option Value)} {st : List Value} {cc : ByteArray} {own : String} {op : List (Nat × va_E)}
theorem n_conv {N : Mm} {op' : List (Nat × va_E)} (h : ∀ k, k < n → oE G M op k = oE G N op' k) (kk : WR G X Q (RN G n op' N) pc lv st) : WR G X Q (RN G n op M) pc lv st := fun H locs ls hR hS hl => kk H locs ls (RN_conv h hR) hS hl
theorem n_obj (hc : xc G X cc nL own d) (hd1 : 1 ≤ d) {ix a : Nat} (hw : Cond.methodLink own ix Lib.objectInit ∈ tb) (hw1 : Cond.instanceMethod Lib.objectInit ∈ tb) (hw2 : Cond.code Lib.objectInit ⟨#[0xb1]⟩ 1 none ∈ tb) (hlen : lv.length = nL) (hsum : (st.map fun v => v.category).sum ≤ 8) (hd : decode cc pc = .ok (.invokespecial ix, 3)) (kk : WR G X Q P (pc + 3) lv st) : WR G X Q P pc lv (.ref a :: st) := by
  intro H locs ls hR hS hl
  obtain ⟨hx, hb, hml, hown, hts, hlk, hg, hr1, hr2, hr3, hr4⟩ := hc
  exact W.objInit hx hb hown (hts _ hw) (hts _ hw1) (hts _ hw2) rfl (by rw [hml, ← hlen]; exact hl.1) rfl hd (Nat.le_trans hd1 hr1) (by show 2 * 0 + _ + 12 ≤ _; omega) (kk H locs ls hR hS hl)
theorem n_new (hc : xc G X cc nL own d) (hG : gB G) {ci nf : Nat} {C : String} {T : u_T} (hC : vwCl[ci]? = some (C, T, nf)) (hin : ∀ w ∈ u_ws C T nf, w ∈ tb) (ty : Nat → FieldType) (hty : ∀ k, k < nf → parseFieldDescriptor (T k).2.2.1 = some (ty k)) {ix : Nat} (hw : Cond.classLink own ix C ∈ tb) (hw1 : Cond.instantiable C nf ∈ tb) (hw2 : Cond.initialized C ∈ tb) {fs : List Value} (hfs : ∀ j, j < nf → defaultValue (ty j) = vp_V fs j) (h1 : xC X + 1 ≤ (xR X).cells) (h2 : xS X + nf ≤ (xR X).slots) (hd : decode cc pc = .ok (.new ix, 3))
    (kk : xc G (xp X 1 nf) cc nL own d → WR G (xp X 1 nf) Q (RN G (n + 1) ((n, .inr (ci, fs)) :: op) M) (pc + 3) lv (.ref (gR G n) :: st)) : WR G X Q (RN G n op M) pc lv st := by
  have hc' := xc_p hc h1 h2
  intro H locs ls hR hS hl
  obtain ⟨hx, hb, hml, hown, hts, hlk, hg, hr1, hr2, hr3, hr4⟩ := hc
  have hKn := hg.1.1 ci _ hC
  have hsz : H.size = gR G n := by rw [hG n]; exact hR.1
  refine W.newcK hx hb hown (hts _ hw) (hts _ hw1) (hts _ hw2) rfl hd h1 h2 hKn.2.1 hsz fun H1 kC hkC e1 z1 o1 => ?_
  rw [← hsz] at z1 o1
  refine kk hc' H1 locs ls (RN_push hG hR (fun k hk => (oE_tl (Nat.ne_of_lt hk)).symm) z1 o1 ?_) (hS.grow (by omega) o1) hl
  rw [oE_hd]
  exact ⟨_, hC, (u_born ty hts hin hKn hkC e1 hty).to hfs⟩
theorem n_newI (hc : xc G X cc nL own d) (hG : gB G) {len : Nat} (ha : isA n len) (hz : M n = fun _ => 0) (hk : kb op n) {i : Int32} (hn : ¬ i < 0) (hN : i.toNatClampNeg = len) (hb4 : len * 4 ≤ 536870912) (hw : Cond.arrayClass .int ∈ tb) (h1 : xC X + 1 ≤ (xR X).cells) (h2 : xS X + len ≤ (xR X).slots) (hd : decode cc pc = .ok (.newarray .int, 2))
    (kk : xc G (xp X 1 len) cc nL own d → WR G (xp X 1 len) Q (RN G (n + 1) op M) (pc + 2) lv (.ref (gR G n) :: st)) : WR G X Q (RN G n op M) pc lv (.int i :: st) := by
  have hc' := xc_p hc h1 h2
  intro H locs ls hR hS hl
  obtain ⟨hx, hb, hml, hown, hts, hlk, hg, hr1, hr2, hr3, hr4⟩ := hc
  have hsz : H.size = gR G n := by rw [hG n]; exact hR.1
  refine va_newaK (atype := .int) hx hb (hts _ hw) rfl hd rfl hn hN hb4 h1 h2 hsz fun H1 cA e1 z1 o1 hAr hNm => ?_
  rw [← hsz] at z1 o1
  have hcI : cA = G.2.2.2.1.1 := Option.some.inj (hNm.symm.trans (hg.1.2 0 (G.2.2.2.1.1, .int) rfl).2)
  subst hcI
  refine kk hc' H1 locs ls (RN_push hG hR (fun k _ => rfl) z1 o1 ?_) (hS.grow (by omega) o1) hl
  rw [oE_kb hk (Nat.le_refl _), en_I ha, hz]
  exact e1
theorem n_newZ (hc : xc G X cc nL own d) (hG : gB G) {len : Nat} (ha : isB n len) (hz : M n = fun _ => 0) (hk : kb op n) {i : Int32} (hn : ¬ i < 0) (hN : i.toNatClampNeg = len) (hb4 : len * 1 ≤ 536870912) (hw : Cond.arrayClass .boolean ∈ tb) (h1 : xC X + 1 ≤ (xR X).cells) (h2 : xS X + len ≤ (xR X).slots) (hd : decode cc pc = .ok (.newarray .boolean, 2))
    (kk : xc G (xp X 1 len) cc nL own d → WR G (xp X 1 len) Q (RN G (n + 1) op M) (pc + 2) lv (.ref (gR G n) :: st)) : WR G X Q (RN G n op M) pc lv (.int i :: st) := by
  have hc' := xc_p hc h1 h2
  intro H locs ls hR hS hl
  obtain ⟨hx, hb, hml, hown, hts, hlk, hg, hr1, hr2, hr3, hr4⟩ := hc
  have hsz : H.size = gR G n := by rw [hG n]; exact hR.1
  refine va_newaK (atype := .boolean) hx hb (hts _ hw) rfl hd rfl hn hN hb4 h1 h2 hsz fun H1 cA e1 z1 o1 hAr hNm => ?_
  rw [← hsz] at z1 o1
  have hcI : cA = G.2.2.2.1.2.1 := Option.some.inj (hNm.symm.trans (hg.1.2 1 (G.2.2.2.1.2.1, .boolean) rfl).2)
  subst hcI
  refine kk hc' H1 locs ls (RN_push hG hR (fun k _ => rfl) z1 o1 ?_) (hS.grow (by omega) o1) hl
  rw [oE_kb hk (Nat.le_refl _), en_Z ha, hz]
  exact e1
/-- a field of an open object -/
theorem n_get (hc : xc G X cc nL own d) {a ci nf : Nat} {fs : List Value} (ha : a < n) (he : oE G M op a = .inr (ci, fs)) {C : String} {T : u_T} (hC : vwCl[ci]? = some (C, T, nf)) (hin : ∀ w ∈ u_ws C T nf, w ∈ tb) {ix : Nat} (j : Nat) (hj : j < nf) (hw : Cond.fieldLink own ix (T j).1 (T j).2.1 (T j).2.2.1 ∈ tb) {v : Value} (hv : fs[j]? = some v) (hd : decode cc pc = .ok (.getfield ix, 3)) (kk : WR G X Q (RN G n op M) (pc + 3) lv (v :: st)) : WR G X Q (RN G n op M) pc lv (.ref (gR G a) :: st) := by
  intro H locs ls hR hS hl
  obtain ⟨hx, hb, hml, hown, hts, hlk, hg, -⟩ := hc
  have h9 := nW_at (G := G) (M := M) (op := op) ha
  rw [he] at h9
  exact va_get hx hb hts hin hown hg.1 hR.2 a h9 hC j hj (hts _ hw) (fun _ h => h) hv hd (kk H locs ls hR hS hl)
theorem RN_sz {H H1 : Heap} {op' : List (Nat × va_E)} {N : Mm} (hR : RN G n op M H) (hs : H1.size = H.size) (hp : va_P G.2.2.1 vwCl (nW G n op' N) H1) : RN G n op' N H1 := ⟨by rw [hs]; exact hR.1, hp⟩
/-- a field of the innermost open object becomes v -/
theorem n_put (hc : xc G X cc nL own d) (hG : gB G) {a ci nf : Nat} {fs : List Value} (ha : a < n) {C : String} {T : u_T} (hC : vwCl[ci]? = some (C, T, nf)) (hin : ∀ w ∈ u_ws C T nf, w ∈ tb) (ty0 : Nat → FieldType) (hty : ∀ k, k < nf → parseFieldDescriptor (T k).2.2.1 = some (ty0 k)) (hnm : ∀ a, a < nf → ∀ b, b < nf → a ≠ b → (T a).2.1 ≠ (T b).2.1) {ix : Nat} (j : Nat) (hj : j < nf) (hw : Cond.fieldLink own ix (T j).1 (T j).2.1 (T j).2.2.1 ∈ tb) (hfin : (T j).2.2.2 = false) {v : Value} (hn : narrow (ty0 j) v = v) (hf : fits (ty0 j) v = true) (hl : j < fs.length) (hd : decode cc pc = .ok (.putfield ix, 3)) (kk : WR G X Q (RN G n ((a, .inr (ci, fs.set j v)) :: op) M) (pc + 3) lv st) : WR G X Q (RN G n ((a, .inr (ci, fs)) :: op) M) pc lv (v :: .ref (gR G a) :: st) := by
  intro H locs ls hR hS hll
  obtain ⟨hx, hb, hml, hown, hts, hlk, hg, -⟩ := hc
  have h9 := nW_at (G := G) (M := M) (op := (a, .inr (ci, fs)) :: op) ha
  rw [oE_hd] at h9
  have hap := va_apart (own := own) hts hin ty0 hty hnm hg.1 hC
  obtain ⟨r, g1, cell, q1, q2, q3, q4⟩ := hR.2 a _ h9
  have hr : r = (C, T, nf) := Option.some.inj (g1.symm.trans hC)
  subst hr
  obtain ⟨hSl, hfc, kC, hkC, hkind⟩ := hg.1.1 ci _ hC
  obtain ⟨cf, kf, fi, f, hi, hsl⟩ := hSl j hj
  have hlay := hts _ (hin _ (u_in_lay hj))
  unfold u_lay at hlay
  rw [if_neg (by rw [hfin]; decide)] at hlay
  have hst := (u_facts hfc hkC (u_lays hts hin hj) hi).1
  have h6 := u_store hfc hkC hkind hlay hi (hty j hj) hn hf
  refine W.putK hx hb (f := f) ⟨hown, hts _ hw, ⟨_, _, _, hi⟩, hst⟩ (by rw [q2]; exact h6) q1 q3 (by rw [hsl]; exact k2_hasslot (q4 j hj)) rfl rfl hd fun H' e1 e2 e3 => ?_
  rw [hsl] at e1 ⊢
  have hP := hR.2.set (nD_ok hG) h9 (e := .inr (ci, fs.set j v)) ⟨_, hC, t_OB.to (V := updV (vp_V fs) j v) ⟨_, e1, q2, q3, t_set q4 hap hj v⟩ (fun i _ => vp_updV_set hl v i)⟩ e3
  rw [nW_set (op' := (a, .inr (ci, fs.set j v)) :: op) (N := M) ha oE_hd (fun i _ h => by rw [oE_tl h, oE_tl h])] at hP
  exact kk H' _ ls (RN_sz hR e2 hP) (hS.put e2 e3 ((nD_ok hG (n := n) (op := (a, .inr (ci, fs)) :: op) (M := M)).2 a _ h9)) hll
theorem n_putF (hc : xc G X cc nL own d) (hG : gB G) (hin2 : (xh X).name = "<init>") {a ci nf : Nat} {fs : List Value} (ha : a < n) {C : String} {T : u_T} (hC : vwCl[ci]? = some (C, T, nf)) (hin : ∀ w ∈ u_ws C T nf, w ∈ tb) (ty0 : Nat → FieldType) (hty : ∀ k, k < nf → parseFieldDescriptor (T k).2.2.1 = some (ty0 k)) (hnm : ∀ a, a < nf → ∀ b, b < nf → a ≠ b → (T a).2.1 ≠ (T b).2.1) {ix : Nat} (j : Nat) (hj : j < nf) (hw : Cond.fieldLink own ix (T j).1 (T j).2.1 (T j).2.2.1 ∈ tb) (hfin : (T j).2.2.2 = true) (hdecl : (T j).1 = own) {v : Value} (hn : narrow (ty0 j) v = v) (hf : fits (ty0 j) v = true) (hl : j < fs.length) (hd : decode cc pc = .ok (.putfield ix, 3)) (kk : WR G X Q (RN G n ((a, .inr (ci, fs.set j v)) :: op) M) (pc + 3) lv st) : WR G X Q (RN G n ((a, .inr (ci, fs)) :: op) M) pc lv (v :: .ref (gR G a) :: st) := by
  intro H locs ls hR hS hll
  obtain ⟨hx, hb, hml, hown, hts, hlk, hg, -⟩ := hc
  have h9 := nW_at (G := G) (M := M) (op := (a, .inr (ci, fs)) :: op) ha
  rw [oE_hd] at h9
  have hap := va_apart (own := own) hts hin ty0 hty hnm hg.1 hC
  obtain ⟨r, g1, cell, q1, q2, q3, q4⟩ := hR.2 a _ h9
  have hr : r = (C, T, nf) := Option.some.inj (g1.symm.trans hC)
  subst hr
  obtain ⟨hSl, hfc, kC, hkC, hkind⟩ := hg.1.1 ci _ hC
  obtain ⟨cf, kf, fi, f, hi, hsl⟩ := hSl j hj
  have hlay : (Cond.laysFinal C (T j).1 (T j).2.1 (T j).2.2.1).before X.2.2.2.2.2.2.1 X.2.2.2.2.1 = true := by
    have h0 := hts _ (hin _ (u_in_lay hj))
    unfold u_lay at h0
    rwa [if_pos hfin] at h0
  have hst := (u_facts hfc hkC (u_lays hts hin hj) hi).1
  have hcf : X.2.2.2.2.2.1.cls = cf := by
    obtain ⟨_, _, c', _, _, _, -, -, hf', -, -, -, ho2, -⟩ := Cond.laysFinal_spec hlay
    have e0 := hi.symm.trans hf'
    simp only [Option.some.injEq, Prod.mk.injEq] at e0
    rw [hdecl] at ho2
    rw [e0.1]
    exact Option.some.inj (hown.symm.trans ho2)
  refine W.putFinK hx hb hown (hts _ hw) hi hst hcf hin2 (by rw [q2]; exact u_fits hfc hkC hkind (Or.inr hlay) hi (hty j hj) hn hf) q1 q3 (by rw [hsl]; exact k2_hasslot (q4 j hj)) rfl rfl hd fun H' e1 e2 e3 => ?_
  rw [hsl] at e1 ⊢
  have hP := hR.2.set (nD_ok hG) h9 (e := .inr (ci, fs.set j v)) ⟨_, hC, t_OB.to (V := updV (vp_V fs) j v) ⟨_, e1, q2, q3, t_set q4 hap hj v⟩ (fun i _ => vp_updV_set hl v i)⟩ e3
  rw [nW_set (op' := (a, .inr (ci, fs.set j v)) :: op) (N := M) ha oE_hd (fun i _ h => by rw [oE_tl h, oE_tl h])] at hP
  exact kk H' _ ls (RN_sz hR e2 hP) (hS.put e2 e3 ((nD_ok hG (n := n) (op := (a, .inr (ci, fs)) :: op) (M := M)).2 a _ h9)) hll
/-! arrays that are closed already -/
theorem n_iald (hc : xc G X cc nL own d) {a len b : Nat} (han : a < n) (ha : isA a len) (hk : kb op b) (hb : b ≤ a) {i : Int32} (hi : ib i len) (hd : decode cc pc = .ok (.iaload, 1)) (kk : WR G X Q (RN G n op M) (pc + 1) lv (.int (M a i.toNatClampNeg) :: st)) : WR G X Q (RN G n op M) pc lv (.int i :: .ref (gR G a) :: st) := by
  intro H locs ls hR hS hl
  have he := nW_at (G := G) (M := M) (op := op) han
  rw [oE_kb hk hb, en_I ha] at he
  exact va_iald hc.1 hc.2.1 hc.2.2.2.2.2.2.1.1 hR.2 a 0 he rfl (ib_vp hi) hd (kk H locs ls hR hS hl)
theorem n_alen (hc : xc G X cc nL own d) {a len b : Nat} (han : a < n) (ha : isA a len) (hk : kb op b) (hb : b ≤ a) (hd : decode cc pc = .ok (.arraylength, 1)) (kk : WR G X Q (RN G n op M) (pc + 1) lv (.int (nI len) :: st)) : WR G X Q (RN G n op M) pc lv (.ref (gR G a) :: st) := by
  intro H locs ls hR hS hl
  have he := nW_at (G := G) (M := M) (op := op) han
  rw [oE_kb hk hb, en_I ha] at he
  exact va_alen hc.1 hc.2.1 hc.2.2.2.2.2.2.1.1 hR.2 a 0 he rfl rfl hd (kk H locs ls hR hS hl)
theorem n_iast (hc : xc G X cc nL own d) (hG : gB G) {a len b : Nat} (han : a < n) (ha : isA a len) (hk : kb op b) (hb : b ≤ a) {i x : Int32} (hi : ib i len) (hd : decode cc pc = .ok (.iastore, 1)) (kk : WR G X Q (RN G n op (mw M a i.toNatClampNeg x)) (pc + 1) lv st) : WR G X Q (RN G n op M) pc lv (.int x :: .int i :: .ref (gR G a) :: st) := by
  intro H locs ls hR hS hl
  have he := nW_at (G := G) (M := M) (op := op) han
  rw [oE_kb hk hb, en_I ha] at he
  have hK := hc.2.2.2.2.2.2.1.1
  refine W.iast hc.1 hc.2.1 (hR.2 a _ he) ((hK.2 0 (G.2.2.2.1.1, .int) rfl).1 len (fun j => .int (M a j))) (fun q => by cases q) (by show ¬ (i < 0 ∨ (arrV _ _ _).slots.size ≤ _); rw [arrV_size]; exact ib_vp hi) rfl rfl hd fun H1 e1 z1 o1 => ?_
  have hat : va_at G.2.2.1 vwCl (gR G a, .inl (G.2.2.2.1.1, len, .inl (upd (M a) i.toNatClampNeg x))) H1 := by
    show H1[gR G a]? = some (vp_cell _ _)
    rw [e1, vp_cell_i, vp_cell_i, arrV_store]
    congr 2
    funext q
    by_cases hq : q = i.toNatClampNeg
    · subst hq
      simp [updV, upd]
    · simp [updV, upd, hq]
  have hP := hR.2.set (nD_ok hG) he hat o1
  rw [nW_set (op' := op) (N := mw M a i.toNatClampNeg x) han (by rw [oE_kb hk hb, en_I ha]; unfold mw; rw [mu_s]) (fun j _ h => oE_congr (by unfold mw; rw [mu_n h]))] at hP
  exact kk H1 _ ls (RN_sz hR z1 hP) (hS.put z1 o1 ((nD_ok hG (n := n) (op := op) (M := M)).2 a _ he)) hl
/-! an array of parts: made, filled -/
theorem n_anew (hc : xc G X cc nL own d) (hG : gB G) (hover : va_AO RX3 X.2.2.2.2.1) {len : Nat} {i : Int32} (hn : ¬ i < 0) (hN : i.toNatClampNeg = len) (hb4 : len * 4 ≤ 536870912) {ix : Nat} (hw : Cond.classLink own ix RX3 ∈ tb) (h1 : xC X + 1 ≤ (xR X).cells) (h2 : xS X + len ≤ (xR X).slots) (hd : decode cc pc = .ok (.anewarray ix, 3))
    (kk : xc G (xp X 1 len) cc nL own d → WR G (xp X 1 len) Q (RN G (n + 1) ((n, .inl (G.2.2.2.1.2.2.2, len, .inr (.inr (.inr (.inr (fun _ => none)))))) :: op) M) (pc + 3) lv (.ref (gR G n) :: st)) : WR G X Q (RN G n op M) pc lv (.int i :: st) := by
  have hc' := xc_p hc h1 h2
  intro H locs ls hR hS hl
  obtain ⟨hx, hb, hml, hown, hts, hlk, hg, hr1, hr2, hr3, hr4⟩ := hc
  subst hN
  have hsz : H.size = gR G n := by rw [hG n]; exact hR.1
  refine W.anew hx hb hown (hts _ hw) (va_AO.use hover) rfl hd rfl hn hb4 h1 h2 fun cA kA comp f1 f2 f3 f4 => ?_
  obtain ⟨kA', comp', g1, g2, g3, g4⟩ := (hg.1.2 3 (G.2.2.2.1.2.2.2, .object RX3) rfl).2
  have hcP : cA = G.2.2.2.1.2.2.2 := Option.some.inj (f1.symm.trans g4)
  subst hcP
  generalize hH1 : H.push ({ cls := G.2.2.2.1.2.2.2, slots := Array.replicate i.toNatClampNeg .null, vm := .none } : Cell) = H1
  have z1 : H1.size = H.size + 1 := by rw [← hH1, Array.size_push]
  have e1 : H1[H.size]? = some (arrV G.2.2.2.1.2.2.2 i.toNatClampNeg (fun _ => .null)) := by rw [← hH1, Array.getElem?_push_size, ← arrV_new]
  have o1 : ∀ q : Nat, q < H.size → H1[q]? = H[q]? := fun q hq => by rw [← hH1, Array.getElem?_push, if_neg (Nat.ne_of_lt hq)]
  have hk := kk hc' H1 locs ls (RN_push hG hR (fun k hk => (oE_tl (Nat.ne_of_lt hk)).symm) z1 o1 (by rw [oE_hd]; show H1[gR G n]? = _; rw [← hsz]; exact e1)) (hS.grow (by omega) o1) hl
  rw [← hsz] at hk
  exact hk
theorem n_aast (hc : xc G X cc nL own d) (hG : gB G) {a b len ci nf : Nat} {f : Nat → Option Nat} {fs : List Value} (han : a < n) (hbn : b < n) (hab : b ≠ a) (hb : oE G M op b = .inr (3, fs)) {i : Int32} (hi : ib i len) (hd : decode cc pc = .ok (.aastore, 1)) (kk : WR G X Q (RN G n ((a, .inl (G.2.2.2.1.2.2.2, len, .inr (.inr (.inr (.inr (va_up f i.toNatClampNeg (some (gR G b)))))))) :: op) M) (pc + 1) lv st) : WR G X Q (RN G n ((a, .inl (G.2.2.2.1.2.2.2, len, .inr (.inr (.inr (.inr f))))) :: op) M) pc lv (.ref (gR G b) :: .int i :: .ref (gR G a) :: st) := by
  intro H locs ls hR hS hl
  obtain ⟨hx, hbb, hml, hown, hts, hlk, hg, -⟩ := hc
  have h9 := nW_at (G := G) (M := M) (op := (a, .inl (G.2.2.2.1.2.2.2, len, .inr (.inr (.inr (.inr f))))) :: op) han
  rw [oE_hd] at h9
  have h8 := nW_at (G := G) (M := M) (op := (a, .inl (G.2.2.2.1.2.2.2, len, .inr (.inr (.inr (.inr f))))) :: op) hbn
  rw [oE_tl hab, hb] at h8
  have hC3 : vwCl[3]? = some (RX3, TX3, 7) := rfl
  have hlt := ib_lt hi
  obtain ⟨r', hr', cellV, g1, g2, g3, -⟩ := hR.2 b _ h8
  have hcls := (hg.1.1 3 _ hC3).2
  obtain ⟨kA, comp, k1, k2, k3, -⟩ := (hg.1.2 3 (G.2.2.2.1.2.2.2, .object RX3) rfl).2
  have hcomp : comp = G.2.2.1.1 3 := Option.some.inj (k3.symm.trans hcls.1)
  subst hcomp
  obtain ⟨kC, hkC, -⟩ := hcls.2
  refine W.aast hx hbb (hR.2 a _ h9) (fun q h => by cases h) (fun h => by cases h) k1 k2 rfl hkC ⟨fun q => ib_vp hi (Or.inl q), by show _ < (arrV _ _ _).slots.size; rw [arrV_size]; exact hlt⟩ g1 (fun q h => by rw [g3] at h; cases h) (by rw [g2]; exact hkC) (by rw [g2]; exact va_assign hcls) rfl rfl hd fun H1 e1 z1 o1 => ?_
  have hat : va_at G.2.2.1 vwCl (gR G a, .inl (G.2.2.2.1.2.2.2, len, .inr (.inr (.inr (.inr (va_up f i.toNatClampNeg (some (gR G b)))))))) H1 := by
    show H1[gR G a]? = some (vp_cell _ _)
    rw [e1, vp_cell_q, vp_cell_q, arrV_store]
    congr 2
    funext q
    by_cases hq : q = i.toNatClampNeg
    · subst hq
      simp [updV, va_up, va_rf]
    · simp [updV, va_up, hq]
  have hP := hR.2.set (nD_ok hG) h9 hat o1
  rw [nW_set (op' := (a, .inl (G.2.2.2.1.2.2.2, len, .inr (.inr (.inr (.inr (va_up f i.toNatClampNeg (some (gR G b)))))))) :: op) (N := M) han oE_hd (fun j _ h => by rw [oE_tl h, oE_tl h])] at hP
  exact kk H1 _ ls (RN_sz hR z1 hP) (hS.put z1 o1 ((nD_ok hG (n := n) (op := (a, .inl (G.2.2.2.1.2.2.2, len, .inr (.inr (.inr (.inr f))))) :: op) (M := M)).2 a _ h9)) hl
end NR
