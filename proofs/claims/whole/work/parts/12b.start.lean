/-! FROM THE LAW'S ENTRY TO ITS LOOP -/
def Z0 : Mm := fun _ _ => 0
theorem iX_out {M : Mm} {k : Nat} (h : 212 ≤ k) : iX M k = M k := by
  unfold iX
  rw [mu_n (by omega), mu_n (by omega), iW_out (by omega), iC_out (by omega), iHi_out (by omega), iP_out (by omega), iH_out (by omega)]
/-- the memory behind both constructors -/
def M0 : Mm := iM (iX Z0)
theorem wlaw_7 : Cond.classLink RL 7 RX6 ∈ tb := by decide +kernel
theorem wlaw_10 : Cond.classLink RL 10 RX7 ∈ tb := by decide +kernel
theorem wlaw_9 : Cond.methodLink RL 9 yX6_init ∈ tb := by decide +kernel
theorem wlaw_12 : Cond.methodLink RL 12 yX7_init ∈ tb := by decide +kernel
theorem wlaw_q6 : Cond.instantiable RX6 7 ∈ tb := by decide +kernel
theorem wlaw_q7 : Cond.instantiable RX7 18 ∈ tb := by decide +kernel
theorem wlaw_n6 : Cond.initialized RX6 ∈ tb := by decide +kernel
theorem wlaw_n7 : Cond.initialized RX7 ∈ tb := by decide +kernel
theorem wlaw_v6 : Cond.initialized yX6_init.cls ∈ tb := by decide +kernel
theorem wlaw_v7 : Cond.initialized yX7_init.cls ∈ tb := by decide +kernel
theorem wlaw_i6 : Cond.instanceMethod yX6_init ∈ tb := by decide +kernel
theorem wlaw_i7 : Cond.instanceMethod yX7_init ∈ tb := by decide +kernel
theorem wlaw_c6 : Cond.code yX6_init cX6_init 1 none ∈ tb := by decide +kernel
theorem wlaw_c7 : Cond.code yX7_init cX7_init 2 none ∈ tb := by decide +kernel
theorem wlaw_z6 : yX6_init.cls ≠ "java/lang/invoke/MethodHandle" ∧ yX6_init.cls ≠ "java/lang/invoke/VarHandle" ∧ (parseMethodDescriptor yX6_init.desc).map (fun d => d.parameters.length) = some 0 := by decide +kernel
theorem wlaw_z7 : yX7_init.cls ≠ "java/lang/invoke/MethodHandle" ∧ yX7_init.cls ≠ "java/lang/invoke/VarHandle" ∧ (parseMethodDescriptor yX7_init.desc).map (fun d => d.parameters.length) = some 0 := by decide +kernel
theorem pick10 {P : Nat → Nat → Prop} (h : ∀ f, f < 10 → ∃ z, P f z) : ∃ z : Nat → Nat, ∀ f, f < 10 → P f (z f) :=
  ⟨fun f => if hf : f < 10 then (h f hf).choose else 0, fun f hf => by
    have := (h f hf).choose_spec
    simpa [hf] using this⟩
theorem sz_all {args : Array Value} {s : State} {A : Nat → Prop} (hs : ∀ c ∈ flatC (Jvm.Cond.and given_1 narrow_1), c.before args s = true) (hts : ∀ w ∈ lw_tbl, w.before args s = true) (hA : ∀ a : Nat, a < s.heap.size → ¬ A a) : ∃ z : Nat → Nat, ∀ f, f < 10 → va_Z (sT f).1 (sT f).2.1 "[I" (.ref (z f)) A s s.heap ∧ va_T .int (z f) (sT f).2.2.length (fun j => .int (st_ f j)) A s s.heap := by
  refine pick10 (P := fun f z => va_Z (sT f).1 (sT f).2.1 "[I" (.ref z) A s s.heap ∧ va_T .int z (sT f).2.2.length (fun j => .int (st_ f j)) A s s.heap) (fun f hf => ?_)
  have e : f = 0 ∨ f = 1 ∨ f = 2 ∨ f = 3 ∨ f = 4 ∨ f = 5 ∨ f = 6 ∨ f = 7 ∨ f = 8 ∨ f = 9 := by omega
  rcases e with rfl | rfl | rfl | rfl | rfl | rfl | rfl | rfl | rfl | rfl
  · exact sz_0 hs hts hA
  · exact sz_1 hs hts hA
  · exact sz_2 hs hts hA
  · exact sz_3 hs hts hA
  · exact sz_4 hs hts hA
  · exact sz_5 hs hts hA
  · exact sz_6 hs hts hA
  · exact sz_7 hs hts hA
  · exact sz_8 hs hts hA
  · exact sz_9 hs hts hA
theorem n_rep {G : Gm} {X : Xm} {Q : State → Prop} {M : Mm} {pc : Nat} {lv : List (Option Value)} {st : List Value} (kk : WM G X Q M pc lv st) : WR G X Q (RN G 228 [] M) pc lv st := fun H locs ls hR hS hl => kk H locs ls (RN_rep hR) hS hl
set_option maxHeartbeats 4000000 in
/-- the classes, the array classes, the static arrays: as the Statement gives them at the law's entry -/
theorem start_G {p : Program} {s : State} {m : MethodId} {meth : Method} {c : Code} {b L : Nat} {sx : Nat → Int32} (C0 : lw_At p s m meth c b L sx) : ∃ G : Gm, gB G ∧ G.2.2.2.2 = s.heap.size ∧ gOK G s s.heap ∧ gM G s := by
  obtain ⟨hx, hb, hr, hml, hown, hts, hX, hbl, hlocks, hgv⟩ := C0
  have hs := flat_of_before _ hgv
  obtain ⟨c0, i0, k0⟩ := u_known (C := RX0) (T := TX0) (N := 11) (n := 11) hts inX0 (hts (.instantiable RX0 11) (by decide +kernel))
  obtain ⟨c1, i1, k1⟩ := u_known (C := RX1) (T := TX1) (N := 1) (n := 1) hts inX1 (hts (.instantiable RX1 1) (by decide +kernel))
  obtain ⟨c2, i2, k2⟩ := u_known (C := RX2) (T := TX2) (N := 3) (n := 3) hts inX2 (hts (.instantiable RX2 3) (by decide +kernel))
  obtain ⟨c3, i3, k3⟩ := u_known (C := RX3) (T := TX3) (N := 7) (n := 7) hts inX3 (hts (.instantiable RX3 7) (by decide +kernel))
  obtain ⟨c4, i4, k4⟩ := u_known (C := RX4) (T := TX4) (N := 3) (n := 3) hts inX4 (hts (.instantiable RX4 3) (by decide +kernel))
  obtain ⟨c5, i5, k5⟩ := u_known (C := RX5) (T := TX5) (N := 18) (n := 18) hts inX5 (hts (.instantiable RX5 18) (by decide +kernel))
  obtain ⟨c6, i6, k6⟩ := u_known (C := RX6) (T := TX6) (N := 7) (n := 7) hts inX6 (hts (.instantiable RX6 7) (by decide +kernel))
  obtain ⟨c7, i7, k7⟩ := u_known (C := RX7) (T := TX7) (N := 18) (n := 18) hts inX7 (hts (.instantiable RX7 18) (by decide +kernel))
  obtain ⟨cI, kI, cc1, fI, gI, hI⟩ := Cond.arrayClass_spec (hts (.arrayClass .int) (by decide +kernel))
  obtain ⟨cZ, kZ, cc2, fZ, gZ', hZ⟩ := Cond.arrayClass_spec (hts (.arrayClass .boolean) (by decide +kernel))
  obtain ⟨cJi, cJ, kJ, fJi, -, gJ, hJ, fJ⟩ := arrayOverA_spec (hts (.arrayOver (.array .int)) (by decide +kernel))
  have hAO := hts (.arrayOver (.object RX3)) (by decide +kernel)
  obtain ⟨cPc, cP, kP', fPc, -, gP, hP, fP⟩ := Cond.arrayOver_spec hAO
  have eJ : cJi = cI := Option.some.inj (fJi.symm.trans fI)
  subst eJ
  obtain ⟨z, hz⟩ := sz_all (A := fun q => s.heap.size ≤ q) hs hts (fun a h1 h2 => by omega)
  refine ⟨(fun k => s.heap.size + k, z, (fun k => match k with | 0 => c0 | 1 => c1 | 2 => c2 | 3 => c3 | 4 => c4 | 5 => c5 | 6 => c6 | _ => c7, fun k => match k with | 0 => i0 | 1 => i1 | 2 => i2 | 3 => i3 | 4 => i4 | 5 => i5 | 6 => i6 | _ => i7), (cJi, cZ, cJ, cP), s.heap.size), fun k => rfl, rfl, ⟨⟨?_, ?_⟩, hz, fun k _ => ?_, fun i j _ _ h => ?_⟩, hAO, kJ, gJ, hJ⟩
  · intro k q hq
    match k, hq with
    | 0, hq => cases hq; exact k0
    | 1, hq => cases hq; exact k1
    | 2, hq => cases hq; exact k2
    | 3, hq => cases hq; exact k3
    | 4, hq => cases hq; exact k4
    | 5, hq => cases hq; exact k5
    | 6, hq => cases hq; exact k6
    | 7, hq => cases hq; exact k7
    | k + 8, hq => simp [vwCl] at hq
  · intro k q hq
    match k, hq with
    | 0, hq => cases hq; exact ⟨fun n z => ⟨fun k h => (by cases h), kI, gI, cc1, hI⟩, fI⟩
    | 1, hq => cases hq; exact ⟨fun n z => ⟨fun k h => (by cases h), kZ, gZ', cc2, hZ⟩, fZ⟩
    | 2, hq => cases hq; exact ⟨fun n z => ⟨fun k h => (by cases h), kJ, gJ, cJi, hJ⟩, fJ⟩
    | 3, hq => cases hq; exact ⟨fun n z => ⟨fun k h => (by cases h), kP', gP, cPc, hP⟩, kP', cPc, gP, hP, fPc, fP⟩
    | k + 4, hq => simp [gT] at hq
  · show s.heap.size ≤ s.heap.size + k
    omega
  · have h9 : s.heap.size + i = s.heap.size + j := h
    omega
set_option maxRecDepth 100000 in
set_option maxHeartbeats 8000000 in
/-- THE LAW, from its entry, if the written-out law answers 1 -/
theorem whole_open {p : Program} {e : Env} {s : State} {m : MethodId} {below : List Frame} {meth : Method} {c : Code} (l : Launch) {b L : Nat} {sx : Nat → Int32} (C0 : lw_At p s m meth c b L sx) (hpure : f_L_law L sx M0 = some 1) : W p l e room_1 s m #[Value.ref b] below meth c s.heap [] 0 0 (lw_Z below #[Value.ref b] s) (entryFrame m ([Value.ref b] : List Value).toArray 4) := by
  obtain ⟨G, hG, hbs, hg, hgm⟩ := start_G C0
  obtain ⟨hx, hb, hr, hml, hown, hts, hX, hbl, hlocks, hgv⟩ := C0
  have hbA : ¬ gA G b := fun h => by
    have h9 : G.2.2.2.2 ≤ b := h
    omega
  have hl := lv_entry ([.ref b]) (n := 4) (Nat.le_of_ble_eq_true rfl)
  rw [lg_entry_eq]
  generalize (lg_sl ([.ref b]) ++ List.replicate (4 - (lg_sl ([.ref b])).length) Slot.unset).toArray = ls at hl ⊢
  have hl : lh ls 4 [some (.ref b), none, none, none] := ⟨hl.1, hl.2.1, fun i v hv => by
    match i, hv with
    | 0, hv => cases hv; exact hl.2.2 (0, .ref b) (by simp [lv_args])
    | 1, hv => cases hv
    | 2, hv => cases hv
    | 3, hv => cases hv
    | i + 4, hv => simp at hv⟩
  have hc : xc G (l, p, e, room_1, s, m, #[Value.ref b], below, meth, c, 0, 0) cL_law 4 RL 10 := ⟨hx, hb, hml, hown, fun w hw => hts w (tb_in hw), hlocks, hg, Nat.le_of_ble_eq_true rfl, Nat.le_of_ble_eq_true rfl, Nat.zero_le _, Nat.zero_le _⟩
  have hR0 : RN G 0 [] Z0 s.heap := ⟨by rw [hbs]; rfl, fun k q hq => by simp [nW] at hq⟩
  have main : WR G (l, p, e, room_1, s, m, #[Value.ref b], below, meth, c, 0, 0) (lw_Z below #[Value.ref b] s) (RN G 0 [] Z0) 0 [some (.ref b), none, none, none] [] := by
    refine n_new (n := 0) hc hG (ci := 6) rfl tbX6 tyX6 tyX6_ok wlaw_7 wlaw_q6 wlaw_n6 (fs := [.null, .null, .null, .null, .null, .null, .int 0]) (by decide +kernel) (Nat.le_of_ble_eq_true rfl) (Nat.le_of_ble_eq_true rfl) dL_law_0 (fun hc => ?_)
    refine m_dup hc dL_law_3 rfl ?_
    refine n_init (n := 1) hc hgm (n_X6_init 6 hG (fun k _ => rfl)) (by decide) (by decide) wlaw_9 wlaw_i6 wlaw_v6 wlaw_c6 rfl wlaw_z6 rfl (st := [.ref (gR G 0)]) rfl rfl (Nat.le_of_ble_eq_true rfl) (by show 0 + 1 + 211 ≤ 600000; omega) (by show 0 + 7 + 68467 ≤ 7302250; omega) dL_law_4 (fun hc => ?_)
    refine m_astore_n hc (lv' := [some (.ref b), some (.ref (gR G 0)), none, none]) dL_law_7 (Nat.le_of_ble_eq_true rfl) rfl rfl ?_
    refine n_new (n := 212) hc hG (ci := 7) rfl tbX7 tyX7 tyX7_ok wlaw_10 wlaw_q7 wlaw_n7 (fs := [.null, .null, .int 0, .null, .null, .null, .int 0, .null, .null, .null, .null, .int 0, .null, .null, .null, .null, .null, .null]) (by decide +kernel) (by show 0 + 1 + 211 + 1 ≤ 600000; omega) (by show 0 + 7 + 68467 + 18 ≤ 7302250; omega) dL_law_8 (fun hc => ?_)
    refine m_dup hc dL_law_11 rfl ?_
    refine n_init (n := 213) hc hgm (n_X7_init 8 hG kb_nil (fun k h => iX_out (M := Z0) (by omega))) (by decide) (by decide) wlaw_12 wlaw_i7 wlaw_v7 wlaw_c7 rfl wlaw_z7 rfl (st := [.ref (gR G 212)]) rfl rfl (Nat.le_of_ble_eq_true rfl) (by show 0 + 1 + 211 + 1 + 15 ≤ 600000; omega) (by show 0 + 7 + 68467 + 18 + 63890 ≤ 7302250; omega) dL_law_12 (fun hc => ?_)
    refine m_astore_n hc (lv' := [some (.ref b), some (.ref (gR G 0)), some (.ref (gR G 212)), none]) dL_law_15 (Nat.le_of_ble_eq_true rfl) rfl rfl ?_
    refine n_rep ?_
    refine c_L_law (d := 2) hc hX hbl hbA (fun N lv => ?_) hpure
    intro H locs ls hR hS hl
    refine va_forget (fun q hq => by have h9 : G.2.2.2.2 ≤ q.base := hS.2.2 q hq; show s.heap.size ≤ q.base; omega) ?_
    refine W.widen (k := 600000) (n := 7302250) (by show 0 + 1 + 211 + 1 + 15 ≤ 600000; omega) (by show 0 + 7 + 68467 + 18 + 63890 ≤ 7302250; omega) ?_
    exact lw_ret hx hb hr hlocks dL_law_1130
  exact main s.heap [] ls hR0 va_S.rf hl
