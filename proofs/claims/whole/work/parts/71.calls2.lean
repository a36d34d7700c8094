/-! PURE: calls about the way: moves, ways, diagram, stand, foot, stuck, hard, without, split -/
theorem ex_N {M : Mm} (h : Inv M) : ∃ M1, f_X5_exists M = some (exi (M 213), M1) ∧ WI (M 213) M1 ∧ OnO (M 213) M1 0 ∧ SolO (M 213) M1 ∧ (∀ c, ¬ (152 ≤ c ∧ c ≤ 203) → M1 c = M c) ∧ Hp M1 ∧ RelP 3 M1 (M 213) ∧ M1 213 = M 213 := by
  obtain ⟨M1, q1, q2, q3, q4, q5, q6⟩ := exists_c h.2.1 h.2.2.1 h.1 h.2.2.2.1
  exact ⟨M1, q1, q2, q4, q5, fun c g => q6 c (by omega), fun t ht => by rw [q6 2 (by omega)]; exact h.1 t ht, relp_e h.2.2.1 (fun c g1 g2 => q6 c (by omega)), q6 213 (by omega)⟩
theorem exi_t {N : Nt} (h : (BP N).1 < 63) : exi N = 1 := if_pos h
theorem exi_f {N : Nt} (h : ¬ (BP N).1 < 63) : exi N = 0 := if_neg h
theorem fm_rd {M M' : Mm} (h : Fm M M') : ∀ c j, c < 218 → ¬ (c = 212 ∧ j = 11) → M' c j = M c j := fun c j g1 g2 => h c j (by omega) (by omega) (by omega) (by omega) g2
theorem fy_rd {M M' : Mm} (h : Fy M M') : ∀ c j, c < 218 → ¬ (c = 212 ∧ j = 11) → M' c j = M c j := fun c j g1 g2 => h c j (by omega) (by omega) (by omega) (by omega) (by omega) g2
theorem fk_rd {M M' : Mm} (h : Fk M M') : ∀ c j, c < 218 → ¬ (c = 212 ∧ j = 11) → M' c j = M c j := fun c j g1 g2 => h c j (by omega) (by omega) (by omega) (by omega) g2
theorem tell_N {N : Nt} {M : Mm} (hN : WP N) (hM : M 213 = N) : ∃ M', f_X7_tell M = some (nI (eC (BP N).1), M') ∧ Fm M M' := by
  obtain ⟨M', q1, _, q3⟩ := tell_m (M := M) (by rw [hM]; exact hN)
  rw [hM] at q1
  have e : mnf (tot N) 2187 = eC (BP N).1 := bst_BP (wp_pl hN).2.2
  rw [e] at q1
  exact ⟨M', q1, q3⟩
theorem way_N {N : Nt} {M : Mm} (hN : WP N) (hM : M 213 = N) : ∃ M', f_X7_tellWay M = some (nI (eC (BP N).1), M') ∧ ((BP N).1 < 63 → ∃ w, isW N w ∧ ∀ i, i < pl N → M' 222 i = nI (w i)) ∧ Fy M M' := by
  obtain ⟨M', q1, q2, q3⟩ := tellWay_m (M := M) (by rw [hM]; exact hN)
  rw [hM] at q1 q2
  rw [bst_BP (wp_pl hN).2.2] at q1 q2
  exact ⟨M', q1, fun h => q2 (by rw [eC_f h]; omega), q3⟩
theorem far_t {N : Nt} (hN : WP N) (h : ¬ (BP N).1 < 63) : nI (eC (BP N).1) = (100000 : Int32) := by
  have := (BP_E hN).2
  rw [show (BP N).1 = 63 by omega]
  rfl
theorem far_f {N : Nt} (h : (BP N).1 < 63) : ¬ nI (eC (BP N).1) = (100000 : Int32) := by
  rw [eC_f h]
  intro q
  have := (zeq (b := 100000) (by omega) (by omega)).mp q
  omega
theorem same_moves {M : Mm} (h : Inv M) : Same f_X6_moves f_X7_moves M := by
  obtain ⟨M1, q1, q2, q3, q4, q5, q6, q7, q8⟩ := ex_N h
  by_cases c : (BP (M 213)).1 < 63
  · obtain ⟨M2, r1, r2⟩ := tell_N h.2.1 q8
    refine same_r h (r := nI (BP (M 213)).1) (M1 := M1) (M2 := M2) ?_ q5 q2 ?_ (fm_rd r2)
    · unfold f_X6_moves
      rw [q1, bd_s, exi_t c, if_neg ne10]
      unfold f_X5_cost
      dsimp only
      rw [q4.1, enc_s (BP_E h.2.1).1]
    · unfold f_X7_moves
      rw [r1, bd_s]
      dsimp only
      rw [if_neg (far_f c), eC_f c]
  · obtain ⟨M2, r1, r2⟩ := tell_N (M := mw M1 0 6 (M1 0 6 + 1)) h.2.1 (by rw [mw_c (by decide)]; exact q8)
    refine same_f h (z := -100006) (M1 := M1) (M2 := M2) ?_ q5 q2 ?_ (fm_rd r2)
    · unfold f_X6_moves
      rw [q1, bd_s, exi_f c, if_pos rfl]
      rfl
    · unfold f_X7_moves
      rw [r1, bd_s]
      dsimp only
      rw [if_pos (far_t h.2.1 c)]
      rfl
theorem enc_c {a : Pr} (ha : okE a) : enc a &&& (1048575 : Int32) = nI a.2 := by
  unfold enc
  rw [show (1048575 : Int32) = nI 1048575 from rfl, zan, and_lo, md20 ha.2]
theorem same_ways {M : Mm} (h : Inv M) : Same f_X6_ways f_X7_ways M := by
  obtain ⟨M1, q1, q2, q3, q4, q5, q6, q7, q8⟩ := ex_N h
  by_cases c : (BP (M 213)).1 < 63
  · obtain ⟨M2, r1, r2⟩ := f7_ways (M := M1) (by rw [q8]; exact h.2.1)
    rw [q8, if_pos c] at r1
    refine same_r h (r := nI (BP (M 213)).2) (M1 := M1) (M2 := M2) ?_ q5 q2 r1 (fm_rd r2)
    unfold f_X6_ways
    rw [q1, bd_s, exi_t c, if_neg ne10]
    unfold f_X5_count
    dsimp only
    rw [q4.1, enc_c (BP_E h.2.1).1]
  · obtain ⟨M2, r1, r2⟩ := f7_ways (M := mw M1 0 6 (M1 0 6 + 1)) (by rw [mw_c (by decide), q8]; exact h.2.1)
    rw [mw_c (by decide), q8, if_neg c] at r1
    refine same_f h (z := -100006) (M1 := M1) (M2 := M2) ?_ q5 q2 r1 (fm_rd r2)
    unfold f_X6_ways
    rw [q1, bd_s, exi_f c, if_pos rfl]
    rfl
theorem play_i {M : Mm} (h : Inv M) (x : Int32) : (∃ b, b < pl (M 213) ∧ x = nI b ∧ f_X6_isPlayed x M = 1 ∧ ∀ M' : Mm, M' 213 = M 213 → f_X7_isPlayed x M' = some 1) ∨ (f_X6_isPlayed x M = 0 ∧ ∀ M' : Mm, M' 213 = M 213 → f_X7_isPlayed x M' = some 0) := by
  obtain ⟨ep, p1, p2⟩ := wp_pl h.2.1
  have e30 : M 3 0 = nI (pl (M 213)) := h.2.2.1.1.trans ep
  have e1 : nI (pl (M 213)) - (1 : Int32) = nI (pl (M 213) - 1) := zsu (a := pl (M 213)) (b := 1) (by omega)
  have em : ∀ M' : Mm, M' 213 = M 213 → f_X7_isPlayed x M' = some (f_X7_isIn x 0 (nI (pl (M 213) - 1))) := fun M' hM => by
    have e0 : M' 213 (0 : Int32).toNatClampNeg = nI (pl (M 213)) := by rw [hM]; exact ep
    unfold f_X7_isPlayed
    rw [ck_t (by decide), e0, e1]
  unfold f_X6_isPlayed
  rw [e30]
  rcases in_c (x := x) (m := pl (M 213)) (by omega) with ⟨n, h1, h2⟩ | hx
  · subst h2
    refine Or.inl ⟨n, h1, rfl, ?_, fun M' hM => by rw [em M' hM, isIn_t (nI_nn (by omega)) (fun q => by have := (zlt (by omega) (by omega)).mp q; omega)]⟩
    rw [if_neg (nI_nn (by omega)), if_neg (fun q => by have := (zle (by omega) (by omega)).mp q; omega)]
  · refine Or.inr ⟨?_, fun M' hM => by
      rw [em M' hM, isIn_f (hx.elim Or.inl (fun q => Or.inr (ti_lt.mpr (by have := ti_le.mp q; rw [ztI (by omega)] at this; rw [ztI (by omega)]; omega))))]⟩
    by_cases c : x < 0
    · rw [if_pos c]
    · rw [if_neg c, if_pos (hx.resolve_left c)]
theorem same_diagram {M : Mm} (h : Inv M) (x1 : Int32) : Same (f_X6_diagram x1) (f_X7_diagram x1) M := by
  obtain ⟨ep, p1, p2⟩ := wp_pl h.2.1
  rcases play_i h x1 with ⟨b, hb, rfl, e1, e2⟩ | ⟨e1, e2⟩
  · obtain ⟨M1, q1, q2, q3, q4, q5, q6, q7, q8⟩ := ex_N h
    by_cases c : (BP (M 213)).1 < 63
    · obtain ⟨w, w1, w2⟩ := q4.2 c
      obtain ⟨M2, r1, r2, r3⟩ := way_N h.2.1 q8
      obtain ⟨w', w3, w4⟩ := r2 c
      refine same_r h (r := nI (w b)) (M1 := M1) (M2 := M2) ?_ q5 q2 ?_ (fy_rd r3)
      · unfold f_X6_diagram
        rw [e1, if_neg ne10, q1, bd_s, exi_t c, if_neg ne10, zck (by omega) (by omega), zcl (by omega)]
        dsimp only
        rw [w2 b hb]
      · unfold f_X7_diagram
        rw [e2 M1 q8, bd_s, if_neg ne10, r1, bd_s]
        dsimp only
        rw [if_neg (far_f c), zck (by omega) (by omega), zcl (by omega), w4 b hb, isW_u w3 w1 b hb]
    · obtain ⟨M2, r1, r2, r3⟩ := way_N (M := mw M1 0 6 (M1 0 6 + 1)) h.2.1 (by rw [mw_c (by decide)]; exact q8)
      refine same_f h (z := -100006) (M1 := M1) (M2 := M2) ?_ q5 q2 ?_ (fy_rd r3)
      · unfold f_X6_diagram
        rw [e1, if_neg ne10, q1, bd_s, exi_f c, if_pos rfl]
        rfl
      · unfold f_X7_diagram
        rw [e2 _ (by rw [mw_c (by decide)]; exact q8), bd_s, if_neg ne10, r1, bd_s]
        dsimp only
        rw [if_pos (far_t h.2.1 c)]
        rfl
  · refine same_f0 h (z := -100001) ?_ (fun M' hM => ?_)
    · unfold f_X6_diagram
      rw [e1, if_pos rfl]
      rfl
    · unfold f_X7_diagram
      rw [e2 M' (hM 213 (by decide)), bd_s, if_pos rfl]
      rfl
theorem same_stand {M : Mm} (h : Inv M) (x1 x2 : Int32) : Same (f_X6_stand x1 x2) (f_X7_stand x1 x2) M := by
  obtain ⟨ep, p1, p2⟩ := wp_pl h.2.1
  rcases play_i h x1 with ⟨b, hb, rfl, e1, e2⟩ | ⟨e1, e2⟩
  · rcases ped_i x2 with ⟨p, hp, rfl, e3, e4⟩ | ⟨e3, e4⟩
    · obtain ⟨M1, q1, q2, q3, q4, q5, q6, q7, q8⟩ := ex_N h
      by_cases c : (BP (M 213)).1 < 63
      · obtain ⟨w, w1, w2⟩ := q4.2 c
        obtain ⟨M2, r1, r2, r3⟩ := way_N h.2.1 q8
        obtain ⟨w', w3, w4⟩ := r2 c
        have hw := isW_lt w1 b hb
        refine same_r h (r := nI (sd (w b) p)) (M1 := M1) (M2 := M2) ?_ q5 q2 ?_ (fy_rd r3)
        · unfold f_X6_stand
          rw [e1, if_neg ne10, e3, if_neg ne10, q1, bd_s, exi_t c, if_neg ne10, zck (by omega) (by omega)]
          dsimp only
          rw [zcl (show b < 2147483648 by omega)]
          simp only [w2 b hb]
          rw [zck hw (by omega), zcl (by omega), q6 _ hw, standIn_eq hw hp]
        · unfold f_X7_stand
          rw [e2 M1 q8, bd_s, if_neg ne10, e4, if_neg ne10, r1, bd_s]
          dsimp only
          rw [if_neg (far_f c), zck (by omega) (by omega), zcl (by omega), w4 b hb, isW_u w3 w1 b hb, standOf_eq hw hp, bd_s]
      · obtain ⟨M2, r1, r2, r3⟩ := way_N (M := mw M1 0 6 (M1 0 6 + 1)) h.2.1 (by rw [mw_c (by decide)]; exact q8)
        refine same_f h (z := -100006) (M1 := M1) (M2 := M2) ?_ q5 q2 ?_ (fy_rd r3)
        · unfold f_X6_stand
          rw [e1, if_neg ne10, e3, if_neg ne10, q1, bd_s, exi_f c, if_pos rfl]
          rfl
        · unfold f_X7_stand
          rw [e2 _ (by rw [mw_c (by decide)]; exact q8), bd_s, if_neg ne10, e4, if_neg ne10, r1, bd_s]
          dsimp only
          rw [if_pos (far_t h.2.1 c)]
          rfl
    · refine same_f0 h (z := -100001) ?_ (fun M' hM => ?_)
      · unfold f_X6_stand
        rw [e1, if_neg ne10, e3, if_pos rfl]
        rfl
      · unfold f_X7_stand
        rw [e2 M' (hM 213 (by decide)), bd_s, if_neg ne10, e4, if_pos rfl]
        rfl
  · refine same_f0 h (z := -100001) ?_ (fun M' hM => ?_)
    · unfold f_X6_stand
      rw [e1, if_pos rfl]
      rfl
    · unfold f_X7_stand
      rw [e2 M' (hM 213 (by decide)), bd_s, if_pos rfl]
      rfl
theorem fLf : ∀ p, p ∈ fL ↔ ∃ k, 0 ≤ k ∧ k < 3 ∧ p = ft k := fun p => by
  constructor
  · intro h
    have h' : p = 0 ∨ p = 1 ∨ p = 6 := by simpa [fL] using h
    rcases h' with h | h | h
    · exact ⟨1, by omega, by omega, h⟩
    · exact ⟨2, by omega, by omega, h⟩
    · exact ⟨0, by omega, by omega, h⟩
  · intro ⟨k, _, h1, h2⟩
    have h' : k = 0 ∨ k = 1 ∨ k = 2 := by omega
    rcases h' with h | h | h <;> subst h <;> subst h2 <;> decide
theorem fRf : ∀ p, p ∈ fR ↔ ∃ k, 3 ≤ k ∧ k < 7 ∧ p = ft k := fun p => by
  constructor
  · intro h
    have h' : p = 2 ∨ p = 3 ∨ p = 4 ∨ p = 5 := by simpa [fR] using h
    rcases h' with h | h | h | h
    · exact ⟨3, by omega, by omega, h⟩
    · exact ⟨4, by omega, by omega, h⟩
    · exact ⟨5, by omega, by omega, h⟩
    · exact ⟨6, by omega, by omega, h⟩
  · intro ⟨k, h0, h1, h2⟩
    have h' : k = 3 ∨ k = 4 ∨ k = 5 ∨ k = 6 := by omega
    rcases h' with h | h | h | h <;> subst h <;> subst h2 <;> decide
theorem foot_7 {N : Nt} (hN : WP N) {M : Mm} {w : Nat → Nat} {b e s : Nat} {x v : Int32} {F : List Nat} (hM : M 213 = N) (he : (if x = 0 then (3 : Int32) else (7 : Int32)) = nI e) (he7 : e ≤ 7) (hs : s ≤ e) (hb : b < pl N) (hw : ∀ i, i < pl N → M 222 i = nI (w i)) (hl : ∀ i, i < pl N → w i < 2187) (hF : ∀ p, p ∈ F ↔ ∃ k, s ≤ k ∧ k < e ∧ p = ft k) : ∃ r, Option.bind (L_X7_foot_41 (nI b) x (v, M) FU (nI s)) (fun q_13 => Sum.elim (fun w_20 => some ((-1 : Int32), M)) (fun r => some r) q_13) = some (r, M) ∧ ftA F (dfP N w b) r := by
  rcases foot_41 (v := v) hN hM he he7 hb hw hl hF (e - s) FU s (by omega) (Nat.le_refl s) (by unfold FU; omega) (fun j g1 g2 => by omega) with ⟨g1, e1⟩ | ⟨q, g1, g2, e1⟩
  · rw [e1]
    exact ⟨_, rfl, Or.inl ⟨rfl, g1⟩⟩
  · rw [e1]
    exact ⟨_, rfl, Or.inr ⟨q, g1, g2, rfl⟩⟩
theorem same_foot {M : Mm} (h : Inv M) (x1 x2 : Int32) : Same (f_X6_foot x1 x2) (f_X7_foot x1 x2) M := by
  obtain ⟨ep, p1, p2⟩ := wp_pl h.2.1
  rcases play_i h x1 with ⟨b, hb, rfl, e1, e2⟩ | ⟨e1, e2⟩
  · obtain ⟨M1, q1, q2, q3, q4, q5, q6, q7, q8⟩ := ex_N h
    by_cases c : (BP (M 213)).1 < 63
    · obtain ⟨w, w1, w2⟩ := q4.2 c
      obtain ⟨M2, r1, r2, r3⟩ := way_N h.2.1 q8
      obtain ⟨w', w3, w4⟩ := r2 c
      have w5 : ∀ i, i < pl (M 213) → M2 222 i = nI (w i) := fun i hi => by rw [w4 i hi, isW_u w3 w1 i hi]
      have e213 : M2 213 = M 213 := by
        have : M2 213 = M1 213 := funext (fun j => r3 213 j (by decide) (by decide) (by decide) (by decide) (by decide) (fun q => absurd q.1 (by decide)))
        rw [this, q8]
      have hl := fun i hi => isW_lt w1 i hi
      by_cases cx : x2 = 0
      · obtain ⟨r, s1, s2⟩ := moved_c h.2.1 (x := 67) (F := fL) b67 fL_7 q7 q6 hb w2 hl
        obtain ⟨r', t1, t2⟩ := foot_7 (v := nI (eC (BP (M 213)).1)) (x := x2) h.2.1 e213 (e := 3) (s := 0) (by rw [if_pos cx]; rfl) (by omega) (by omega) hb w5 hl fLf
        have er := ftA_u (df_u h.2.1 w1 c hb (Or.inl rfl)) s2 t2
        rw [nI_00, ← er] at t1
        refine same_r h (r := r) (M1 := M1) (M2 := M2) ?_ q5 q2 ?_ (fy_rd r3)
        · unfold f_X6_foot
          rw [e1, if_neg ne10, q1, bd_s, exi_t c, if_neg ne10, if_pos cx, nm_d]
          dsimp only
          rw [s1, bd_s]
        · unfold f_X7_foot
          rw [e2 M1 q8, bd_s, if_neg ne10, r1, bd_s]
          dsimp only
          rw [if_neg (far_f c), if_pos cx, nm_d]
          exact t1
      · obtain ⟨r, s1, s2⟩ := moved_c h.2.1 (x := 60) (F := fR) b60 fR_7 q7 q6 hb w2 hl
        obtain ⟨r', t1, t2⟩ := foot_7 (v := nI (eC (BP (M 213)).1)) (x := x2) h.2.1 e213 (e := 7) (s := 3) (by rw [if_neg cx]; rfl) (by omega) (by omega) hb w5 hl fRf
        have er := ftA_u (df_u h.2.1 w1 c hb (Or.inr rfl)) s2 t2
        rw [show nI 3 = (3 : Int32) from rfl, ← er] at t1
        refine same_r h (r := r) (M1 := M1) (M2 := M2) ?_ q5 q2 ?_ (fy_rd r3)
        · unfold f_X6_foot
          rw [e1, if_neg ne10, q1, bd_s, exi_t c, if_neg ne10, if_neg cx, nm_d]
          dsimp only
          rw [s1, bd_s]
        · unfold f_X7_foot
          rw [e2 M1 q8, bd_s, if_neg ne10, r1, bd_s]
          dsimp only
          rw [if_neg (far_f c), if_neg cx, nm_d]
          exact t1
    · obtain ⟨M2, r1, r2, r3⟩ := way_N (M := mw M1 0 6 (M1 0 6 + 1)) h.2.1 (by rw [mw_c (by decide)]; exact q8)
      refine same_f h (z := -100006) (M1 := M1) (M2 := M2) ?_ q5 q2 ?_ (fy_rd r3)
      · unfold f_X6_foot
        rw [e1, if_neg ne10, q1, bd_s, exi_f c, if_pos rfl]
        rfl
      · unfold f_X7_foot
        rw [e2 _ (by rw [mw_c (by decide)]; exact q8), bd_s, if_neg ne10, r1, bd_s]
        dsimp only
        rw [if_pos (far_t h.2.1 c)]
        rfl
  · refine same_f0 h (z := -100001) ?_ (fun M' hM => ?_)
    · unfold f_X6_foot
      rw [e1, if_pos rfl]
      rfl
    · unfold f_X7_foot
      rw [e2 M' (hM 213 (by decide)), bd_s, if_pos rfl]
      rfl
theorem same_stuck {M : Mm} (h : Inv M) : Same f_X6_stuck f_X7_stuck M := by
  obtain ⟨M1, q1, q2, q3, q4, q5, q6, q7, q8⟩ := ex_N h
  by_cases c : (BP (M 213)).1 < 63
  · obtain ⟨r, M2, r1, r2, r3, r4⟩ := f7_stuck (M := M1) (by rw [q8]; exact h.2.1)
    rw [q8] at r3
    rw [r3 c] at r1
    refine same_r h (r := -1) (M1 := M1) (M2 := M2) ?_ q5 q2 r1 (fk_rd r2)
    unfold f_X6_stuck
    rw [q1, bd_s, exi_t c, if_neg ne10]
  · obtain ⟨M3, s, s1, s2, s3, s4⟩ := stuckBeat_c h.2.1 q7 q6 q2
    have e213 : M3 213 = M 213 := by rw [s4 213 (by omega), q8]
    obtain ⟨r, M2, r1, r2, r3, r4⟩ := f7_stuck (M := M3) (by rw [e213]; exact h.2.1)
    rw [e213] at r4
    obtain ⟨t, t1, t2⟩ := r4 c
    rw [t1, stk_u h.2.1 c t2 s2] at r1
    refine same_r h (r := nI s) (M1 := M3) (M2 := M2) ?_ (fun c g => by rw [s4 c (by omega), q5 c g]) s3 r1 (fk_rd r2)
    unfold f_X6_stuck
    rw [q1, bd_s, exi_f c, if_pos rfl]
    dsimp only
    rw [s1, bd_s]
