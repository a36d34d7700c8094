/-! PURE: fillLockedArrival of the class -/
def rf (N : Nt) (b t : Nat) : Prop := ∀ p, p ∈ fR → ¬ lk N b t p
def lf (N : Nt) (b t : Nat) : Prop := ∀ p, p ∈ fL → ¬ lk N b t p
def SL (N : Nt) (b : Nat) (f : Nat → Nat) (d x u : Nat) : Prop := ∃ t c, t < d ∧ does N b t ∧ f t < 63 ∧ rf N b t ∧ st (lk N b t) fL t x c ∧ u = f t + c
def SR (N : Nt) (b : Nat) (f : Nat → Nat) (d x u : Nat) : Prop := ∃ t c, t < d ∧ does N b t ∧ f t < 63 ∧ ¬ rf N b t ∧ lf N b t ∧ st (lk N b t) fR t x c ∧ u = f t + c
def SB (N : Nt) (b : Nat) (f : Nat → Nat) (d x u : Nat) : Prop := ∃ t c, t < d ∧ does N b t ∧ f t < 63 ∧ ¬ rf N b t ∧ ¬ lf N b t ∧ (x, c) ∈ ops (lk N b t) t ∧ u = f t + c
theorem SL_s {N : Nt} {b : Nat} {f : Nat → Nat} {d x u : Nat} : SL N b f (d + 1) x u ↔ SL N b f d x u ∨ (does N b d ∧ f d < 63 ∧ rf N b d ∧ ∃ c, st (lk N b d) fL d x c ∧ u = f d + c) := by
  constructor
  · intro ⟨t, c, h1, h2, h3, h4, h5, h6⟩
    by_cases e : t = d
    · subst e
      exact Or.inr ⟨h2, h3, h4, c, h5, h6⟩
    · exact Or.inl ⟨t, c, by omega, h2, h3, h4, h5, h6⟩
  · intro h
    rcases h with ⟨t, c, h1, h2⟩ | ⟨h2, h3, h4, c, h5, h6⟩
    · exact ⟨t, c, by omega, h2⟩
    · exact ⟨d, c, by omega, h2, h3, h4, h5, h6⟩
theorem SR_s {N : Nt} {b : Nat} {f : Nat → Nat} {d x u : Nat} : SR N b f (d + 1) x u ↔ SR N b f d x u ∨ (does N b d ∧ f d < 63 ∧ ¬ rf N b d ∧ lf N b d ∧ ∃ c, st (lk N b d) fR d x c ∧ u = f d + c) := by
  constructor
  · intro ⟨t, c, h1, h2, h3, h4, h5, h6, h7⟩
    by_cases e : t = d
    · subst e
      exact Or.inr ⟨h2, h3, h4, h5, c, h6, h7⟩
    · exact Or.inl ⟨t, c, by omega, h2, h3, h4, h5, h6, h7⟩
  · intro h
    rcases h with ⟨t, c, h1, h2⟩ | ⟨h2, h3, h4, h5, c, h6, h7⟩
    · exact ⟨t, c, by omega, h2⟩
    · exact ⟨d, c, by omega, h2, h3, h4, h5, h6, h7⟩
theorem SB_s {N : Nt} {b : Nat} {f : Nat → Nat} {d x u : Nat} : SB N b f (d + 1) x u ↔ SB N b f d x u ∨ (does N b d ∧ f d < 63 ∧ ¬ rf N b d ∧ ¬ lf N b d ∧ ∃ c, (x, c) ∈ ops (lk N b d) d ∧ u = f d + c) := by
  constructor
  · intro ⟨t, c, h1, h2, h3, h4, h5, h6, h7⟩
    by_cases e : t = d
    · subst e
      exact Or.inr ⟨h2, h3, h4, h5, c, h6, h7⟩
    · exact Or.inl ⟨t, c, by omega, h2, h3, h4, h5, h6, h7⟩
  · intro h
    rcases h with ⟨t, c, h1, h2⟩ | ⟨h2, h3, h4, h5, c, h6, h7⟩
    · exact ⟨t, c, by omega, h2⟩
    · exact ⟨d, c, by omega, h2, h3, h4, h5, h6, h7⟩
/-- while arrival is filled: d diagrams are done -/
def KA (N : Nt) (b : Nat) (f : Nat → Nat) (a2 d : Nat) (M : Mm) : Prop := Hp M ∧ Ch 162 M N b ∧ Row 198 M (ifD N b (zr f)) ∧ (∃ g, Row 199 M (zr g) ∧ isM (SL N b f d) g) ∧ (∃ g, Row 200 M (zr g) ∧ isM (SR N b f d) g) ∧ ∃ g, Row a2 M (zr g) ∧ isM (SB N b f d) g
/-- but for the rows of arrival's reckoning, M' is M -/
def Fa (a : Nat) (M M' : Mm) : Prop := ∀ c, c ≠ a → c ≠ 198 → c ≠ 199 → c ≠ 200 → c ≠ 201 → c ≠ 202 → M' c = M c
theorem fa_t {a : Nat} {M M' M'' : Mm} (h : Fa a M M') (h' : Fa a M' M'') : Fa a M M'' := fun c g1 g2 g3 g4 g5 g6 => (h' c g1 g2 g3 g4 g5 g6).trans (h c g1 g2 g3 g4 g5 g6)
theorem arr_st {N : Nt} (hN : WP N) {b a2 d n : Nat} (hb : b < 12) (ha2 : 185 < a2 ∧ a2 < 198) {f : Nat → Nat} (hf : ∀ e, e < 2187 → f e ≤ 63) (hd : d < 2187) {M : Mm} (hK : KA N b f a2 d M) :
    ∃ M', L_X5_fillLockedArrival_26 198 a2 (n + 1) (nI d) M = L_X5_fillLockedArrival_26 198 a2 n (nI (d + 1)) M' ∧ KA N b f a2 (d + 1) M' ∧ Fa a2 M M' := by
  obtain ⟨hH, hC, hR, ⟨gL, hL1, hL2⟩, ⟨gR, hR1, hR2⟩, gB, hB1, hB2⟩ := hK
  rw [L_X5_fillLockedArrival_26, if_neg (fun q => by have := (zleD (by omega)).mp q; omega), zck hd (by omega), zcl (by omega), hR d hd, nI_s]
  by_cases c : does N b d ∧ f d < 63
  · obtain ⟨c1, c2⟩ := c
    have e1 : ifD N b (zr f) d = (f d, 0) := ifD_t c1
    have hlt : enc (f d, 0) < (66060288 : Int32) := by
      rw [enc_z]
      exact (zlt (b := 66060288) (by omega) (by omega)).mpr (by omega)
    rw [e1, if_pos hlt, zck hd (by omega), hH d hd]
    rcases locksBy_c hN hb hd hC with ⟨hdo, y, hy, e⟩ | ⟨hdo, e⟩
    · have hLk : ∀ p, p < 7 → (bi (nI y) p ↔ lk N b d p) := hy.2
      obtain ⟨f1, f2⟩ := free_k y hy.1
      have f1' : nI y &&& (60 : Int32) = 0 ↔ rf N b d := by
        rw [f1]
        exact ⟨fun h p hp q => h p hp ((hLk p (fR_7 p hp)).mpr q), fun h p hp q => h p hp ((hLk p (fR_7 p hp)).mp q)⟩
      have f2' : nI y &&& (67 : Int32) = 0 ↔ lf N b d := by
        rw [f2]
        exact ⟨fun h p hp q => h p hp ((hLk p (fL_7 p hp)).mpr q), fun h p hp q => h p hp ((hLk p (fL_7 p hp)).mp q)⟩
      rw [e, bd_s]
      by_cases c3 : rf N b d
      · rw [if_pos (f1'.mpr c3), zck hd (by omega)]
        obtain ⟨M1, g', q1, q2, q3, q4⟩ := bringFoot_c (a4 := 199) (v := f d) (L := lk N b d) (F := fL) (fun d => fr_L) hH (by decide) (by omega) (bits_L hLk) hd hL1 hL2
        rw [q1, bd_s, bd_s]
        refine ⟨M1, rfl, ⟨fun t ht => ?_, ch_f hC (fun c h1 h2 => q4 c (by omega) (by omega)), fun t ht => ?_, ⟨g', q2, isM_c q3 (fun e v _ _ => ?_)⟩, ⟨gR, fun t ht => ?_, isM_c hR2 (fun e v _ _ => ?_)⟩, gB, fun t ht => ?_, isM_c hB2 (fun e v _ _ => ?_)⟩, fun c h1 h2 h3 h4 h5 h6 => q4 c h3 h6⟩
        · rw [q4 2 (by decide) (by decide)]
          exact hH t ht
        · rw [q4 198 (by decide) (by decide)]
          exact hR t ht
        · rw [SL_s]
          exact ⟨fun r => r.elim Or.inl (fun r => Or.inr ⟨c1, c2, c3, r⟩), fun r => r.elim Or.inl (fun r => Or.inr r.2.2.2)⟩
        · rw [q4 200 (by decide) (by decide)]
          exact hR1 t ht
        · rw [SR_s]
          exact ⟨Or.inl, fun r => r.elim id (fun r => absurd c3 r.2.2.1)⟩
        · rw [q4 a2 (by omega) (by omega)]
          exact hB1 t ht
        · rw [SB_s]
          exact ⟨Or.inl, fun r => r.elim id (fun r => absurd c3 r.2.2.1)⟩
      · rw [if_neg (fun q => c3 (f1'.mp q))]
        by_cases c4 : lf N b d
        · rw [if_pos (f2'.mpr c4), zck hd (by omega)]
          obtain ⟨M1, g', q1, q2, q3, q4⟩ := bringFoot_c (a4 := 200) (v := f d) (L := lk N b d) (F := fR) (fun d => fr_R) hH (by decide) (by omega) (bits_R hLk) hd hR1 hR2
          rw [q1, bd_s, bd_s]
          refine ⟨M1, rfl, ⟨fun t ht => ?_, ch_f hC (fun c h1 h2 => q4 c (by omega) (by omega)), fun t ht => ?_, ⟨gL, fun t ht => ?_, isM_c hL2 (fun e v _ _ => ?_)⟩, ⟨g', q2, isM_c q3 (fun e v _ _ => ?_)⟩, gB, fun t ht => ?_, isM_c hB2 (fun e v _ _ => ?_)⟩, fun c h1 h2 h3 h4 h5 h6 => q4 c h4 h6⟩
          · rw [q4 2 (by decide) (by decide)]
            exact hH t ht
          · rw [q4 198 (by decide) (by decide)]
            exact hR t ht
          · rw [q4 199 (by decide) (by decide)]
            exact hL1 t ht
          · rw [SL_s]
            exact ⟨Or.inl, fun r => r.elim id (fun r => absurd r.2.2.1 c3)⟩
          · rw [SR_s]
            exact ⟨fun r => r.elim Or.inl (fun r => Or.inr ⟨c1, c2, c3, c4, r⟩), fun r => r.elim Or.inl (fun r => Or.inr r.2.2.2.2)⟩
          · rw [q4 a2 (by omega) (by omega)]
            exact hB1 t ht
          · rw [SB_s]
            exact ⟨Or.inl, fun r => r.elim id (fun r => absurd c4 r.2.2.2.1)⟩
        · rw [if_neg (fun q => c4 (f2'.mp q)), zck hd (by omega)]
          obtain ⟨M1, g', q1, q2, q3, q4⟩ := bringBoth_c (a4 := a2) (v := f d) (L := lk N b d) hH (by omega) (by omega) (by omega) (by omega) hLk hd hB1 hB2
          rw [q1, bd_s, bd_s]
          refine ⟨M1, rfl, ⟨fun t ht => ?_, ch_f hC (fun c h1 h2 => q4 c (by omega) (by omega) (by omega)), fun t ht => ?_, ⟨gL, fun t ht => ?_, isM_c hL2 (fun e v _ _ => ?_)⟩, ⟨gR, fun t ht => ?_, isM_c hR2 (fun e v _ _ => ?_)⟩, g', q2, isM_c q3 (fun e v _ _ => ?_)⟩, fun c h1 h2 h3 h4 h5 h6 => q4 c h1 h5 h6⟩
          · rw [q4 2 (by omega) (by decide) (by decide)]
            exact hH t ht
          · rw [q4 198 (by omega) (by decide) (by decide)]
            exact hR t ht
          · rw [q4 199 (by omega) (by decide) (by decide)]
            exact hL1 t ht
          · rw [SL_s]
            exact ⟨Or.inl, fun r => r.elim id (fun r => absurd r.2.2.1 c3)⟩
          · rw [q4 200 (by omega) (by decide) (by decide)]
            exact hR1 t ht
          · rw [SR_s]
            exact ⟨Or.inl, fun r => r.elim id (fun r => absurd r.2.2.2.1 c4)⟩
          · rw [SB_s]
            exact ⟨fun r => r.elim Or.inl (fun r => Or.inr ⟨c1, c2, c3, c4, r⟩), fun r => r.elim Or.inl (fun r => Or.inr r.2.2.2.2)⟩
    · exact absurd c1 hdo
  · have hge : ¬ enc (ifD N b (zr f) d) < (66060288 : Int32) := by
      by_cases c1 : does N b d
      · have e1 : ifD N b (zr f) d = (f d, 0) := ifD_t c1
        rw [e1, enc_z]
        intro q
        have h9 := hf d hd
        have := (zlt (b := 66060288) (by omega) (by omega)).mp q
        exact c ⟨c1, by omega⟩
      · rw [ifD_f c1, enc_top]
        exact Int32.lt_irrefl
    rw [if_neg hge, bd_s]
    refine ⟨M, rfl, ⟨hH, hC, hR, ⟨gL, hL1, isM_c hL2 (fun e v _ _ => ?_)⟩, ⟨gR, hR1, isM_c hR2 (fun e v _ _ => ?_)⟩, gB, hB1, isM_c hB2 (fun e v _ _ => ?_)⟩, fun _ _ _ _ _ _ _ => rfl⟩
    · rw [SL_s]
      exact ⟨Or.inl, fun r => r.elim id (fun r => absurd ⟨r.1, r.2.1⟩ c)⟩
    · rw [SR_s]
      exact ⟨Or.inl, fun r => r.elim id (fun r => absurd ⟨r.1, r.2.1⟩ c)⟩
    · rw [SB_s]
      exact ⟨Or.inl, fun r => r.elim id (fun r => absurd ⟨r.1, r.2.1⟩ c)⟩
