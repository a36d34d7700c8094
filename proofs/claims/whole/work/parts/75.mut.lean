/-! PURE: calls that change the part: what is common -/
theorem chg {f g : Mm → Option (Int32 × Mm)} {M : Mm} {N' : Nt} {r : Int32} (h : Inv M) (hN' : WP N')
    (hf : ∀ M1, f_X2_keep 3 M = some M1 → (∀ c, ¬ (10 ≤ c ∧ c ≤ 151) → M1 c = M c) → ∃ M2, f M = some (r, M2) ∧ (∀ c, ¬ (3 ≤ c ∧ c ≤ 9) → c ≠ 161 → M2 c = M1 c) ∧ RelP 3 M2 N' ∧ WI N' M2)
    (hg : ∀ M2 M3, (∀ c, 204 ≤ c → M2 c = M c) → f_X7_keep M2 = some M3 → (∀ c j, c ≠ 214 → ¬ (c = 212 ∧ j = 2) → M3 c j = M2 c j) → ∃ M4, g M2 = some (r, M4) ∧ M4 213 = N' ∧ ∀ c, c ≠ 213 → M4 c = M3 c) : Same f g M := by
  obtain ⟨i1, i2, i3, i4, i5, i6, k, x, h1, h2, h3, h4, h5, h6⟩ := h
  obtain ⟨M1, a1, a2, a3, a4, a5⟩ := keep_c i2 h2 h1 h4 h3 i3
  have c1 : ∀ c, ¬ (10 ≤ c ∧ c ≤ 151) → M1 c = M c := fun c g => funext (fun j => a5 c j (by omega) (by omega))
  obtain ⟨M2, b1, b2, b3, b4⟩ := hf M1 a1 c1
  have c2 : ∀ c, 204 ≤ c → M2 c = M c := fun c g => by rw [b2 c (by omega) (by omega), c1 c (by omega)]
  obtain ⟨M3, d1, d2, d3, d4⟩ := keep_m (M := M2) h1 (by rw [c2 212 (by omega)]; exact h5)
  obtain ⟨M4, e1, e2, e3⟩ := hg M2 M3 c2 d1 d4
  have lo : ∀ c, c < 212 → M4 c = M2 c := fun c g => by
    rw [e3 c (by omega)]
    exact funext (fun j => d4 c j (by omega) (by omega))
  have hi : ∀ c j, 212 ≤ c → c ≠ 213 → c ≠ 214 → ¬ (c = 212 ∧ j = 2) → M4 c j = M c j := fun c j g1 g2 g3 g4 => by rw [e3 c g2, d4 c j g3 g4, c2 c (by omega)]
  refine ⟨r, M2, M4, b1, e1, ?_⟩
  refine ⟨fun t ht => ?_, by rw [e2]; exact hN', by rw [e2]; exact relp_e b3 (fun c g1 g2 => lo c (by omega)), by rw [e2]; exact wi_e b4 (wp_pl hN').2.2 (fun c g1 g2 => lo c (by omega)), ?_, fun s hs => ?_, ?_⟩
  · rw [lo 2 (by omega), b2 2 (by omega) (by omega), c1 2 (by omega)]
    exact i1 t ht
  · rw [lo 0 (by omega), b2 0 (by omega) (by omega), c1 0 (by omega), hi 212 6 (by omega) (by omega) (by omega) (by omega)]
    exact i5
  · obtain ⟨s1, s2, s3, s4⟩ := i6 s hs
    have q : ∀ c, 204 ≤ c → c < 212 → M4 c = M c := fun c g1 g2 => by rw [lo c g2, c2 c g1]
    rw [q 205 (by omega) (by omega), q 206 (by omega) (by omega), q (208 + s) (by omega) (by omega), hi 215 s (by omega) (by omega) (by omega) (by omega), hi 216 s (by omega) (by omega) (by omega) (by omega)]
    exact ⟨s1, s2, s3, fun i hi' => by rw [hi 217 _ (by omega) (by omega) (by omega) (by omega)]; exact s4 i hi'⟩
  · have r10 : M4 10 = M1 10 := by rw [lo 10 (by omega), b2 10 (by omega) (by omega)]
    have rng : ∀ c, 12 ≤ c → c ≤ 151 → M4 c = M1 c := fun c g1 g2 => by rw [lo c (by omega), b2 c (by omega) (by omega)]
    have sl4 : ∀ i, sl M4 i = sl M3 i := fun i => by
      unfold sl
      rw [e3 214 (by decide)]
    have slM : ∀ i, sl M2 i = sl M i := fun i => by
      unfold sl
      rw [c2 214 (by omega)]
    refine ⟨min (k + 1) 20, (x + 1) % 20, by omega, Nat.mod_lt _ (by omega), by rw [r10]; exact a4, by rw [r10]; exact a3, by rw [e3 212 (by decide)]; exact d2, fun i hi' => ?_⟩
    rw [sl4]
    by_cases cl : i + 1 = min (k + 1) 20
    · have g1 := d3.2
      rw [show min (k + 1) 20 - 1 = i by omega, c2 213 (by omega)] at g1
      refine ⟨wp_320 i2 g1, rel_320 i2 g1 ?_⟩
      rw [show ((x + 1) % 20 + 20 - min (k + 1) 20 + i) % 20 = x by omega]
      exact relp_e a2 (fun c g1 g2 => rng c (by omega) (by omega))
    · have g1 := d3.1 i (by omega)
      by_cases c20 : k = 20
      · rw [if_pos c20, slM] at g1
        obtain ⟨j1, j2⟩ := h6 (i + 1) (by omega)
        refine ⟨wp_320 j1 g1, rel_320 j1 g1 ?_⟩
        have ei : ((x + 1) % 20 + 20 - min (k + 1) 20 + i) % 20 = (x + 20 - k + (i + 1)) % 20 := by omega
        rw [ei]
        have hne : (x + 20 - k + (i + 1)) % 20 ≠ x := by omega
        have hlt := Nat.mod_lt (x + 20 - k + (i + 1)) (show 0 < 20 by omega)
        exact relp_e j2 (fun c g1 g2 => by rw [rng c (by omega) (by omega)]; exact funext (fun j => a5 c j (by omega) (by omega)))
      · rw [if_neg c20, slM] at g1
        obtain ⟨j1, j2⟩ := h6 i (by omega)
        refine ⟨wp_320 j1 g1, rel_320 j1 g1 ?_⟩
        have ei : ((x + 1) % 20 + 20 - min (k + 1) 20 + i) % 20 = (x + 20 - k + i) % 20 := by omega
        rw [ei]
        have hne : (x + 20 - k + i) % 20 ≠ x := by omega
        have hlt := Nat.mod_lt (x + 20 - k + i) (show 0 < 20 by omega)
        exact relp_e j2 (fun c g1 g2 => by rw [rng c (by omega) (by omega)]; exact funext (fun j => a5 c j (by omega) (by omega)))
/-! what the way forgets -/
theorem fa_s {M : Mm} {j : Nat} (h1 : j ≠ 14) (h2 : j ≠ 16) : f_X5_forgetAnswers M 161 j = M 161 j := by
  unfold f_X5_forgetAnswers
  rw [nm_d, nm_d, mw_o h2, mw_o h1]
theorem fa_z {M : Mm} : f_X5_forgetAnswers M 161 14 = 0 ∧ f_X5_forgetAnswers M 161 16 = 0 := by
  unfold f_X5_forgetAnswers
  rw [nm_d, nm_d, mw_s, mw_o (by decide), mw_s]
  exact ⟨rfl, rfl⟩
theorem fa_c' {M : Mm} {c : Nat} (h : c ≠ 161) : f_X5_forgetAnswers M c = M c := by
  unfold f_X5_forgetAnswers
  rw [nm_d, nm_d, mw_c h, mw_c h]
theorem wi_beats {N N' : Nt} {M1 M : Mm} {fst l : Nat} {x2 : Int32} (hW : WI N M1) (e : ∀ c, 161 ≤ c → c ≤ 203 → M c = M1 c) (hN : WP N) (hp : pl N' = pl N) (hs : ∀ p, p < 7 → so N p = so N' p) (hf : fst < 12) (hl : l ≤ 12) (hfl : fst ≤ l) (hx : x2 + 1 = nI l) (hE : ∀ t, t < 12 → ¬ (fst ≤ t ∧ t < l) → eqB N N' t) (h30 : M 3 0 = nI (pl N)) : WI N' (f_X5_forgetBeats (nI fst) x2 M) ∧ ∀ c, c ≠ 161 → f_X5_forgetBeats (nI fst) x2 M c = M c := by
  obtain ⟨ep, p1, p2⟩ := wp_pl hN
  obtain ⟨o, k, o1, hk1, w12, wO, w13, wA, w14, w16⟩ := hW
  have e161 := e 161 (by omega) (by omega)
  have ej : jmin (oI ((k : Int) - 1)) (nI fst) = oI (((min k (fst + 1) : Nat) : Int) - 1) := by
    unfold jmin
    rw [oI_n]
    by_cases c : (fst : Int) < (k : Int) - 1
    · rw [if_pos (by rw [oI_lt ⟨by omega, by omega⟩ ⟨by omega, by omega⟩]; exact c)]
      congr 1
      omega
    · rw [if_neg (by rw [oI_lt ⟨by omega, by omega⟩ ⟨by omega, by omega⟩]; exact c)]
      congr 1
      omega
  have hArr : ∀ M' : Mm, (∀ c, 186 ≤ c → c ≤ 197 → M' c = M1 c) → ArO N' M' (min k (fst + 1)) := fun M' hM b hb d hd => by
    rw [hM _ (by omega) (by omega), ← A_eq hs b (fun t ht => hE t (by omega) (by omega))]
    exact wA b (by omega) d hd
  have hOn : ∀ (M' : Mm) (o' : Nat), o ≤ o' → (pl N ≤ fst ∨ l ≤ o') → (∀ c, 172 ≤ c → c ≤ 184 → M' c = M1 c) → OnO N' M' o' := fun M' o' g1 g2 hM b b1 b2 => by
    rw [hp] at b2
    have eV : VB N b = VB N' b := VB_eq hp.symm (pl N - 1 - b) b (by omega) (fun t t1 t2 => hE t (by omega) (by omega))
    obtain ⟨i1, i2⟩ := wO b (by omega) b2
    rw [← eV]
    refine ⟨fun d hd => ?_, ?_⟩
    · rw [hM _ (by omega) (by omega)]
      exact i1 d hd
    · rw [hM _ (by omega) (by omega)]
      exact i2
  unfold f_X5_forgetBeats
  rw [e161, w13, ej, nm_d, mw_c (show (3 : Nat) ≠ 161 by decide), h30, nm_d, nm_d]
  by_cases c : pl N ≤ fst
  · rw [if_pos ((zle (by omega) (by omega)).mpr c)]
    refine ⟨⟨o, min k (fst + 1), o1, by omega, ?_, hOn _ o (Nat.le_refl o) (Or.inl c) (fun c g1 g2 => by rw [fa_c' (by omega), mw_c (by omega), e c (by omega) (by omega)]), ?_, hArr _ (fun c g1 g2 => by rw [fa_c' (by omega), mw_c (by omega), e c (by omega) (by omega)]), Or.inl fa_z.1, Or.inl fa_z.2⟩, fun c g => by rw [fa_c' g, mw_c g]⟩
    · rw [fa_s (by decide) (by decide), mw_o (by decide), e161]
      exact w12
    · rw [fa_s (by decide) (by decide), mw_s]
  · rw [if_neg (fun q => c ((zle (by omega) (by omega)).mp q)), nm_d, mw_o (show (12 : Nat) ≠ 13 by decide), e161, w12, hx, jmax_n (by omega) (by omega)]
    refine ⟨⟨max o l, min k (fst + 1), by omega, by omega, ?_, hOn _ (max o l) (by omega) (Or.inr (by omega)) (fun c g1 g2 => by rw [fa_c' (by omega), mw_c (by omega), mw_c (by omega), e c (by omega) (by omega)]), ?_, hArr _ (fun c g1 g2 => by rw [fa_c' (by omega), mw_c (by omega), mw_c (by omega), e c (by omega) (by omega)]), Or.inl fa_z.1, Or.inl fa_z.2⟩, fun c g => by rw [fa_c' g, mw_c g, mw_c g]⟩
    · rw [fa_s (by decide) (by decide), mw_s]
    · rw [fa_s (by decide) (by decide), mw_o (by decide), mw_s]
theorem wi_len {N N' : Nt} {M1 M : Mm} (hW : WI N M1) (e : ∀ c, 161 ≤ c → c ≤ 203 → M c = M1 c) (hp : pl N' ≤ 12) (hs : ∀ p, p < 7 → so N p = so N' p) (hE : ∀ t, t < 12 → eqB N N' t) : WI N' (f_X5_forgetLength M) ∧ ∀ c, c ≠ 161 → f_X5_forgetLength M c = M c := by
  obtain ⟨o, k, o1, hk1, w12, wO, w13, wA, w14, w16⟩ := hW
  unfold f_X5_forgetLength
  rw [nm_d, nm_d]
  refine ⟨⟨12, k, by omega, hk1, ?_, fun b g1 g2 => by omega, ?_, fun b hb d hd => ?_, Or.inl fa_z.1, Or.inl fa_z.2⟩, fun c g => by rw [fa_c' g, mw_c g]⟩
  · rw [fa_s (by decide) (by decide), mw_s]
    rfl
  · rw [fa_s (by decide) (by decide), mw_o (by decide), e 161 (by omega) (by omega)]
    exact w13
  · rw [fa_c' (by omega), mw_c (by omega), e _ (by omega) (by omega), ← A_eq hs b (fun t ht => hE t (by omega))]
    exact wA b hb d hd
theorem wi_start {N N' : Nt} {M1 M : Mm} (hW : WI N M1) (e : ∀ c, 161 ≤ c → c ≤ 203 → M c = M1 c) (hN : WP N) (hp : pl N' = pl N) (hE : ∀ t, t < 12 → eqB N N' t) : WI N' (f_X5_forgetStart M) ∧ ∀ c, c ≠ 161 → f_X5_forgetStart M c = M c := by
  obtain ⟨ep, p1, p2⟩ := wp_pl hN
  obtain ⟨o, k, o1, hk1, w12, wO, w13, wA, w14, w16⟩ := hW
  unfold f_X5_forgetStart
  rw [nm_d, nm_d]
  refine ⟨⟨o, 0, o1, by omega, ?_, fun b g1 g2 => ?_, ?_, fun b hb d hd => by omega, Or.inl fa_z.1, Or.inl fa_z.2⟩, fun c g => by rw [fa_c' g, mw_c g]⟩
  · rw [fa_s (by decide) (by decide), mw_o (by decide), e 161 (by omega) (by omega)]
    exact w12
  · rw [hp] at g2
    have eV : VB N b = VB N' b := VB_eq hp.symm (pl N - 1 - b) b (by omega) (fun t t1 t2 => hE t (by omega))
    obtain ⟨i1, i2⟩ := wO b g1 g2
    rw [← eV]
    refine ⟨fun d hd => ?_, ?_⟩
    · rw [fa_c' (by omega), mw_c (by omega), e _ (by omega) (by omega)]
      exact i1 d hd
    · rw [fa_c' (by omega), mw_c (by omega), e _ (by omega) (by omega)]
      exact i2
  · rw [fa_s (by decide) (by decide), mw_s]
    rfl
