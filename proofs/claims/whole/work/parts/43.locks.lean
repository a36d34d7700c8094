/-! PURE: the class's chord: stringOf, locksBy -/
theorem snd_c {t : Int} {d s : Nat} : snd t d s ↔ cand t s ∧ (sd d (s % 7) : Int) = t - nat_ s + 1 := by
  have h := sd_lt d (s % 7)
  unfold snd cand pit
  constructor
  · intro ⟨h1, h2⟩
    exact ⟨⟨h1, by omega, by omega⟩, by omega⟩
  · intro ⟨h1, h2⟩
    exact ⟨h1.1, by omega⟩
theorem str_no {t : Int} {d : Nat} (ht1 : -1000 ≤ t) (ht2 : t ≤ 1000) (hd : d < 2187) (h : ∀ s, ¬ snd t d s) : strI t d = -1 := isL_u (strI_L ht1 ht2 hd) (Or.inl ⟨rfl, fun s q => absurd q (h s)⟩)
theorem str_yes {t : Int} {d s : Nat} (ht1 : -1000 ≤ t) (ht2 : t ≤ 1000) (hd : d < 2187) (h : snd t d s) (hl : ∀ s', snd t d s' → s ≤ s') : strI t d = s := isL_u (strI_L ht1 ht2 hd) (Or.inr ⟨s, rfl, h, by omega, fun s' q _ => hl s' q⟩)
theorem mod7_k : ∀ s : Nat, s < 42 → nI s - nI s / (7 : Int32) * (7 : Int32) = nI (s % 7) := fun s hs => (natural_k s hs).2.1
theorem stand_eq {t : Int} {d s : Nat} (hd : d < 2187) (hc : cand t s) : (f_X1_standIn (nI (sB d)) (nI s - nI s / (7 : Int32) * (7 : Int32)) = oI (t - nat_ s + 1)) ↔ snd t d s := by
  have h := sd_lt d (s % 7)
  have h1 := hc.1
  have h2 := hc.2.1
  have h3 := hc.2.2
  rw [mod7_k s h1, standIn_eq hd (Nat.mod_lt _ (by decide)), oI_n, oeq (by omega) (by omega) (by omega) (by omega), snd_c]
  exact ⟨fun q => ⟨hc, q⟩, fun q => q.2⟩
theorem m1_0 : oI (-1) < 0 := by decide
theorem stringOf_c {a : Nat} {M : Mm} {N : Nt} {b i d : Nat} (hN : WP N) (hb : b < 12) (hi : i < sz N b) (hd : d < 2187) (h : ChN a M N b i) : f_X0_stringOf a (nI i) (nI (sB d)) M = some (oI (str N b i d)) := by
  have hz := (wp_sz hN hb).2
  have ht := tg_b hN hb hi
  have e1 : str N b i d = strI (tg N b i) d := rfl
  rw [e1]
  unfold f_X0_stringOf
  simp (disch := omega) only [zck, zcl, nm_d]
  rcases h.2.2 with ⟨c1, c2, c3⟩ | ⟨l, c1, c2, c3, c4, c5, c6⟩ | ⟨l, g, c1, c2, c3, c4, c5, c6, c7, c8, c9⟩
  · rw [c1, c2, if_pos m1_0, if_pos m1_0, str_no (by omega) (by omega) hd (fun s q => c3 s q.1 (snd_c.mp q).1)]
    rfl
  · have hl := c1.1
    rw [c3, c4, c5, if_neg (nI_nn (by omega)), if_pos m1_0]
    by_cases c : snd (tg N b i) d l
    · rw [if_pos ((stand_eq hd c1).mpr c), str_yes (by omega) (by omega) hd c (fun s q => by rw [c6 s q.1 (snd_c.mp q).1]; exact Nat.le_refl _), oI_n]
    · rw [if_neg (fun q => c ((stand_eq hd c1).mp q)), str_no (by omega) (by omega) hd (fun s q => c (c6 s q.1 (snd_c.mp q).1 ▸ q))]
      rfl
  · have hl := c1.1
    have hg := c2.1
    rw [c5, c6, c7, c8, if_neg (nI_nn (by omega)), if_neg (nI_nn (by omega))]
    by_cases c : snd (tg N b i) d l
    · rw [if_pos ((stand_eq hd c1).mpr c), str_yes (by omega) (by omega) hd c (fun s q => by
        rcases c9 s q.1 (snd_c.mp q).1 with e | e <;> omega), oI_n]
    · rw [if_neg (fun q => c ((stand_eq hd c1).mp q))]
      by_cases c' : snd (tg N b i) d g
      · rw [if_pos ((stand_eq hd c2).mpr c'), str_yes (by omega) (by omega) hd c' (fun s q => by
          rcases c9 s q.1 (snd_c.mp q).1 with e | e
          · subst e
            exact absurd q c
          · omega), oI_n]
      · rw [if_neg (fun q => c' ((stand_eq hd c2).mp q)), str_no (by omega) (by omega) hd (fun s q => by
          rcases c9 s q.1 (snd_c.mp q).1 with e | e
          · subst e
            exact c q
          · subst e
            exact c' q)]
        rfl
set_option maxRecDepth 100000 in
theorem sB_bit : ∀ d : Nat, d < 2187 → ∀ q : Nat, q < 32 → ((nI (sB d)).toBitVec.getLsbD q = (decide (q < 14) && (sd d (q / 2)).testBit (q % 2))) := by decide +kernel
theorem bi_and {x y : Int32} {p : Nat} : bi (x &&& y) p ↔ bi x p ∧ bi y p := by
  unfold bi
  rw [Int32.toBitVec_and, BitVec.getLsbD_and]
  simp
theorem bi_ext {x y : Int32} : x = y ↔ ∀ q, q < 32 → (bi x q ↔ bi y q) := by
  constructor
  · intro h q _
    rw [h]
  · intro h
    refine Int32.toBitVec_inj.mp (BitVec.eq_of_getLsbD_eq ?_)
    intro i hi
    have h1 := h i hi
    unfold bi at h1
    exact Bool.eq_iff_iff.mpr h1
theorem tb_k : ∀ s : Nat, s < 3 → ∀ u : Nat, u < 3 → ((∀ i, i < 2 → (s.testBit i = true ↔ u.testBit i = true)) ↔ s = u) := by decide +kernel
theorem marks_e {N : Nt} {b d : Nat} (hN : WP N) (hb : b < 12) (hd : d < 2187) {x y : Int32} (hx : mkB N b 7 x) (hy : mkS N b 7 y) : nI (sB d) &&& x = y ↔ fitM N b d 7 := by
  rw [bi_ext]
  have hs : ∀ q, q < 32 → (bi (nI (sB d)) q ↔ q < 14 ∧ (sd d (q / 2)).testBit (q % 2) = true) := fun q hq => by
    unfold bi
    rw [sB_bit d hd q hq]
    simp
  constructor
  · intro h p hp
    by_cases c : mk N b p < 0
    · exact Or.inl c
    · right
      have hm := hN.2.2.2.1 b p hb hp
      obtain ⟨s, es⟩ := Int.eq_ofNat_of_zero_le (show 0 ≤ mk N b p by omega)
      have h3 := (tb_k s (by omega) (sd d p) (sd_lt d p)).mp (fun i hi => by
        have h1 := h (2 * p + i) (by omega)
        rw [bi_and, hs _ (by omega), hx _ (by omega), hy _ (by omega), show (2 * p + i) / 2 = p by omega, show (2 * p + i) % 2 = i by omega, es] at h1
        have e9 : (Int.ofNat s).toNat = s := rfl
        constructor
        · intro g
          exact (h1.mpr ⟨hp, by omega, g⟩).1.2
        · intro g
          exact (h1.mp ⟨⟨by omega, g⟩, hp, by omega⟩).2.2)
      omega
  · intro h q hq
    rw [bi_and, hs q hq, hx q hq, hy q hq]
    constructor
    · intro ⟨⟨g1, g2⟩, g3, g4⟩
      rcases h (q / 2) g3 with g5 | g5
      · omega
      · rw [g5]
        exact ⟨g3, by omega, g2⟩
    · intro ⟨g1, g2, g3⟩
      rcases h (q / 2) g1 with g5 | g5
      · omega
      · rw [g5] at g3
        exact ⟨⟨by omega, g3⟩, g1, g2⟩
theorem rsh_k : ∀ s : Nat, s < 42 → (nI 0 <<< ((oI s - oI s / (7 : Int32) * (7 : Int32)) &&& 31) = nI 0 ∧ nI 1 <<< ((oI s - oI s / (7 : Int32) * (7 : Int32)) &&& 31) = nI (2 ^ (s % 7))) := by decide +kernel
theorem bi_pow : ∀ k : Nat, k < 7 → ∀ p : Nat, p < 7 → ((nI (2 ^ k)).toBitVec.getLsbD p = true ↔ p = k) := by decide +kernel
/-- y is the set of locked pedals -/
def lkS (N : Nt) (b d m : Nat) (y : Nat) : Prop := y < 128 ∧ ∀ p, p < 7 → (bi (nI y) p ↔ lkm N b d m p)
theorem locks_l {a : Nat} {M : Mm} {N : Nt} {b d : Nat} (hN : WP N) (hb : b < 12) (hd : d < 2187) (hz0 : M a 0 = nI (sz N b)) (hC : ∀ i, i < sz N b → ChN a M N b i) : ∀ (k n m : Nat) (x : Int64) (y : Nat), m + k = sz N b → k < n → fitS N b d m → (∀ s, s < 42 → (bt_ x s ↔ ∃ i, i < m ∧ str N b i d = (s : Int))) → lkS N b d m y →
    (fitS N b d (sz N b) ∧ ∃ y', lkS N b d (sz N b) y' ∧ L_X0_locksBy_23 a (nI (sB d)) M n x (nI y) (nI m) = some (.inl (nI y'))) ∨ (¬ fitS N b d (sz N b) ∧ L_X0_locksBy_23 a (nI (sB d)) M n x (nI y) (nI m) = some (.inr (-1)))
  | _, 0, _, _, _, _, h2, _, _, _ => by omega
  | 0, n + 1, m, x, y, h1, h2, h3, h4, h5 => by
    have hz := (wp_sz hN hb).2
    have e : m = sz N b := by omega
    rw [L_X0_locksBy_23, hz0]
    rw [if_pos ((zle (by omega) (by omega)).mpr (by omega))]
    left
    rw [e] at h3 h5
    exact ⟨h3, y, h5, rfl⟩
  | k + 1, n + 1, m, x, y, h1, h2, h3, h4, h5 => by
    have hz := (wp_sz hN hb).2
    have hm : m < sz N b := by omega
    have hs := str_b hN hb hm hd
    rw [L_X0_locksBy_23, hz0]
    rw [if_neg (fun q => by have := (zle (by omega) (by omega)).mp q; omega), stringOf_c hN hb hm hd (hC m hm), bd_s, nI_s]
    by_cases c1 : str N b m d < 0
    · right
      rw [if_pos (by rw [k0, oI_lt ⟨by omega, by omega⟩ ⟨by omega, by omega⟩]; omega)]
      refine ⟨?_, rfl⟩
      intro q
      have := q.1 m hm
      omega
    · rw [if_neg (by rw [k0, oI_lt ⟨by omega, by omega⟩ ⟨by omega, by omega⟩]; omega)]
      obtain ⟨s, es'⟩ := Int.eq_ofNat_of_zero_le (show 0 ≤ str N b m d by omega)
      have hs42 : s < 42 := by omega
      have es : oI (str N b m d) = nI s := by rw [es', oI_n]
      rw [es]
      by_cases c2 : bt_ x s
      · right
        rw [if_neg (fun q => (low_0 hs42).mp q c2)]
        refine ⟨?_, rfl⟩
        intro q
        obtain ⟨i, hi, ei⟩ := (h4 s hs42).mp c2
        exact q.2 m i hi hm (es'.trans ei.symm)
      · rw [if_pos ((low_0 hs42).mpr c2), nm_d, zck (by omega) (by omega), zcl (by omega), nm_d, (hC m hm).2.1]
        have hrg := (wp_rg hN hb hm).2
        obtain ⟨r0, r1⟩ := rsh_k s hs42
        rw [← oI_n] at r0 r1
        have hy : ∃ y2, nI y ||| nI (rg N b m) <<< ((nI s - nI s / (7 : Int32) * (7 : Int32)) &&& 31) = nI y2 ∧ lkS N b d (m + 1) y2 := by
          by_cases c3 : rg N b m = 1
          · rw [c3, r1, zor]
            have hpow : 2 ^ (s % 7) < 2 ^ 7 := Nat.pow_lt_pow_right (by decide) (Nat.mod_lt _ (by decide))
            refine ⟨_, rfl, Nat.or_lt_two_pow (n := 7) h5.1 hpow, fun p hp => ?_⟩
            rw [← zor, bi_or, h5.2 p hp]
            have e9 : bi (nI (2 ^ (s % 7))) p ↔ p = s % 7 := bi_pow (s % 7) (Nat.mod_lt _ (by decide)) p hp
            rw [e9]
            constructor
            · intro g
              rcases g with ⟨i, hi, g⟩ | g
              · exact ⟨i, by omega, g⟩
              · exact ⟨m, by omega, c3, by omega, by omega⟩
            · intro ⟨i, hi, g⟩
              by_cases c4 : i = m
              · subst c4
                right
                have := g.2.2
                omega
              · exact Or.inl ⟨i, by omega, g⟩
          · have e8 : rg N b m = 0 := by omega
            rw [e8, r0, zor, Nat.or_zero]
            refine ⟨_, rfl, h5.1, fun p hp => ?_⟩
            rw [h5.2 p hp]
            constructor
            · intro ⟨i, hi, g⟩
              exact ⟨i, by omega, g⟩
            · intro ⟨i, hi, g⟩
              by_cases c4 : i = m
              · subst c4
                exact absurd g.1 c3
              · exact ⟨i, by omega, g⟩
        obtain ⟨y2, ey, hy2⟩ := hy
        rw [ey]
        refine locks_l hN hb hd hz0 hC k n (m + 1) _ y2 (by omega) (by omega) ?_ ?_ hy2
        · refine ⟨?_, ?_⟩
          · intro i hi
            by_cases e : i = m
            · subst e
              omega
            · exact h3.1 i (by omega)
          · intro i i' h6 h7
            by_cases e : i = m
            · subst e
              intro q
              exact c2 ((h4 s hs42).mpr ⟨i', h6, q.symm.trans es'⟩)
            · exact h3.2 i i' h6 (by omega)
        · intro t ht
          rw [bt_put hs42 ht, h4 t ht]
          constructor
          · intro q
            rcases q with ⟨i, hi, ei⟩ | q
            · exact ⟨i, by omega, ei⟩
            · subst q
              exact ⟨m, by omega, es'⟩
          · intro q
            obtain ⟨i, hi, ei⟩ := q
            by_cases e : i = m
            · subst e
              right
              omega
            · exact Or.inl ⟨i, by omega, ei⟩
theorem nI_00 : nI 0 = 0 := rfl
theorem locksBy_c {a : Nat} {M : Mm} {N : Nt} {b d : Nat} (hN : WP N) (hb : b < 12) (hd : d < 2187) (hC : Ch a M N b) : (does N b d ∧ ∃ y, lkS N b d (sz N b) y ∧ f_X0_locksBy a (nI (sB d)) M = some (nI y)) ∨ (¬ does N b d ∧ f_X0_locksBy a (nI (sB d)) M = some (-1)) := by
  have hz := (wp_sz hN hb).2
  unfold f_X0_locksBy
  by_cases c : fitM N b d 7
  · rw [if_pos ((marks_e hN hb hd hC.2.2.1 hC.2.2.2).mpr c)]
    have h := locks_l hN hb hd hC.1 hC.2.1 (sz N b) FU 0 0 0 (by omega) (by unfold FU; omega) ⟨fun p hp => by omega, fun p q _ hp => by omega⟩ (fun s _ => ⟨fun q => absurd q bt_0, fun ⟨i, hi, _⟩ => by omega⟩) ⟨by omega, fun p _ => ⟨fun q => absurd q bi_0, fun ⟨i, hi, _⟩ => by omega⟩⟩
    rw [nI_00] at h
    rcases h with ⟨h1, y, h2, e⟩ | ⟨h1, e⟩
    · rw [e]
      exact Or.inl ⟨⟨c, h1⟩, y, h2, rfl⟩
    · rw [e]
      exact Or.inr ⟨fun q => h1 q.2, rfl⟩
  · rw [if_neg (fun q => c ((marks_e hN hb hd hC.2.2.1 hC.2.2.2).mp q))]
    exact Or.inr ⟨fun q => c q.1, rfl⟩
