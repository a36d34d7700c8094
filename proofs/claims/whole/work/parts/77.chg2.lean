/-! PURE: drop, note -/
theorem same_drop {M : Mm} (h : Inv M) (x1 : Int32) : Same (f_X6_drop x1) (f_X7_drop x1) M := by
  obtain ⟨ep, p1, p2⟩ := wp_pl h.2.1
  rcases beat_i x1 with ⟨b, hb, rfl, e1, e2⟩ | ⟨e1, e2⟩
  · obtain ⟨ez, hz⟩ := wp_sz h.2.1 hb
    have e4 : M 4 b = nI (sz (M 213) b) := (h.2.2.1.2.1 b hb).trans ez
    have eb : (1 : Int32) + nI b = nI (1 + b) := zad 1 b
    by_cases c : sz (M 213) b = 0
    · refine same_f0 h (z := -100006) ?_ (fun M' hM => ?_)
      · unfold f_X6_drop
        rw [e1, if_neg ne10, zck hb (by omega), zcl (by omega), e4, if_pos (by rw [c]; rfl)]
        rfl
      · unfold f_X7_drop
        rw [e2, if_neg ne10, eb, zck (by omega) (by omega), zcl (by omega), hM 213 (by decide), ez, if_pos (by rw [c]; rfl)]
        rfl
    · have es : nI (sz (M 213) b) - (1 : Int32) = nI (sz (M 213) b - 1) := zsu (a := sz (M 213) b) (b := 1) (by omega)
      have hN' : WP (pt (M 213) (1 + b) (nI (sz (M 213) b - 1))) := wp_pt h.2.1 (fun q => by omega) (fun t ht q => by
        rw [show t = b by omega, ztI (by omega)]
        omega) (by omega) (fun q => by omega)
      have hE : ∀ t, t < 12 → ¬ (b ≤ t ∧ t < b + 1) → eqB (M 213) (pt (M 213) (1 + b) (nI (sz (M 213) b - 1))) t := fun t ht hne => eqB_pt h.2.1 ht (by omega) (fun n w hn _ => by omega) (fun q hq => by omega)
      refine chg h (r := nI (sz (M 213) b - 1)) hN' (fun M1 k1 k2 => ?_) (fun M2 M3 k1 k2 k3 => ?_)
      · have e14 : M1 4 b = nI (sz (M 213) b) := by rw [k2 4 (by omega)]; exact e4
        obtain ⟨w1, w2⟩ := wi_beats (M := mw M1 4 b (nI (sz (M 213) b - 1))) (fst := b) (l := b + 1) (x2 := nI b) h.2.2.2.1 (fun c g1 g2 => by rw [mw_c (by omega), k2 c (by omega)]) h.2.1 (pl_pt (by omega)) (fun q _ => so_pt (by omega)) hb (by omega) (by omega) (nI_s b) hE (by rw [mw_c (by decide), k2 3 (by omega)]; exact h.2.2.1.1.trans ep)
        refine ⟨_, ?_, fun c g1 g2 => by rw [w2 c g2, mw_c (by omega)], ?_, w1⟩
        · unfold f_X6_drop
          rw [e1, if_neg ne10, zck hb (by omega), zcl (by omega), e4, if_neg (fun q => c ((nI_z (by omega)).mp q)), k1, bd_s, zck hb (by omega), zck hb (by omega), e14, es, nm_d, nm_d, zck hb (by omega), w2 4 (by decide), mw_s]
        · obtain ⟨r1, r2, r3, r4, r5⟩ := h.2.2.1
          refine ⟨?_, fun t ht => ?_, fun t n ht hn => ?_, fun t q ht hq => ?_, fun q hq => ?_⟩
          · rw [w2 3 (by decide), mw_c (by decide), k2 3 (by omega), pt_o (by omega)]
            exact r1
          · rw [w2 (3 + 1) (by decide)]
            by_cases c9 : t = b
            · rw [c9, pt_s]
              exact mw_s
            · rw [mw_o (k := 4) c9, k2 4 (by omega), pt_o (by omega)]
              exact r2 t ht
          · have hz' := (wp_sz h.2.1 ht).2
            have hn' : n < sz (M 213) t := by
              by_cases c9 : t = b
              · have e9 : sz (pt (M 213) (1 + b) (nI (sz (M 213) b - 1))) t = sz (M 213) b - 1 := by
                  have e8 : sz (pt (M 213) (1 + b) (nI (sz (M 213) b - 1))) b = (pt (M 213) (1 + b) (nI (sz (M 213) b - 1)) (1 + b)).toNatClampNeg := rfl
                  rw [c9, e8, pt_s, zcl (by omega)]
                rw [e9] at hn
                rw [c9]
                omega
              · rw [(hE t ht (by omega)).1]
                exact hn
            rw [w2 (3 + 2) (by decide), w2 (3 + 3) (by decide), w2 (3 + 4) (by decide), mw_c (by decide), mw_c (by decide), mw_c (by decide), k2 (3 + 2) (by omega), k2 (3 + 3) (by omega), k2 (3 + 4) (by omega), pt_o (by omega), pt_o (by omega), pt_o (by omega)]
            exact r3 t n ht hn'
          · rw [w2 (3 + 5) (by decide), mw_c (by decide), k2 (3 + 5) (by omega), pt_o (by omega)]
            exact r4 t q ht hq
          · rw [w2 (3 + 6) (by decide), mw_c (by decide), k2 (3 + 6) (by omega), pt_o (by omega)]
            exact r5 q hq
      · have e9 := m3_213 k1 k3
        refine ⟨mw M3 213 (1 + b) (nI (sz (M 213) b - 1)), ?_, by rw [mw_pt, e9], fun c g => mw_c g⟩
        unfold f_X7_drop
        rw [e2, if_neg ne10, eb, zck (by omega) (by omega), zcl (by omega), k1 213 (by omega), ez, if_neg (fun q => c ((nI_z (by omega)).mp q)), zck (by omega) (by omega), es, becomes_m (by omega) k2, bd_s, e9, ez]
        dsimp only
        rw [es]
  · refine same_f0 h (z := -100001) ?_ (fun M' hM => ?_)
    · unfold f_X6_drop
      rw [e1, if_pos rfl]
      rfl
    · unfold f_X7_drop
      rw [e2, if_pos rfl]
      rfl
/-- whether a note rings -/
def rv (x2 x4 : Int32) : Int32 := if x4 = 0 then 0 else if x2 = 2 then 0 else 1
theorem rv_b (x2 x4 : Int32) : 0 ≤ (rv x2 x4).toInt ∧ (rv x2 x4).toInt ≤ 1 := by
  unfold rv
  split
  · decide
  · split <;> decide
/-- a note laid at place n of beat b -/
def ly3 (N : Nt) (b n : Nat) (k p r : Int32) : Nt := pt (pt (pt N (13 + 3 * (6 * b + n)) k) (13 + 3 * (6 * b + n) + 1) p) (13 + 3 * (6 * b + n) + 2) r
theorem lyn_o {N : Nt} {b n j : Nat} {k p r : Int32} (h : j < 13 + 3 * (6 * b + n) ∨ 13 + 3 * (6 * b + n) + 2 < j) : ly3 N b n k p r j = N j := by
  unfold ly3
  rw [pt_o (by omega), pt_o (by omega), pt_o (by omega)]
theorem lyn_0 {N : Nt} {b n : Nat} {k p r : Int32} : ly3 N b n k p r (13 + 3 * (6 * b + n)) = k := by
  unfold ly3
  rw [pt_o (by omega), pt_o (by omega), pt_s]
theorem lyn_1 {N : Nt} {b n : Nat} {k p r : Int32} : ly3 N b n k p r (13 + 3 * (6 * b + n) + 1) = p := by
  unfold ly3
  rw [pt_o (by omega), pt_s]
theorem lyn_2 {N : Nt} {b n : Nat} {k p r : Int32} : ly3 N b n k p r (13 + 3 * (6 * b + n) + 2) = r := by
  unfold ly3
  rw [pt_s]
theorem lay_m {M : Mm} {b n : Nat} {k p x : Int32} (hb : b < 12) (hn : n < 6) : ∃ M', f_X7_lay (nI b) (nI n) k p x M = some M' ∧ M' 213 = ly3 (M 213) b n k p (rv k x) ∧ ∀ c, c ≠ 213 → M' c = M c := by
  have e1 : (13 : Int32) + (3 : Int32) * ((6 : Int32) * nI b + nI n) = nI (13 + 3 * (6 * b + n)) := by simp only [lit_, zmu, zad]
  have e2 : nI (13 + 3 * (6 * b + n)) + (2 : Int32) = nI (13 + 3 * (6 * b + n) + 2) := zad _ 2
  unfold f_X7_lay
  rw [e1, nm_d, zck (by omega) (by omega), nm_d, nI_s, zck (by omega) (by omega), nm_d, nm_d, e2, zck (by omega) (by omega), nm_d, zcl (by omega), zcl (by omega), zcl (by omega)]
  refine ⟨_, rfl, ?_, fun c g => by rw [mw_c g, mw_c g, mw_c g]⟩
  rw [mw_pt, mw_pt, mw_pt]
  rfl
theorem add_c {M : Mm} {b n : Nat} {k p x : Int32} (hb : b < 12) (hn : n < 6) (h4 : M 4 b = nI n) : ∃ M', f_X3_add 3 (nI b) k p x M = some (nI n, M') ∧ M' 4 = pt (M 4) b (nI (n + 1)) ∧ M' 5 = pt (M 5) (6 * b + n) k ∧ M' 6 = pt (M 6) (6 * b + n) p ∧ M' 7 = pt (M 7) (6 * b + n) (rv k x) ∧ ∀ c, c ≠ 4 → c ≠ 5 → c ≠ 6 → c ≠ 7 → M' c = M c := by
  unfold f_X3_add
  rw [zck hb (by omega), zcl (by omega)]
  have h4' : M (3 + 1) b = nI n := h4
  rw [h4', nm_d, place_e, nm_d, zck (by omega) (by omega), nm_d, zck (by omega) (by omega), nm_d, nm_d, zck (by omega) (by omega), nm_d, zck hb (by omega), nm_d, zcl (by omega), nI_s]
  refine ⟨_, rfl, ?_, ?_, ?_, ?_, fun c g1 g2 g3 g4 => by rw [mw_c g1, mw_c g4, mw_c g3, mw_c g2]⟩
  · rw [mw_pt (k := 4), mw_c (by decide), mw_c (by decide), mw_c (by decide)]
  · rw [mw_c (by decide), mw_c (by decide), mw_c (by decide), mw_pt (k := 5)]
  · rw [mw_c (by decide), mw_c (by decide), mw_pt (k := 6), mw_c (by decide)]
  · rw [mw_c (by decide), mw_pt (k := 7), mw_c (by decide), mw_c (by decide)]
    rfl
/-- a part with one more note -/
def adN (N : Nt) (b : Nat) (k p r : Int32) : Nt := ly3 (pt N (1 + b) (nI (sz N b + 1))) b (sz N b) k p r
theorem ad_sz {N : Nt} {b t : Nat} {k p r : Int32} (ht : t < 12) (hz : sz N b < 6) : sz (adN N b k p r) t = if t = b then sz N b + 1 else sz N t := by
  have e : adN N b k p r (1 + t) = pt N (1 + b) (nI (sz N b + 1)) (1 + t) := lyn_o (by omega)
  unfold sz at hz ⊢
  rw [e]
  by_cases c : t = b
  · rw [if_pos c, c, pt_s]
    have hz' : sz N b < 6 := hz
    exact zcl (a := sz N b + 1) (by omega)
  · rw [if_neg c, pt_o (by omega)]
theorem ad_in {N : Nt} {b t n w : Nat} {k p r : Int32} (ht : t < 12) (hb : b < 12) (hn : n < 6) (hz : sz N b < 6) (hw : w < 3) (hne : ¬ (t = b ∧ n = sz N b)) : adN N b k p r (13 + 3 * (6 * t + n) + w) = N (13 + 3 * (6 * t + n) + w) := by
  unfold adN
  rw [lyn_o (by omega), pt_o (by omega)]
theorem ad_WP {N : Nt} (hN : WP N) {b : Nat} {k p r : Int32} (hb : b < 12) (hz : sz N b < 6) (hk : 0 ≤ k.toInt ∧ k.toInt ≤ 3) (hp : -1 ≤ p.toInt ∧ p.toInt ≤ 100) (hr : 0 ≤ r.toInt ∧ r.toInt ≤ 1) : WP (adN N b k p r) := by
  have hsz := fun t (ht : t < 12) => ad_sz (N := N) (b := b) (t := t) (k := k) (p := p) (r := r) ht hz
  have hzz := fun t (ht : t < 12) => (wp_sz hN ht).2
  obtain ⟨g1, g2, g3, g4, g5⟩ := hN
  refine ⟨?_, fun t ht => ?_, fun t n ht hn => ?_, fun t q ht hq => ?_, fun q hq => ?_⟩
  · unfold adN
    rw [lyn_o (by omega), pt_o (by omega)]
    exact g1
  · unfold adN
    rw [lyn_o (by omega)]
    by_cases c : t = b
    · rw [c, pt_s, ztI (by omega)]
      omega
    · rw [pt_o (by omega)]
      exact g2 t ht
  · rw [hsz t ht] at hn
    by_cases c : t = b ∧ n = sz N b
    · obtain ⟨c1, c2⟩ := c
      unfold pc_ adN
      rw [c1, c2, lyn_0, lyn_1, lyn_2]
      exact ⟨hk, hp, hr⟩
    · have hn' : n < sz N t := by
        by_cases c2 : t = b
        · rw [if_pos c2] at hn
          rw [c2]
          omega
        · rw [if_neg c2] at hn
          exact hn
      have := hzz t ht
      have e0 := ad_in (N := N) (k := k) (p := p) (r := r) (w := 0) ht hb (show n < 6 by omega) hz (by omega) c
      rw [Nat.add_zero] at e0
      unfold pc_
      rw [e0, ad_in (w := 1) ht hb (by omega) hz (by omega) c, ad_in (w := 2) ht hb (by omega) hz (by omega) c]
      exact g3 t n ht hn'
  · unfold mk adN
    rw [lyn_o (by omega), pt_o (by omega)]
    exact g4 t q ht hq
  · unfold so adN
    rw [lyn_o (by omega), pt_o (by omega)]
    exact g5 q hq
theorem same_note {M : Mm} (h : Inv M) (x1 x2 x3 x4 : Int32) : Same (f_X6_note x1 x2 x3 x4) (f_X7_note_ x1 x2 x3 x4) M := by
  obtain ⟨ep, p1, p2⟩ := wp_pl h.2.1
  rcases beat_i x1 with ⟨b, hb, rfl, e1, e2⟩ | ⟨e1, e2⟩
  · rcases knd_i x2 with ⟨kk, hkk, rfl, e3, e4⟩ | ⟨e3, e4⟩
    · by_cases c1 : x3 < -1
      · refine same_f0 h (z := -100001) ?_ (fun M' hM => ?_)
        · unfold f_X6_note
          rw [e1, if_neg ne10, e3, if_neg ne10, if_pos c1]
          rfl
        · unfold f_X7_note_
          rw [e2, if_neg ne10, e4, if_neg ne10, isIn_f (Or.inl c1), if_pos rfl]
          rfl
      · by_cases c2 : x3 ≤ 100
        · have t1 : (-1 : Int32).toInt = -1 := rfl
          have t2 : (100 : Int32).toInt = 100 := rfl
          have g1 : ¬ x3.toInt < (-1 : Int32).toInt := fun q => c1 (ti_lt.mpr q)
          have g2 := ti_le.mp c2
          have ein : f_X7_isIn x3 (-1) 100 = 1 := isIn_t c1 (fun q => by have := ti_lt.mp q; omega)
          obtain ⟨ez, hz⟩ := wp_sz h.2.1 hb
          have e5 : M 4 b = nI (sz (M 213) b) := (h.2.2.1.2.1 b hb).trans ez
          have eb : (1 : Int32) + nI b = nI (1 + b) := zad 1 b
          by_cases c3 : sz (M 213) b < 6
          · have hlt : nI (sz (M 213) b) < (6 : Int32) := (zlt (b := 6) (by omega) (by omega)).mpr c3
            have hne6 : ¬ nI (sz (M 213) b) = (6 : Int32) := fun q => by have := (zeq (b := 6) (by omega) (by omega)).mp q; omega
            have hrv := rv_b (nI kk) x4
            have hN' : WP (adN (M 213) b (nI kk) x3 (rv (nI kk) x4)) := ad_WP h.2.1 hb c3 (by rw [ztI (by omega)]; omega) ⟨by omega, by omega⟩ hrv
            have hE : ∀ t, t < 12 → ¬ (b ≤ t ∧ t < b + 1) → eqB (M 213) (adN (M 213) b (nI kk) x3 (rv (nI kk) x4)) t := fun t ht hne => by
              refine ⟨by rw [ad_sz ht c3, if_neg (by omega)], fun n hn => ?_, fun q hq => ?_⟩
              · have := (wp_sz h.2.1 ht).2
                have e0 := ad_in (N := M 213) (b := b) (k := nI kk) (p := x3) (r := rv (nI kk) x4) (w := 0) ht hb (show n < 6 by omega) c3 (by omega) (by omega)
                rw [Nat.add_zero] at e0
                unfold kd pc_ rg
                rw [e0, ad_in (w := 1) ht hb (by omega) c3 (by omega) (by omega), ad_in (w := 2) ht hb (by omega) c3 (by omega) (by omega)]
                exact ⟨rfl, rfl, rfl⟩
              · unfold mk adN
                rw [lyn_o (by omega), pt_o (by omega)]
            refine chg h (r := nI (sz (M 213) b)) hN' (fun M1 k1 k2 => ?_) (fun M2 M3 k1 k2 k3 => ?_)
            · obtain ⟨Ma, a1, a2, a3, a4, a5, a6⟩ := add_c (M := M1) (k := nI kk) (p := x3) (x := x4) hb c3 (by rw [k2 4 (by omega)]; exact e5)
              obtain ⟨w1, w2⟩ := wi_beats (M := Ma) (N' := adN (M 213) b (nI kk) x3 (rv (nI kk) x4)) (fst := b) (l := b + 1) (x2 := nI b) h.2.2.2.1 (fun c g1 g2 => by rw [a6 c (by omega) (by omega) (by omega) (by omega), k2 c (by omega)]) h.2.1 (by unfold pl adN; rw [lyn_o (by omega), pt_o (by omega)]) (fun q hq => by unfold so adN; rw [lyn_o (by omega), pt_o (by omega)]) hb (by omega) (by omega) (nI_s b) hE (by rw [a6 3 (by decide) (by decide) (by decide) (by decide), k2 3 (by omega)]; exact h.2.2.1.1.trans ep)
              refine ⟨_, ?_, fun c g1 g2 => by rw [w2 c g2, a6 c (by omega) (by omega) (by omega) (by omega)], ?_, w1⟩
              · unfold f_X6_note
                rw [e1, if_neg ne10, e3, if_neg ne10, if_neg c1, if_pos c2, zck hb (by omega), zcl (by omega), e5, if_pos hlt, k1, bd_s, a1, bd_s, nm_d]
              · obtain ⟨r1, r2, r3, r4, r5⟩ := h.2.2.1
                refine ⟨?_, fun t ht => ?_, fun t n ht hn => ?_, fun t q ht hq => ?_, fun q hq => ?_⟩
                · rw [w2 3 (by decide), a6 3 (by decide) (by decide) (by decide) (by decide), k2 3 (by omega)]
                  unfold adN
                  rw [lyn_o (by omega), pt_o (by omega)]
                  exact r1
                · rw [w2 (3 + 1) (by decide)]
                  have a2' : Ma (3 + 1) = pt (M1 4) b (nI (sz (M 213) b + 1)) := a2
                  rw [a2']
                  unfold adN
                  rw [lyn_o (by omega)]
                  by_cases c9 : t = b
                  · rw [c9, pt_s, pt_s]
                  · rw [pt_o c9, pt_o (by omega), k2 4 (by omega)]
                    exact r2 t ht
                · rw [ad_sz ht c3] at hn
                  have hzt := (wp_sz h.2.1 ht).2
                  have a3' : Ma (3 + 2) = pt (M1 5) (6 * b + sz (M 213) b) (nI kk) := a3
                  have a4' : Ma (3 + 3) = pt (M1 6) (6 * b + sz (M 213) b) x3 := a4
                  have a5' : Ma (3 + 4) = pt (M1 7) (6 * b + sz (M 213) b) (rv (nI kk) x4) := a5
                  rw [w2 (3 + 2) (by decide), w2 (3 + 3) (by decide), w2 (3 + 4) (by decide), a3', a4', a5']
                  by_cases c9 : t = b ∧ n = sz (M 213) b
                  · obtain ⟨c91, c92⟩ := c9
                    rw [c91, c92, pt_s, pt_s, pt_s]
                    unfold adN
                    rw [lyn_0, lyn_1, lyn_2]
                    exact ⟨rfl, rfl, rfl⟩
                  · have hn' : n < sz (M 213) t := by
                      by_cases c2 : t = b
                      · rw [if_pos c2] at hn
                        rw [c2]
                        omega
                      · rw [if_neg c2] at hn
                        exact hn
                    have e0 := ad_in (N := M 213) (b := b) (k := nI kk) (p := x3) (r := rv (nI kk) x4) (w := 0) ht hb (show n < 6 by omega) c3 (by omega) c9
                    rw [Nat.add_zero] at e0
                    rw [pt_o (by omega), pt_o (by omega), pt_o (by omega), k2 5 (by omega), k2 6 (by omega), k2 7 (by omega), e0, ad_in (w := 1) ht hb (by omega) c3 (by omega) c9, ad_in (w := 2) ht hb (by omega) c3 (by omega) c9]
                    exact r3 t n ht hn'
                · rw [w2 (3 + 5) (by decide), a6 (3 + 5) (by decide) (by decide) (by decide) (by decide), k2 (3 + 5) (by omega)]
                  unfold adN
                  rw [lyn_o (by omega), pt_o (by omega)]
                  exact r4 t q ht hq
                · rw [w2 (3 + 6) (by decide), a6 (3 + 6) (by decide) (by decide) (by decide) (by decide), k2 (3 + 6) (by omega)]
                  unfold adN
                  rw [lyn_o (by omega), pt_o (by omega)]
                  exact r5 q hq
            · have e9 := m3_213 k1 k3
              obtain ⟨M4, l1, l2, l3⟩ := lay_m (M := mw M3 213 (1 + b) (nI (sz (M 213) b + 1))) (k := nI kk) (p := x3) (x := x4) hb c3
              refine ⟨M4, ?_, ?_, fun c g => by rw [l3 c g, mw_c g]⟩
              · unfold f_X7_note_
                rw [e2, if_neg ne10, e4, if_neg ne10, ein, if_neg ne10, eb, zck (by omega) (by omega), zcl (by omega), k1 213 (by omega), ez, if_neg hne6, zck (by omega) (by omega), nI_s, becomes_m (by omega) k2, bd_s, e9, ez]
                dsimp only
                rw [l1, bd_s]
              · rw [l2, mw_pt, e9]
                rfl
          · have hlt : ¬ nI (sz (M 213) b) < (6 : Int32) := fun q => by have := (zlt (b := 6) (by omega) (by omega)).mp q; omega
            have he6 : nI (sz (M 213) b) = (6 : Int32) := by rw [show sz (M 213) b = 6 by omega]; rfl
            refine same_f0 h (z := -100005) ?_ (fun M' hM => ?_)
            · unfold f_X6_note
              rw [e1, if_neg ne10, e3, if_neg ne10, if_neg c1, if_pos c2, zck hb (by omega), zcl (by omega), e5, if_neg hlt]
              rfl
            · unfold f_X7_note_
              rw [e2, if_neg ne10, e4, if_neg ne10, ein, if_neg ne10, eb, zck (by omega) (by omega), zcl (by omega), hM 213 (by decide), ez, if_pos he6]
              rfl
        · refine same_f0 h (z := -100001) ?_ (fun M' hM => ?_)
          · unfold f_X6_note
            rw [e1, if_neg ne10, e3, if_neg ne10, if_neg c1, if_neg c2]
            rfl
          · unfold f_X7_note_
            rw [e2, if_neg ne10, e4, if_neg ne10, isIn_f (Or.inr (ti_lt.mpr (by
              have h9 : ¬ x3.toInt ≤ (100 : Int32).toInt := fun q => c2 (ti_le.mpr q)
              omega))), if_pos rfl]
            rfl
    · refine same_f0 h (z := -100001) ?_ (fun M' hM => ?_)
      · unfold f_X6_note
        rw [e1, if_neg ne10, e3, if_pos rfl]
        rfl
      · unfold f_X7_note_
        rw [e2, if_neg ne10, e4, if_pos rfl]
        rfl
  · refine same_f0 h (z := -100001) ?_ (fun M' hM => ?_)
    · unfold f_X6_note
      rw [e1, if_pos rfl]
      rfl
    · unfold f_X7_note_
      rw [e2, if_pos rfl]
      rfl
