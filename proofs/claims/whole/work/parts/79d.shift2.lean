/-! PURE: shift, the call -/
theorem rs_o {N : Nt} {x : Int32} {k : Nat} (h : k < 14 ∨ 228 ≤ k ∨ k % 3 ≠ 2) : rsd N x (rsQ N 12 0) k = N k := rsd_f (fun ⟨j, g1, g2, _⟩ => by omega)
theorem rs_y {N : Nt} {x : Int32} {b n : Nat} (hb : b < 12) (hn : n < sz N b) (hz : sz N b ≤ 6) : rsd N x (rsQ N 12 0) (13 + 3 * (6 * b + n) + 1) = N (13 + 3 * (6 * b + n) + 1) + x := rsd_t ⟨6 * b + n, by omega, by omega, Or.inl ⟨by omega, by rw [show (6 * b + n) / 6 = b by omega, show (6 * b + n) % 6 = n by omega]; exact hn⟩⟩
theorem rs_sz {N : Nt} {x : Int32} {b : Nat} (hb : b < 12) : sz (rsd N x (rsQ N 12 0)) b = sz N b := by
  unfold sz
  rw [rs_o (by omega)]
theorem rs_WP {N : Nt} (hN : WP N) {x : Int32} (h : ∀ t, t < 12 → rkB N x t) : WP (rsd N x (rsQ N 12 0)) := by
  have hz := fun b (hb : b < 12) => (wp_sz hN hb).2
  obtain ⟨g1, g2, g3, g4, g5⟩ := hN
  have t1 : (-1 : Int32).toInt = -1 := rfl
  have t2 : (100 : Int32).toInt = 100 := rfl
  refine ⟨by rw [rs_o (by omega)]; exact g1, fun b hb => by rw [rs_o (by omega)]; exact g2 b hb, fun b n hb hn => ?_, fun b p hb hp => ?_, fun p hp => ?_⟩
  · rw [rs_sz hb] at hn
    have hzb := hz b hb
    obtain ⟨r1, r2⟩ := h b hb n hn
    have r1' : ¬ (N (13 + 3 * (6 * b + n) + 1) + x).toInt < (-1 : Int32).toInt := fun q => r1 (ti_lt.mpr q)
    have r2' := ti_le.mp r2
    unfold pc_
    rw [rs_y hb hn hzb, rs_o (by omega), rs_o (by omega)]
    obtain ⟨q1, q2, q3⟩ := g3 b n hb hn
    exact ⟨q1, ⟨by omega, by omega⟩, q3⟩
  · unfold mk
    rw [rs_o (by omega)]
    exact g4 b p hb hp
  · unfold so
    rw [rs_o (by omega)]
    exact g5 p hp
theorem same_shift {M : Mm} (h : Inv M) (x : Int32) : Same (f_X6_shift x) (f_X7_shift x) M := by
  obtain ⟨ep, p1, p2⟩ := wp_pl h.2.1
  have t1 : (-12 : Int32).toInt = -12 := rfl
  have t2 : (12 : Int32).toInt = 12 := rfl
  by_cases c1 : x < -12
  · refine same_f0 h (z := -100001) ?_ (fun M' hM => ?_)
    · unfold f_X6_shift
      rw [if_pos c1]
      rfl
    · unfold f_X7_shift
      rw [isIn_f (Or.inl c1), if_pos rfl]
      rfl
  · by_cases c2 : x ≤ 12
    · have ein : f_X7_isIn x (-12) 12 = 1 := isIn_t c1 (fun q => by have := ti_lt.mp q; have := ti_le.mp c2; omega)
      have hc := cr_2 h.2.1 h.2.2.1 (x := x) 12 FU 0 (by omega) (by unfold FU; omega) (fun t ht => by omega)
      rw [nI_00] at hc
      rcases hc with ⟨ha, ec⟩ | ⟨ha, ec⟩
      · have ecr : f_X3_canRise 3 x M = some 1 := by
          unfold f_X3_canRise
          rw [ec]
          rfl
        have hN' := rs_WP h.2.1 ha
        refine chg h (r := nts (rsd (M 213) x (rsQ (M 213) 12 0)) 12 0 0) hN' (fun M1 k1 k2 => ?_) (fun M2 M3 k1 k2 k3 => ?_)
        · have e4 : ∀ t, t < 12 → M1 4 t = nI (sz (M 213) t) := fun t ht => by
            rw [k2 4 (by omega)]
            exact (h.2.2.1.2.1 t ht).trans (wp_sz h.2.1 ht).1
          obtain ⟨Ma, a1, a2, a3⟩ := ri_2 h.2.1 (x := x) (A0 := M1 6) 12 FU 0 M1 (by omega) (by unfold FU; omega) e4 (funext (fun j => (rsd_f (fun q => by unfold rsP at q; omega)).symm))
          rw [nI_00] at a1
          obtain ⟨w1, w2⟩ := wi_beats (M := Ma) (N' := rsd (M 213) x (rsQ (M 213) 12 0)) (fst := 0) (l := 12) (x2 := 11) h.2.2.2.1 (fun c g1 g2 => by rw [a3 c (by omega), k2 c (by omega)]) h.2.1 (by unfold pl; rw [rs_o (by omega)]) (fun q hq => by unfold so; rw [rs_o (by omega)]) (by omega) (by omega) (by omega) (by decide) (fun t ht hne => absurd ⟨Nat.zero_le t, ht⟩ hne) (by rw [a3 3 (by decide), k2 3 (by omega)]; exact h.2.2.1.1.trans ep)
          rw [nI_00] at w1 w2
          have hR : RelP 3 (f_X5_forgetBeats 0 11 Ma) (rsd (M 213) x (rsQ (M 213) 12 0)) := by
            obtain ⟨r1, r2, r3, r4, r5⟩ := h.2.2.1
            refine ⟨?_, fun t ht => ?_, fun t n ht hn => ?_, fun t q ht hq => ?_, fun q hq => ?_⟩
            · rw [w2 3 (by decide), a3 3 (by decide), k2 3 (by omega), rs_o (by omega)]
              exact r1
            · rw [w2 (3 + 1) (by decide), a3 (3 + 1) (by decide), k2 (3 + 1) (by omega), rs_o (by omega)]
              exact r2 t ht
            · rw [rs_sz ht] at hn
              have hz := (wp_sz h.2.1 ht).2
              obtain ⟨q1, q2, q3⟩ := r3 t n ht hn
              have a2' : Ma (3 + 3) = rsd (M1 6) x (rsP (M 213) 12 0) := a2
              rw [w2 (3 + 2) (by decide), w2 (3 + 3) (by decide), w2 (3 + 4) (by decide), a3 (3 + 2) (by decide), a3 (3 + 4) (by decide), k2 (3 + 2) (by omega), k2 (3 + 4) (by omega), a2', rs_y ht hn hz, rs_o (by omega), rs_o (by omega), rsd_t (show rsP (M 213) 12 0 (6 * t + n) from Or.inl ⟨by omega, by rw [show (6 * t + n) / 6 = t by omega, show (6 * t + n) % 6 = n by omega]; exact hn⟩), k2 6 (by omega)]
              refine ⟨q1, ?_, q3⟩
              exact congrArg (fun v => v + x) q2
            · rw [w2 (3 + 5) (by decide), a3 (3 + 5) (by decide), k2 (3 + 5) (by omega), rs_o (by omega)]
              exact r4 t q ht hq
            · rw [w2 (3 + 6) (by decide), a3 (3 + 6) (by decide), k2 (3 + 6) (by omega), rs_o (by omega)]
              exact r5 q hq
          refine ⟨_, ?_, fun c g1 g2 => by rw [w2 c g2, a3 c (by omega)], hR, w1⟩
          unfold f_X6_shift f_X3_rise
          rw [if_neg c1, if_pos c2, ecr, bd_s, if_neg ne10, k1, bd_s, a1, bd_s, bd_s, nm_d, notes_c hR.2.1, bd_s]
        · have e9 := m3_213 k1 k3
          have hs := sr_20 h.2.1 (M := M2) (k1 213 (by omega)) (x := x) 12 FU 0 (by omega) (by unfold FU; omega) (fun t ht => by omega)
          rw [nI_00] at hs
          rcases hs with ⟨_, es⟩ | ⟨hb, _⟩
          · obtain ⟨M4, b1, b2, b3⟩ := ri_83 h.2.1 (x := x) 12 FU 0 M3 (by omega) (by unfold FU; omega) (by
              rw [e9]
              exact funext (fun j => (rsd_f (fun ⟨i, _, _, q⟩ => by unfold rsP at q; omega)).symm))
            rw [nI_00] at b1
            refine ⟨M4, ?_, b2, b3⟩
            unfold f_X7_shift
            rw [ein, if_neg ne10, es, bd_s]
            show Option.bind (f_X7_keep M2) _ = _
            rw [k2, bd_s, b1, bd_s, notes_m, b2, bd_s]
          · exact absurd ha hb
      · have ecr : f_X3_canRise 3 x M = some 0 := by
          unfold f_X3_canRise
          rw [ec]
          rfl
        refine same_f0 h (z := -100003) ?_ (fun M' hM => ?_)
        · unfold f_X6_shift
          rw [if_neg c1, if_pos c2, ecr, bd_s, if_pos rfl]
          rfl
        · have hs := sr_20 h.2.1 (M := M') (hM 213 (by decide)) (x := x) 12 FU 0 (by omega) (by unfold FU; omega) (fun t ht => by omega)
          rw [nI_00] at hs
          rcases hs with ⟨hb, _⟩ | ⟨_, es⟩
          · exact absurd hb ha
          · unfold f_X7_shift
            rw [ein, if_neg ne10, es]
            rfl
    · refine same_f0 h (z := -100001) ?_ (fun M' hM => ?_)
      · unfold f_X6_shift
        rw [if_neg c1, if_neg c2]
        rfl
      · unfold f_X7_shift
        rw [isIn_f (Or.inr (ti_lt.mpr (by
          have h9 : ¬ x.toInt ≤ (12 : Int32).toInt := fun q => c2 (ti_le.mpr q)
          omega))), if_pos rfl]
        rfl
