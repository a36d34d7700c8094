/-! PURE: beats, mark, start, drop -/
theorem becomes_m {M M3 : Mm} {j : Nat} {v : Int32} (hj : j < 320) (hk : f_X7_keep M = some M3) : f_X7_becomes (nI j) v M = some (M3 213 j, mw M3 213 j v) := by
  unfold f_X7_becomes
  rw [hk, bd_s, zck hj (by omega), zcl (by omega), nm_d, zck hj (by omega), nm_d]
theorem m3_213 {M M2 M3 : Mm} (h1 : ∀ c, 204 ≤ c → M2 c = M c) (h2 : ∀ c j, c ≠ 214 → ¬ (c = 212 ∧ j = 2) → M3 c j = M2 c j) : M3 213 = M 213 := by
  rw [← h1 213 (by omega)]
  exact funext (fun j => h2 213 j (by decide) (fun q => absurd q.1 (by decide)))
/-- a slot that is none of a beat's -/
theorem eqB_pt {N : Nt} (hN : WP N) {j : Nat} {v : Int32} {t : Nat} (ht : t < 12) (h1 : j ≠ 1 + t) (h2 : ∀ n w, n < sz N t → w < 3 → j ≠ 13 + 3 * (6 * t + n) + w) (h3 : ∀ p, p < 7 → j ≠ 229 + 7 * t + p) : eqB N (pt N j v) t := by
  refine ⟨?_, fun n hn => ?_, fun p hp => ?_⟩
  · unfold sz
    rw [pt_o (Ne.symm h1)]
  · unfold kd pc_ rg
    have e0 := h2 n 0 hn (by omega)
    rw [Nat.add_zero] at e0
    rw [pt_o (Ne.symm e0), pt_o (Ne.symm (h2 n 1 hn (by omega))), pt_o (Ne.symm (h2 n 2 hn (by omega)))]
    exact ⟨rfl, rfl, rfl⟩
  · unfold mk
    rw [pt_o (Ne.symm (h3 p hp))]
theorem wp_pt {N : Nt} (hN : WP N) {j : Nat} {v : Int32} (h0 : j = 0 → 1 ≤ v.toInt ∧ v.toInt ≤ 12) (h1 : ∀ b, b < 12 → j = 1 + b → 0 ≤ v.toInt ∧ v.toInt.toNat ≤ sz N b) (h2 : j < 13 ∨ 229 ≤ j) (h3 : 229 ≤ j → -1 ≤ v.toInt ∧ v.toInt ≤ 2) : WP (pt N j v) := by
  obtain ⟨g1, g2, g3, g4, g5⟩ := hN
  have hz : ∀ b, b < 12 → sz N b ≤ 6 := fun b hb => by
    show (N (1 + b)).toInt.toNat ≤ 6
    have := g2 b hb
    omega
  have hsz : ∀ b, b < 12 → sz (pt N j v) b ≤ sz N b := fun b hb => by
    by_cases c : j = 1 + b
    · unfold sz
      rw [c, pt_s]
      exact (h1 b hb c).2
    · unfold sz
      rw [pt_o (Ne.symm c)]
      exact Nat.le_refl _
  refine ⟨?_, fun b hb => ?_, fun b n hb hn => ?_, fun b p hb hp => ?_, fun p hp => ?_⟩
  · by_cases c : j = 0
    · rw [c, pt_s]
      exact h0 c
    · rw [pt_o (Ne.symm c)]
      exact g1
  · by_cases c : j = 1 + b
    · have h9 := h1 b hb c
      have := hz b hb
      rw [c, pt_s]
      omega
    · rw [pt_o (Ne.symm c)]
      exact g2 b hb
  · have q1 := hsz b hb
    have q2 := hz b hb
    unfold pc_
    rw [pt_o (by omega), pt_o (by omega), pt_o (by omega)]
    exact g3 b n hb (by omega)
  · unfold mk
    by_cases c : j = 229 + 7 * b + p
    · rw [c, pt_s]
      exact h3 (by omega)
    · rw [pt_o (Ne.symm c)]
      exact g4 b p hb hp
  · unfold so
    by_cases c : j = 313 + p
    · rw [c, pt_s]
      exact h3 (by omega)
    · rw [pt_o (Ne.symm c)]
      exact g5 p hp
theorem so_pt {N : Nt} {j : Nat} {v : Int32} {p : Nat} (h : j < 313) : so N p = so (pt N j v) p := by
  unfold so
  rw [pt_o (by omega)]
theorem pl_pt {N : Nt} {j : Nat} {v : Int32} (h : j ≠ 0) : pl (pt N j v) = pl N := by
  unfold pl
  rw [pt_o (Ne.symm h)]
theorem same_beats {M : Mm} (h : Inv M) (x1 : Int32) : Same (f_X6_beats x1) (f_X7_beats x1) M := by
  obtain ⟨ep, p1, p2⟩ := wp_pl h.2.1
  by_cases c1 : x1 < 1
  · refine same_f0 h (z := -100001) ?_ (fun M' hM => ?_)
    · unfold f_X6_beats
      rw [if_pos c1]
      rfl
    · unfold f_X7_beats
      rw [isIn_f (Or.inl c1), if_pos rfl]
      rfl
  · by_cases c2 : x1 ≤ 12
    · have t1 : (1 : Int32).toInt = 1 := rfl
      have t2 : (12 : Int32).toInt = 12 := rfl
      have g1 : 1 ≤ x1.toInt := by
        have h9 : ¬ x1.toInt < (1 : Int32).toInt := fun q => c1 (ti_lt.mpr q)
        omega
      have g2 : x1.toInt ≤ 12 := by
        have := ti_le.mp c2
        omega
      have hN' : WP (pt (M 213) 0 x1) := wp_pt h.2.1 (fun _ => ⟨g1, g2⟩) (fun b _ q => by omega) (by omega) (fun q => by omega)
      have hE : ∀ t, t < 12 → eqB (M 213) (pt (M 213) 0 x1) t := fun t ht => eqB_pt h.2.1 ht (by omega) (fun _ _ _ _ => by omega) (fun _ _ => by omega)
      refine chg h (r := M 213 0) hN' (fun M1 k1 k2 => ?_) (fun M2 M3 k1 k2 k3 => ?_)
      · obtain ⟨w1, w2⟩ := wi_len (M := mw M1 3 0 x1) h.2.2.2.1 (fun c g1 g2 => by rw [mw_c (by omega), k2 c (by omega)]) (wp_pl hN').2.2 (fun p _ => so_pt (by omega)) hE
        refine ⟨f_X5_forgetLength (mw M1 3 0 x1), ?_, fun c g1 g2 => by rw [w2 c g2, mw_c (by omega)], ?_, w1⟩
        · unfold f_X6_beats
          rw [if_neg c1, if_pos c2, k1, bd_s, nm_d, nm_d, nm_d, k2 3 (by omega), h.2.2.1.1]
        · obtain ⟨r1, r2, r3, r4, r5⟩ := h.2.2.1
          refine ⟨?_, fun b hb => ?_, fun b n hb hn => ?_, fun b p hb hp => ?_, fun p hp => ?_⟩
          · rw [w2 3 (by decide), mw_s, pt_s]
          · rw [w2 (3 + 1) (by decide), mw_c (by decide), k2 (3 + 1) (by omega), pt_o (by omega)]
            exact r2 b hb
          · have hn' : n < sz (M 213) b := by rw [(hE b hb).1]; exact hn
            rw [w2 (3 + 2) (by decide), w2 (3 + 3) (by decide), w2 (3 + 4) (by decide), mw_c (by decide), mw_c (by decide), mw_c (by decide), k2 (3 + 2) (by omega), k2 (3 + 3) (by omega), k2 (3 + 4) (by omega), pt_o (by omega), pt_o (by omega), pt_o (by omega)]
            exact r3 b n hb hn'
          · rw [w2 (3 + 5) (by decide), mw_c (by decide), k2 (3 + 5) (by omega), pt_o (by omega)]
            exact r4 b p hb hp
          · rw [w2 (3 + 6) (by decide), mw_c (by decide), k2 (3 + 6) (by omega), pt_o (by omega)]
            exact r5 p hp
      · have e3 := m3_213 k1 k3
        refine ⟨mw M3 213 0 x1, ?_, by rw [mw_pt, e3], fun c g => mw_c g⟩
        unfold f_X7_beats
        have hb := becomes_m (j := 0) (v := x1) (by omega) k2
        rw [nI_00, e3] at hb
        rw [isIn_t c1 (fun q => by have := ti_lt.mp q; omega), if_neg ne10, hb, bd_s]
    · refine same_f0 h (z := -100001) ?_ (fun M' hM => ?_)
      · unfold f_X6_beats
        rw [if_neg c1, if_neg c2]
        rfl
      · unfold f_X7_beats
        rw [isIn_f (Or.inr (ti_lt.mpr (by
          have h9 : ¬ x1.toInt ≤ (12 : Int32).toInt := fun q => c2 (ti_le.mpr q)
          omega))), if_pos rfl]
        rfl
theorem std_i (x : Int32) : ((-1 ≤ x.toInt ∧ x.toInt ≤ 2) ∧ f_X6_isStandOrNone x = 1 ∧ f_X7_isIn x (-1) 2 = 1) ∨ (f_X6_isStandOrNone x = 0 ∧ f_X7_isIn x (-1) 2 = 0) := by
  have t1 : (-1 : Int32).toInt = -1 := rfl
  have t2 : (2 : Int32).toInt = 2 := rfl
  have t3 : (3 : Int32).toInt = 3 := rfl
  unfold f_X6_isStandOrNone
  by_cases c1 : x < -1
  · rw [if_pos c1]
    exact Or.inr ⟨rfl, isIn_f (Or.inl c1)⟩
  · rw [if_neg c1]
    have g1 : ¬ x.toInt < (-1 : Int32).toInt := fun q => c1 (ti_lt.mpr q)
    by_cases c2 : 3 ≤ x
    · rw [if_pos c2]
      have g2 := ti_le.mp c2
      exact Or.inr ⟨rfl, isIn_f (Or.inr (ti_lt.mpr (by omega)))⟩
    · rw [if_neg c2]
      have g2 : ¬ (3 : Int32).toInt ≤ x.toInt := fun q => c2 (ti_le.mpr q)
      exact Or.inl ⟨⟨by omega, by omega⟩, rfl, isIn_t c1 (fun q => by have := ti_lt.mp q; omega)⟩
theorem same_mark {M : Mm} (h : Inv M) (x1 x2 x3 : Int32) : Same (f_X6_mark x1 x2 x3) (f_X7_mark x1 x2 x3) M := by
  obtain ⟨ep, p1, p2⟩ := wp_pl h.2.1
  rcases beat_i x1 with ⟨b, hb, rfl, e1, e2⟩ | ⟨e1, e2⟩
  · rcases ped_i x2 with ⟨p, hp, rfl, e3, e4⟩ | ⟨e3, e4⟩
    · rcases std_i x3 with ⟨g, e5, e6⟩ | ⟨e5, e6⟩
      · have ea : nI b * (7 : Int32) + nI p = nI (b * 7 + p) := by rw [lit_, zmu, zad]
        have eb : (229 : Int32) + (7 : Int32) * nI b + nI p = nI (229 + 7 * b + p) := by rw [show (229 : Int32) = nI 229 from rfl, show (7 : Int32) = nI 7 from rfl, zmu, zad, zad]
        have hN' : WP (pt (M 213) (229 + 7 * b + p) x3) := wp_pt h.2.1 (fun q => by omega) (fun b _ q => by omega) (by omega) (fun _ => g)
        have hE : ∀ t, t < 12 → ¬ (b ≤ t ∧ t < b + 1) → eqB (M 213) (pt (M 213) (229 + 7 * b + p) x3) t := fun t ht hne => eqB_pt h.2.1 ht (by omega) (fun n w hn _ => by have := (wp_sz h.2.1 ht).2; omega) (fun q hq => by omega)
        refine chg h (r := M 213 (229 + 7 * b + p)) hN' (fun M1 k1 k2 => ?_) (fun M2 M3 k1 k2 k3 => ?_)
        · obtain ⟨w1, w2⟩ := wi_beats (M := mw M1 8 (b * 7 + p) x3) (fst := b) (l := b + 1) (x2 := nI b) h.2.2.2.1 (fun c g1 g2 => by rw [mw_c (by omega), k2 c (by omega)]) h.2.1 (pl_pt (by omega)) (fun q _ => so_pt (by omega)) hb (by omega) (by omega) (nI_s b) hE (by rw [mw_c (by decide), k2 3 (by omega)]; exact h.2.2.1.1.trans ep)
          refine ⟨_, ?_, fun c g1 g2 => by rw [w2 c g2, mw_c (by omega)], ?_, w1⟩
          · unfold f_X6_mark
            have e8 : M1 8 (b * 7 + p) = M 213 (229 + 7 * b + p) := by
              rw [k2 8 (by omega), Nat.mul_comm]
              exact h.2.2.1.2.2.2.1 b p hb hp
            rw [e1, if_neg ne10, e3, if_neg ne10, e5, if_neg ne10, k1, bd_s, ea, nm_d, zck (by omega) (by omega), zcl (by omega), nm_d, zck (by omega) (by omega), nm_d, nm_d, e8]
          · obtain ⟨r1, r2, r3, r4, r5⟩ := h.2.2.1
            refine ⟨?_, fun t ht => ?_, fun t n ht hn => ?_, fun t q ht hq => ?_, fun q hq => ?_⟩
            · rw [w2 3 (by decide), mw_c (by decide), k2 3 (by omega), pt_o (by omega)]
              exact r1
            · rw [w2 (3 + 1) (by decide), mw_c (by decide), k2 (3 + 1) (by omega), pt_o (by omega)]
              exact r2 t ht
            · have hn' : n < sz (M 213) t := by
                have e9 : sz (pt (M 213) (229 + 7 * b + p) x3) t = sz (M 213) t := by
                  unfold sz
                  rw [pt_o (by omega)]
                rw [e9] at hn
                exact hn
              have hz := (wp_sz h.2.1 ht).2
              rw [w2 (3 + 2) (by decide), w2 (3 + 3) (by decide), w2 (3 + 4) (by decide), mw_c (by decide), mw_c (by decide), mw_c (by decide), k2 (3 + 2) (by omega), k2 (3 + 3) (by omega), k2 (3 + 4) (by omega), pt_o (by omega), pt_o (by omega), pt_o (by omega)]
              exact r3 t n ht hn'
            · rw [w2 (3 + 5) (by decide)]
              by_cases c : 7 * t + q = b * 7 + p
              · rw [c, show 229 + 7 * t + q = 229 + 7 * b + p by omega, pt_s]
                exact mw_s
              · rw [mw_o (k := 8) c, k2 8 (by omega), pt_o (by omega)]
                exact r4 t q ht hq
            · rw [w2 (3 + 6) (by decide), mw_c (by decide), k2 (3 + 6) (by omega), pt_o (by omega)]
              exact r5 q hq
        · have e9 := m3_213 k1 k3
          refine ⟨mw M3 213 (229 + 7 * b + p) x3, ?_, by rw [mw_pt, e9], fun c g => mw_c g⟩
          unfold f_X7_mark
          rw [e2, if_neg ne10, e4, if_neg ne10, e6, if_neg ne10, eb, becomes_m (by omega) k2, bd_s, e9]
      · refine same_f0 h (z := -100001) ?_ (fun M' hM => ?_)
        · unfold f_X6_mark
          rw [e1, if_neg ne10, e3, if_neg ne10, e5, if_pos rfl]
          rfl
        · unfold f_X7_mark
          rw [e2, if_neg ne10, e4, if_neg ne10, e6, if_pos rfl]
          rfl
    · refine same_f0 h (z := -100001) ?_ (fun M' hM => ?_)
      · unfold f_X6_mark
        rw [e1, if_neg ne10, e3, if_pos rfl]
        rfl
      · unfold f_X7_mark
        rw [e2, if_neg ne10, e4, if_pos rfl]
        rfl
  · refine same_f0 h (z := -100001) ?_ (fun M' hM => ?_)
    · unfold f_X6_mark
      rw [e1, if_pos rfl]
      rfl
    · unfold f_X7_mark
      rw [e2, if_pos rfl]
      rfl
theorem same_start {M : Mm} (h : Inv M) (x1 x2 : Int32) : Same (f_X6_start x1 x2) (f_X7_start x1 x2) M := by
  obtain ⟨ep, p1, p2⟩ := wp_pl h.2.1
  rcases ped_i x1 with ⟨p, hp, rfl, e3, e4⟩ | ⟨e3, e4⟩
  · rcases std_i x2 with ⟨g, e5, e6⟩ | ⟨e5, e6⟩
    · have eb : (313 : Int32) + nI p = nI (313 + p) := zad 313 p
      have hN' : WP (pt (M 213) (313 + p) x2) := wp_pt h.2.1 (fun q => by omega) (fun b _ q => by omega) (by omega) (fun _ => g)
      have hE : ∀ t, t < 12 → eqB (M 213) (pt (M 213) (313 + p) x2) t := fun t ht => eqB_pt h.2.1 ht (by omega) (fun n w hn _ => by have := (wp_sz h.2.1 ht).2; omega) (fun q hq => by omega)
      refine chg h (r := M 213 (313 + p)) hN' (fun M1 k1 k2 => ?_) (fun M2 M3 k1 k2 k3 => ?_)
      · obtain ⟨w1, w2⟩ := wi_start (M := mw M1 9 p x2) h.2.2.2.1 (fun c g1 g2 => by rw [mw_c (by omega), k2 c (by omega)]) h.2.1 (pl_pt (by omega)) hE
        refine ⟨_, ?_, fun c g1 g2 => by rw [w2 c g2, mw_c (by omega)], ?_, w1⟩
        · unfold f_X6_start
          have e8 : M1 9 p = M 213 (313 + p) := by
            rw [k2 9 (by omega)]
            exact h.2.2.1.2.2.2.2 p hp
          rw [e3, if_neg ne10, e5, if_neg ne10, k1, bd_s, zck hp (by omega), zcl (by omega), nm_d, zck hp (by omega), nm_d, nm_d, e8]
        · obtain ⟨r1, r2, r3, r4, r5⟩ := h.2.2.1
          refine ⟨?_, fun t ht => ?_, fun t n ht hn => ?_, fun t q ht hq => ?_, fun q hq => ?_⟩
          · rw [w2 3 (by decide), mw_c (by decide), k2 3 (by omega), pt_o (by omega)]
            exact r1
          · rw [w2 (3 + 1) (by decide), mw_c (by decide), k2 (3 + 1) (by omega), pt_o (by omega)]
            exact r2 t ht
          · have hn' : n < sz (M 213) t := by rw [(hE t ht).1]; exact hn
            have hz := (wp_sz h.2.1 ht).2
            rw [w2 (3 + 2) (by decide), w2 (3 + 3) (by decide), w2 (3 + 4) (by decide), mw_c (by decide), mw_c (by decide), mw_c (by decide), k2 (3 + 2) (by omega), k2 (3 + 3) (by omega), k2 (3 + 4) (by omega), pt_o (by omega), pt_o (by omega), pt_o (by omega)]
            exact r3 t n ht hn'
          · rw [w2 (3 + 5) (by decide), mw_c (by decide), k2 (3 + 5) (by omega), pt_o (by omega)]
            exact r4 t q ht hq
          · rw [w2 (3 + 6) (by decide)]
            by_cases c : q = p
            · rw [c, pt_s]
              exact mw_s
            · rw [mw_o (k := 9) c, k2 9 (by omega), pt_o (by omega)]
              exact r5 q hq
      · have e9 := m3_213 k1 k3
        refine ⟨mw M3 213 (313 + p) x2, ?_, by rw [mw_pt, e9], fun c g => mw_c g⟩
        unfold f_X7_start
        rw [e4, if_neg ne10, e6, if_neg ne10, eb, becomes_m (by omega) k2, bd_s, e9]
    · refine same_f0 h (z := -100001) ?_ (fun M' hM => ?_)
      · unfold f_X6_start
        rw [e3, if_neg ne10, e5, if_pos rfl]
        rfl
      · unfold f_X7_start
        rw [e4, if_neg ne10, e6, if_pos rfl]
        rfl
  · refine same_f0 h (z := -100001) ?_ (fun M' hM => ?_)
    · unfold f_X6_start
      rw [e3, if_pos rfl]
      rfl
    · unfold f_X7_start
      rw [e4, if_pos rfl]
      rfl
