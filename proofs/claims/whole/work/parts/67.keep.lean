/-! PURE: keep, class and model -/
/-- the same row of 320 -/
def e320 (N N' : Nt) : Prop := ∀ j, j < 320 → N j = N' j
theorem sz_320 {N N' : Nt} (h : e320 N N') {b : Nat} (hb : b < 12) : sz N b = sz N' b := by
  unfold sz
  rw [h _ (by omega)]
theorem wp_320 {N N' : Nt} (hN : WP N) (h : e320 N N') : WP N' := by
  obtain ⟨h1, h2, h3, h4, h5⟩ := hN
  refine ⟨?_, fun b hb => ?_, fun b n hb hn => ?_, fun b p hb hp => ?_, fun p hp => ?_⟩
  · rw [← h 0 (by omega)]
    exact h1
  · rw [← h (1 + b) (by omega)]
    exact h2 b hb
  · rw [← sz_320 h hb] at hn
    have hz : sz N b ≤ 6 := by
      show (N (1 + b)).toInt.toNat ≤ 6
      have := h2 b hb
      omega
    have h9 := h3 b n hb hn
    unfold pc_ at h9 ⊢
    rw [← h (13 + 3 * (6 * b + n)) (by omega), ← h (13 + 3 * (6 * b + n) + 1) (by omega), ← h (13 + 3 * (6 * b + n) + 2) (by omega)]
    exact h9
  · unfold mk
    rw [← h _ (by omega)]
    exact h4 b p hb hp
  · unfold so
    rw [← h _ (by omega)]
    exact h5 p hp
theorem rel_320 {N N' : Nt} (hN : WP N) (h : e320 N N') {a : Nat} {M : Mm} (hR : RelP a M N) : RelP a M N' := by
  obtain ⟨h1, h2, h3, h4, h5⟩ := hR
  refine ⟨?_, fun b hb => ?_, fun b n hb hn => ?_, fun b p hb hp => ?_, fun p hp => ?_⟩
  · rw [← h 0 (by omega)]
    exact h1
  · rw [← h (1 + b) (by omega)]
    exact h2 b hb
  · rw [← sz_320 h hb] at hn
    have hz := (wp_sz hN hb).2
    rw [← h (13 + 3 * (6 * b + n)) (by omega), ← h (13 + 3 * (6 * b + n) + 1) (by omega), ← h (13 + 3 * (6 * b + n) + 2) (by omega)]
    exact h3 b n hb hn
  · rw [← h _ (by omega)]
    exact h4 b p hb hp
  · rw [← h _ (by omega)]
    exact h5 p hp
theorem become_c {a0 a1 : Nat} {M : Mm} {N : Nt} (hN : WP N) (hd : a0 + 6 < a1 ∨ a1 + 6 < a0) (hR : RelP a1 M N) : ∃ M', f_X3_become a0 a1 M = some M' ∧ RelP a0 M' N ∧ ∀ c, ¬ (a0 ≤ c ∧ c ≤ a0 + 6) → M' c = M c := by
  have hM0 : ∀ c, c ≠ a0 → mw M a0 0 (M a1 0) c = M c := fun c g => mw_c g
  unfold f_X3_become
  rw [nm_d, ck_t (by decide), nm_d, ck_t (by decide), nm_d, ck_t (by decide), nm_d, ck_t (by decide), nm_d, ck_t (by decide), nm_d, ck_t (by decide), nm_d]
  rw [mu_n (show a1 + 6 ≠ a0 + 5 by omega), mu_n (show a1 + 6 ≠ a0 + 4 by omega), mu_n (show a1 + 6 ≠ a0 + 3 by omega), mu_n (show a1 + 6 ≠ a0 + 2 by omega), mu_n (show a1 + 6 ≠ a0 + 1 by omega), hM0 (a1 + 6) (by omega),
    mu_n (show a1 + 5 ≠ a0 + 4 by omega), mu_n (show a1 + 5 ≠ a0 + 3 by omega), mu_n (show a1 + 5 ≠ a0 + 2 by omega), mu_n (show a1 + 5 ≠ a0 + 1 by omega), hM0 (a1 + 5) (by omega),
    mu_n (show a1 + 4 ≠ a0 + 3 by omega), mu_n (show a1 + 4 ≠ a0 + 2 by omega), mu_n (show a1 + 4 ≠ a0 + 1 by omega), hM0 (a1 + 4) (by omega),
    mu_n (show a1 + 3 ≠ a0 + 2 by omega), mu_n (show a1 + 3 ≠ a0 + 1 by omega), hM0 (a1 + 3) (by omega),
    mu_n (show a1 + 2 ≠ a0 + 1 by omega), hM0 (a1 + 2) (by omega), hM0 (a1 + 1) (by omega)]
  refine ⟨_, rfl, ⟨?_, fun b hb => ?_, fun b n hb hn => ?_, fun b p hb hp => ?_, fun p hp => ?_⟩, fun c g => ?_⟩
  · rw [mu_n (by omega), mu_n (by omega), mu_n (by omega), mu_n (by omega), mu_n (by omega), mu_n (by omega), mw_s]
    exact hR.1
  · rw [mu_n (by omega), mu_n (by omega), mu_n (by omega), mu_n (by omega), mu_n (by omega), mu_s, show (12 : Int32) = nI 12 from rfl, cpy_a (by omega) hb]
    exact hR.2.1 b hb
  · have hz := (wp_sz hN hb).2
    obtain ⟨g1, g2, g3⟩ := hR.2.2.1 b n hb hn
    refine ⟨?_, ?_, ?_⟩
    · rw [mu_n (by omega), mu_n (by omega), mu_n (by omega), mu_n (by omega), mu_s, show (72 : Int32) = nI 72 from rfl, cpy_a (by omega) (by omega)]
      exact g1
    · rw [mu_n (by omega), mu_n (by omega), mu_n (by omega), mu_s, show (72 : Int32) = nI 72 from rfl, cpy_a (by omega) (by omega)]
      exact g2
    · rw [mu_n (by omega), mu_n (by omega), mu_s, show (72 : Int32) = nI 72 from rfl, cpy_a (by omega) (by omega)]
      exact g3
  · rw [mu_n (by omega), mu_s, show (84 : Int32) = nI 84 from rfl, cpy_a (by omega) (by omega)]
    exact hR.2.2.2.1 b p hb hp
  · rw [mu_s, show (7 : Int32) = nI 7 from rfl, cpy_a (by omega) hp]
    exact hR.2.2.2.2 p hp
  · rw [mu_n (by omega), mu_n (by omega), mu_n (by omega), mu_n (by omega), mu_n (by omega), mu_n (by omega), mw_c (by omega)]
theorem mod20 {a : Nat} (h : a < 1000) : nI a - nI a / (20 : Int32) * (20 : Int32) = nI (a % 20) := by
  rw [show (20 : Int32) = nI 20 from rfl, zdi (by omega) (by omega) (by omega), zmu, zre (by omega) (by omega) (by omega)]
theorem keep_c {M : Mm} {N : Nt} (hN : WP N) {x k : Nat} (hx : x < 20) (hk : k ≤ 20) (h1 : M 10 1 = nI x) (h2 : M 10 2 = nI k) (hR : RelP 3 M N) : ∃ M', f_X2_keep 3 M = some M' ∧ RelP (12 + 7 * x) M' N ∧ M' 10 1 = nI ((x + 1) % 20) ∧ M' 10 2 = nI (min (k + 1) 20) ∧ ∀ c j, ¬ (12 + 7 * x ≤ c ∧ c ≤ 12 + 7 * x + 6) → ¬ (c = 10 ∧ (j = 1 ∨ j = 2)) → M' c j = M c j := by
  obtain ⟨M1, q1, q2, q3⟩ := become_c (a0 := 12 + 7 * x) (a1 := 3) hN (by omega) hR
  have e10 : M1 10 = M 10 := q3 10 (by omega)
  unfold f_X2_keep
  rw [h1, zck hx (by omega), zcl (by omega), q1, bd_s, e10, h1, nI_s, mod20 (by omega), nm_d, mw_o (show (2 : Nat) ≠ 1 by decide), e10, h2, nI_s, show (20 : Int32) = nI 20 from rfl, jmin_n (by omega) (by omega), nm_d]
  refine ⟨_, rfl, relp_e q2 (fun c g1 g2 => by rw [mw_c (by omega), mw_c (by omega)]), by rw [mw_o (by decide), mw_s], mw_s, fun c j g1 g2 => ?_⟩
  rw [mw_at, if_neg (by omega), mw_at, if_neg (by omega), q3 c g1]
/-- kept row i of the model -/
def sl (M : Mm) (i : Nat) : Nt := fun j => M 214 (320 * i + j)
theorem k_52 {k : Nat} (hk : k < 20) : ∀ (u n j : Nat) (M : Mm), j + u = 320 → u < n → M 212 2 = nI k → (∀ t, t < j → M 214 (320 * k + t) = M 213 t) →
    ∃ M', L_X7_keep_52 n (nI j) M = some M' ∧ (∀ t, t < 320 → M' 214 (320 * k + t) = M 213 t) ∧ (∀ t, ¬ (320 * k ≤ t ∧ t < 320 * k + 320) → M' 214 t = M 214 t) ∧ ∀ c, c ≠ 214 → M' c = M c
  | _, 0, _, _, _, h2, _, _ => by omega
  | 0, n + 1, j, M, h1, h2, h3, h4 => by
    have hl : (320 : Int32) ≤ nI j := (zle (a := 320) (by omega) (by omega)).mpr (by omega)
    rw [L_X7_keep_52, if_pos hl]
    exact ⟨M, rfl, fun t ht => h4 t (by omega), fun _ _ => rfl, fun _ _ => rfl⟩
  | u + 1, n + 1, j, M, h1, h2, h3, h4 => by
    have hl : ¬ (320 : Int32) ≤ nI j := fun q => by have := (zle (a := 320) (by omega) (by omega)).mp q; omega
    have e1 : (320 : Int32) * nI k + nI j = nI (320 * k + j) := by rw [show (320 : Int32) = nI 320 from rfl, zmu, zad]
    rw [L_X7_keep_52, if_neg hl, h3, e1, zck (by omega) (by omega), zck (by omega) (by omega), nm_d, zcl (show 320 * k + j < 2147483648 by omega), zcl (show j < 2147483648 by omega), nI_s]
    obtain ⟨M', q1, q2, q3, q4⟩ := k_52 hk u n (j + 1) (mw M 214 (320 * k + j) (M 213 j)) (by omega) (by omega) (by rw [mw_c (by decide)]; exact h3) (fun t ht => by
      rw [mw_c (show (213 : Nat) ≠ 214 by decide)]
      by_cases c : t = j
      · rw [c, mw_s]
      · rw [mw_o (by omega)]
        exact h4 t (by omega))
    refine ⟨M', q1, fun t ht => ?_, fun t ht => ?_, fun c g => by rw [q4 c g, mw_c g]⟩
    · rw [q2 t ht, mw_c (by decide)]
    · rw [q3 t ht, mw_o (by omega)]
theorem k_11 {M0 : Mm} : ∀ (u n j : Nat) (M : Mm), j + u = 6080 → u < n → (∀ t, t < j → M 214 t = M0 214 (t + 320)) → (∀ t, j ≤ t → M 214 t = M0 214 t) → (∀ c, c ≠ 214 → M c = M0 c) →
    ∃ M', L_X7_keep_11 n (nI j) M = some M' ∧ (∀ t, t < 6080 → M' 214 t = M0 214 (t + 320)) ∧ ∀ c, c ≠ 214 → M' c = M0 c
  | _, 0, _, _, _, h2, _, _, _ => by omega
  | 0, n + 1, j, M, h1, h2, h3, h4, h5 => by
    have hl : (6080 : Int32) ≤ nI j := (zle (a := 6080) (by omega) (by omega)).mpr (by omega)
    rw [L_X7_keep_11, if_pos hl]
    exact ⟨M, rfl, fun t ht => h3 t (by omega), h5⟩
  | u + 1, n + 1, j, M, h1, h2, h3, h4, h5 => by
    have hl : ¬ (6080 : Int32) ≤ nI j := fun q => by have := (zle (a := 6080) (by omega) (by omega)).mp q; omega
    have e1 : nI j + (320 : Int32) = nI (j + 320) := zad j 320
    rw [L_X7_keep_11, if_neg hl, e1, zck (by omega) (by omega), zck (by omega) (by omega), nm_d, zcl (show j + 320 < 2147483648 by omega), zcl (show j < 2147483648 by omega), nI_s, h4 (j + 320) (by omega)]
    exact k_11 u n (j + 1) (mw M 214 j (M0 214 (j + 320))) (by omega) (by omega) (fun t ht => by
      by_cases c : t = j
      · rw [c, mw_s]
      · rw [mw_o c]
        exact h3 t (by omega)) (fun t ht => by rw [mw_o (by omega)]; exact h4 t (by omega)) (fun c g => by rw [mw_c g]; exact h5 c g)
/-- what keep makes of the kept rows -/
def kpt (M M' : Mm) (k : Nat) : Prop := (∀ i, i + 1 < min (k + 1) 20 → e320 (if k = 20 then sl M (i + 1) else sl M i) (sl M' i)) ∧ e320 (M 213) (sl M' (min (k + 1) 20 - 1))
theorem keep_m {M : Mm} {k : Nat} (hk : k ≤ 20) (h2 : M 212 2 = nI k) : ∃ M', f_X7_keep M = some M' ∧ M' 212 2 = nI (min (k + 1) 20) ∧ kpt M M' k ∧ ∀ c j, c ≠ 214 → ¬ (c = 212 ∧ j = 2) → M' c j = M c j := by
  unfold f_X7_keep
  by_cases c : k = 20
  · rw [if_pos (by rw [h2, c]; rfl)]
    obtain ⟨M1, q1, q2, q3⟩ := k_11 (M0 := M) 6080 FU 0 M (by omega) (by unfold FU; omega) (fun t ht => by omega) (fun _ _ => rfl) (fun _ _ => rfl)
    rw [nI_00] at q1
    have e1 : M1 212 2 = nI k := by rw [q3 212 (by decide)]; exact h2
    have e2 : nI k - (1 : Int32) = nI 19 := by
      rw [c]
      exact zsu (a := 20) (b := 1) (by omega)
    rw [q1, bd_s, e1, e2, nm_d, bd_s]
    obtain ⟨M2, r1, r2, r3, r4⟩ := k_52 (k := 19) (by omega) 320 FU 0 (mw M1 212 2 (nI 19)) (by omega) (by unfold FU; omega) mw_s (fun t ht => by omega)
    rw [nI_00] at r1
    rw [r1, bd_s, r4 212 (by decide), mw_s, nI_s, nm_d]
    have em : min (k + 1) 20 = 20 := by omega
    refine ⟨_, rfl, by rw [mw_s, em], ⟨fun i hi j hj => ?_, fun j hj => ?_⟩, fun c' j g1 g2 => ?_⟩
    · rw [if_pos c]
      unfold sl
      rw [mw_c (by decide), r3 _ (by omega), mw_c (by decide), q2 _ (by omega), show 320 * (i + 1) + j = 320 * i + j + 320 by omega]
    · rw [em]
      unfold sl
      rw [mw_c (by decide), r2 j hj, mw_c (by decide), q3 213 (by decide)]
    · rw [mw_at, if_neg g2, r4 c' g1, mw_at, if_neg g2, q3 c' g1]
  · rw [if_neg (fun q => c (by rw [h2] at q; exact (zeq (b := 20) (by omega) (by omega)).mp q)), bd_s]
    obtain ⟨M2, r1, r2, r3, r4⟩ := k_52 (k := k) (by omega) 320 FU 0 M (by omega) (by unfold FU; omega) h2 (fun t ht => by omega)
    rw [nI_00] at r1
    rw [r1, bd_s, r4 212 (by decide), h2, nI_s, nm_d]
    have em : min (k + 1) 20 = k + 1 := by omega
    refine ⟨_, rfl, by rw [mw_s, em], ⟨fun i hi j hj => ?_, fun j hj => ?_⟩, fun c' j g1 g2 => ?_⟩
    · rw [if_neg c]
      unfold sl
      rw [mw_c (by decide), r3 _ (by omega)]
    · rw [em]
      unfold sl
      rw [mw_c (by decide), show k + 1 - 1 = k by omega, r2 j hj]
    · rw [mw_at, if_neg g2, r4 c' g1]
