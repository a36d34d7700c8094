/-! PURE: the start -/
theorem hM_lo {M : Mm} {k : Nat} (h : k < 12) : ∀ i, hM M i k = M k
  | 0 => by
    first
      | rfl
      | (rw [hM]; done)
      | (rw [hM, mu_n (by omega)])
  | i + 1 => by
    rw [hM, iP_out (by omega)]
    exact hM_lo h i
theorem M0_h {k : Nat} (h : 212 < k) (h' : k ≠ 213) : M0 k = fun _ => 0 := by
  unfold M0 iM
  rw [mu_n (by omega), mu_n (by omega), iX_out (by omega)]
  rfl
theorem M0_212 : M0 212 = fun _ => 0 := by
  unfold M0 iM
  rw [mu_s]
theorem M0_213 : M0 213 = mN 320 := by
  unfold M0 iM
  rw [mu_n (by decide), mu_s]
theorem M0_l {k : Nat} (h : k < 212) (h0 : k ≠ 0) (h4 : k ≠ 204) : M0 k = iW (iC (iHi (iP (iH Z0) 3)) 152) k := by
  unfold M0 iM iX
  rw [mu_n (by omega), mu_n (by omega), mu_n h0, mu_n h4]
theorem M0_p {k : Nat} (h : k < 10) (h0 : k ≠ 0) : M0 k = iP (iH Z0) 3 k := by
  rw [M0_l (by omega) h0 (by omega)]
  unfold iW
  rw [mu_n (by omega), iC_out (by omega), iC_out (by omega)]
  unfold iHi
  rw [mu_n (by omega), hM_lo (by omega)]
theorem M0_0 : M0 0 = fun _ => 0 := by
  unfold M0 iM iX
  rw [mu_n (by decide), mu_n (by decide), mu_s]
theorem M0_161 : M0 161 = fun j => if j = 12 then 12 else if j = 13 then -1 else if j = 15 then 66060288 else if j = 17 then -1 else 0 := by
  rw [M0_l (by decide) (by decide) (by decide)]
  unfold iW
  rw [mu_s]
theorem M0_10 : M0 10 = fun _ => 0 := by
  rw [M0_l (by decide) (by decide) (by decide)]
  unfold iW
  rw [mu_n (by decide), iC_out (by decide), iC_out (by decide)]
  unfold iHi
  rw [mu_s]
theorem M0_sh {k : Nat} (h1 : 205 ≤ k) (h2 : k < 212) : M0 k = fun _ => 0 := by
  rw [M0_l (by omega) (by omega) (by omega), iW_out (by omega), iC_out (by omega), iHi_out (by omega), iP_out (by omega), iH_out (by omega)]
  rfl
theorem mN_0z {j : Nat} (h : j ≠ 0) (h2 : j < 229) : mN 320 j = 0 := by
  unfold mN
  rw [if_neg h, if_neg (by omega)]
theorem mN_m {j : Nat} (h : 229 ≤ j) (h2 : j < 320) : mN 320 j = -1 := by
  unfold mN
  rw [if_neg (by omega), if_pos ⟨h, h2⟩]
theorem mN_sz {b : Nat} (hb : b < 12) : sz (mN 320) b = 0 := by
  unfold sz
  rw [mN_0z (by omega) (by omega)]
  rfl
theorem M0_WP : WP (M0 213) := by
  rw [M0_213]
  refine ⟨by decide, fun b hb => by rw [mN_0z (by omega) (by omega)]; decide, fun b n hb hn => ?_, fun b p hb hp => ?_, fun p hp => ?_⟩
  · rw [mN_sz hb] at hn
    omega
  · unfold mk
    rw [mN_m (by omega) (by omega)]
    decide
  · unfold so
    rw [mN_m (by omega) (by omega)]
    decide
theorem M0_Rel : RelP 3 M0 (M0 213) := by
  rw [M0_213]
  refine ⟨?_, fun b hb => ?_, fun b n hb hn => ?_, fun b p hb hp => ?_, fun p hp => ?_⟩
  · rw [M0_p (by decide) (by decide)]
    unfold iP
    rw [mu_s]
    rfl
  · rw [M0_p (by decide) (by decide), mN_0z (by omega) (by omega)]
    unfold iP
    rw [mu_n (by decide), mu_n (by decide), mu_n (by decide), iH_out (by decide)]
    rfl
  · rw [mN_sz hb] at hn
    omega
  · rw [M0_p (by decide) (by decide), mN_m (by omega) (by omega)]
    unfold iP
    rw [mu_n (by decide), mu_n (by decide), mu_s, if_pos (by omega)]
  · rw [M0_p (by decide) (by decide), mN_m (by omega) (by omega)]
    unfold iP
    rw [mu_n (by decide), mu_s, if_pos hp]
theorem M0_I : Inv M0 := by
  have hp := (wp_pl M0_WP).2.2
  refine ⟨fun d hd => ?_, M0_WP, M0_Rel, ⟨12, 0, by omega, by omega, ?_, fun b g1 g2 => by omega, ?_, fun b hb => by omega, Or.inl ?_, Or.inl ?_⟩, ?_, fun s hs => ?_, ⟨0, 0, by omega, by omega, ?_, ?_, ?_, fun i hi => by omega⟩⟩
  · rw [M0_p (by decide) (by decide)]
    rw [iP_out (by decide)]
    unfold iH
    rw [mu_n (by decide), mu_s]
    exact if_pos hd
  · rw [M0_161]
    rfl
  · rw [M0_161]
    rfl
  · rw [M0_161]
    rfl
  · rw [M0_161]
    rfl
  · rw [M0_0, M0_212]
  · rw [M0_sh (k := 205) (by decide) (by decide), M0_sh (k := 206) (by decide) (by decide), M0_h (k := 215) (by decide) (by decide), M0_h (k := 216) (by decide) (by decide), M0_h (k := 217) (by decide) (by decide), M0_sh (k := 208 + s) (by omega) (by omega)]
    exact ⟨rfl, rfl, by show 0 ≤ (0 : Int32).toInt ∧ (0 : Int32).toInt ≤ 30; decide, fun _ _ => rfl⟩
  · rw [M0_10]
    rfl
  · rw [M0_10]
    rfl
  · rw [M0_212]
    rfl
