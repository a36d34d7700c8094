/-! PURE: undo -/
theorem u_26 {k : Nat} (hk : k < 20) {M0 : Mm} : ∀ (u n j : Nat) (M : Mm), j + u = 320 → u < n → M 212 2 = nI k → M 214 = M0 214 → (∀ t, M 213 t = if t < j then sl M0 k t else M0 213 t) →
    ∃ M', L_X7_undo_26 n (nI j) M = some M' ∧ (∀ t, M' 213 t = if t < 320 then sl M0 k t else M0 213 t) ∧ ∀ c, c ≠ 213 → M' c = M c
  | _, 0, _, _, _, h2, _, _, _ => by omega
  | 0, n + 1, j, M, h1, h2, h3, h4, h5 => by
    have hl : (320 : Int32) ≤ nI j := (zle (a := 320) (by omega) (by omega)).mpr (by omega)
    rw [L_X7_undo_26, if_pos hl]
    rw [show j = 320 by omega] at h5
    exact ⟨M, rfl, h5, fun _ _ => rfl⟩
  | u + 1, n + 1, j, M, h1, h2, h3, h4, h5 => by
    have hl : ¬ (320 : Int32) ≤ nI j := fun q => by have := (zle (a := 320) (by omega) (by omega)).mp q; omega
    have e1 : (320 : Int32) * nI k + nI j = nI (320 * k + j) := by rw [show (320 : Int32) = nI 320 from rfl, zmu, zad]
    rw [L_X7_undo_26, if_neg hl, h3, e1, zck (by omega) (by omega), zck (by omega) (by omega), nm_d, zcl (show 320 * k + j < 2147483648 by omega), zcl (show j < 2147483648 by omega), nI_s, h4]
    obtain ⟨M', q1, q2, q3⟩ := u_26 hk (M0 := M0) u n (j + 1) (mw M 213 j (M0 214 (320 * k + j))) (by omega) (by omega) (by rw [mw_c (by decide)]; exact h3) (by rw [mw_c (by decide)]; exact h4) (fun t => by
      by_cases c : t = j
      · rw [c, mw_s, if_pos (by omega)]
        rfl
      · rw [mw_o c, h5 t]
        by_cases c2 : t < j
        · rw [if_pos c2, if_pos (by omega)]
        · rw [if_neg c2, if_neg (by omega)])
    exact ⟨M', q1, q2, fun c g => by rw [q3 c g, mw_c g]⟩
theorem wi_all {N' : Nt} {M : Mm} (hp : pl N' ≤ 12) : WI N' (f_X5_forgetAll M) ∧ ∀ c, c ≠ 161 → f_X5_forgetAll M c = M c := by
  have hc : ∀ c, c ≠ 161 → f_X5_forgetLength M c = M c := fun c g => by
    unfold f_X5_forgetLength
    rw [nm_d, nm_d, fa_c' g, mw_c g]
  have h12 : f_X5_forgetLength M 161 12 = nI 12 := by
    unfold f_X5_forgetLength
    rw [nm_d, nm_d, fa_s (by decide) (by decide), mw_s]
    rfl
  unfold f_X5_forgetAll f_X5_forgetStart
  rw [nm_d, nm_d, nm_d, nm_d]
  refine ⟨⟨12, 0, by omega, by omega, ?_, fun b g1 g2 => by omega, ?_, fun b hb d hd => by omega, Or.inl fa_z.1, Or.inl fa_z.2⟩, fun c g => by rw [fa_c' g, mw_c g, hc c g]⟩
  · rw [fa_s (by decide) (by decide), mw_o (by decide)]
    exact h12
  · rw [fa_s (by decide) (by decide), mw_s]
    rfl
theorem same_undo {M : Mm} (h : Inv M) : Same f_X6_undo f_X7_undo M := by
  have hI := h
  obtain ⟨i1, i2, i3, i4, i5, i6, k, x, h1, h2, h3, h4, h5, h6⟩ := h
  by_cases c : k = 0
  · refine same_f0 hI (z := -100006) ?_ (fun M' hM => ?_)
    · unfold f_X6_undo
      rw [if_pos (by rw [h3, c]; rfl)]
      rfl
    · unfold f_X7_undo
      rw [if_pos (by rw [hM 212 (by decide), h5, c]; rfl)]
      rfl
  · have hne : ¬ nI k = 0 := fun q => c ((nI_z (by omega)).mp q)
    have hx' : (x + 19) % 20 < 20 := Nat.mod_lt _ (by omega)
    obtain ⟨g1, g2⟩ := h6 (k - 1) (by omega)
    rw [show (x + 20 - k + (k - 1)) % 20 = (x + 19) % 20 by omega] at g2
    have ex : (nI x + (20 : Int32)) - (1 : Int32) = nI (x + 19) := by
      rw [show (20 : Int32) = nI 20 from rfl, zad]
      exact zsu (a := x + 20) (b := 1) (by omega)
    have ek : nI k - (1 : Int32) = nI (k - 1) := zsu (a := k) (b := 1) (by omega)
    obtain ⟨M1, b1, b2, b3⟩ := become_c (a0 := 3) (a1 := 12 + 7 * ((x + 19) % 20)) (M := mw M 10 1 (nI ((x + 19) % 20))) g1 (by omega) (relp_e g2 (fun c j1 j2 => mw_c (by omega)))
    have e320' : e320 (sl M (k - 1)) (fun t => if t < 320 then sl M (k - 1) t else M 213 t) := fun j hj => (if_pos hj).symm
    have hN' : WP (fun t => if t < 320 then sl M (k - 1) t else M 213 t) := wp_320 g1 e320'
    obtain ⟨w1, w2⟩ := wi_all (M := mw M1 10 2 (nI (k - 1))) (wp_pl hN').2.2
    have e10 : M1 10 = mw M 10 1 (nI ((x + 19) % 20)) 10 := b3 10 (by omega)
    have hcl : ∀ c, ¬ (3 ≤ c ∧ c ≤ 9) → c ≠ 10 → c ≠ 161 → f_X5_forgetAll (mw M1 10 2 (nI (k - 1))) c = M c := fun c j1 j2 j3 => by rw [w2 c j3, mw_c j2, b3 c (by omega), mw_c j2]
    have hf : f_X6_undo M = some (nI (k - 1), f_X5_forgetAll (mw M1 10 2 (nI (k - 1)))) := by
      unfold f_X6_undo f_X2_giveBack
      rw [h3, if_neg hne, h4, ex, mod20 (by omega), nm_d, mw_s, zck hx' (by omega), zcl (by omega), b1, bd_s, e10, mw_o (by decide), h3, ek, nm_d, bd_s, nm_d, w2 10 (by decide), mw_s]
    generalize f_X5_forgetAll (mw M1 10 2 (nI (k - 1))) = M2 at hf w1 w2 hcl
    have m212 : M2 212 = M 212 := hcl 212 (by omega) (by omega) (by omega)
    obtain ⟨M3, u1, u2, u3⟩ := u_26 (k := k - 1) (by omega) (M0 := M) 320 FU 0 (mw M2 212 2 (nI (k - 1))) (by omega) (by unfold FU; omega) mw_s (by rw [mw_c (by decide), hcl 214 (by omega) (by omega) (by omega)]) (fun t => by rw [if_neg (by omega), mw_c (by decide), hcl 213 (by omega) (by omega) (by omega)])
    rw [nI_00] at u1
    have hg : f_X7_undo M2 = some (nI (k - 1), M3) := by
      unfold f_X7_undo
      rw [m212, h5, if_neg hne, ek, nm_d, u1, bd_s, u3 212 (by decide), mw_s]
    have e213 : M3 213 = fun t => if t < 320 then sl M (k - 1) t else M 213 t := funext u2
    have lo : ∀ c, c < 212 → M3 c = M2 c := fun c g => by rw [u3 c (by omega), mw_c (by omega)]
    have hi : ∀ c, 214 ≤ c → M3 c = M c := fun c g => by rw [u3 c (by omega), mw_c (by omega), hcl c (by omega) (by omega) (by omega)]
    refine ⟨nI (k - 1), M2, M3, hf, hg, fun t ht => ?_, by rw [e213]; exact hN', by
      rw [e213]
      refine rel_320 g1 e320' (relp_e b2 (fun c j1 j2 => ?_))
      rw [lo c (by omega), w2 c (by omega), mw_c (by omega)], by rw [e213]; exact wi_e w1 (wp_pl hN').2.2 (fun c j1 j2 => lo c (by omega)), ?_, fun s hs => ?_, ?_⟩
    · rw [lo 2 (by omega), hcl 2 (by omega) (by omega) (by omega)]
      exact i1 t ht
    · rw [lo 0 (by omega), hcl 0 (by omega) (by omega) (by omega), u3 212 (by decide), mw_o (by decide), m212]
      exact i5
    · obtain ⟨s1, s2, s3, s4⟩ := i6 s hs
      have q : ∀ c, 204 ≤ c → c < 212 → M3 c = M c := fun c j1 j2 => by rw [lo c j2, hcl c (by omega) (by omega) (by omega)]
      rw [q 205 (by omega) (by omega), q 206 (by omega) (by omega), q (208 + s) (by omega) (by omega), hi 215 (by omega), hi 216 (by omega), hi 217 (by omega)]
      exact ⟨s1, s2, s3, s4⟩
    · have r10 : M3 10 = mw M1 10 2 (nI (k - 1)) 10 := by rw [lo 10 (by omega), w2 10 (by decide)]
      refine ⟨k - 1, (x + 19) % 20, by omega, hx', by rw [r10, mw_s], by rw [r10, mw_o (by decide), e10, mw_s], by rw [u3 212 (by decide), mw_s], fun i hi' => ?_⟩
      have es : sl M3 i = sl M i := by
        unfold sl
        rw [hi 214 (by omega)]
      obtain ⟨j1, j2⟩ := h6 i (by omega)
      rw [es, show ((x + 19) % 20 + 20 - (k - 1) + i) % 20 = (x + 20 - k + i) % 20 by omega]
      have hlt := Nat.mod_lt (x + 20 - k + i) (show 0 < 20 by omega)
      exact ⟨j1, relp_e j2 (fun c a1 a2 => by rw [lo c (by omega), hcl c (by omega) (by omega) (by omega)])⟩
