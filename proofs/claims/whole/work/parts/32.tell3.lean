/-! PURE: tell of the model -/
/-- the least of g below k, and of 100000 -/
def mnf (g : Nat → Nat) : Nat → Nat
  | 0 => 100000
  | k + 1 => min (mnf g k) (g k)
theorem mnf_b (g : Nat → Nat) : ∀ k, mnf g k ≤ 100000
  | 0 => Nat.le_refl _
  | k + 1 => by
    have := mnf_b g k
    rw [mnf]
    omega
/-- all moves of a way that is at d at the first beat, as the model writes them -/
noncomputable def tot (N : Nt) (d : Nat) : Nat := eC (ahd N d) + eC (V N (pl N - 1) (pl N - 1) d).1
theorem eC_l (c : Nat) : eC c ≤ 100000 := by
  unfold eC
  split <;> omega
theorem tell_m_l {M : Mm} (h : WP (M 213)) (hR : Rw M 0 (V (M 213) (pl (M 213) - 1) (pl (M 213) - 1))) : ∀ k n d : Nat, d + k = 2187 → k < n → L_X7_tell_245 M n (nI (mnf (tot (M 213)) d)) (nI d) = some (nI (mnf (tot (M 213)) 2187))
  | _, 0, _, _, h2 => by omega
  | 0, n + 1, d, h1, h2 => by
    have e : d = 2187 := by omega
    subst e
    rw [L_X7_tell_245, if_pos ((zleD (by omega)).mpr (by omega))]
  | k + 1, n + 1, d, h1, h2 => by
    have r := (hR d (by omega)).1
    rw [Nat.mul_zero, Nat.zero_add] at r
    rw [L_X7_tell_245, if_neg (fun q => by have := (zleD (by omega)).mp q; omega), ahead_m h (by omega), bd_s, ck_t (ib_nI (by omega) (by decide)), zcl (by omega), r, zad, nm_d, nm_d, nI_s]
    have h3 := mnf_b (tot (M 213)) d
    have h4 := eC_l (ahd (M 213) d)
    have h5 := eC_l (V (M 213) (pl (M 213) - 1) (pl (M 213) - 1) d).1
    have e1 : eC (ahd (M 213) d) + eC (V (M 213) (pl (M 213) - 1) (pl (M 213) - 1) d).1 = tot (M 213) d := rfl
    have h6 : tot (M 213) d ≤ 200000 := by omega
    rw [e1]
    have e2 : (if nI (mnf (tot (M 213)) d) ≤ nI (tot (M 213) d) then nI (mnf (tot (M 213)) d) else nI (tot (M 213) d)) = nI (mnf (tot (M 213)) (d + 1)) := by
      rw [mnf]
      by_cases c : mnf (tot (M 213)) d ≤ tot (M 213) d
      · rw [if_pos ((zle (by omega) (by omega)).mpr c), Nat.min_eq_left c]
      · rw [if_neg (fun q => c ((zle (by omega) (by omega)).mp q)), Nat.min_eq_right (by omega)]
    rw [e2]
    exact tell_m_l h hR k n (d + 1) (by omega) (by omega)
/-- the model's table holds the prices of N -/
def Tab (N : Nt) (M : Mm) : Prop := ∀ i, i ≤ pl N - 1 → Rw M (pl N - 1 - i) (V N (pl N - 1) i)
theorem tell_m {M : Mm} (h : WP (M 213)) : ∃ M', f_X7_tell M = some (nI (mnf (tot (M 213)) 2187), M') ∧ Tab (M 213) M' ∧ Fm M M' := by
  obtain ⟨ep, h1, h2⟩ := wp_pl h
  unfold f_X7_tell
  have e0 : M 213 (0 : Int32).toNatClampNeg = nI (pl (M 213)) := ep
  have e1 : nI (pl (M 213)) - 1 = nI (pl (M 213) - 1) := by
    rw [oI_n, oI_n, k1, oI_sub]
    congr 1
    omega
  rw [ck_t (by decide), e0, e1, nm_d]
  obtain ⟨M1, q1, q2, q3⟩ := tell_b h (show pl (M 213) - 1 < 12 by omega) (pl (M 213)) FU 0 M (by omega) (by unfold FU; omega) rfl (fun i hi => by omega)
  have e2 : oI (((pl (M 213) : Nat) : Int) - 1) = nI (pl (M 213) - 1) := by rw [oI_n]; congr 1; omega
  rw [e2] at q1
  rw [q1, bd_s]
  have e3 : M1 213 = M 213 := fm_c q3 (by decide) (by decide) (by decide) (by decide) (by decide)
  have h9 : Rw M1 0 (V (M1 213) (pl (M1 213) - 1) (pl (M1 213) - 1)) := by
    have := q2 (pl (M 213) - 1) (Nat.le_refl _)
    rw [Nat.sub_self] at this
    rw [e3]
    exact this
  have e4 := tell_m_l (M := M1) (by rw [e3]; exact h) h9 2187 FU 0 (by omega) (by unfold FU; omega)
  have e5 : L_X7_tell_245 M1 FU (100000 : Int32) (0 : Int32) = L_X7_tell_245 M1 FU (nI (mnf (tot (M1 213)) 0)) (nI 0) := rfl
  rw [e5, e4, bd_s, e3]
  exact ⟨M1, rfl, q2, q3⟩
