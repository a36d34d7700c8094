/-! PURE: the way that the model tells -/
theorem bs_1 {z : Pr} : ∀ l : List Pr, (bs z l).1 = z.1 ∨ ∃ x ∈ l, x.1 = (bs z l).1
  | [] => Or.inl rfl
  | x :: l => by
    show (bt x (bs z l)).1 = z.1 ∨ ∃ y ∈ x :: l, y.1 = (bt x (bs z l)).1
    have ih := bs_1 (z := z) l
    rcases Nat.lt_trichotomy x.1 (bs z l).1 with h | h | h
    · rw [bt_l h]
      exact Or.inr ⟨x, List.mem_cons_self, rfl⟩
    · rw [bt_e h]
      exact Or.inr ⟨x, List.mem_cons_self, rfl⟩
    · rw [bt_r h]
      rcases ih with ih | ⟨y, hy, ey⟩
      · exact Or.inl ih
      · exact Or.inr ⟨y, List.mem_cons_of_mem _ hy, ey⟩
/-- the least number that P holds of -/
noncomputable def les (P : Nat → Prop) : Nat := Classical.epsilon (fun d => P d ∧ ∀ e, P e → d ≤ e)
theorem les_e {P : Nat → Prop} {d : Nat} (h : P d) (hl : ∀ e, P e → d ≤ e) : les P = d := by
  have h1 := Classical.epsilon_spec (p := fun d => P d ∧ ∀ e, P e → d ≤ e) ⟨d, h, hl⟩
  exact Nat.le_antisymm (h1.2 d h) (hl _ h1.1)
theorem mnf_g (g : Nat → Nat) : ∀ k, mnf g k < 100000 → ∃ d, d < k ∧ g d = mnf g k
  | 0, h => absurd h (Nat.lt_irrefl _)
  | k + 1, h => by
    rw [mnf] at h ⊢
    by_cases c : mnf g k ≤ g k
    · rw [Nat.min_eq_left c] at h ⊢
      obtain ⟨d, hd, e⟩ := mnf_g g k h
      exact ⟨d, by omega, e⟩
    · rw [Nat.min_eq_right (by omega)]
      exact ⟨k, by omega, rfl⟩
/-- the moves of the best way, as the model writes them -/
noncomputable def bst (N : Nt) : Nat := mnf (tot N) 2187
/-- the cost from d at beat b on -/
noncomputable def co (N : Nt) (b d : Nat) : Nat := eC (V N (pl N - 1) (pl N - 1 - b) d).1
/-- a step of the best way out of d at beat b -/
def stepP (N : Nt) (b d : Nat) (a : Nat × Nat) : Prop := a.2 + co N (b + 1) a.1 = co N b d
/-- where the best way is at beat b -/
noncomputable def wy (N : Nt) : Nat → Nat
  | 0 => les (fun d => d < 2187 ∧ tot N d = bst N)
  | b + 1 => les (fun f => ∃ a, a ∈ ops (lk N b (wy N b)) (wy N b) ∧ a.1 = f ∧ stepP N b (wy N b) a)
theorem way_0 {M : Mm} (h : WP (M 213)) (hR : Rw M 0 (V (M 213) (pl (M 213) - 1) (pl (M 213) - 1))) {v t : Nat} (hv : v ≤ 100000) (ht : t < 2187) (et : tot (M 213) t = v) : ∀ k n d : Nat, d + k = 2187 → k ≤ n → d ≤ t → (∀ s, s < d → tot (M 213) s ≠ v) →
    ∃ r, L_X7_tellWay_15 (nI v, M) n (nI d) = some (nI r) ∧ r < 2187 ∧ tot (M 213) r = v ∧ ∀ s, s < r → tot (M 213) s ≠ v
  | 0, _, d, h1, _, h3, _ => by omega
  | k + 1, 0, d, h1, h2, h3, h4 => by omega
  | k + 1, n + 1, d, h1, h2, h3, h4 => by
    have r := (hR d (by omega)).1
    rw [Nat.mul_zero, Nat.zero_add] at r
    have h5 := eC_l (ahd (M 213) d)
    have h6 := eC_l (V (M 213) (pl (M 213) - 1) (pl (M 213) - 1) d).1
    have e1 : eC (ahd (M 213) d) + eC (V (M 213) (pl (M 213) - 1) (pl (M 213) - 1) d).1 = tot (M 213) d := rfl
    have h7 : tot (M 213) d ≤ 200000 := by omega
    rw [L_X7_tellWay_15]
    dsimp only
    rw [ahead_m h (by omega), bd_s, ck_t (ib_nI (by omega) (by decide)), zcl (by omega), r, zad, e1, nI_s]
    by_cases c : tot (M 213) d = v
    · rw [if_pos ((zeq (by omega) (by omega)).mpr c)]
      exact ⟨d, rfl, by omega, c, h4⟩
    · rw [if_neg (fun q => c ((zeq (by omega) (by omega)).mp q))]
      refine way_0 h hR hv ht et k n (d + 1) (by omega) (by omega) ?_ ?_
      · by_cases c2 : d = t
        · subst c2
          exact absurd et c
        · omega
      · intro s hs
        by_cases c2 : s = d
        · subst c2
          exact c
        · exact h4 s (by omega)
