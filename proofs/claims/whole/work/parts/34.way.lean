/-! PURE: the way that the model tells -/
theorem bs_1 {z : Pr} : ∀ l : List Pr, (bs z l).1 = z.1 ∨ ∃ x ∈ l, x.1 = (bs z l).1
  | [] => Or.inl rfl
  | x :: l => by
    show (bt x (bs z l)).1 = z.1 ∨ ∃ y ∈ x :: l, y.1 = (bt x (bs z l)).1
    have ih := bs_1 (z := z) l
    rcases Nat.lt_trichotomy x.1 (bs z l).1 with h | h | h
    · rw [bt_l h]
      exact Or.inr ⟨x, List.mem_cons_self, rfl⟩
    · rw [bt_e h]
      exact Or.inr ⟨x, List.mem_cons_self, rfl⟩
    · rw [bt_r h]
      rcases ih with ih | ⟨y, hy, ey⟩
      · exact Or.inl ih
      · exact Or.inr ⟨y, List.mem_cons_of_mem _ hy, ey⟩
/-- d is the least that P holds of -/
def lst (P : Nat → Prop) (d : Nat) : Prop := P d ∧ ∀ e, P e → d ≤ e
theorem lst_u {P : Nat → Prop} {d e : Nat} (h : lst P d) (h' : lst P e) : d = e := Nat.le_antisymm (h.2 e h'.1) (h'.2 d h.1)
theorem mnf_g (g : Nat → Nat) : ∀ k, mnf g k < 100000 → ∃ d, d < k ∧ g d = mnf g k
  | 0, h => absurd h (Nat.lt_irrefl _)
  | k + 1, h => by
    rw [mnf] at h ⊢
    by_cases c : mnf g k ≤ g k
    · rw [Nat.min_eq_left c] at h ⊢
      obtain ⟨d, hd, e⟩ := mnf_g g k h
      exact ⟨d, by omega, e⟩
    · rw [Nat.min_eq_right (by omega)]
      exact ⟨k, by omega, rfl⟩
/-- the moves of the best way, as the model writes them -/
noncomputable def bst (N : Nt) : Nat := mnf (tot N) 2187
/-- the cost from d at beat b on -/
noncomputable def co (N : Nt) (b d : Nat) : Nat := eC (V N (pl N - 1) (pl N - 1 - b) d).1
/-- a step of the best way out of d at beat b to f -/
def stepP (N : Nt) (b d f : Nat) : Prop := ∃ a ∈ ops (lk N b d) d, a.1 = f ∧ a.2 + co N (b + 1) f = co N b d
/-- w is the best way -/
def isW (N : Nt) (w : Nat → Nat) : Prop := lst (fun d => d < 2187 ∧ tot N d = bst N) (w 0) ∧ ∀ b, b + 1 < pl N → lst (stepP N b (w b)) (w (b + 1))
theorem isW_u {N : Nt} {w w' : Nat → Nat} (h : isW N w) (h' : isW N w') : ∀ b, b < pl N → w b = w' b
  | 0, _ => lst_u h.1 h'.1
  | b + 1, hb => by
    have e := isW_u h h' b (by omega)
    have h1 := h.2 b hb
    rw [e] at h1
    exact lst_u h1 (h'.2 b hb)
theorem isW_lt {N : Nt} {w : Nat → Nat} (h : isW N w) : ∀ b, b < pl N → w b < 2187
  | 0, _ => h.1.1.1
  | b + 1, hb => by
    obtain ⟨a, ha, e, -⟩ := (h.2 b hb).1
    rw [← e]
    exact (ops_b (isW_lt h b (by omega)) ha).1
theorem eC_i {a b : Nat} (ha : a ≤ 63) (h : eC a = eC b) (hb : b ≤ 63) : a = b := by
  unfold eC at h
  split at h <;> split at h <;> omega
/-- what costs less than all goes on -/
theorem step_e {N : Nt} {b d : Nat} (hb : b + 1 < pl N) (hp : pl N ≤ 12) (hd : d < 2187) (hc : co N b d < 100000) : ∃ f, stepP N b d f := by
  have e1 : pl N - 1 - b = (pl N - 1 - (b + 1)) + 1 := by omega
  have e2 : V N (pl N - 1) (pl N - 1 - b) = Wv N (pl N - 1) b (V N (pl N - 1) (pl N - 1 - (b + 1))) := by
    rw [e1, V, show pl N - 1 - (pl N - 1 - (b + 1) + 1) = b by omega]
  have hok := V_ok (N := N) (e := pl N - 1) (pl N - 1 - b) d (by omega) hd
  unfold co at hc
  have hdo : does N b d := by
    refine Classical.byContradiction (fun c => ?_)
    rw [e2, wv_f c] at hc
    exact absurd hc (by decide)
  have e3 : V N (pl N - 1) (pl N - 1 - b) d = bs top ((ops (lk N b d) d).map (op (V N (pl N - 1) (pl N - 1 - (b + 1))))) := by rw [e2, wv_n hdo (by omega)]
  rcases bs_1 (z := top) ((ops (lk N b d) d).map (op (V N (pl N - 1) (pl N - 1 - (b + 1))))) with h | ⟨x, hx, ex⟩
  · rw [← e3] at h
    rw [h] at hc
    exact absurd hc (by decide)
  · obtain ⟨a, ha, ea⟩ := List.mem_map.mp hx
    refine ⟨a.1, a, ha, rfl, ?_⟩
    have hab := ops_b hd ha
    have ho2 := V_ok (N := N) (e := pl N - 1) (pl N - 1 - (b + 1)) a.1 (by omega) hab.1
    unfold co
    rw [← e3] at ex
    subst ea
    have ex' : (V N (pl N - 1) (pl N - 1 - (b + 1)) a.1).1 + a.2 = (V N (pl N - 1) (pl N - 1 - b) d).1 := ex
    rcases hok with h | h
    · rw [h] at hc
      exact absurd hc (by decide)
    · rw [eC_f (c := (V N (pl N - 1) (pl N - 1 - b) d).1) (by omega), eC_f (by omega)]
      omega
theorem way_0 {M : Mm} (h : WP (M 213)) (hR : Rw M 0 (V (M 213) (pl (M 213) - 1) (pl (M 213) - 1))) {v t : Nat} (hv : v ≤ 100000) (ht : t < 2187) (et : tot (M 213) t = v) : ∀ k n d : Nat, d + k = 2187 → k ≤ n → d ≤ t → (∀ s, s < d → tot (M 213) s ≠ v) →
    ∃ r, L_X7_tellWay_15 (nI v, M) n (nI d) = some (nI r) ∧ lst (fun d => d < 2187 ∧ tot (M 213) d = v) r
  | 0, _, d, h1, _, h3, _ => by omega
  | k + 1, 0, d, h1, h2, h3, h4 => by omega
  | k + 1, n + 1, d, h1, h2, h3, h4 => by
    have r := (hR d (by omega)).1
    rw [Nat.mul_zero, Nat.zero_add] at r
    have h5 := eC_l (ahd (M 213) d)
    have h6 := eC_l (V (M 213) (pl (M 213) - 1) (pl (M 213) - 1) d).1
    have e1 : eC (ahd (M 213) d) + eC (V (M 213) (pl (M 213) - 1) (pl (M 213) - 1) d).1 = tot (M 213) d := rfl
    have h7 : tot (M 213) d ≤ 200000 := by omega
    rw [L_X7_tellWay_15]
    dsimp only
    rw [ahead_m h (by omega)]
    simp (disch := omega) only [lit_, zle, zlt, zeq, zad, zmu, zsu, zck, zcl, bd_s, nm_d, r, e1]
    by_cases c : tot (M 213) d = v
    · rw [if_pos c]
      refine ⟨d, rfl, ⟨by omega, c⟩, fun e he => ?_⟩
      have := h4 e
      have := he.2
      omega
    · rw [if_neg c]
      refine way_0 h hR hv ht et k n (d + 1) (by omega) (by omega) ?_ ?_
      · by_cases c2 : d = t
        · subst c2
          exact absurd et c
        · omega
      · intro s hs
        by_cases c2 : s = d
        · subst c2
          exact c
        · exact h4 s (by omega)
