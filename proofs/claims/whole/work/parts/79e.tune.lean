/-! PURE: tune -/
/-- whether a number is a note -/
def isV (v : Int32) : Int32 := if (-1 : Int32) ≤ v then 1 else 0
def tnS (N : Nt) (v : Int32) (i : Nat) : Nt := ly3 (pt N (1 + i) (isV v)) i 0 0 v 0
def tnN (v : Ar) (N : Nt) : Nat → Nt
  | 0 => N
  | i + 1 => tnS (tnN v N i) (v i) i
def cnV (v : Ar) : Nat → Int32
  | 0 => 0
  | i + 1 => cnV v i + isV (v i)
theorem isV_b (v : Int32) : isV v = nI 1 ∨ isV v = nI 0 := by
  unfold isV
  split
  · exact Or.inl rfl
  · exact Or.inr rfl
theorem tn_o {N : Nt} {v : Int32} {i j : Nat} (h1 : j ≠ 1 + i) (h2 : j < 13 + 3 * (6 * i) ∨ 13 + 3 * (6 * i) + 2 < j) : tnS N v i j = N j := by
  unfold tnS
  rw [lyn_o (by omega), pt_o h1]
theorem tn_sz {N : Nt} {v : Int32} {i t : Nat} (hi : i < 12) (ht : t < 12) : tnS N v i (1 + t) = if t = i then isV v else N (1 + t) := by
  unfold tnS
  rw [lyn_o (by omega)]
  by_cases c : t = i
  · rw [if_pos c, c, pt_s]
  · rw [if_neg c, pt_o (by omega)]
theorem tn_WP {N : Nt} (hN : WP N) {v : Int32} {i : Nat} (hi : i < 12) (hv : v ≤ 100) : WP (tnS N v i) := by
  have hz := fun b (hb : b < 12) => (wp_sz hN hb).2
  obtain ⟨g1, g2, g3, g4, g5⟩ := hN
  have t1 : (-1 : Int32).toInt = -1 := rfl
  have t2 : (100 : Int32).toInt = 100 := rfl
  have hv' := ti_le.mp hv
  refine ⟨by rw [tn_o (by omega) (by omega)]; exact g1, fun b hb => ?_, fun b n hb hn => ?_, fun b p hb hp => ?_, fun p hp => ?_⟩
  · rw [tn_sz hi hb]
    by_cases c : b = i
    · rw [if_pos c]
      rcases isV_b v with q | q <;> rw [q] <;> decide
    · rw [if_neg c]
      exact g2 b hb
  · by_cases c : b = i
    · have e1 : sz (tnS N v i) b = (isV v).toNatClampNeg := by
        have e0 : sz (tnS N v i) b = (tnS N v i (1 + b)).toNatClampNeg := rfl
        rw [e0, tn_sz hi hb, if_pos c]
      rw [e1] at hn
      unfold isV at hn
      by_cases cv : (-1 : Int32) ≤ v
      · rw [if_pos cv] at hn
        have hn' : n < 1 := hn
        have cv' := ti_le.mp cv
        have n0 : n = 0 := by omega
        subst n0
        unfold pc_ tnS
        rw [c, lyn_0, lyn_1, lyn_2]
        exact ⟨by decide, ⟨by omega, by omega⟩, by decide⟩
      · rw [if_neg cv] at hn
        exact absurd hn (Nat.not_lt_zero n)
    · have e1 : sz (tnS N v i) b = sz N b := by
        have e0 : sz (tnS N v i) b = (tnS N v i (1 + b)).toNatClampNeg := rfl
        rw [e0, tn_sz hi hb, if_neg c]
        rfl
      rw [e1] at hn
      have := hz b hb
      unfold pc_
      rw [tn_o (by omega) (by omega), tn_o (by omega) (by omega), tn_o (by omega) (by omega)]
      exact g3 b n hb hn
  · unfold mk
    rw [tn_o (by omega) (by omega)]
    exact g4 b p hb hp
  · unfold so
    rw [tn_o (by omega) (by omega)]
    exact g5 p hp
theorem tnN_o {v : Ar} {N : Nt} {j : Nat} : ∀ i, (∀ t, t < i → j ≠ 1 + t ∧ (j < 13 + 3 * (6 * t) ∨ 13 + 3 * (6 * t) + 2 < j)) → tnN v N i j = N j
  | 0, _ => rfl
  | i + 1, h => by
    obtain ⟨h1, h2⟩ := h i (by omega)
    rw [tnN, tn_o h1 h2]
    exact tnN_o i (fun t ht => h t (by omega))
theorem tnN_WP {v : Ar} {N : Nt} (hN : WP N) : ∀ i, i ≤ 12 → (∀ t, t < i → v t ≤ 100) → WP (tnN v N i)
  | 0, _, _ => hN
  | i + 1, hi, h => tn_WP (tnN_WP hN i (by omega) (fun t ht => h t (by omega))) (by omega) (h i (by omega))
