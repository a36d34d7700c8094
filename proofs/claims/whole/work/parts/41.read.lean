/-! PURE: the class's chord: findStrings -/
theorem olt {a b : Int} (h1 : -2147483648 ≤ a) (h2 : a ≤ 2147483647) (h3 : -2147483648 ≤ b) (h4 : b ≤ 2147483647) : oI a < oI b ↔ a < b := oI_lt ⟨h1, h2⟩ ⟨h3, h4⟩
theorem ole {a b : Int} (h1 : -2147483648 ≤ a) (h2 : a ≤ 2147483647) (h3 : -2147483648 ≤ b) (h4 : b ≤ 2147483647) : oI a ≤ oI b ↔ a ≤ b := oI_le ⟨h1, h2⟩ ⟨h3, h4⟩
theorem oeq {a b : Int} (h1 : -2147483648 ≤ a) (h2 : a ≤ 2147483647) (h3 : -2147483648 ≤ b) (h4 : b ≤ 2147483647) : oI a = oI b ↔ a = b := oI_eq ⟨h1, h2⟩ ⟨h3, h4⟩
theorem lio_ (n : Nat) : (no_index (OfNat.ofNat n) : Int32) = oI (n : Int) := oI_n n
theorem nco_ (n : Nat) : ((no_index (OfNat.ofNat n) : Nat) : Int) = OfNat.ofNat n := rfl
theorem nat_step : ∀ s : Nat, s < 40 → nat_ s + 3 ≤ nat_ (s + 2) := by decide +kernel
theorem nat_s1 : ∀ s : Nat, s < 41 → nat_ s + 1 ≤ nat_ (s + 1) := by decide +kernel
theorem nat_mono {s : Nat} : ∀ k : Nat, s + k < 42 → nat_ s + k ≤ nat_ (s + k)
  | 0, _ => Nat.le_refl _
  | k + 1, h => by
    have h1 := nat_mono (s := s) k (by omega)
    have h2 := nat_s1 (s + k) (by omega)
    show nat_ s + (k + 1) ≤ nat_ (s + k + 1)
    omega
/-- string s can sound as t -/
def cand (t : Int) (s : Nat) : Prop := s < 42 ∧ 0 ≤ t - nat_ s + 1 ∧ t - nat_ s + 1 < 3
theorem cand_3 {t : Int} {s u v : Nat} (h1 : cand t s) (h2 : cand t v) (hu : s < u) (hv : u < v) : False := by
  unfold cand at *
  have h3 := nat_step s (by omega)
  have h4 := nat_mono (s := s + 2) (v - (s + 2)) (by omega)
  rw [show s + 2 + (v - (s + 2)) = v by omega] at h4
  omega
/-- the two strings found among those below m: lo with stand ls, hi with stand hs -/
def fsI (t : Int) (m : Nat) (lo ls hi hs : Int32) : Prop :=
  (lo = oI (-1) ∧ hi = oI (-1) ∧ ∀ s, s < m → ¬ cand t s) ∨
  (∃ l, cand t l ∧ l < m ∧ lo = nI l ∧ ls = oI (t - nat_ l + 1) ∧ hi = oI (-1) ∧ ∀ s, s < m → cand t s → s = l) ∨
  (∃ l h, cand t l ∧ cand t h ∧ l < h ∧ h < m ∧ lo = nI l ∧ ls = oI (t - nat_ l + 1) ∧ hi = nI h ∧ hs = oI (t - nat_ h + 1) ∧ ∀ s, s < m → cand t s → s = l ∨ s = h)
theorem fsI_no {t : Int} {m : Nat} {lo ls hi hs : Int32} (h : fsI t m lo ls hi hs) (hc : ¬ cand t m) : fsI t (m + 1) lo ls hi hs := by
  have hm : ∀ s, s < m + 1 → cand t s → s < m := fun s h1 h2 => by
    by_cases c : s = m
    · subst c
      exact absurd h2 hc
    · omega
  rcases h with ⟨a, b, c⟩ | ⟨l, a, b, c, d, e, f⟩ | ⟨l, g, a, b, c, d, e, f, i, j, k⟩
  · exact Or.inl ⟨a, b, fun s h1 h2 => c s (hm s h1 h2) h2⟩
  · exact Or.inr (Or.inl ⟨l, a, by omega, c, d, e, fun s h1 h2 => f s (hm s h1 h2) h2⟩)
  · exact Or.inr (Or.inr ⟨l, g, a, b, c, by omega, e, f, i, j, fun s h1 h2 => k s (hm s h1 h2) h2⟩)
theorem find_l {a i : Nat} {t : Int} (hi : i < 6) (t1 : -100 ≤ t) (t2 : t ≤ 200) : ∀ (k n m : Nat) (M : Mm), m + k = 42 → k < n → fsI t m (M (a + 3) i) (M (a + 4) i) (M (a + 5) i) (M (a + 6) i) →
    ∃ M', L_X0_findStrings_16 a (nI i) (oI t) n (nI m) M = some M' ∧ fsI t 42 (M' (a + 3) i) (M' (a + 4) i) (M' (a + 5) i) (M' (a + 6) i) ∧ ∀ c j, ¬ (j = i ∧ (c = a + 3 ∨ c = a + 4 ∨ c = a + 5 ∨ c = a + 6)) → M' c j = M c j
  | _, 0, _, _, _, h2, _ => by omega
  | 0, n + 1, m, M, h1, h2, h3 => by
    have e : m = 42 := by omega
    subst e
    rw [L_X0_findStrings_16]
    simp (disch := omega) only [lit_, zle, zlt, zeq, zad, zmu, zsu, zck, zcl, bd_s, nm_d, if_pos, if_neg, if_true, if_false]
    exact ⟨M, rfl, h3, fun _ _ _ => rfl⟩
  | k + 1, n + 1, m, M, h1, h2, h3 => by
    obtain ⟨g1, g2, g3⟩ := natural_k m (by omega)
    rw [L_X0_findStrings_16, if_neg (fun q => by have := (zle (a := 42) (b := m) (by omega) (by omega)).mp q; omega), g1, bd_s, nm_d, oI_n (nat_ m), oI_sub, k1, oI_add, k0, k3, ← k1, nI_s]
    simp (disch := omega) only [olt]
    by_cases c1 : t - nat_ m + 1 < 0
    · rw [if_pos c1, bd_s]
      exact find_l (a := a) hi t1 t2 k n (m + 1) M (by omega) (by omega) (fsI_no h3 (fun q => by have := q.2.1; omega))
    · rw [if_neg c1]
      by_cases c2 : t - nat_ m + 1 < 3
      · have hc : cand t m := ⟨by omega, by omega, c2⟩
        rw [if_pos c2]
        simp (disch := omega) only [lit_, zle, zlt, zeq, zad, zmu, zsu, zck, zcl, bd_s, nm_d, if_pos, if_neg, if_true, if_false]
        by_cases c3 : oI 0 ≤ M (a + 3) i
        · rw [if_pos c3, bd_s]
          have hF : ∀ c j, ¬ (j = i ∧ (c = a + 3 ∨ c = a + 4 ∨ c = a + 5 ∨ c = a + 6)) → mw (mw M (a + 5) i (nI m)) (a + 6) i (oI (t - nat_ m + 1)) c j = M c j := fun c j q => by
            rw [mw_at, if_neg (by omega), mw_at, if_neg (by omega)]
          obtain ⟨M', q1, q2, q3⟩ := find_l (a := a) hi t1 t2 k n (m + 1) (mw (mw M (a + 5) i (nI m)) (a + 6) i (oI (t - nat_ m + 1))) (by omega) (by omega) (by
            rcases h3 with ⟨x, y, z⟩ | ⟨l, x, b, c, d, e, f⟩ | ⟨l, g, x, b, c, d, e, f, i, j, k⟩
            · rw [x] at c3
              exact absurd c3 (by decide)
            · refine Or.inr (Or.inr ⟨l, m, x, hc, b, by omega, ?_, ?_, ?_, ?_, ?_⟩)
              · rw [mw_c (by omega), mw_c (by omega)]
                exact c
              · rw [mw_c (by omega), mw_c (by omega)]
                exact d
              · rw [mw_c (by omega), mw_s]
              · rw [mw_s]
              · intro s h5 h6
                by_cases c9 : s = m
                · exact Or.inr c9
                · exact Or.inl (f s (by omega) h6)
            · exact (cand_3 x hc c d).elim)
          exact ⟨M', q1, q2, fun c j q => (q3 c j q).trans (hF c j q)⟩
        · rw [if_neg c3, bd_s]
          have hF : ∀ c j, ¬ (j = i ∧ (c = a + 3 ∨ c = a + 4 ∨ c = a + 5 ∨ c = a + 6)) → mw (mw M (a + 3) i (nI m)) (a + 4) i (oI (t - nat_ m + 1)) c j = M c j := fun c j q => by
            rw [mw_at, if_neg (by omega), mw_at, if_neg (by omega)]
          obtain ⟨M', q1, q2, q3⟩ := find_l (a := a) hi t1 t2 k n (m + 1) (mw (mw M (a + 3) i (nI m)) (a + 4) i (oI (t - nat_ m + 1))) (by omega) (by omega) (by
            rcases h3 with ⟨x, y, z⟩ | ⟨l, x, b, c, d, e, f⟩ | ⟨l, g, x, b, c, d, e, f, i, j, k⟩
            · refine Or.inr (Or.inl ⟨m, hc, by omega, ?_, ?_, ?_, ?_⟩)
              · rw [mw_c (by omega), mw_s]
              · rw [mw_s]
              · rw [mw_c (by omega), mw_c (by omega)]
                exact y
              · intro s h5 h6
                by_cases c9 : s = m
                · exact c9
                · exact absurd h6 (z s (by omega))
            · rw [c] at c3
              exact absurd ((zle (a := 0) (by omega) (by omega)).mpr (Nat.zero_le l)) c3
            · rw [e] at c3
              exact absurd ((zle (a := 0) (by omega) (by omega)).mpr (Nat.zero_le l)) c3)
          exact ⟨M', q1, q2, fun c j q => (q3 c j q).trans (hF c j q)⟩
      · rw [if_neg c2, bd_s]
        exact find_l (a := a) hi t1 t2 k n (m + 1) M (by omega) (by omega) (fsI_no h3 (fun q => by have := q.2.2; omega))
theorem find_m {a i : Nat} {t : Int} {M : Mm} (hi : i < 6) (t1 : -100 ≤ t) (t2 : t ≤ 200) : ∃ M', f_X0_findStrings a (nI i) (oI t) M = some M' ∧ fsI t 42 (M' (a + 3) i) (M' (a + 4) i) (M' (a + 5) i) (M' (a + 6) i) ∧ ∀ c j, ¬ (j = i ∧ (c = a + 3 ∨ c = a + 4 ∨ c = a + 5 ∨ c = a + 6)) → M' c j = M c j := by
  unfold f_X0_findStrings
  have em : (-1 : Int32) = oI (-1) := rfl
  rw [em]
  simp (disch := omega) only [zck, nm_d, zcl]
  obtain ⟨M', q1, q2, q3⟩ := find_l (a := a) hi t1 t2 42 FU 0 (mw (mw M (a + 3) i (oI (-1))) (a + 5) i (oI (-1))) (by omega) (by unfold FU; omega) (Or.inl ⟨by rw [mw_c (by omega), mw_s], by rw [mw_s], fun s hs => by omega⟩)
  have q1' : L_X0_findStrings_16 a (nI i) (oI t) FU 0 (mw (mw M (a + 3) i (oI (-1))) (a + 5) i (oI (-1))) = some M' := q1
  rw [q1', bd_s]
  refine ⟨M', rfl, q2, fun c j q => (q3 c j q).trans ?_⟩
  rw [mw_at, if_neg (by omega), mw_at, if_neg (by omega)]
