/-! PURE: shift -/
/-- note n of beat b can be by x higher -/
def rk (N : Nt) (x : Int32) (b n : Nat) : Prop := ¬ N (13 + 3 * (6 * b + n) + 1) + x < -1 ∧ N (13 + 3 * (6 * b + n) + 1) + x ≤ 100
def rkB (N : Nt) (x : Int32) (b : Nat) : Prop := ∀ n, n < sz N b → rk N x b n
theorem rk_in {N : Nt} {x : Int32} {b n : Nat} : (rk N x b n → f_X7_isIn (N (13 + 3 * (6 * b + n) + 1) + x) (-1) 100 = 1) ∧ (¬ rk N x b n → f_X7_isIn (N (13 + 3 * (6 * b + n) + 1) + x) (-1) 100 = 0) := by
  refine ⟨fun h => isIn_t h.1 (fun q => ?_), fun h => isIn_f ?_⟩
  · have := ti_lt.mp q
    have := ti_le.mp h.2
    omega
  · by_cases c : N (13 + 3 * (6 * b + n) + 1) + x < -1
    · exact Or.inl c
    · right
      have h9 : ¬ (N (13 + 3 * (6 * b + n) + 1) + x).toInt ≤ (100 : Int32).toInt := fun q => h ⟨c, ti_le.mpr q⟩
      exact ti_lt.mpr (by omega)
theorem cr_10 {N : Nt} (hN : WP N) {M : Mm} (hR : RelP 3 M N) {x : Int32} {b : Nat} (hb : b < 12) : ∀ (u n i : Nat), i + u = sz N b → u < n → (∀ j, j < i → rk N x b j) →
    (rkB N x b ∧ L_X3_canRise_10 3 x M (nI b) n (nI i) = some (.inl ())) ∨ (¬ rkB N x b ∧ L_X3_canRise_10 3 x M (nI b) n (nI i) = some (.inr 0))
  | _, 0, _, _, h2, _ => by omega
  | 0, n + 1, i, h1, h2, h3 => by
    obtain ⟨ez, hz⟩ := wp_sz hN hb
    have e4 : M (3 + 1) b = nI (sz N b) := (hR.2.1 b hb).trans ez
    rw [L_X3_canRise_10, zck hb (by omega), zcl (by omega), e4, if_pos ((zle (by omega) (by omega)).mpr (by omega))]
    exact Or.inl ⟨fun j hj => h3 j (by omega), rfl⟩
  | u + 1, n + 1, i, h1, h2, h3 => by
    obtain ⟨ez, hz⟩ := wp_sz hN hb
    have e4 : M (3 + 1) b = nI (sz N b) := (hR.2.1 b hb).trans ez
    have e6 : M (3 + 3) (6 * b + i) = N (13 + 3 * (6 * b + i) + 1) := (hR.2.2.1 b i hb (by omega)).2.1
    rw [L_X3_canRise_10, zck hb (by omega), zcl (show b < 2147483648 by omega), e4, if_neg (fun q => by have := (zle (by omega) (by omega)).mp q; omega), place_e, zck (by omega) (by omega), zcl (show 6 * b + i < 2147483648 by omega), e6, nm_d, nI_s]
    by_cases c1 : N (13 + 3 * (6 * b + i) + 1) + x < -1
    · rw [if_pos c1]
      exact Or.inr ⟨fun q => (q i (by omega)).1 c1, rfl⟩
    · rw [if_neg c1]
      by_cases c2 : N (13 + 3 * (6 * b + i) + 1) + x ≤ 100
      · rw [if_pos c2]
        exact cr_10 hN hR hb u n (i + 1) (by omega) (by omega) (fun j hj => by
          by_cases c : j = i
          · rw [c]
            exact ⟨c1, c2⟩
          · exact h3 j (by omega))
      · rw [if_neg c2]
        exact Or.inr ⟨fun q => c2 (q i (by omega)).2, rfl⟩
theorem cr_2 {N : Nt} (hN : WP N) {M : Mm} (hR : RelP 3 M N) {x : Int32} : ∀ (u n b : Nat), b + u = 12 → u < n → (∀ t, t < b → rkB N x t) →
    ((∀ t, t < 12 → rkB N x t) ∧ L_X3_canRise_2 3 x M n (nI b) = some (.inl ())) ∨ (¬ (∀ t, t < 12 → rkB N x t) ∧ L_X3_canRise_2 3 x M n (nI b) = some (.inr 0))
  | _, 0, _, _, h2, _ => by omega
  | 0, n + 1, b, h1, h2, h3 => by
    rw [L_X3_canRise_2, if_pos ((zle12 (by omega)).mpr (by omega))]
    exact Or.inl ⟨fun t ht => h3 t (by omega), rfl⟩
  | u + 1, n + 1, b, h1, h2, h3 => by
    have hz := (wp_sz hN (show b < 12 by omega)).2
    rw [L_X3_canRise_2, if_neg (fun q => by have := (zle12 (by omega)).mp q; omega), nI_s]
    have h9 := cr_10 hN hR (x := x) (show b < 12 by omega) (sz N b) FU 0 (by omega) (by unfold FU; omega) (fun j hj => by omega)
    rw [nI_00] at h9
    rcases h9 with ⟨g, e⟩ | ⟨g, e⟩
    · rw [e, bd_s]
      exact cr_2 hN hR u n (b + 1) (by omega) (by omega) (fun t ht => by
        by_cases c : t = b
        · rw [c]
          exact g
        · exact h3 t (by omega))
    · rw [e, bd_s]
      exact Or.inr ⟨fun q => g (q b (by omega)), rfl⟩
theorem sr_28 {N : Nt} (hN : WP N) {M : Mm} (hM : M 213 = N) {x : Int32} {b : Nat} (hb : b < 12) : ∀ (u n i : Nat), i + u = sz N b → u < n → (∀ j, j < i → rk N x b j) →
    (rkB N x b ∧ L_X7_shift_28 x M (nI b) n (nI i) = some (.inl ())) ∨ (¬ rkB N x b ∧ L_X7_shift_28 x M (nI b) n (nI i) = some (.inr (f_X7_finding (-100003) M)))
  | _, 0, _, _, h2, _ => by omega
  | 0, n + 1, i, h1, h2, h3 => by
    obtain ⟨ez, hz⟩ := wp_sz hN hb
    have eb : (1 : Int32) + nI b = nI (1 + b) := zad 1 b
    rw [L_X7_shift_28, eb, zck (by omega) (by omega), zcl (by omega), hM, ez, if_pos ((zle (by omega) (by omega)).mpr (by omega))]
    exact Or.inl ⟨fun j hj => h3 j (by omega), rfl⟩
  | u + 1, n + 1, i, h1, h2, h3 => by
    obtain ⟨ez, hz⟩ := wp_sz hN hb
    have eb : (1 : Int32) + nI b = nI (1 + b) := zad 1 b
    rw [L_X7_shift_28, eb, zck (by omega) (by omega), zcl (by omega), hM, ez, if_neg (fun q => by have := (zle (by omega) (by omega)).mp q; omega), note_1 hb (by omega), bd_s, hM, nI_s]
    by_cases c : rk N x b i
    · rw [rk_in.1 c, if_neg ne10]
      exact sr_28 hN hM hb u n (i + 1) (by omega) (by omega) (fun j hj => by
        by_cases c2 : j = i
        · rw [c2]
          exact c
        · exact h3 j (by omega))
    · rw [rk_in.2 c, if_pos rfl]
      exact Or.inr ⟨fun q => c (q i (by omega)), rfl⟩
theorem sr_20 {N : Nt} (hN : WP N) {M : Mm} (hM : M 213 = N) {x : Int32} : ∀ (u n b : Nat), b + u = 12 → u < n → (∀ t, t < b → rkB N x t) →
    ((∀ t, t < 12 → rkB N x t) ∧ L_X7_shift_20 x M n (nI b) = some (.inl ())) ∨ (¬ (∀ t, t < 12 → rkB N x t) ∧ L_X7_shift_20 x M n (nI b) = some (.inr (f_X7_finding (-100003) M)))
  | _, 0, _, _, h2, _ => by omega
  | 0, n + 1, b, h1, h2, h3 => by
    rw [L_X7_shift_20, if_pos ((zle12 (by omega)).mpr (by omega))]
    exact Or.inl ⟨fun t ht => h3 t (by omega), rfl⟩
  | u + 1, n + 1, b, h1, h2, h3 => by
    have hz := (wp_sz hN (show b < 12 by omega)).2
    rw [L_X7_shift_20, if_neg (fun q => by have := (zle12 (by omega)).mp q; omega), nI_s]
    have h9 := sr_28 hN hM (x := x) (show b < 12 by omega) (sz N b) FU 0 (by omega) (by unfold FU; omega) (fun j hj => by omega)
    rw [nI_00] at h9
    rcases h9 with ⟨g, e⟩ | ⟨g, e⟩
    · rw [e, bd_s]
      exact sr_20 hN hM u n (b + 1) (by omega) (by omega) (fun t ht => by
        by_cases c : t = b
        · rw [c]
          exact g
        · exact h3 t (by omega))
    · rw [e, bd_s]
      exact Or.inr ⟨fun q => g (q b (by omega)), rfl⟩
/-- note j (6 a beat) was raised, when b beats and i notes of the next are through -/
def rsP (N : Nt) (b i j : Nat) : Prop := (j / 6 < b ∧ j % 6 < sz N (j / 6)) ∨ (j / 6 = b ∧ j % 6 < i)
/-- a row of numbers, raised at such places -/
noncomputable def rsd (A : Ar) (x : Int32) (P : Nat → Prop) : Ar := fun j => haveI := Classical.propDecidable (P j); if P j then A j + x else A j
theorem rsd_t {A : Ar} {x : Int32} {P : Nat → Prop} {j : Nat} (h : P j) : rsd A x P j = A j + x := if_pos h
theorem rsd_f {A : Ar} {x : Int32} {P : Nat → Prop} {j : Nat} (h : ¬ P j) : rsd A x P j = A j := if_neg h
theorem rsd_c {A : Ar} {x : Int32} {P Q : Nat → Prop} (h : ∀ j, P j ↔ Q j) : rsd A x P = rsd A x Q := by
  have e : P = Q := funext (fun j => propext (h j))
  rw [e]
theorem rsd_s {A : Ar} {x : Int32} {P Q : Nat → Prop} {k : Nat} (hk : ¬ P k) (hQ : ∀ j, Q j ↔ P j ∨ j = k) : pt (rsd A x P) k (A k + x) = rsd A x Q := funext (fun j => by
  by_cases c : j = k
  · rw [c, pt_s, rsd_t ((hQ k).mpr (Or.inr rfl))]
  · rw [pt_o c]
    by_cases c2 : P j
    · rw [rsd_t c2, rsd_t ((hQ j).mpr (Or.inl c2))]
    · rw [rsd_f c2, rsd_f (fun q => ((hQ j).mp q).elim c2 c)])
theorem ri_10 {N : Nt} (hN : WP N) {x : Int32} {b : Nat} (hb : b < 12) {A0 : Ar} : ∀ (u n i : Nat) (M : Mm), i + u = sz N b → u < n → M 4 b = nI (sz N b) → M 6 = rsd A0 x (rsP N b i) →
    ∃ M', L_X3_rise_10 3 x (nI b) n (nI i) M = some M' ∧ M' 6 = rsd A0 x (rsP N b (sz N b)) ∧ ∀ c, c ≠ 6 → M' c = M c
  | _, 0, _, _, _, h2, _, _ => by omega
  | 0, n + 1, i, M, h1, h2, h3, h4 => by
    have hz := (wp_sz hN hb).2
    have e4 : M (3 + 1) b = nI (sz N b) := h3
    rw [L_X3_rise_10, zck hb (by omega), zcl (by omega), e4, if_pos ((zle (by omega) (by omega)).mpr (by omega))]
    rw [show i = sz N b by omega] at h4
    exact ⟨M, rfl, h4, fun _ _ => rfl⟩
  | u + 1, n + 1, i, M, h1, h2, h3, h4 => by
    have hz := (wp_sz hN hb).2
    have e4 : M (3 + 1) b = nI (sz N b) := h3
    have hnp : ¬ rsP N b i (6 * b + i) := fun q => by
      unfold rsP at q
      omega
    have e6 : M (3 + 3) (6 * b + i) = A0 (6 * b + i) := by
      have h9 : M 6 (6 * b + i) = A0 (6 * b + i) := by rw [h4, rsd_f hnp]
      exact h9
    rw [L_X3_rise_10, zck hb (by omega), zcl (show b < 2147483648 by omega), e4, if_neg (fun q => by have := (zle (by omega) (by omega)).mp q; omega), place_e, zck (by omega) (by omega), zck (by omega) (by omega), zcl (show 6 * b + i < 2147483648 by omega), e6, nm_d, nI_s]
    obtain ⟨M', q1, q2, q3⟩ := ri_10 hN hb (A0 := A0) u n (i + 1) (mw M (3 + 3) (6 * b + i) (A0 (6 * b + i) + x)) (by omega) (by omega) (by rw [mw_c (by decide)]; exact h3) (by
      rw [mw_pt (k := 6), h4]
      exact rsd_s hnp (fun j => by unfold rsP; omega))
    exact ⟨M', q1, q2, fun c g => by rw [q3 c g, mw_c g]⟩
theorem ri_2 {N : Nt} (hN : WP N) {x : Int32} {A0 : Ar} : ∀ (u n b : Nat) (M : Mm), b + u = 12 → u < n → (∀ t, t < 12 → M 4 t = nI (sz N t)) → M 6 = rsd A0 x (rsP N b 0) →
    ∃ M', L_X3_rise_2 3 x n (nI b) M = some M' ∧ M' 6 = rsd A0 x (rsP N 12 0) ∧ ∀ c, c ≠ 6 → M' c = M c
  | _, 0, _, _, _, h2, _, _ => by omega
  | 0, n + 1, b, M, h1, h2, h3, h4 => by
    rw [L_X3_rise_2, if_pos ((zle12 (by omega)).mpr (by omega))]
    rw [show b = 12 by omega] at h4
    exact ⟨M, rfl, h4, fun _ _ => rfl⟩
  | u + 1, n + 1, b, M, h1, h2, h3, h4 => by
    have hz := (wp_sz hN (show b < 12 by omega)).2
    rw [L_X3_rise_2, if_neg (fun q => by have := (zle12 (by omega)).mp q; omega), nI_s]
    obtain ⟨M1, q1, q2, q3⟩ := ri_10 hN (show b < 12 by omega) (A0 := A0) (sz N b) FU 0 M (by omega) (by unfold FU; omega) (h3 b (by omega)) h4
    rw [nI_00] at q1
    rw [q1, bd_s]
    obtain ⟨M2, r1, r2, r3⟩ := ri_2 hN (A0 := A0) u n (b + 1) M1 (by omega) (by omega) (fun t ht => by rw [q3 4 (by decide)]; exact h3 t ht) (by
      rw [q2]
      refine rsd_c (fun j => ?_)
      unfold rsP
      constructor
      · intro g
        rcases g with g | g
        · exact Or.inl ⟨by omega, g.2⟩
        · exact Or.inl ⟨by omega, by rw [g.1]; exact g.2⟩
      · intro g
        rcases g with g | g
        · by_cases c : j / 6 = b
          · right
            rw [← c]
            exact ⟨rfl, g.2⟩
          · exact Or.inl ⟨by omega, g.2⟩
        · omega)
    exact ⟨M2, r1, r2, fun c g => by rw [r3 c g, q3 c g]⟩
/-- the same, in the model's row -/
def rsQ (N : Nt) (b i k : Nat) : Prop := ∃ j, k = 14 + 3 * j ∧ j < 72 ∧ rsP N b i j
theorem ri_91 {N : Nt} (hN : WP N) {x : Int32} {b : Nat} (hb : b < 12) : ∀ (u n i : Nat) (M : Mm), i + u = sz N b → u < n → M 213 = rsd N x (rsQ N b i) →
    ∃ M', L_X7_shift_91 x (nI b) n (nI i) M = some M' ∧ M' 213 = rsd N x (rsQ N b (sz N b)) ∧ ∀ c, c ≠ 213 → M' c = M c
  | _, 0, _, _, _, h2, _ => by omega
  | 0, n + 1, i, M, h1, h2, h4 => by
    obtain ⟨ez, hz⟩ := wp_sz hN hb
    have eb : (1 : Int32) + nI b = nI (1 + b) := zad 1 b
    have e1 : M 213 (1 + b) = nI (sz N b) := by rw [h4, rsd_f (fun ⟨j, g, _⟩ => by omega), ez]
    rw [L_X7_shift_91, eb, zck (by omega) (by omega), zcl (by omega), e1, if_pos ((zle (by omega) (by omega)).mpr (by omega))]
    rw [show i = sz N b by omega] at h4
    exact ⟨M, rfl, h4, fun _ _ => rfl⟩
  | u + 1, n + 1, i, M, h1, h2, h4 => by
    obtain ⟨ez, hz⟩ := wp_sz hN hb
    have eb : (1 : Int32) + nI b = nI (1 + b) := zad 1 b
    have e1 : M 213 (1 + b) = nI (sz N b) := by rw [h4, rsd_f (fun ⟨j, g, _⟩ => by omega), ez]
    have ek : (13 : Int32) + (3 : Int32) * ((6 : Int32) * nI b + nI i) + (1 : Int32) = nI (14 + 3 * (6 * b + i)) := by
      simp only [lit_, zmu, zad]
      congr 1
      omega
    have hnp : ¬ rsQ N b i (14 + 3 * (6 * b + i)) := fun ⟨j, g1, g2, g3⟩ => by
      unfold rsP at g3
      have : j = 6 * b + i := by omega
      subst this
      omega
    have e6 : M 213 (14 + 3 * (6 * b + i)) = N (14 + 3 * (6 * b + i)) := by rw [h4, rsd_f hnp]
    rw [L_X7_shift_91, eb, zck (by omega) (by omega), zcl (show 1 + b < 2147483648 by omega), e1, if_neg (fun q => by have := (zle (by omega) (by omega)).mp q; omega), ek, zck (by omega) (by omega), zck (by omega) (by omega), zcl (show 14 + 3 * (6 * b + i) < 2147483648 by omega), e6, nm_d, nI_s]
    obtain ⟨M', q1, q2, q3⟩ := ri_91 hN hb u n (i + 1) (mw M 213 (14 + 3 * (6 * b + i)) (N (14 + 3 * (6 * b + i)) + x)) (by omega) (by omega) (by
      rw [mw_pt, h4]
      refine rsd_s hnp (fun k => ?_)
      constructor
      · intro ⟨j, g1, g2, g3⟩
        unfold rsP at g3
        by_cases c : j = 6 * b + i
        · right
          omega
        · exact Or.inl ⟨j, g1, g2, by unfold rsP; omega⟩
      · intro g
        rcases g with ⟨j, g1, g2, g3⟩ | g
        · exact ⟨j, g1, g2, by unfold rsP at g3 ⊢; omega⟩
        · exact ⟨6 * b + i, g, by omega, by unfold rsP; omega⟩)
    exact ⟨M', q1, q2, fun c g => by rw [q3 c g, mw_c g]⟩
theorem ri_83 {N : Nt} (hN : WP N) {x : Int32} : ∀ (u n b : Nat) (M : Mm), b + u = 12 → u < n → M 213 = rsd N x (rsQ N b 0) →
    ∃ M', L_X7_shift_83 x n (nI b) M = some M' ∧ M' 213 = rsd N x (rsQ N 12 0) ∧ ∀ c, c ≠ 213 → M' c = M c
  | _, 0, _, _, _, h2, _ => by omega
  | 0, n + 1, b, M, h1, h2, h4 => by
    rw [L_X7_shift_83, if_pos ((zle12 (by omega)).mpr (by omega))]
    rw [show b = 12 by omega] at h4
    exact ⟨M, rfl, h4, fun _ _ => rfl⟩
  | u + 1, n + 1, b, M, h1, h2, h4 => by
    have hz := (wp_sz hN (show b < 12 by omega)).2
    rw [L_X7_shift_83, if_neg (fun q => by have := (zle12 (by omega)).mp q; omega), nI_s]
    obtain ⟨M1, q1, q2, q3⟩ := ri_91 hN (x := x) (show b < 12 by omega) (sz N b) FU 0 M (by omega) (by unfold FU; omega) h4
    rw [nI_00] at q1
    rw [q1, bd_s]
    obtain ⟨M2, r1, r2, r3⟩ := ri_83 hN u n (b + 1) M1 (by omega) (by omega) (by
      rw [q2]
      refine rsd_c (fun k => ?_)
      constructor
      · intro ⟨j, g1, g2, g⟩
        refine ⟨j, g1, g2, ?_⟩
        unfold rsP at g ⊢
        rcases g with g | g
        · exact Or.inl ⟨by omega, g.2⟩
        · exact Or.inl ⟨by omega, by rw [g.1]; exact g.2⟩
      · intro ⟨j, g1, g2, g⟩
        refine ⟨j, g1, g2, ?_⟩
        unfold rsP at g ⊢
        rcases g with g | g
        · by_cases c : j / 6 = b
          · right
            rw [← c]
            exact ⟨rfl, g.2⟩
          · exact Or.inl ⟨by omega, g.2⟩
        · omega)
    exact ⟨M2, r1, r2, fun c g => by rw [r3 c g, q3 c g]⟩
