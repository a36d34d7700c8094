/-! PURE: the law -/
theorem law_c {f g : Mm → Option (Int32 × Mm)} {M : Mm} {K : Mm → Option (Mm ⊕ Int32)} {Z : Option (Mm ⊕ Int32)} (h : Same f g M) (hK : ∀ M2, Inv M2 → ∃ M', K M2 = some (.inl M')) : ∃ M', Option.bind (f M) (fun q => Option.bind (g q.2) (fun q' => if q.1 = q'.1 then K q'.2 else Z)) = some (.inl M') := by
  obtain ⟨r, M1, M2, e1, e2, hI⟩ := h
  rw [e1, bd_s]
  dsimp only
  rw [e2, bd_s, if_pos rfl]
  exact hK M2 hI
theorem ck_law {L i j : Nat} (h : i + j < L) (hL : L ≤ 3072) {α : Type} (x : Option α) : ck (ib (nI i + nI j) L) x = x := by
  rw [zad, zck h (by omega)]
set_option maxHeartbeats 4000000 in
theorem law_l {L : Nat} {sx : Nat → Int32} (hL : L ≤ 3072) : ∀ (n i : Nat) (M : Mm), i ≤ L → L < i + 6 * n → Inv M → ∃ M', L_L_law_18 L sx n (nI i) M = some (.inl M')
  | 0, i, M, h1, h2, _ => by omega
  | n + 1, i, M, h1, h2, hI => by
    have eL : nI L - (6 : Int32) = oI ((L : Int) - 6) := by rw [oI_n, k6, oI_sub]
    rw [L_L_law_18, eL]
    by_cases c : (L : Int) - 6 < i
    · rw [if_pos (by rw [oI_n, oI_lt ⟨by omega, by omega⟩ ⟨by omega, by omega⟩]; exact c)]
      exact ⟨M, rfl⟩
    · rw [if_neg (by rw [oI_n, oI_lt ⟨by omega, by omega⟩ ⟨by omega, by omega⟩]; exact c), zck (show i < L by omega) (by omega)]
      have hnext : ∀ M2, Inv M2 → ∃ M', L_L_law_18 L sx n (nI i + 6) M2 = some (.inl M') := fun M2 h => by
        rw [show nI i + (6 : Int32) = nI (i + 6) from zad i 6]
        exact law_l hL n (i + 6) M2 (by omega) (by omega) h
      have k1' : ∀ {α : Type} (x : Option α), ck (ib (nI i + (1 : Int32)) L) x = x := fun x => ck_law (j := 1) (by omega) hL x
      have k2' : ∀ {α : Type} (x : Option α), ck (ib (nI i + (2 : Int32)) L) x = x := fun x => ck_law (j := 2) (by omega) hL x
      have k3' : ∀ {α : Type} (x : Option α), ck (ib (nI i + (3 : Int32)) L) x = x := fun x => ck_law (j := 3) (by omega) hL x
      have k4' : ∀ {α : Type} (x : Option α), ck (ib (nI i + (4 : Int32)) L) x = x := fun x => ck_law (j := 4) (by omega) hL x
      have k5' : ∀ {α : Type} (x : Option α), ck (ib (nI i + (5 : Int32)) L) x = x := fun x => ck_law (j := 5) (by omega) hL x
      simp only [k1', k2', k3', k4', k5', nm_d]
      by_cases c0 : sx (nI i).toNatClampNeg &&& (31 : Int32) = (0 : Int32)
      · rw [if_pos c0]
        exact law_c (same_beats hI _) hnext
      rw [if_neg c0]
      by_cases c1 : sx (nI i).toNatClampNeg &&& (31 : Int32) = (1 : Int32)
      · rw [if_pos c1]
        exact law_c (same_note hI _ _ _ _) hnext
      rw [if_neg c1]
      by_cases c2 : sx (nI i).toNatClampNeg &&& (31 : Int32) = (2 : Int32)
      · rw [if_pos c2]
        exact law_c (same_drop hI _) hnext
      rw [if_neg c2]
      by_cases c3 : sx (nI i).toNatClampNeg &&& (31 : Int32) = (3 : Int32)
      · rw [if_pos c3]
        exact law_c (same_as hI _ _ _) hnext
      rw [if_neg c3]
      by_cases c4 : sx (nI i).toNatClampNeg &&& (31 : Int32) = (4 : Int32)
      · rw [if_pos c4]
        exact law_c (same_of hI _ _ _) hnext
      rw [if_neg c4]
      by_cases c5 : sx (nI i).toNatClampNeg &&& (31 : Int32) = (5 : Int32)
      · rw [if_pos c5]
        exact law_c (same_shift hI _) hnext
      rw [if_neg c5]
      by_cases c6 : sx (nI i).toNatClampNeg &&& (31 : Int32) = (6 : Int32)
      · rw [if_pos c6]
        exact law_c (same_mark hI _ _ _) hnext
      rw [if_neg c6]
      by_cases c7 : sx (nI i).toNatClampNeg &&& (31 : Int32) = (7 : Int32)
      · rw [if_pos c7]
        exact law_c (same_start hI _ _) hnext
      rw [if_neg c7]
      by_cases c8 : sx (nI i).toNatClampNeg &&& (31 : Int32) = (8 : Int32)
      · rw [if_pos c8]
        exact law_c (same_pitch hI _ _) hnext
      rw [if_neg c8]
      by_cases c9 : sx (nI i).toNatClampNeg &&& (31 : Int32) = (9 : Int32)
      · rw [if_pos c9]
        exact law_c (same_string hI _ _ _) hnext
      rw [if_neg c9]
      by_cases c10 : sx (nI i).toNatClampNeg &&& (31 : Int32) = (10 : Int32)
      · rw [if_pos c10]
        exact law_c (same_does hI _ _) hnext
      rw [if_neg c10]
      by_cases c11 : sx (nI i).toNatClampNeg &&& (31 : Int32) = (11 : Int32)
      · rw [if_pos c11]
        exact law_c (same_many hI _) hnext
      rw [if_neg c11]
      by_cases c12 : sx (nI i).toNatClampNeg &&& (31 : Int32) = (12 : Int32)
      · rw [if_pos c12]
        exact law_c (same_moves hI) hnext
      rw [if_neg c12]
      by_cases c13 : sx (nI i).toNatClampNeg &&& (31 : Int32) = (13 : Int32)
      · rw [if_pos c13]
        exact law_c (same_diagram hI _) hnext
      rw [if_neg c13]
      by_cases c14 : sx (nI i).toNatClampNeg &&& (31 : Int32) = (14 : Int32)
      · rw [if_pos c14]
        exact law_c (same_stand hI _ _) hnext
      rw [if_neg c14]
      by_cases c15 : sx (nI i).toNatClampNeg &&& (31 : Int32) = (15 : Int32)
      · rw [if_pos c15]
        exact law_c (same_foot hI _ _) hnext
      rw [if_neg c15]
      by_cases c16 : sx (nI i).toNatClampNeg &&& (31 : Int32) = (16 : Int32)
      · rw [if_pos c16]
        exact law_c (same_ways hI) hnext
      rw [if_neg c16]
      by_cases c17 : sx (nI i).toNatClampNeg &&& (31 : Int32) = (17 : Int32)
      · rw [if_pos c17]
        exact law_c (same_stuck hI) hnext
      rw [if_neg c17]
      by_cases c18 : sx (nI i).toNatClampNeg &&& (31 : Int32) = (18 : Int32)
      · rw [if_pos c18]
        exact law_c (same_without hI _ _) hnext
      rw [if_neg c18]
      by_cases c19 : sx (nI i).toNatClampNeg &&& (31 : Int32) = (19 : Int32)
      · rw [if_pos c19]
        exact law_c (same_split hI _ _) hnext
      rw [if_neg c19]
      by_cases c20 : sx (nI i).toNatClampNeg &&& (31 : Int32) = (20 : Int32)
      · rw [if_pos c20]
        exact law_c (same_hard hI) hnext
      rw [if_neg c20]
      by_cases c21 : sx (nI i).toNatClampNeg &&& (31 : Int32) = (21 : Int32)
      · rw [if_pos c21]
        exact law_c (same_run hI _ _ _ _) hnext
      rw [if_neg c21]
      by_cases c22 : sx (nI i).toNatClampNeg &&& (31 : Int32) = (22 : Int32)
      · rw [if_pos c22]
        exact law_c (same_plain hI _ _ _) hnext
      rw [if_neg c22]
      by_cases c23 : sx (nI i).toNatClampNeg &&& (31 : Int32) = (23 : Int32)
      · rw [if_pos c23]
        exact law_c (same_sheet hI _ _ _) hnext
      rw [if_neg c23]
      by_cases c24 : sx (nI i).toNatClampNeg &&& (31 : Int32) = (24 : Int32)
      · rw [if_pos c24]
        exact law_c (same_put hI _ _ _) hnext
      rw [if_neg c24]
      by_cases c25 : sx (nI i).toNatClampNeg &&& (31 : Int32) = (25 : Int32)
      · rw [if_pos c25]
        exact law_c (same_copy hI _ _ _ _ _) hnext
      rw [if_neg c25]
      by_cases c26 : sx (nI i).toNatClampNeg &&& (31 : Int32) = (26 : Int32)
      · rw [if_pos c26]
        exact law_c (same_tune hI _) hnext
      rw [if_neg c26]
      by_cases c27 : sx (nI i).toNatClampNeg &&& (31 : Int32) = (27 : Int32)
      · rw [if_pos c27]
        exact law_c (same_undo hI) hnext
      rw [if_neg c27]
      by_cases c28 : sx (nI i).toNatClampNeg &&& (31 : Int32) = (28 : Int32)
      · rw [if_pos c28]
        exact law_c (same_all hI _) hnext
      rw [if_neg c28]
      exact hnext M hI
