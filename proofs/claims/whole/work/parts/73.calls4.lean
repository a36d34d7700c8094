/-! PURE: calls: of, as, run, plain, all -/
theorem under_k : ∀ k : Nat, k < 4 → ∀ t : Nat, t < 4 → f_X6_isUnder (nI k) (nI t) = some (if t = 0 ∨ t = k ∨ (t = 1 ∧ k = 3) then 1 else 0) := by decide +kernel
theorem same_as {M : Mm} (h : Inv M) (x1 x2 x3 : Int32) : Same (f_X6_as x1 x2 x3) (f_X7_as x1 x2 x3) M := by
  rcases note_i h x1 x2 with ⟨b, n, hb, hn, rfl, rfl, e1, e2⟩ | ⟨e1, e2⟩
  · rcases knd_i x3 with ⟨t, ht, rfl, e3, e4⟩ | ⟨e3, e4⟩
    · have hz := (wp_sz h.2.1 hb).2
      obtain ⟨ek, hk⟩ := wp_kd h.2.1 hb hn
      obtain ⟨r1, r2, r3⟩ := h.2.2.1.2.2.1 b n hb hn
      have g5 : M 5 (6 * b + n) = nI (kd (M 213) b n) := r1.trans ek
      have g6 : M 6 (6 * b + n) = M 213 (13 + 3 * (6 * b + n) + 1) := r2
      have em : ∀ M' : Mm, M' 213 = M 213 → f_X7_as (nI b) (nI n) (nI t) M' = (if t = 0 ∨ t = kd (M 213) b n ∨ (t = 1 ∧ kd (M 213) b n = 3) then some (M 213 (13 + 3 * (6 * b + n) + 1), M') else some (f_X7_finding (-100004) M')) := fun M' hM => by
        unfold f_X7_as
        rw [e2 M' hM, bd_s, if_neg ne10, e4, if_neg ne10, note_0 hb (by omega), bd_s, note_1 hb (by omega), bd_s, hM, ek]
        by_cases c0 : t = 0
        · rw [if_pos (by rw [c0]; rfl), if_pos (Or.inl c0)]
        · rw [if_neg (fun q => c0 ((nI_z (by omega)).mp q))]
          by_cases c1 : t = kd (M 213) b n
          · rw [if_pos (congrArg nI c1), if_pos (Or.inr (Or.inl c1))]
          · rw [if_neg (fun q => c1 ((zeq (by omega) (by omega)).mp q))]
            by_cases c2 : t = 1
            · rw [if_pos (by rw [c2]; rfl)]
              by_cases c3 : kd (M 213) b n = 3
              · rw [if_pos (by rw [c3]; rfl), if_pos (Or.inr (Or.inr ⟨c2, c3⟩))]
              · have n3 : ¬ nI (kd (M 213) b n) = (3 : Int32) := fun q => c3 ((zeq (b := 3) (by omega) (by omega)).mp q)
                rw [if_neg n3, if_neg (by omega)]
                rfl
            · have n1 : ¬ nI t = (1 : Int32) := fun q => c2 ((zeq (b := 1) (by omega) (by omega)).mp q)
              rw [if_neg n1, if_neg (by omega)]
              rfl
      have ec : f_X6_as (nI b) (nI n) (nI t) M = (if t = 0 ∨ t = kd (M 213) b n ∨ (t = 1 ∧ kd (M 213) b n = 3) then some (M 213 (13 + 3 * (6 * b + n) + 1), M) else some (f_X6_finding (-100004) M)) := by
        unfold f_X6_as
        rw [e1, bd_s, if_neg ne10, e3, if_neg ne10, place_e, nm_d, zck (by omega) (by omega), zcl (by omega), g5, under_k _ (by omega) t ht, bd_s]
        by_cases c : t = 0 ∨ t = kd (M 213) b n ∨ (t = 1 ∧ kd (M 213) b n = 3)
        · rw [if_pos c, if_pos c, if_neg ne10, zck (by omega) (by omega), g6]
        · rw [if_neg c, if_neg c, if_pos rfl]
          rfl
      by_cases c : t = 0 ∨ t = kd (M 213) b n ∨ (t = 1 ∧ kd (M 213) b n = 3)
      · rw [if_pos c] at ec
        have e9 := em M rfl
        rw [if_pos c] at e9
        exact same_r h ec (fun _ _ => rfl) h.2.2.2.1 e9 (fun _ _ _ _ => rfl)
      · rw [if_neg c] at ec
        exact same_f0 h ec (fun M' hM => by
          have e9 := em M' (hM 213 (by decide))
          rw [if_neg c] at e9
          exact e9)
    · refine same_f0 h (z := -100001) ?_ (fun M' hM => ?_)
      · unfold f_X6_as
        rw [e1, bd_s, if_neg ne10, e3, if_pos rfl]
        rfl
      · unfold f_X7_as
        rw [e2 M' (hM 213 (by decide)), bd_s, if_neg ne10, e4, if_pos rfl]
        rfl
  · refine same_f0 h (z := -100001) ?_ (fun M' hM => ?_)
    · unfold f_X6_as
      rw [e1, bd_s, if_pos rfl]
      rfl
    · unfold f_X7_as
      rw [e2 M' (hM 213 (by decide)), bd_s, if_pos rfl]
      rfl
theorem same_of {M : Mm} (h : Inv M) (x1 x2 x3 : Int32) : Same (f_X6_of x1 x2 x3) (f_X7_of x1 x2 x3) M := by
  rcases note_i h x1 x2 with ⟨b, n, hb, hn, rfl, rfl, e1, e2⟩ | ⟨e1, e2⟩
  · have hz := (wp_sz h.2.1 hb).2
    obtain ⟨r1, r2, r3⟩ := h.2.2.1.2.2.1 b n hb hn
    by_cases c0 : x3 = 0
    · subst c0
      refine same_r h (r := M 213 (13 + 3 * (6 * b + n))) (M1 := M) (M2 := M) ?_ (fun _ _ => rfl) h.2.2.2.1 ?_ (fun _ _ _ _ => rfl)
      · unfold f_X6_of
        rw [e1, bd_s, if_neg ne10, place_e, nm_d, if_pos rfl, zck (by omega) (by omega), zcl (by omega)]
        exact congrArg (fun v => some (v, M)) r1
      · unfold f_X7_of
        rw [e2 M rfl, bd_s, if_neg ne10, isIn_t (by decide) (by decide), if_neg ne10, note_0 hb (by omega), bd_s]
    · by_cases c1 : x3 = 1
      · subst c1
        refine same_r h (r := M 213 (13 + 3 * (6 * b + n) + 1)) (M1 := M) (M2 := M) ?_ (fun _ _ => rfl) h.2.2.2.1 ?_ (fun _ _ _ _ => rfl)
        · unfold f_X6_of
          rw [e1, bd_s, if_neg ne10, place_e, nm_d, if_neg (by decide), if_pos rfl, zck (by omega) (by omega), zcl (by omega)]
          exact congrArg (fun v => some (v, M)) r2
        · unfold f_X7_of
          rw [e2 M rfl, bd_s, if_neg ne10, isIn_t (by decide) (by decide), if_neg ne10, note_1 hb (by omega), bd_s]
      · by_cases c2 : x3 = 2
        · subst c2
          refine same_r h (r := M 213 (13 + 3 * (6 * b + n) + 2)) (M1 := M) (M2 := M) ?_ (fun _ _ => rfl) h.2.2.2.1 ?_ (fun _ _ _ _ => rfl)
          · unfold f_X6_of
            rw [e1, bd_s, if_neg ne10, place_e, nm_d, if_neg (by decide), if_neg (by decide), if_pos rfl, zck (by omega) (by omega), zcl (by omega)]
            exact congrArg (fun v => some (v, M)) r3
          · unfold f_X7_of
            rw [e2 M rfl, bd_s, if_neg ne10, isIn_t (by decide) (by decide), if_neg ne10, note_2 hb (by omega), bd_s]
        · refine same_f0 h (z := -100001) ?_ (fun M' hM => ?_)
          · unfold f_X6_of
            rw [e1, bd_s, if_neg ne10, place_e, nm_d, if_neg c0, if_neg c1, if_neg c2]
            rfl
          · have hin : x3 < 0 ∨ (2 : Int32) < x3 := by
              rcases in_c (x := x3) (m := 3) (by omega) with ⟨k, g1, g2⟩ | g | g
              · subst g2
                have h' : k = 0 ∨ k = 1 ∨ k = 2 := by omega
                rcases h' with h' | h' | h'
                · rw [h'] at c0
                  exact absurd rfl c0
                · rw [h'] at c1
                  exact absurd rfl c1
                · rw [h'] at c2
                  exact absurd rfl c2
              · exact Or.inl g
              · right
                refine ti_lt.mpr ?_
                have g' := ti_le.mp g
                rw [ztI (by omega)] at g'
                have e : (2 : Int32).toInt = 2 := rfl
                omega
            unfold f_X7_of
            rw [e2 M' (hM 213 (by decide)), bd_s, if_neg ne10, isIn_f hin, if_pos rfl]
            rfl
  · refine same_f0 h (z := -100001) ?_ (fun M' hM => ?_)
    · unfold f_X6_of
      rw [e1, bd_s, if_pos rfl]
      rfl
    · unfold f_X7_of
      rw [e2 M' (hM 213 (by decide)), bd_s, if_pos rfl]
      rfl
/-- the ends of a run -/
theorem run_i (x1 x2 x3 : Int32) : (∃ a b d, a < 42 ∧ b < 42 ∧ d < 2187 ∧ x1 = nI a ∧ x2 = nI b ∧ x3 = nI d ∧ f_X6_isString x1 = 1 ∧ f_X6_isString x2 = 1 ∧ f_X6_isDiagram x3 = 1 ∧ f_X7_isRun x1 x2 x3 = 1) ∨ ((f_X6_isString x1 = 0 ∨ (f_X6_isString x1 = 1 ∧ f_X6_isString x2 = 0) ∨ (f_X6_isString x1 = 1 ∧ f_X6_isString x2 = 1 ∧ f_X6_isDiagram x3 = 0)) ∧ f_X7_isRun x1 x2 x3 = 0) := by
  unfold f_X7_isRun
  rcases str_i x1 with ⟨a, ha, rfl, e1, e2⟩ | ⟨e1, e2⟩
  · rcases str_i x2 with ⟨b, hb, rfl, e3, e4⟩ | ⟨e3, e4⟩
    · rcases dia_i x3 with ⟨d, hd, rfl, e5, e6⟩ | ⟨e5, e6⟩
      · exact Or.inl ⟨a, b, d, ha, hb, hd, rfl, rfl, rfl, e1, e3, e5, by rw [e2, e4, e6, if_neg ne10, if_neg ne10, if_neg ne10]⟩
      · exact Or.inr ⟨Or.inr (Or.inr ⟨e1, e3, e5⟩), by rw [e2, e4, e6, if_neg ne10, if_neg ne10, if_pos rfl]⟩
    · exact Or.inr ⟨Or.inr (Or.inl ⟨e1, e3⟩), by rw [e2, e4, if_neg ne10, if_pos rfl]⟩
  · exact Or.inr ⟨Or.inl e1, by rw [e2, if_pos rfl]⟩
theorem jabs_e {a b : Nat} (ha : a < 42) (hb : b < 42) : jabs (nI b - nI a) = nI (if b ≤ a then a - b else b - a) := by
  unfold jabs
  by_cases c : b ≤ a
  · rw [if_pos c]
    by_cases c2 : b = a
    · rw [c2, zsu (Nat.le_refl a), Nat.sub_self, if_pos (by decide)]
    · have e1 : nI b - nI a = oI ((b : Int) - a) := by rw [oI_n, oI_n, oI_sub]
      rw [e1, if_neg (zng (by omega) (by omega)), k0, oI_sub, oI_n]
      congr 1
      omega
  · rw [if_neg c, zsu (by omega), if_pos (znn (by omega))]
theorem same_run {M : Mm} (h : Inv M) (x1 x2 x3 x4 : Int32) : Same (f_X6_run x1 x2 x3 x4) (f_X7_run x1 x2 x3 x4) M := by
  rcases run_i x1 x2 x3 with ⟨a, b, d, ha, hb, hd, rfl, rfl, rfl, e1, e3, e5, e7⟩ | ⟨e1, e7⟩
  · have hq : (if nI b ≤ nI a then nI a - nI b else nI b - nI a) = nI (if b ≤ a then a - b else b - a) := by
      by_cases c : b ≤ a
      · rw [if_pos ((zle (by omega) (by omega)).mpr c), if_pos c, zsu c]
      · rw [if_neg (fun q => c ((zle (by omega) (by omega)).mp q)), if_neg c, zsu (by omega)]
    have hL : (if b ≤ a then a - b else b - a) < 42 := by split <;> omega
    generalize hLe : (if b ≤ a then a - b else b - a) = L at hq hL
    have hj := jabs_e ha hb
    rw [hLe] at hj
    by_cases cin : ¬ x4 < 0 ∧ x4 ≤ nI L
    · obtain ⟨i, hi, rfl⟩ := nI_get (m := L + 1) cin.1 (by have := ti_le.mp cin.2; rw [ztI (by omega)] at this; omega)
      have hs : ∃ s, s < 42 ∧ (if nI b < nI a then nI a - nI i else nI a + nI i) = nI s ∧ (if nI b ≤ nI a then nI a - nI i else nI a + nI i) = nI s := by
        by_cases c : b < a
        · rw [if_pos (show b ≤ a by omega)] at hLe
          refine ⟨a - i, by omega, ?_, ?_⟩
          · rw [if_pos ((zlt (by omega) (by omega)).mpr c), zsu (by omega)]
          · rw [if_pos ((zle (by omega) (by omega)).mpr (by omega)), zsu (by omega)]
        · by_cases c2 : b = a
          · rw [if_pos (show b ≤ a by omega)] at hLe
            refine ⟨a, ha, ?_, ?_⟩
            · rw [if_neg (fun q => c ((zlt (by omega) (by omega)).mp q)), zad, show a + i = a by omega]
            · rw [if_pos ((zle (by omega) (by omega)).mpr (by omega)), zsu (by omega), show a - i = a by omega]
          · rw [if_neg (show ¬ b ≤ a by omega)] at hLe
            refine ⟨a + i, by omega, ?_, ?_⟩
            · rw [if_neg (fun q => c ((zlt (by omega) (by omega)).mp q)), zad]
            · rw [if_neg (fun q => by have := (zle (by omega) (by omega)).mp q; omega), zad]
      obtain ⟨s, s1, s2, s3⟩ := hs
      refine same_r h (r := Int32.ofInt (pit s d)) (M1 := M) (M2 := M) ?_ (fun _ _ => rfl) h.2.2.2.1 ?_ (fun _ _ _ _ => rfl)
      · unfold f_X6_run
        rw [e1, if_neg ne10, e3, if_neg ne10, e5, if_neg ne10, if_neg cin.1, hj, if_pos cin.2, s2, nm_d, pitchOf_c h.1 s1 hd, bd_s]
      · unfold f_X7_run
        rw [e7, if_neg ne10, hq, nm_d, isIn_t cin.1 (fun q => absurd (ti_lt.mp q) (by have := ti_le.mp cin.2; omega)), if_neg ne10, s3, nm_d, pitchOf_m s1 hd, bd_s]
    · refine same_f0 h (z := -100001) ?_ (fun M' hM => ?_)
      · unfold f_X6_run
        rw [e1, if_neg ne10, e3, if_neg ne10, e5, if_neg ne10, hj]
        by_cases c : x4 < 0
        · rw [if_pos c]
          rfl
        · rw [if_neg c, if_neg (fun q => cin ⟨c, q⟩)]
          rfl
      · unfold f_X7_run
        rw [e7, if_neg ne10, hq, nm_d, isIn_f (by
          by_cases c : x4 < 0
          · exact Or.inl c
          · right
            refine ti_lt.mpr ?_
            have h9 : ¬ x4.toInt ≤ (nI L).toInt := fun q => cin ⟨c, ti_le.mpr q⟩
            omega), if_pos rfl]
        rfl
  · refine same_f0 h (z := -100001) ?_ (fun M' hM => ?_)
    · unfold f_X6_run
      rcases e1 with e1 | ⟨e1, e3⟩ | ⟨e1, e3, e5⟩
      · rw [e1, if_pos rfl]
        rfl
      · rw [e1, if_neg ne10, e3, if_pos rfl]
        rfl
      · rw [e1, if_neg ne10, e3, if_neg ne10, e5, if_pos rfl]
        rfl
    · unfold f_X7_run
      rw [e7, if_pos rfl]
      rfl
