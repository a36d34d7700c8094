/-! PURE: the invariant of the law's loop -/
/-- the sheets are alike -/
def ShI (M : Mm) : Prop := ∀ s, s < 4 → M 205 s = M 215 s ∧ M 206 s = M 216 s ∧ (0 ≤ (M 206 s).toInt ∧ (M 206 s).toInt ≤ 30) ∧ ∀ i, i < 30 → M (208 + s) i = M 217 (30 * s + i)
/-- what is kept is alike -/
def HiI (M : Mm) : Prop := ∃ k x : Nat, k ≤ 20 ∧ x < 20 ∧ M 10 2 = nI k ∧ M 10 1 = nI x ∧ M 212 2 = nI k ∧ ∀ i, i < k → WP (sl M i) ∧ RelP (12 + 7 * ((x + 20 - k + i) % 20)) M (sl M i)
def Inv (M : Mm) : Prop := Hp M ∧ WP (M 213) ∧ RelP 3 M (M 213) ∧ WI (M 213) M ∧ M 0 6 = M 212 6 ∧ ShI M ∧ HiI M
theorem wi_e {N : Nt} {M M' : Mm} (h : WI N M) (hp : pl N ≤ 12) (e : ∀ c, 161 ≤ c → c ≤ 203 → M' c = M c) : WI N M' := by
  obtain ⟨o, k, o1, k1, w12, wO, w13, wA, w14, w16⟩ := h
  refine ⟨o, k, o1, k1, ?_, ono_f wO (fun c g1 g2 => e c (by omega) (by omega)) hp, ?_, aro_f wA (fun c g1 g2 => e c (by omega) (by omega)) k1, ?_, ?_⟩
  · rw [e 161 (by omega) (by omega)]
    exact w12
  · rw [e 161 (by omega) (by omega)]
    exact w13
  · rw [e 161 (by omega) (by omega)]
    rcases w14 with w14 | ⟨w14, w15, w15'⟩
    · exact Or.inl w14
    · refine Or.inr ⟨w14, ?_, fun hB => ?_⟩
      · rw [e 161 (by omega) (by omega)]
        exact w15
      · obtain ⟨w, i1, i2⟩ := w15' hB
        exact ⟨w, i1, fun i hi => by rw [e 203 (by omega) (by omega)]; exact i2 i hi⟩
  · rw [e 161 (by omega) (by omega)]
    exact w16
/-- a call of the class that only reads; v findings more -/
def RdC (M M1 : Mm) (v : Int32) : Prop := M1 0 6 = M 0 6 + v ∧ (∀ c j, ¬ (152 ≤ c ∧ c ≤ 203) → ¬ (c = 0 ∧ j = 6) → M1 c j = M c j) ∧ WI (M 213) M1
/-- a call of the model that only reads -/
def RdM (M M1 : Mm) (v : Int32) : Prop := M1 212 6 = M 212 6 + v ∧ ∀ c j, c < 218 → ¬ (c = 212 ∧ (j = 6 ∨ j = 11)) → M1 c j = M c j
theorem inv_hi {M M' : Mm} (h : HiI M) (e1 : ∀ c, 10 ≤ c → c ≤ 151 → M' c = M c) (e2 : M' 212 2 = M 212 2) (e3 : M' 214 = M 214) : HiI M' := by
  obtain ⟨k, x, h1, h2, h3, h4, h5, h6⟩ := h
  refine ⟨k, x, h1, h2, ?_, ?_, ?_, fun i hi => ?_⟩
  · rw [e1 10 (by omega) (by omega)]
    exact h3
  · rw [e1 10 (by omega) (by omega)]
    exact h4
  · rw [e2]
    exact h5
  · have es : sl M' i = sl M i := by
      unfold sl
      rw [e3]
    rw [es]
    obtain ⟨g1, g2⟩ := h6 i hi
    have := Nat.mod_lt (x + 20 - k + i) (show 0 < 20 by omega)
    exact ⟨g1, relp_e g2 (fun c j1 j2 => e1 c (by omega) (by omega))⟩
theorem inv_rd {M M1 M2 : Mm} {v : Int32} (h : Inv M) (h1 : RdC M M1 v) (h2 : RdM M1 M2 v) : Inv M2 := by
  obtain ⟨i1, i2, i3, i4, i5, i6, i7⟩ := h
  obtain ⟨c1, c2, c3⟩ := h1
  obtain ⟨m1, m2⟩ := h2
  have hp := (wp_pl i2).2.2
  have cc : ∀ c, ¬ (152 ≤ c ∧ c ≤ 203) → c ≠ 0 → M1 c = M c := fun c g1 g2 => funext (fun j => c2 c j g1 (fun q => g2 q.1))
  have mc : ∀ c, c < 218 → c ≠ 212 → M2 c = M1 c := fun c g1 g2 => funext (fun j => m2 c j g1 (fun q => g2 q.1))
  have e213 : M2 213 = M 213 := by rw [mc 213 (by omega) (by omega), cc 213 (by omega) (by omega)]
  refine ⟨fun t ht => ?_, by rw [e213]; exact i2, by rw [e213]; exact relp_e i3 (fun c g1 g2 => by rw [mc c (by omega) (by omega), cc c (by omega) (by omega)]), by rw [e213]; exact wi_e c3 hp (fun c g1 g2 => mc c (by omega) (by omega)), ?_, fun s hs => ?_, inv_hi i7 (fun c g1 g2 => by rw [mc c (by omega) (by omega), cc c (by omega) (by omega)]) ?_ ?_⟩
  · rw [mc 2 (by omega) (by omega), cc 2 (by omega) (by omega)]
    exact i1 t ht
  · rw [mc 0 (by omega) (by omega), c1, i5, m1, cc 212 (by omega) (by omega)]
  · obtain ⟨s1, s2, s3, s4⟩ := i6 s hs
    rw [mc 205 (by omega) (by omega), cc 205 (by omega) (by omega), mc 206 (by omega) (by omega), cc 206 (by omega) (by omega), mc 215 (by omega) (by omega), cc 215 (by omega) (by omega), mc 216 (by omega) (by omega), cc 216 (by omega) (by omega), mc 217 (by omega) (by omega), cc 217 (by omega) (by omega), mc (208 + s) (by omega) (by omega), cc (208 + s) (by omega) (by omega)]
    exact ⟨s1, s2, s3, s4⟩
  · rw [m2 212 2 (by omega) (by omega), cc 212 (by omega) (by omega)]
  · rw [mc 214 (by omega) (by omega), cc 214 (by omega) (by omega)]
/-- both answer alike, and the invariant stays -/
def Same (f g : Mm → Option (Int32 × Mm)) (M : Mm) : Prop := ∃ r M1 M2, f M = some (r, M1) ∧ g M1 = some (r, M2) ∧ Inv M2
theorem rdc_0 {M M1 : Mm} (h : ∀ c, ¬ (152 ≤ c ∧ c ≤ 203) → M1 c = M c) (hw : WI (M 213) M1) : RdC M M1 0 := ⟨by rw [h 0 (by omega), Int32.add_zero], fun c j g1 _ => by rw [h c g1], hw⟩
theorem rdm_0 {M M1 : Mm} (h : ∀ c j, c < 218 → ¬ (c = 212 ∧ j = 11) → M1 c j = M c j) : RdM M M1 0 := ⟨by rw [h 212 6 (by omega) (by omega), Int32.add_zero], fun c j g1 g2 => h c j g1 (fun q => g2 ⟨q.1, Or.inr q.2⟩)⟩
theorem rdc_f {M M1 : Mm} (h : ∀ c, ¬ (152 ≤ c ∧ c ≤ 203) → M1 c = M c) (hw : WI (M 213) M1) (hp : pl (M 213) ≤ 12) : RdC M (mw M1 0 6 (M1 0 6 + 1)) 1 := ⟨by rw [mw_s, h 0 (by omega)], fun c j g1 g2 => by rw [mw_at, if_neg g2, h c g1], wi_e hw hp (fun c g1 g2 => mw_c (by omega))⟩
theorem rdm_f {M M1 : Mm} (h : ∀ c j, c < 218 → ¬ (c = 212 ∧ j = 11) → M1 c j = M c j) : RdM M (mw M1 212 6 (M1 212 6 + 1)) 1 := ⟨by rw [mw_s, h 212 6 (by omega) (by omega)], fun c j g1 g2 => by rw [mw_at, if_neg (fun q => g2 ⟨q.1, Or.inl q.2⟩), h c j g1 (fun q => g2 ⟨q.1, Or.inr q.2⟩)]⟩
/-- both tell the finding z -/
theorem same_f {f g : Mm → Option (Int32 × Mm)} {M M1 M2 : Mm} {z : Int32} (h : Inv M) (hf : f M = some (f_X6_finding z M1)) (c1 : ∀ c, ¬ (152 ≤ c ∧ c ≤ 203) → M1 c = M c) (hw : WI (M 213) M1) (hg : g (mw M1 0 6 (M1 0 6 + 1)) = some (f_X7_finding z M2)) (c2 : ∀ c j, c < 218 → ¬ (c = 212 ∧ j = 11) → M2 c j = mw M1 0 6 (M1 0 6 + 1) c j) : Same f g M := ⟨z, _, _, hf, hg, inv_rd h (rdc_f c1 hw (wp_pl h.2.1).2.2) (rdm_f c2)⟩
/-- both tell the finding z at once -/
theorem same_f0 {f g : Mm → Option (Int32 × Mm)} {M : Mm} {z : Int32} (h : Inv M) (hf : f M = some (f_X6_finding z M)) (hg : ∀ M', (∀ c, c ≠ 0 → M' c = M c) → g M' = some (f_X7_finding z M')) : Same f g M := same_f h hf (fun _ _ => rfl) h.2.2.2.1 (hg _ (fun c g => mw_c g)) (fun _ _ _ _ => rfl)
/-- both answer r -/
theorem same_r {f g : Mm → Option (Int32 × Mm)} {M M1 M2 : Mm} {r : Int32} (h : Inv M) (hf : f M = some (r, M1)) (c1 : ∀ c, ¬ (152 ≤ c ∧ c ≤ 203) → M1 c = M c) (hw : WI (M 213) M1) (hg : g M1 = some (r, M2)) (c2 : ∀ c j, c < 218 → ¬ (c = 212 ∧ j = 11) → M2 c j = M1 c j) : Same f g M := ⟨r, M1, M2, hf, hg, inv_rd h (rdc_0 c1 hw) (rdm_0 c2)⟩
/-- tests of arguments -/
theorem in_c {x : Int32} {m : Nat} (hm : m < 2147483648) : (∃ n, n < m ∧ x = nI n) ∨ (x < 0 ∨ nI m ≤ x) := by
  by_cases c : x < 0
  · exact Or.inr (Or.inl c)
  · by_cases c2 : nI m ≤ x
    · exact Or.inr (Or.inr c2)
    · left
      refine nI_get c ?_
      have h : ¬ (nI m).toInt ≤ x.toInt := fun q => c2 (ti_le.mpr q)
      rw [ztI hm] at h
      omega
theorem isIn_t {a b x : Int32} (h1 : ¬ x < a) (h2 : ¬ b < x) : f_X7_isIn x a b = 1 := by
  unfold f_X7_isIn
  rw [if_neg h1, if_neg h2]
theorem isIn_f {a b x : Int32} (h : x < a ∨ b < x) : f_X7_isIn x a b = 0 := by
  unfold f_X7_isIn
  by_cases c : x < a
  · rw [if_pos c]
  · rw [if_neg c, if_pos (h.resolve_left c)]
theorem beat_i (x : Int32) : (∃ n, n < 12 ∧ x = nI n ∧ f_X6_isBeat x = 1 ∧ f_X7_isBeat x = 1) ∨ (f_X6_isBeat x = 0 ∧ f_X7_isBeat x = 0) := by
  have e11 : ∀ x : Int32, nI 12 ≤ x → (11 : Int32) < x := fun x h => ti_lt.mpr (by have := ti_le.mp h; rw [ztI (by omega)] at this; have e : (11 : Int32).toInt = 11 := rfl; omega)
  rcases in_c (x := x) (m := 12) (by omega) with ⟨n, h1, h2⟩ | h
  · subst h2
    refine Or.inl ⟨n, h1, rfl, ?_, isIn_t (nI_nn (by omega)) (fun q => by have := (zlt (a := 11) (by omega) (by omega)).mp q; omega)⟩
    unfold f_X6_isBeat
    rw [if_neg (nI_nn (by omega)), if_neg (fun q => by have := (zle (a := 12) (by omega) (by omega)).mp q; omega)]
  · refine Or.inr ⟨?_, isIn_f (h.elim Or.inl (fun q => Or.inr (e11 x q)))⟩
    unfold f_X6_isBeat
    by_cases c : x < 0
    · rw [if_pos c]
    · have h9 : (12 : Int32) ≤ x := h.resolve_left c
      rw [if_neg c, if_pos h9]
theorem ped_i (x : Int32) : (∃ n, n < 7 ∧ x = nI n ∧ f_X6_isPedal x = 1 ∧ f_X7_isPedal x = 1) ∨ (f_X6_isPedal x = 0 ∧ f_X7_isPedal x = 0) := by
  have e11 : ∀ x : Int32, nI 7 ≤ x → (6 : Int32) < x := fun x h => ti_lt.mpr (by have := ti_le.mp h; rw [ztI (by omega)] at this; have e : (6 : Int32).toInt = 6 := rfl; omega)
  rcases in_c (x := x) (m := 7) (by omega) with ⟨n, h1, h2⟩ | h
  · subst h2
    refine Or.inl ⟨n, h1, rfl, ?_, isIn_t (nI_nn (by omega)) (fun q => by have := (zlt (a := 6) (by omega) (by omega)).mp q; omega)⟩
    unfold f_X6_isPedal
    rw [if_neg (nI_nn (by omega)), if_neg (fun q => by have := (zle (a := 7) (by omega) (by omega)).mp q; omega)]
  · refine Or.inr ⟨?_, isIn_f (h.elim Or.inl (fun q => Or.inr (e11 x q)))⟩
    unfold f_X6_isPedal
    by_cases c : x < 0
    · rw [if_pos c]
    · have h9 : (7 : Int32) ≤ x := h.resolve_left c
      rw [if_neg c, if_pos h9]
theorem dia_i (x : Int32) : (∃ n, n < 2187 ∧ x = nI n ∧ f_X6_isDiagram x = 1 ∧ f_X7_isDiagram x = 1) ∨ (f_X6_isDiagram x = 0 ∧ f_X7_isDiagram x = 0) := by
  have e11 : ∀ x : Int32, nI 2187 ≤ x → (2186 : Int32) < x := fun x h => ti_lt.mpr (by have := ti_le.mp h; rw [ztI (by omega)] at this; have e : (2186 : Int32).toInt = 2186 := rfl; omega)
  rcases in_c (x := x) (m := 2187) (by omega) with ⟨n, h1, h2⟩ | h
  · subst h2
    refine Or.inl ⟨n, h1, rfl, ?_, isIn_t (nI_nn (by omega)) (fun q => by have := (zlt (a := 2186) (by omega) (by omega)).mp q; omega)⟩
    unfold f_X6_isDiagram
    rw [if_neg (nI_nn (by omega)), if_neg (fun q => by have := (zle (a := 2187) (by omega) (by omega)).mp q; omega)]
  · refine Or.inr ⟨?_, isIn_f (h.elim Or.inl (fun q => Or.inr (e11 x q)))⟩
    unfold f_X6_isDiagram
    by_cases c : x < 0
    · rw [if_pos c]
    · have h9 : (2187 : Int32) ≤ x := h.resolve_left c
      rw [if_neg c, if_pos h9]
