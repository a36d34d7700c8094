/-! PURE: calls that read: pitch, string, does, many, split, of, as -/
theorem ne10 : ¬ (1 : Int32) = 0 := by decide
theorem str_i (x : Int32) : (∃ n, n < 42 ∧ x = nI n ∧ f_X6_isString x = 1 ∧ f_X7_isIn x 0 41 = 1) ∨ (f_X6_isString x = 0 ∧ f_X7_isIn x 0 41 = 0) := by
  have e11 : ∀ x : Int32, nI 42 ≤ x → (41 : Int32) < x := fun x h => ti_lt.mpr (by have := ti_le.mp h; rw [ztI (by omega)] at this; have e : (41 : Int32).toInt = 41 := rfl; omega)
  rcases in_c (x := x) (m := 42) (by omega) with ⟨n, h1, h2⟩ | h
  · subst h2
    refine Or.inl ⟨n, h1, rfl, ?_, isIn_t (nI_nn (by omega)) (fun q => by have := (zlt (a := 41) (by omega) (by omega)).mp q; omega)⟩
    unfold f_X6_isString
    rw [if_neg (nI_nn (by omega)), if_neg (fun q => by have := (zle (a := 42) (by omega) (by omega)).mp q; omega)]
  · refine Or.inr ⟨?_, isIn_f (h.elim Or.inl (fun q => Or.inr (e11 x q)))⟩
    unfold f_X6_isString
    by_cases c : x < 0
    · rw [if_pos c]
    · have h9 : (42 : Int32) ≤ x := h.resolve_left c
      rw [if_neg c, if_pos h9]
theorem knd_i (x : Int32) : (∃ n, n < 4 ∧ x = nI n ∧ f_X6_isKind x = 1 ∧ f_X7_isIn x 0 3 = 1) ∨ (f_X6_isKind x = 0 ∧ f_X7_isIn x 0 3 = 0) := by
  have e11 : ∀ x : Int32, nI 4 ≤ x → (3 : Int32) < x := fun x h => ti_lt.mpr (by have := ti_le.mp h; rw [ztI (by omega)] at this; have e : (3 : Int32).toInt = 3 := rfl; omega)
  rcases in_c (x := x) (m := 4) (by omega) with ⟨n, h1, h2⟩ | h
  · subst h2
    refine Or.inl ⟨n, h1, rfl, ?_, isIn_t (nI_nn (by omega)) (fun q => by have := (zlt (a := 3) (by omega) (by omega)).mp q; omega)⟩
    unfold f_X6_isKind
    rw [if_neg (nI_nn (by omega)), if_neg (fun q => by have := (zle (a := 4) (by omega) (by omega)).mp q; omega)]
  · refine Or.inr ⟨?_, isIn_f (h.elim Or.inl (fun q => Or.inr (e11 x q)))⟩
    unfold f_X6_isKind
    by_cases c : x < 0
    · rw [if_pos c]
    · have h9 : (4 : Int32) ≤ x := h.resolve_left c
      rw [if_neg c, if_pos h9]
theorem note_i {M : Mm} (h : Inv M) (x y : Int32) : (∃ b n, b < 12 ∧ n < sz (M 213) b ∧ x = nI b ∧ y = nI n ∧ f_X6_isNote x y M = some 1 ∧ ∀ M' : Mm, M' 213 = M 213 → f_X7_isNote x y M' = some 1) ∨ (f_X6_isNote x y M = some 0 ∧ ∀ M' : Mm, M' 213 = M 213 → f_X7_isNote x y M' = some 0) := by
  unfold f_X6_isNote f_X7_isNote
  rcases beat_i x with ⟨b, hb, rfl, e1, e2⟩ | ⟨e1, e2⟩
  · rw [e1, e2, if_neg ne10]
    obtain ⟨ez, hz⟩ := wp_sz h.2.1 hb
    have e3 : M 4 b = nI (sz (M 213) b) := (h.2.2.1.2.1 b hb).trans ez
    have e4 : (1 : Int32) + nI b = nI (1 + b) := zad 1 b
    rw [zck hb (by omega), zcl (by omega), e3, e4]
    by_cases c : y < 0
    · rw [if_pos c]
      exact Or.inr ⟨rfl, fun M' _ => by rw [if_neg ne10, if_pos c]⟩
    · rw [if_neg c]
      by_cases c2 : nI (sz (M 213) b) ≤ y
      · rw [if_pos c2]
        exact Or.inr ⟨rfl, fun M' hM => by rw [if_neg ne10, if_neg c, zck (by omega) (by omega), zcl (by omega), hM, ez, if_pos c2]⟩
      · rw [if_neg c2]
        obtain ⟨n, h1, h2⟩ := nI_get (m := sz (M 213) b) c (by
          have h9 : ¬ (nI (sz (M 213) b)).toInt ≤ y.toInt := fun q => c2 (ti_le.mpr q)
          rw [ztI (by omega)] at h9
          omega)
        subst h2
        exact Or.inl ⟨b, n, hb, h1, rfl, rfl, rfl, fun M' hM => by rw [if_neg ne10, if_neg c, zck (by omega) (by omega), zcl (by omega), hM, ez, if_neg c2]⟩
  · rw [e1, e2, if_pos rfl]
    exact Or.inr ⟨rfl, fun M' _ => by rw [if_pos rfl]⟩
theorem same_pitch {M : Mm} (h : Inv M) (x1 x2 : Int32) : Same (f_X6_pitch x1 x2) (f_X7_pitch x1 x2) M := by
  rcases str_i x1 with ⟨s, hs, rfl, e1, e2⟩ | ⟨e1, e2⟩
  · rcases dia_i x2 with ⟨d, hd, rfl, e3, e4⟩ | ⟨e3, e4⟩
    · refine same_r h (r := Int32.ofInt (pit s d)) (M1 := M) (M2 := M) ?_ (fun _ _ => rfl) h.2.2.2.1 ?_ (fun _ _ _ _ => rfl)
      · unfold f_X6_pitch
        rw [e1, if_neg ne10, e3, if_neg ne10, pitchOf_c h.1 hs hd, bd_s]
      · unfold f_X7_pitch
        rw [e2, if_neg ne10, e4, if_neg ne10, pitchOf_m hs hd, bd_s]
    · refine same_f0 h (z := -100001) ?_ (fun M' _ => ?_)
      · unfold f_X6_pitch
        rw [e1, if_neg ne10, e3, if_pos rfl]
        rfl
      · unfold f_X7_pitch
        rw [e2, if_neg ne10, e4, if_pos rfl]
        rfl
  · refine same_f0 h (z := -100001) ?_ (fun M' _ => ?_)
    · unfold f_X6_pitch
      rw [e1, if_pos rfl]
      rfl
    · unfold f_X7_pitch
      rw [e2, if_pos rfl]
      rfl
/-- the desk's chord was read -/
theorem desk_r {M : Mm} (h : Inv M) {b : Nat} (hb : b < 12) : ∃ M1, f_X0_read 152 3 (nI b) M = some M1 ∧ Ch 152 M1 (M 213) b ∧ Fc 152 M M1 ∧ WI (M 213) M1 ∧ Hp M1 := by
  obtain ⟨M1, q1, q2, q3⟩ := read_c (a := 152) (a1 := 3) h.2.1 (by omega) hb h.2.2.1
  exact ⟨M1, q1, q2, q3, wi_e h.2.2.2.1 (wp_pl h.2.1).2.2 (fun c g1 g2 => fc_c q3 (by omega)), fun t ht => by rw [fc_c q3 (by omega)]; exact h.1 t ht⟩
theorem znn0 {i : Int} (h0 : 0 ≤ i) (h : i < 1000) : (0 : Int32) ≤ oI i := by
  rw [k0, oI_le ⟨by omega, by omega⟩ ⟨by omega, by omega⟩]
  exact h0
theorem zng {i : Int} (h0 : i < 0) (h : -1000 < i) : ¬ (0 : Int32) ≤ oI i := by
  rw [k0, oI_le ⟨by omega, by omega⟩ ⟨by omega, by omega⟩]
  omega
theorem same_string {M : Mm} (h : Inv M) (x1 x2 x3 : Int32) : Same (f_X6_string x1 x2 x3) (f_X7_string x1 x2 x3) M := by
  rcases note_i h x1 x2 with ⟨b, n, hb, hn, rfl, rfl, e1, e2⟩ | ⟨e1, e2⟩
  · rcases dia_i x3 with ⟨d, hd, rfl, e3, e4⟩ | ⟨e3, e4⟩
    · obtain ⟨M1, q1, q2, q3, q4, q5⟩ := desk_r h hb
      have hs := str_b h.2.1 hb hn hd
      have e213 : M1 213 = M 213 := fc_c q3 (by omega)
      have ec : f_X0_stringOf 152 (nI n) (nI (sB d)) M1 = some (oI (str (M 213) b n d)) := stringOf_c h.2.1 hb hn hd (q2.2.1 n hn)
      have em : ∀ M' : Mm, M' 213 = M 213 → f_X7_stringOf (nI b) (nI n) (nI d) M' = some (oI (str (M 213) b n d)) := fun M' hM => by
        have h9 := stringOf_m (M := M') (by rw [hM]; exact h.2.1) hb (n := n) (d := d) (by rw [hM]; exact hn) hd
        rw [hM] at h9
        exact h9
      by_cases c : 0 ≤ str (M 213) b n d
      · refine same_r h (r := oI (str (M 213) b n d)) (M1 := M1) (M2 := M1) ?_ (fun c g => fc_c q3 (by omega)) q4 ?_ (fun _ _ _ _ => rfl)
        · unfold f_X6_string
          rw [e1, bd_s, if_neg ne10, e3, if_neg ne10, q1, bd_s, zck hd (by omega), zcl (by omega), q5 d hd, ec, bd_s, if_pos (znn0 c (by omega))]
        · unfold f_X7_string
          rw [e2 M1 e213, bd_s, if_neg ne10, e4, if_neg ne10, em M1 e213, bd_s, if_pos (znn0 c (by omega))]
      · refine same_f h (z := -100006) (M1 := M1) (M2 := mw M1 0 6 (M1 0 6 + 1)) ?_ (fun c g => fc_c q3 (by omega)) q4 ?_ (fun _ _ _ _ => rfl)
        · unfold f_X6_string
          rw [e1, bd_s, if_neg ne10, e3, if_neg ne10, q1, bd_s, zck hd (by omega), zcl (by omega), q5 d hd, ec, bd_s, if_neg (zng (by omega) (by omega))]
          rfl
        · have e9 : mw M1 0 6 (M1 0 6 + 1) 213 = M 213 := by rw [mw_c (by decide), e213]
          unfold f_X7_string
          rw [e2 _ e9, bd_s, if_neg ne10, e4, if_neg ne10, em _ e9, bd_s, if_neg (zng (by omega) (by omega))]
          rfl
    · refine same_f0 h (z := -100001) ?_ (fun M' hM => ?_)
      · unfold f_X6_string
        rw [e1, bd_s, if_neg ne10, e3, if_pos rfl]
        rfl
      · unfold f_X7_string
        rw [e2 M' (hM 213 (by decide)), bd_s, if_neg ne10, e4, if_pos rfl]
        rfl
  · refine same_f0 h (z := -100001) ?_ (fun M' hM => ?_)
    · unfold f_X6_string
      rw [e1, bd_s, if_pos rfl]
      rfl
    · unfold f_X7_string
      rw [e2 M' (hM 213 (by decide)), bd_s, if_pos rfl]
      rfl
theorem does_m' {M M' : Mm} (h : Inv M) (hM : M' 213 = M 213) {b d : Nat} (hb : b < 12) (hd : d < 2187) : f_X7_doesFor (nI b) (nI d) M' = some (yes (does (M 213) b d)) := by
  have h9 := doesFor_m (M := M') (by rw [hM]; exact h.2.1) hb hd
  rw [hM] at h9
  exact h9
theorem same_does {M : Mm} (h : Inv M) (x1 x2 : Int32) : Same (f_X6_does x1 x2) (f_X7_does x1 x2) M := by
  rcases beat_i x1 with ⟨b, hb, rfl, e1, e2⟩ | ⟨e1, e2⟩
  · rcases dia_i x2 with ⟨d, hd, rfl, e3, e4⟩ | ⟨e3, e4⟩
    · obtain ⟨M1, q1, q2, q3, q4, q5⟩ := desk_r h hb
      have e213 : M1 213 = M 213 := fc_c q3 (by omega)
      refine same_r h (r := yes (does (M 213) b d)) (M1 := M1) (M2 := M1) ?_ (fun c g => fc_c q3 (by omega)) q4 ?_ (fun _ _ _ _ => rfl)
      · unfold f_X6_does
        rw [e1, if_neg ne10, e3, if_neg ne10, q1, bd_s, zck hd (by omega), zcl (by omega), q5 d hd]
        rcases locksBy_c h.2.1 hb hd q2 with ⟨hdo, y, hy, e⟩ | ⟨hdo, e⟩
        · rw [e, bd_s, if_pos (znn (show y < 2147483648 by have := hy.1; omega)), yes_t hdo]
        · rw [e, bd_s, if_neg (by decide), yes_f hdo]
      · unfold f_X7_does
        rw [e2, if_neg ne10, e4, if_neg ne10, does_m' h e213 hb hd, bd_s]
        by_cases c : does (M 213) b d
        · rw [yes_t c, if_neg ne10]
        · rw [yes_f c, if_pos rfl]
    · refine same_f0 h (z := -100001) ?_ (fun M' _ => ?_)
      · unfold f_X6_does
        rw [e1, if_neg ne10, e3, if_pos rfl]
        rfl
      · unfold f_X7_does
        rw [e2, if_neg ne10, e4, if_pos rfl]
        rfl
  · refine same_f0 h (z := -100001) ?_ (fun M' _ => ?_)
    · unfold f_X6_does
      rw [e1, if_pos rfl]
      rfl
    · unfold f_X7_does
      rw [e2, if_pos rfl]
      rfl
/-- how many of the first k diagrams do -/
noncomputable def mny (N : Nt) (b : Nat) : Nat → Int32
  | 0 => 0
  | k + 1 => mny N b k + yes (does N b k)
theorem many_l {N : Nt} (hN : WP N) {b : Nat} {M : Mm} (hb : b < 12) (hC : Ch 152 M N b) (hH : Hp M) : ∀ (k n d : Nat), d + k = 2187 → k < n → L_X6_many_30 M n (mny N b d) (nI d) = some (mny N b 2187)
  | _, 0, _, _, h2 => by omega
  | 0, n + 1, d, h1, h2 => by
    rw [L_X6_many_30, if_pos ((zleD (by omega)).mpr (by omega)), show d = 2187 by omega]
  | k + 1, n + 1, d, h1, h2 => by
    have hd : d < 2187 := by omega
    have ih := many_l hN hb hC hH k n (d + 1) (by omega) (by omega)
    rw [mny] at ih
    rw [L_X6_many_30, if_neg (fun q => by have := (zleD (by omega)).mp q; omega), zck hd (by omega), zcl (by omega), hH d hd, nI_s]
    rcases locksBy_c hN hb hd hC with ⟨hdo, y, hy, e⟩ | ⟨hdo, e⟩
    · rw [yes_t hdo] at ih
      rw [e, bd_s, nm_d, if_neg (nI_nn (by have := hy.1; omega))]
      exact ih
    · rw [yes_f hdo, Int32.add_zero] at ih
      rw [e, bd_s, nm_d, if_pos (by decide)]
      exact ih
theorem many_m {M M' : Mm} (h : Inv M) (hM : M' 213 = M 213) {b : Nat} (hb : b < 12) : ∀ (k n d : Nat), d + k = 2187 → k < n → L_X7_many_18 (nI b) M' n (mny (M 213) b d) (nI d) = some (mny (M 213) b 2187)
  | _, 0, _, _, h2 => by omega
  | 0, n + 1, d, h1, h2 => by
    rw [L_X7_many_18, if_pos ((zleD (by omega)).mpr (by omega)), show d = 2187 by omega]
  | k + 1, n + 1, d, h1, h2 => by
    have hd : d < 2187 := by omega
    have ih := many_m h hM hb k n (d + 1) (by omega) (by omega)
    rw [mny] at ih
    rw [L_X7_many_18, if_neg (fun q => by have := (zleD (by omega)).mp q; omega), does_m' h hM hb hd, bd_s, nm_d, nm_d, nI_s]
    by_cases c : does (M 213) b d
    · rw [yes_t c] at ih ⊢
      rw [if_neg ne10]
      exact ih
    · rw [yes_f c] at ih ⊢
      rw [if_pos rfl]
      exact ih
theorem same_many {M : Mm} (h : Inv M) (x1 : Int32) : Same (f_X6_many x1) (f_X7_many x1) M := by
  rcases beat_i x1 with ⟨b, hb, rfl, e1, e2⟩ | ⟨e1, e2⟩
  · obtain ⟨M1, q1, q2, q3, q4, q5⟩ := desk_r h hb
    have e213 : M1 213 = M 213 := fc_c q3 (by omega)
    have h1 := many_l h.2.1 hb q2 q5 2187 FU 0 (by omega) (by unfold FU; omega)
    have h2 := many_m h e213 hb 2187 FU 0 (by omega) (by unfold FU; omega)
    have e0 : mny (M 213) b 0 = 0 := rfl
    rw [nI_00, e0] at h1 h2
    refine same_r h (r := mny (M 213) b 2187) (M1 := M1) (M2 := M1) ?_ (fun c g => fc_c q3 (by omega)) q4 ?_ (fun _ _ _ _ => rfl)
    · unfold f_X6_many
      rw [e1, if_neg ne10, q1, bd_s, h1, bd_s]
    · unfold f_X7_many
      rw [e2, if_neg ne10, h2, bd_s]
  · refine same_f0 h (z := -100001) ?_ (fun M' _ => ?_)
    · unfold f_X6_many
      rw [e1, if_pos rfl]
      rfl
    · unfold f_X7_many
      rw [e2, if_pos rfl]
      rfl
