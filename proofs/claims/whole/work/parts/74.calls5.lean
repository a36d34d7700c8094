/-! PURE: calls: plain, all -/
theorem pit_eq {s t d : Nat} (hs : s < 42) (ht : t < 42) : Int32.ofInt (pit s d) = Int32.ofInt (pit t d) ↔ pit s d = pit t d := by
  have h1 := pit_b (d := d) hs
  have h2 := pit_b (d := d) ht
  exact oI_eq ⟨by omega, by omega⟩ ⟨by omega, by omega⟩
/-- s is heard already from lo on, below j -/
def hea (d lo s j : Nat) : Prop := ∃ t, lo ≤ t ∧ t < j ∧ pit t d = pit s d
theorem hea_s {d lo s j : Nat} (hj : lo ≤ j) : hea d lo s (j + 1) ↔ hea d lo s j ∨ pit j d = pit s d := by
  constructor
  · intro ⟨t, h1, h2, h3⟩
    by_cases c : t = j
    · rw [c] at h3
      exact Or.inr h3
    · exact Or.inl ⟨t, h1, by omega, h3⟩
  · intro h
    rcases h with ⟨t, h1, h2, h3⟩ | h
    · exact ⟨t, h1, by omega, h3⟩
    · exact ⟨j, hj, by omega, h⟩
theorem dp_18 {M : Mm} (hH : Hp M) {d lo s : Nat} (hd : d < 2187) (hs : s < 42) : ∀ (u n j : Nat), j + u = s → lo ≤ j → u < n → L_X1_differentPitches_18 (nI d) M (nI s) n (yes (hea d lo s j)) (nI j) = some (yes (hea d lo s s))
  | _, 0, _, _, _, h2 => by omega
  | 0, n + 1, j, h1, hl, h2 => by
    rw [L_X1_differentPitches_18, if_pos ((zle (by omega) (by omega)).mpr (by omega)), show j = s by omega]
  | u + 1, n + 1, j, h1, hl, h2 => by
    have ih := dp_18 hH (lo := lo) hd hs u n (j + 1) (by omega) (by omega) (by omega)
    rw [L_X1_differentPitches_18, if_neg (fun q => by have := (zle (by omega) (by omega)).mp q; omega), nI_s]
    by_cases c : hea d lo s j
    · have e1 : yes (hea d lo s (j + 1)) = 1 := yes_t ((hea_s hl).mpr (Or.inl c))
      rw [e1] at ih
      rw [yes_t c, if_neg ne10, bd_s]
      exact ih
    · rw [yes_f c, if_pos rfl, pitchOf_c hH (by omega) hd, bd_s, pitchOf_c hH hs hd, bd_s]
      by_cases c2 : pit j d = pit s d
      · have e1 : yes (hea d lo s (j + 1)) = 1 := yes_t ((hea_s hl).mpr (Or.inr c2))
        rw [e1] at ih
        rw [if_pos ((pit_eq (by omega) hs).mpr c2), bd_s]
        exact ih
      · have e1 : yes (hea d lo s (j + 1)) = 0 := yes_f (fun q => ((hea_s hl).mp q).elim c c2)
        rw [e1] at ih
        rw [if_neg (fun q => c2 ((pit_eq (by omega) hs).mp q)), bd_s]
        exact ih
theorem an_y (p q : Prop) : yes p &&& yes q = yes (p ∧ q) := by
  by_cases c : p
  · by_cases c2 : q
    · rw [yes_t c, yes_t c2, yes_t ⟨c, c2⟩]
      rfl
    · rw [yes_t c, yes_f c2, yes_f (fun r => c2 r.2)]
      rfl
  · by_cases c2 : q
    · rw [yes_f c, yes_t c2, yes_f (fun r => c r.1)]
      rfl
    · rw [yes_f c, yes_f c2, yes_f (fun r => c r.1)]
      rfl
theorem pl_61 {d lo s : Nat} (hd : d < 2187) (hs : s < 42) : ∀ (u n j : Nat), j + u = s → lo ≤ j → u < n → L_X7_plain_61 (nI d) (nI s) n (yes (¬ hea d lo s j)) (nI j) = some (yes (¬ hea d lo s s))
  | _, 0, _, _, _, h2 => by omega
  | 0, n + 1, j, h1, hl, h2 => by
    rw [L_X7_plain_61, if_pos ((zle (by omega) (by omega)).mpr (by omega)), show j = s by omega]
  | u + 1, n + 1, j, h1, hl, h2 => by
    have ih := pl_61 (lo := lo) hd hs u n (j + 1) (by omega) (by omega) (by omega)
    rw [L_X7_plain_61, if_neg (fun q => by have := (zle (by omega) (by omega)).mp q; omega), nI_s, pitchOf_m (by omega) hd, bd_s, pitchOf_m hs hd, bd_s]
    have e1 : (if Int32.ofInt (pit j d) = Int32.ofInt (pit s d) then (0 : Int32) else (1 : Int32)) = yes (¬ pit j d = pit s d) := by
      by_cases c : pit j d = pit s d
      · rw [if_pos ((pit_eq (by omega) hs).mpr c), yes_f (fun q => q c)]
      · rw [if_neg (fun q => c ((pit_eq (by omega) hs).mp q)), yes_t c]
    rw [e1, nm_d, an_y, nm_d]
    have e2 : yes (¬ hea d lo s j ∧ ¬ pit j d = pit s d) = yes (¬ hea d lo s (j + 1)) := yes_i (by rw [hea_s hl, not_or])
    rw [e2]
    exact ih
/-- how many are heard anew, from s on -/
noncomputable def cnP (d lo : Nat) : Nat → Nat → Int32 → Int32
  | 0, _, c => c
  | u + 1, s, c => cnP d lo u (s + 1) (c + yes (¬ hea d lo s s))
theorem dp_6 {M : Mm} (hH : Hp M) {d lo hi : Nat} (hd : d < 2187) (hh : hi < 42) : ∀ (u n s : Nat) (c : Int32), s + u = hi + 1 → lo ≤ s → u < n → L_X1_differentPitches_6 (nI lo) (nI hi) (nI d) M n c (nI s) = some (cnP d lo u s c)
  | _, 0, _, _, _, _, h2 => by omega
  | 0, n + 1, s, c, h1, hl, h2 => by
    rw [L_X1_differentPitches_6, if_pos ((zlt (by omega) (by omega)).mpr (by omega))]
    rfl
  | u + 1, n + 1, s, c, h1, hl, h2 => by
    have h9 := dp_18 hH (lo := lo) hd (show s < 42 by omega) (s - lo) FU lo (by omega) (Nat.le_refl lo) (by unfold FU; omega)
    rw [yes_f (p := hea d lo s lo) (fun ⟨t, g1, g2, _⟩ => by omega)] at h9
    rw [L_X1_differentPitches_6, if_neg (fun q => by have := (zlt (by omega) (by omega)).mp q; omega), h9, bd_s, nm_d, nI_s, cnP]
    by_cases c2 : hea d lo s s
    · rw [yes_t c2, if_neg ne10, yes_f (fun q => q c2), Int32.add_zero]
      exact dp_6 hH hd hh u n (s + 1) c (by omega) (by omega) (by omega)
    · rw [yes_f c2, if_pos rfl, yes_t c2]
      exact dp_6 hH hd hh u n (s + 1) (c + 1) (by omega) (by omega) (by omega)
theorem pl_47 {d lo hi : Nat} (hd : d < 2187) (hh : hi < 42) : ∀ (u n s : Nat) (c : Int32), s + u = hi + 1 → lo ≤ s → u < n → L_X7_plain_47 (nI d) (nI lo) (nI hi) n c (nI s) = some (cnP d lo u s c)
  | _, 0, _, _, _, _, h2 => by omega
  | 0, n + 1, s, c, h1, hl, h2 => by
    rw [L_X7_plain_47, if_pos ((zlt (by omega) (by omega)).mpr (by omega))]
    rfl
  | u + 1, n + 1, s, c, h1, hl, h2 => by
    have h9 := pl_61 (lo := lo) hd (show s < 42 by omega) (s - lo) FU lo (by omega) (Nat.le_refl lo) (by unfold FU; omega)
    rw [yes_t (p := ¬ hea d lo s lo) (fun ⟨t, g1, g2, _⟩ => by omega)] at h9
    rw [L_X7_plain_47, if_neg (fun q => by have := (zlt (by omega) (by omega)).mp q; omega), h9, bd_s, nm_d, nm_d, nI_s, cnP]
    have e1 : (if yes (¬ hea d lo s s) = 0 then (0 : Int32) else (1 : Int32)) = yes (¬ hea d lo s s) := by
      by_cases c2 : hea d lo s s
      · rw [yes_f (fun q => q c2), if_pos rfl]
      · rw [yes_t c2, if_neg ne10]
    rw [e1]
    exact pl_47 hd hh u n (s + 1) _ (by omega) (by omega) (by omega)
theorem jmax_n {a b : Nat} (ha : a < 2147483648) (hb : b < 2147483648) : jmax (nI a) (nI b) = nI (max a b) := by
  unfold jmax
  by_cases c : a < b
  · rw [if_pos ((zlt ha hb).mpr c), Nat.max_eq_right (by omega)]
  · rw [if_neg (fun q => c ((zlt ha hb).mp q)), Nat.max_eq_left (by omega)]
theorem same_plain {M : Mm} (h : Inv M) (x1 x2 x3 : Int32) : Same (f_X6_plain x1 x2 x3) (f_X7_plain x1 x2 x3) M := by
  rcases run_i x1 x2 x3 with ⟨a, b, d, ha, hb, hd, rfl, rfl, rfl, e1, e3, e5, e7⟩ | ⟨e1, e7⟩
  · have q3 : (if nI b ≤ nI a then nI b else nI a) = nI (min a b) := by
      by_cases c : b ≤ a
      · rw [if_pos ((zle (by omega) (by omega)).mpr c), Nat.min_eq_right c]
      · rw [if_neg (fun q => c ((zle (by omega) (by omega)).mp q)), Nat.min_eq_left (by omega)]
    have q8 : (if nI b ≤ nI a then nI a else nI b) = nI (max a b) := by
      by_cases c : b ≤ a
      · rw [if_pos ((zle (by omega) (by omega)).mpr c), Nat.max_eq_left c]
      · rw [if_neg (fun q => c ((zle (by omega) (by omega)).mp q)), Nat.max_eq_right (by omega)]
    have h1 := dp_6 h.1 (lo := min a b) (hi := max a b) hd (by omega) (max a b + 1 - min a b) FU (min a b) 0 (by omega) (Nat.le_refl _) (by unfold FU; omega)
    have h2 := pl_47 (lo := min a b) (hi := max a b) hd (by omega) (max a b + 1 - min a b) FU (min a b) 0 (by omega) (Nat.le_refl _) (by unfold FU; omega)
    refine same_r h (r := cnP d (min a b) (max a b + 1 - min a b) (min a b) 0) (M1 := M) (M2 := M) ?_ (fun _ _ => rfl) h.2.2.2.1 ?_ (fun _ _ _ _ => rfl)
    · unfold f_X6_plain f_X1_differentPitches
      rw [e1, if_neg ne10, e3, if_neg ne10, e5, if_neg ne10, jmin_n (by omega) (by omega), jmax_n (by omega) (by omega), h1, bd_s, bd_s]
    · unfold f_X7_plain
      rw [e7, if_neg ne10, q3, nm_d, q8, nm_d, h2, bd_s]
  · refine same_f0 h (z := -100001) ?_ (fun M' hM => ?_)
    · unfold f_X6_plain
      rcases e1 with e1 | ⟨e1, e3⟩ | ⟨e1, e3, e5⟩
      · rw [e1, if_pos rfl]
        rfl
      · rw [e1, if_neg ne10, e3, if_pos rfl]
        rfl
      · rw [e1, if_neg ne10, e3, if_neg ne10, e5, if_pos rfl]
        rfl
    · unfold f_X7_plain
      rw [e7, if_pos rfl]
      rfl
/-- notes of beats from b on, u of them -/
def nts (N : Nt) : Nat → Nat → Int32 → Int32
  | 0, _, s => s
  | u + 1, b, s => nts N u (b + 1) (s + N (1 + b))
theorem zle12 {a : Nat} (ha : a < 2147483648) : (12 : Int32) ≤ nI a ↔ 12 ≤ a := zle (a := 12) (by omega) ha
theorem cn_l {M : Mm} {N : Nt} (hR : ∀ b, b < 12 → M 4 b = N (1 + b)) : ∀ (u n b : Nat) (s : Int32), b + u = 12 → u < n → L_X3_countNotes_4 3 M n s (nI b) = some (nts N u b s)
  | _, 0, _, _, _, h2 => by omega
  | 0, n + 1, b, s, h1, h2 => by
    rw [L_X3_countNotes_4, if_pos ((zle12 (by omega)).mpr (by omega))]
    rfl
  | u + 1, n + 1, b, s, h1, h2 => by
    have e : M (3 + 1) b = N (1 + b) := hR b (by omega)
    rw [L_X3_countNotes_4, if_neg (fun q => by have := (zle12 (by omega)).mp q; omega), zck (by omega) (by omega), zcl (by omega), e, nm_d, nI_s, cn_l hR u n (b + 1) _ (by omega) (by omega), nts]
theorem cn_m {M : Mm} : ∀ (u n b : Nat) (s : Int32), b + u = 12 → u < n → L_X7_notes_4 M n s (nI b) = some (nts (M 213) u b s)
  | _, 0, _, _, _, h2 => by omega
  | 0, n + 1, b, s, h1, h2 => by
    rw [L_X7_notes_4, if_pos ((zle12 (by omega)).mpr (by omega))]
    rfl
  | u + 1, n + 1, b, s, h1, h2 => by
    have e1 : (1 : Int32) + nI b = nI (1 + b) := zad 1 b
    rw [L_X7_notes_4, if_neg (fun q => by have := (zle12 (by omega)).mp q; omega), e1, zck (by omega) (by omega), zcl (by omega), nm_d, nI_s, cn_m u n (b + 1) _ (by omega) (by omega), nts]
theorem notes_c {M : Mm} {N : Nt} (hR : ∀ b, b < 12 → M 4 b = N (1 + b)) : f_X3_countNotes 3 M = some (nts N 12 0 0) := by
  have h := cn_l hR 12 FU 0 0 (by omega) (by unfold FU; omega)
  rw [nI_00] at h
  unfold f_X3_countNotes
  rw [h, bd_s]
theorem notes_m {M : Mm} : f_X7_notes M = some (nts (M 213) 12 0 0) := by
  have h := cn_m (M := M) 12 FU 0 0 (by omega) (by unfold FU; omega)
  rw [nI_00] at h
  unfold f_X7_notes
  rw [h, bd_s]
/-- marks from place j on, u of them -/
def mks (N : Nt) : Nat → Nat → Int32 → Int32
  | 0, _, s => s
  | u + 1, j, s => mks N u (j + 1) (if N (229 + j) < 0 then s else s + 1)
theorem cm_l {M : Mm} {N : Nt} (hR : ∀ b p, b < 12 → p < 7 → M 8 (7 * b + p) = N (229 + 7 * b + p)) : ∀ (u n j : Nat) (s : Int32), j + u = 84 → u < n → L_X3_countMarks_4 3 M n s (nI j) = some (mks N u j s)
  | _, 0, _, _, _, h2 => by omega
  | 0, n + 1, j, s, h1, h2 => by
    have hl : (84 : Int32) ≤ nI j := (zle (a := 84) (by omega) (by omega)).mpr (by omega)
    rw [L_X3_countMarks_4, if_pos hl]
    rfl
  | u + 1, n + 1, j, s, h1, h2 => by
    have hl : ¬ (84 : Int32) ≤ nI j := fun q => by have := (zle (a := 84) (by omega) (by omega)).mp q; omega
    have e : M (3 + 5) j = N (229 + j) := by
      have h9 := hR (j / 7) (j % 7) (by omega) (by omega)
      rw [show 7 * (j / 7) + j % 7 = j by omega, show 229 + 7 * (j / 7) + j % 7 = 229 + j by omega] at h9
      exact h9
    rw [L_X3_countMarks_4, if_neg hl, zck (by omega) (by omega), zcl (by omega), e, nm_d, nI_s, cm_l hR u n (j + 1) _ (by omega) (by omega), mks]
theorem cm_m {M : Mm} : ∀ (u n j : Nat) (s : Int32), j + u = 84 → u < n → L_X7_all_48 M n s (nI (229 + j)) = some (mks (M 213) u j s)
  | _, 0, _, _, _, h2 => by omega
  | 0, n + 1, j, s, h1, h2 => by
    have hl : (313 : Int32) ≤ nI (229 + j) := (zle (a := 313) (by omega) (by omega)).mpr (by omega)
    rw [L_X7_all_48, if_pos hl]
    rfl
  | u + 1, n + 1, j, s, h1, h2 => by
    have hl : ¬ (313 : Int32) ≤ nI (229 + j) := fun q => by have := (zle (a := 313) (by omega) (by omega)).mp q; omega
    have ih := fun s' => cm_m (M := M) u n (j + 1) s' (by omega) (by omega)
    rw [show 229 + (j + 1) = 229 + j + 1 by omega] at ih
    rw [L_X7_all_48, if_neg hl, zck (by omega) (by omega), zcl (by omega), nm_d, nm_d, nI_s, ih, mks]
    by_cases c : M 213 (229 + j) < 0
    · rw [if_pos c, if_pos c, Int32.add_zero]
    · rw [if_neg c, if_neg c]
theorem same_all {M : Mm} (h : Inv M) (x1 : Int32) : Same (f_X6_all x1) (f_X7_all x1) M := by
  by_cases c0 : x1 = 0
  · subst c0
    refine same_r h (r := M 213 0) (M1 := M) (M2 := M) ?_ (fun _ _ => rfl) h.2.2.2.1 ?_ (fun _ _ _ _ => rfl)
    · unfold f_X6_all
      rw [if_pos rfl, h.2.2.1.1]
    · unfold f_X7_all
      rw [if_pos rfl, ck_t (by decide)]
      rfl
  · by_cases c1 : x1 = 1
    · subst c1
      refine same_r h (r := nts (M 213) 12 0 0) (M1 := M) (M2 := M) ?_ (fun _ _ => rfl) h.2.2.2.1 ?_ (fun _ _ _ _ => rfl)
      · unfold f_X6_all
        rw [if_neg (by decide), if_pos rfl, notes_c h.2.2.1.2.1, bd_s]
      · unfold f_X7_all
        rw [if_neg (by decide), if_pos rfl, notes_m, bd_s]
    · by_cases c2 : x1 = 2
      · subst c2
        have h1 := cm_l h.2.2.1.2.2.2.1 84 FU 0 0 (by omega) (by unfold FU; omega)
        have h2 := cm_m (M := M) 84 FU 0 0 (by omega) (by unfold FU; omega)
        rw [nI_00] at h1
        rw [show nI (229 + 0) = (229 : Int32) from rfl] at h2
        refine same_r h (r := mks (M 213) 84 0 0) (M1 := M) (M2 := M) ?_ (fun _ _ => rfl) h.2.2.2.1 ?_ (fun _ _ _ _ => rfl)
        · unfold f_X6_all f_X3_countMarks
          rw [if_neg (by decide), if_neg (by decide), if_pos rfl, h1, bd_s, bd_s]
        · unfold f_X7_all
          rw [if_neg (by decide), if_neg (by decide), if_pos rfl, h2, bd_s]
      · by_cases c3 : x1 = 3
        · subst c3
          refine same_r h (r := M 0 6) (M1 := M) (M2 := M) ?_ (fun _ _ => rfl) h.2.2.2.1 ?_ (fun _ _ _ _ => rfl)
          · unfold f_X6_all
            rw [if_neg (by decide), if_neg (by decide), if_neg (by decide), if_pos rfl]
          · unfold f_X7_all
            rw [if_neg (by decide), if_neg (by decide), if_neg (by decide), if_pos rfl, h.2.2.2.2.1]
        · refine same_f0 h (z := -100001) ?_ (fun M' hM => ?_)
          · unfold f_X6_all
            rw [if_neg c0, if_neg c1, if_neg c2, if_neg c3]
            rfl
          · unfold f_X7_all
            rw [if_neg c0, if_neg c1, if_neg c2, if_neg c3]
            rfl
