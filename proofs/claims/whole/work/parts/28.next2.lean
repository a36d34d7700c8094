/-! PURE: tellNext of the model -/
theorem next_n {x i : Int32} {n : Nat} {M : Mm} : L_X7_tellNext_59 x i (-1) (n + 1) 0 M = some M := by
  rw [L_X7_tellNext_59, if_neg (by decide), if_pos (by decide)]
theorem opR_l {L : Nat → Prop} {e c : Nat} : ∀ k j : Nat, (opR L e c k j).length ≤ k
  | 0, _ => Nat.le_refl _
  | k + 1, j => by
    rw [opR, List.length_append]
    have := opR_l (L := L) (e := e) (c := c) k (j + 1)
    cases rgt L e j with
    | none => show 0 + _ ≤ _; omega
    | some a => show 1 + _ ≤ _; omega
theorem opL_l {L : Nat → Prop} {d : Nat} : ∀ k i : Nat, (opL L d k i).length ≤ 9 * k
  | 0, _ => Nat.le_refl _
  | k + 1, i => by
    rw [opL, List.length_append]
    have := opL_l (L := L) (d := d) k (i + 1)
    cases lft L d i with
    | none => show 0 + _ ≤ _; omega
    | some a =>
      have h2 := opR_l (L := L) (e := a.1) (c := a.2) 9 0
      show (opR L a.1 a.2 9 0).length + _ ≤ _
      omega
theorem next_o {x : Int32} {L : Nat → Prop} (hL : ∀ p, p < 7 → (bi x p ↔ L p)) {d : Nat} (hd : d < 2187) : ∀ (k n i : Nat) (M : Mm) (l : List (Nat × Nat)), i + k = 7 → k < n → l.length + 9 * k ≤ 63 → Lst M l →
    ∃ M', L_X7_tellNext_15 (nI d) x n (nI i) M = some M' ∧ Lst M' (l ++ opL L d k i) ∧ Fr M M'
  | _, 0, _, _, _, _, h2, _, _ => by omega
  | 0, n + 1, i, M, l, h1, h2, h3, h4 => by
    rw [L_X7_tellNext_15, if_pos (by rw [k7, oI_n, oI_le ⟨by omega, by omega⟩ ⟨by omega, by omega⟩]; omega)]
    refine ⟨M, rfl, ?_, fr_r M⟩
    rw [opL, List.append_nil]
    exact h4
  | k + 1, n + 1, i, M, l, h1, h2, h3, h4 => by
    rw [L_X7_tellNext_15, if_neg (by rw [k7, oI_n, oI_le ⟨by omega, by omega⟩ ⟨by omega, by omega⟩]; omega), lft_m hL hd (by omega), bd_s, nI_s, opL]
    cases er : lft L d i with
    | none =>
      show ∃ M', Option.bind (L_X7_tellNext_59 x (nI i) (-1) (9999 + 1) 0 M) _ = _ ∧ _
      rw [next_n, bd_s]
      exact next_o hL hd k n (i + 1) M l (by omega) (by omega) (by omega) h4
    | some a =>
      obtain ⟨hb1, hb2⟩ := lft_b hd (by omega) er
      obtain ⟨M1, q1, q2, q3⟩ := next_i hL (show i < 7 by omega) hb1 hb2 9 FU 0 M l (by omega) (by unfold FU; omega) (by omega) h4
      show ∃ M', Option.bind (L_X7_tellNext_59 x (nI i) (nI a.1) FU (nI 0) M) _ = _ ∧ _
      rw [q1, bd_s]
      have hl := opR_l (L := L) (e := a.1) (c := a.2) 9 0
      obtain ⟨M2, r1, r2, r3⟩ := next_o hL hd k n (i + 1) M1 _ (by omega) (by omega) (by rw [List.length_append]; omega) q2
      refine ⟨M2, r1, ?_, fr_t q3 r3⟩
      rw [← List.append_assoc]
      exact r2
theorem tellNext_m {M : Mm} (h : WP (M 213)) {b d : Nat} (hb : b < 12) (hd : d < 2187) : ∃ M', f_X7_tellNext (nI b) (nI d) M = some M' ∧ Lst M' (ops (lk (M 213) b d) d) ∧ Fr M M' := by
  obtain ⟨y, ey, hy⟩ := ringing_m h hb hd
  unfold f_X7_tellNext
  rw [ey, bd_s, nm_d]
  obtain ⟨M2, r1, r2, r3⟩ := next_o hy hd 7 FU 0 (mw M 212 11 0) [] (by omega) (by unfold FU; omega) (by show 0 + 63 ≤ 63; omega) ⟨mw_s, fun i hi => absurd hi (Nat.not_lt_zero i)⟩
  refine ⟨M2, ?_, r2, fr_t ?_ r3⟩
  · show Option.bind (L_X7_tellNext_15 (nI d) y FU (nI 0) _) _ = _
    rw [r1, bd_s]
  · intro a j h1 h2 h3
    rw [mw_at, if_neg h3]
/-- every option is a diagram, at most two moves away -/
theorem opR_b {L : Nat → Prop} {e c : Nat} (he : e < 2187) : ∀ k j : Nat, j + k ≤ 9 → ∀ a ∈ opR L e c k j, a.1 < 2187 ∧ a.2 ≤ c + 1
  | 0, _, _ => fun a ha => by cases ha
  | k + 1, j, hj => fun a ha => by
    rw [opR, List.mem_append] at ha
    rcases ha with ha | ha
    · cases er : rgt L e j with
      | none =>
        rw [er] at ha
        cases ha
      | some q =>
        obtain ⟨h1, h2⟩ := rgt_b he (by omega) er
        rw [er] at ha
        have ha' : a = (q.1, c + q.2) := List.mem_singleton.mp ha
        subst ha'
        refine ⟨h1, ?_⟩
        show c + q.2 ≤ c + 1
        rw [h2]
        split <;> omega
    · exact opR_b he k (j + 1) (by omega) a ha
theorem opL_b {L : Nat → Prop} {d : Nat} (hd : d < 2187) : ∀ k i : Nat, i + k ≤ 7 → ∀ a ∈ opL L d k i, a.1 < 2187 ∧ a.2 ≤ 2
  | 0, _, _ => fun a ha => by cases ha
  | k + 1, i, hi => fun a ha => by
    rw [opL, List.mem_append] at ha
    rcases ha with ha | ha
    · cases er : lft L d i with
      | none =>
        rw [er] at ha
        cases ha
      | some q =>
        obtain ⟨h1, h2⟩ := lft_b hd (by omega) er
        rw [er] at ha
        have h3 := opR_b h1 9 0 (by omega) a ha
        refine ⟨h3.1, ?_⟩
        have h4 : q.2 ≤ 1 := by
          rw [h2]
          split <;> omega
        omega
    · exact opL_b hd k (i + 1) (by omega) a ha
theorem ops_b {L : Nat → Prop} {d : Nat} (hd : d < 2187) {a : Nat × Nat} (ha : a ∈ ops L d) : a.1 < 2187 ∧ a.2 ≤ 2 := opL_b hd 7 0 (by omega) a ha
theorem ops_l {L : Nat → Prop} {d : Nat} : (ops L d).length ≤ 63 := opL_l 7 0
/-- to stay is an option -/
theorem ops_0 {L : Nat → Prop} {d : Nat} : (d, 0) ∈ ops L d := by
  unfold ops
  rw [opL, List.mem_append]
  left
  show (d, 0) ∈ opR L d 0 9 0
  rw [opR, List.mem_append]
  left
  exact List.mem_singleton.mpr rfl
