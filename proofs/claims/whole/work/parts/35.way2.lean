/-! PURE: tellWay of the model -/
/-- r is the least of the first i of l that fit, 2187: none -/
def lfit (l : List (Nat × Nat)) (F : Nat × Nat → Prop) (i r : Nat) : Prop := (r = 2187 ∨ ∃ a ∈ l.take i, F a ∧ a.1 = r) ∧ ∀ a ∈ l.take i, F a → r ≤ a.1
theorem take_s {l : List (Nat × Nat)} {i : Nat} (h : i < l.length) {a : Nat × Nat} : a ∈ l.take (i + 1) ↔ a ∈ l.take i ∨ a = l[i] := by
  rw [List.take_succ_eq_append_getElem h, List.mem_append, List.mem_singleton]
theorem way_79 {M : Mm} {b d v : Nat} (hb : b < 11) (hd : d < 2187) (hw : M 222 b = nI d) (hv : M 218 (2187 * b + d) = nI v) (hv2 : v ≤ 100000) {f : Nat → Pr} (hR : Rw M (b + 1) f) {l : List (Nat × Nat)} (hl : Lst M l) (hz : l.length ≤ 63) (ha : ∀ a ∈ l, a.1 < 2187 ∧ a.2 ≤ 2) :
    ∀ (k n i r : Nat), i + k = l.length → k < n → r ≤ 2187 → lfit l (fun a => a.2 + eC (f a.1).1 = v) i r →
    ∃ r', L_X7_tellWay_79 (nI (b + 1)) M n (nI r) (nI i) = some (nI r') ∧ r' ≤ 2187 ∧ lfit l (fun a => a.2 + eC (f a.1).1 = v) l.length r'
  | _, 0, _, _, _, h2, _, _ => by omega
  | 0, n + 1, i, r, h1, h2, h3, h4 => by
    rw [L_X7_tellWay_79, hl.1]
    simp (disch := omega) only [lit_, zle, zlt, zeq, zad, zmu, zsu, zck, zcl, bd_s, nm_d, if_pos, if_neg]
    have e : i = l.length := by omega
    subst e
    exact ⟨r, rfl, h3, h4⟩
  | k + 1, n + 1, i, r, h1, h2, h3, h4 => by
    have hi : i < l.length := by omega
    have hin := ha l[i] (List.getElem_mem hi)
    obtain ⟨g1, g2⟩ := hl.2 i hi
    obtain ⟨r1, r2⟩ := hR l[i].1 hin.1
    have h5 := eC_l (f l[i].1).1
    rw [L_X7_tellWay_79, hl.1]
    simp (disch := omega) only [lit_, zle, zlt, zeq, zad, zmu, zsu, zck, zcl, bd_s, nm_d, if_pos, if_neg, g1, g2, r1, Nat.add_sub_cancel, hw, hv]
    by_cases c : l[i].2 + eC (f l[i].1).1 = v
    · rw [if_pos c]
      simp (disch := omega) only [lit_, zle, zlt, zeq, zad, zmu, zsu, zck, zcl, bd_s, nm_d, if_pos, if_neg, show ¬ (1 = 0) by decide]
      by_cases c2 : r ≤ l[i].1
      · simp (disch := omega) only [lit_, zle, zlt, zeq, zad, zmu, zsu, zck, zcl, bd_s, nm_d, if_pos, if_neg]
        refine way_79 hb hd hw hv hv2 hR hl hz ha k n (i + 1) r (by omega) (by omega) h3 ⟨?_, ?_⟩
        · rcases h4.1 with q | ⟨a, qa, q⟩
          · exact Or.inl q
          · exact Or.inr ⟨a, (take_s hi).mpr (Or.inl qa), q⟩
        · intro a qa qf
          rcases (take_s hi).mp qa with qa | qa
          · exact h4.2 a qa qf
          · subst qa
            exact c2
      · simp (disch := omega) only [lit_, zle, zlt, zeq, zad, zmu, zsu, zck, zcl, bd_s, nm_d, if_pos, if_neg]
        refine way_79 hb hd hw hv hv2 hR hl hz ha k n (i + 1) l[i].1 (by omega) (by omega) (by omega) ⟨?_, ?_⟩
        · exact Or.inr ⟨l[i], (take_s hi).mpr (Or.inr rfl), c, rfl⟩
        · intro a qa qf
          rcases (take_s hi).mp qa with qa | qa
          · have := h4.2 a qa qf
            omega
          · subst qa
            exact Nat.le_refl _
    · rw [if_neg c]
      simp (disch := omega) only [lit_, zle, zlt, zeq, zad, zmu, zsu, zck, zcl, bd_s, nm_d, if_pos, if_neg]
      refine way_79 hb hd hw hv hv2 hR hl hz ha k n (i + 1) r (by omega) (by omega) h3 ⟨?_, ?_⟩
      · rcases h4.1 with q | ⟨a, qa, q⟩
        · exact Or.inl q
        · exact Or.inr ⟨a, (take_s hi).mpr (Or.inl qa), q⟩
      · intro a qa qf
        rcases (take_s hi).mp qa with qa | qa
        · exact h4.2 a qa qf
        · subst qa
          exact absurd qf c
/-- but for the model's list and way, M' is M -/
def Fw (M M' : Mm) : Prop := ∀ a j, a ≠ 220 → a ≠ 221 → a ≠ 222 → ¬ (a = 212 ∧ j = 11) → M' a j = M a j
theorem fw_c {M M' : Mm} (h : Fw M M') {a : Nat} (h1 : a ≠ 220) (h2 : a ≠ 221) (h3 : a ≠ 222) (h4 : a ≠ 212) : M' a = M a := funext (fun j => h a j h1 h2 h3 (fun q => h4 q.1))
/-- the table's rows, by beats -/
theorem tab_r {N : Nt} {M : Mm} (h : Tab N M) {b : Nat} (hb : b < pl N) : Rw M b (V N (pl N - 1) (pl N - 1 - b)) := by
  have h1 := h (pl N - 1 - b) (by omega)
  rw [show pl N - 1 - (pl N - 1 - b) = b by omega] at h1
  exact h1
theorem tab_f {N : Nt} {M M' : Mm} (h : Tab N M) (h1 : M' 218 = M 218) (h2 : M' 219 = M 219) : Tab N M' := by
  intro i hi d hd
  rw [h1, h2]
  exact h i hi d hd
/-- the way up to beat b stands in the model, and goes on -/
def wUp (N : Nt) (M : Mm) (b : Nat) : Prop := ∃ w : Nat → Nat, (∀ i, i ≤ b → M 222 i = nI (w i)) ∧ lst (fun d => d < 2187 ∧ tot N d = bst N) (w 0) ∧ (∀ i, i + 1 ≤ b → lst (stepP N i (w i)) (w (i + 1))) ∧ w b < 2187 ∧ co N b (w b) < 100000
theorem way_46 {N : Nt} (hN : WP N) : ∀ (k n b : Nat) (M : Mm), b + 1 + k = pl N → k < n → M 213 = N → Tab N M → wUp N M b →
    ∃ M', L_X7_tellWay_46 n (nI (b + 1)) M = some M' ∧ (∃ w, isW N w ∧ ∀ i, i < pl N → M' 222 i = nI (w i)) ∧ Fw M M'
  | _, 0, _, _, _, h2, _, _, _ => by omega
  | 0, n + 1, b, M, h1, h2, h3, h4, h5 => by
    obtain ⟨ep, p1, p2⟩ := wp_pl hN
    rw [L_X7_tellWay_46, h3]
    simp (disch := omega) only [lit_, zle, zlt, zeq, zad, zmu, zsu, zck, zcl, bd_s, nm_d, if_pos, if_neg, ep]
    obtain ⟨w, w1, w2, w3, w4, w5⟩ := h5
    refine ⟨M, rfl, ⟨w, ⟨w2, fun i hi => w3 i (by omega)⟩, fun i hi => w1 i (by omega)⟩, fun _ _ _ _ _ _ => rfl⟩
  | k + 1, n + 1, b, M, h1, h2, h3, h4, h5 => by
    obtain ⟨ep, p1, p2⟩ := wp_pl hN
    obtain ⟨w, w1, w2, w3, w4, w5⟩ := h5
    rw [L_X7_tellWay_46, h3]
    simp (disch := omega) only [lit_, zle, zlt, zeq, zad, zmu, zsu, zck, zcl, bd_s, nm_d, if_pos, if_neg, ep, Nat.add_sub_cancel, w1 b (Nat.le_refl b)]
    obtain ⟨M1, q1, q2, q3⟩ := tellNext_m (M := M) (by rw [h3]; exact hN) (show b < 12 by omega) w4
    rw [h3] at q2
    have hT1 : Tab N M1 := tab_f h4 (fr_c q3 (by decide) (by decide) (by decide)) (fr_c q3 (by decide) (by decide) (by decide))
    have e222 : M1 222 = M 222 := fr_c q3 (by decide) (by decide) (by decide)
    have e213 : M1 213 = M 213 := fr_c q3 (by decide) (by decide) (by decide)
    rw [q1, bd_s]
    have hR := tab_r hT1 (b := b + 1) (by omega)
    have hRb := (tab_r hT1 (b := b) (by omega) (w b) w4).1
    obtain ⟨r, r1, r2, r3⟩ := way_79 (show b < 11 by omega) w4 (by rw [e222]; exact w1 b (Nat.le_refl b)) hRb (eC_l _) hR q2 ops_l (fun a ha => ops_b w4 ha) (ops (lk N b (w b)) (w b)).length FU 0 2187 (by omega) (by have := ops_l (L := lk N b (w b)) (d := w b); unfold FU; omega) (by omega) ⟨Or.inl rfl, fun a ha => by simp at ha⟩
    have e0 : L_X7_tellWay_79 (nI (b + 1)) M1 FU (nI 2187) (nI 0) = some (nI r) := r1
    rw [e0]
    unfold lfit at r3
    rw [List.take_of_length_le (Nat.le_refl _)] at r3
    obtain ⟨f, a0, ha0, e1, e2⟩ := step_e (show b + 1 < pl N by omega) p2 w4 w5
    have hr : lst (stepP N b (w b)) r := by
      have hlt : r < 2187 := by
        have := r3.2 a0 ha0 (by subst e1; exact e2)
        have := (ops_b w4 ha0).1
        omega
      refine ⟨?_, ?_⟩
      · rcases r3.1 with q | ⟨a, qa, qf, qe⟩
        · omega
        · refine ⟨a, qa, qe, ?_⟩
          subst qe
          exact qf
      · intro e ⟨a, qa, qe, qf⟩
        subst qe
        exact r3.2 a qa qf
    simp (disch := omega) only [lit_, zle, zlt, zeq, zad, zmu, zsu, zck, zcl, bd_s, nm_d, if_pos, if_neg]
    obtain ⟨a, qa, qe, qf⟩ := hr.1
    have hrlt : r < 2187 := by rw [← qe]; exact (ops_b w4 qa).1
    have hF : Fw M (mw M1 222 (b + 1) (nI r)) := by
      intro a j g1 g2 g3 g4
      rw [mw_c g3]
      exact q3 a j g1 g2 g4
    obtain ⟨M2, s1, s2, s3⟩ := way_46 hN k n (b + 1) (mw M1 222 (b + 1) (nI r)) (by omega) (by omega) (by rw [mw_c (by decide), e213, h3]) (tab_f hT1 (mw_c (by decide)) (mw_c (by decide))) (by
      refine ⟨fun i => if i = b + 1 then r else w i, ?_, ?_, ?_, ?_, ?_⟩
      · intro i hi
        by_cases c : i = b + 1
        · subst c
          rw [mw_s]
          simp
        · rw [mw_o c, e222]
          simp only [if_neg c]
          exact w1 i (by omega)
      · dsimp only
        rw [if_neg (by omega)]
        exact w2
      · intro i hi
        dsimp only
        by_cases c : i = b
        · subst c
          rw [if_neg (by omega), if_pos rfl]
          exact hr
        · have h9 := w3 i (by omega)
          rw [if_neg (by omega), if_neg (by omega)]
          exact h9
      · simp only [if_true]
        exact hrlt
      · simp only [if_true]
        omega)
    exact ⟨M2, s1, s2, fun a j g1 g2 g3 g4 => (s3 a j g1 g2 g3 g4).trans (hF a j g1 g2 g3 g4)⟩
/-- but for what the model makes of a tell or a way, M' is M -/
def Fy (M M' : Mm) : Prop := ∀ a j, a ≠ 218 → a ≠ 219 → a ≠ 220 → a ≠ 221 → a ≠ 222 → ¬ (a = 212 ∧ j = 11) → M' a j = M a j
theorem tot_f {N : Nt} {d : Nat} (h : tot N d < 100000) : co N 0 d < 100000 := by
  unfold tot at h
  unfold co
  rw [Nat.sub_zero]
  omega
theorem tellWay_m {M : Mm} (h : WP (M 213)) : ∃ M', f_X7_tellWay M = some (nI (bst (M 213)), M') ∧ (bst (M 213) < 100000 → ∃ w, isW (M 213) w ∧ ∀ i, i < pl (M 213) → M' 222 i = nI (w i)) ∧ Fy M M' := by
  obtain ⟨M1, q1, q2, q3⟩ := tell_m h
  obtain ⟨ep, p1, p2⟩ := wp_pl h
  have e3 : M1 213 = M 213 := fm_c q3 (by decide) (by decide) (by decide) (by decide) (by decide)
  have hb : bst (M 213) ≤ 100000 := mnf_b _ _
  unfold f_X7_tellWay
  rw [q1, bd_s]
  show ∃ M', (if nI (bst (M 213)) = (100000 : Int32) then some (nI (bst (M 213)), M1) else _) = _ ∧ _
  by_cases c : bst (M 213) = 100000
  · simp (disch := omega) only [lit_, zle, zlt, zeq, zad, zmu, zsu, zck, zcl, bd_s, nm_d, if_pos, if_neg]
    refine ⟨M1, rfl, fun q => by omega, fun a j g1 g2 g3 g4 g5 g6 => q3 a j g1 g2 g3 g4 g6⟩
  · simp (disch := omega) only [lit_, zle, zlt, zeq, zad, zmu, zsu, zck, zcl, bd_s, nm_d, if_pos, if_neg]
    obtain ⟨t, ht, et⟩ := mnf_g (tot (M 213)) 2187 (show bst (M 213) < 100000 by omega)
    have hR0 := tab_r q2 (b := 0) (by omega)
    rw [Nat.sub_zero] at hR0
    obtain ⟨r, r1, r2⟩ := way_0 (M := M1) (by rw [e3]; exact h) (by rw [e3]; exact hR0) hb ht (by rw [e3]; exact et) 2187 FU 0 (by omega) (by unfold FU; omega) (by omega) (fun s hs => by omega)
    rw [e3] at r2
    have r1' : L_X7_tellWay_15 (nI (mnf (tot (M 213)) 2187), M1) FU (nI 0) = some (nI r) := r1
    rw [r1']
    simp (disch := omega) only [lit_, zle, zlt, zeq, zad, zmu, zsu, zck, zcl, bd_s, nm_d, if_pos, if_neg]
    have hF : Fy M (mw M1 222 0 (nI r)) := by
      intro a j g1 g2 g3 g4 g5 g6
      rw [mw_c g5]
      exact q3 a j g1 g2 g3 g4 g6
    obtain ⟨M2, s1, s2, s3⟩ := way_46 h (pl (M 213) - 1) FU 0 (mw M1 222 0 (nI r)) (by omega) (by unfold FU; omega) (by rw [mw_c (by decide), e3]) (tab_f q2 (mw_c (by decide)) (mw_c (by decide))) (by
      refine ⟨fun _ => r, ?_, r2, fun i hi => by omega, r2.1.1, ?_⟩
      · intro i hi
        have e : i = 0 := by omega
        subst e
        exact mw_s
      · have h9 := r2.1.2
        exact tot_f (show tot (M 213) r < 100000 by omega))
    have s1' : L_X7_tellWay_46 FU (nI 1) (mw M1 222 0 (nI r)) = some M2 := s1
    rw [s1']
    exact ⟨M2, rfl, fun _ => s2, fun a j g1 g2 g3 g4 g5 g6 => (s3 a j g3 g4 g5 g6).trans (hF a j g1 g2 g3 g4 g5 g6)⟩
