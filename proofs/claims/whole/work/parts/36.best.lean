/-! PURE: the best price of all; ways of the model -/
/-- the sum of the first k prices of g -/
def bsn (g : Nat → Pr) : Nat → Pr
  | 0 => top
  | k + 1 => bt (bsn g k) (g k)
/-- the price of all ways that are at d at the first beat -/
noncomputable def tp (N : Nt) (d : Nat) : Pr := sh (ahd N d) (V N (pl N - 1) (pl N - 1) d)
noncomputable def BP (N : Nt) : Pr := bsn (tp N) 2187
theorem bt_1 (a b : Pr) : (bt a b).1 = min a.1 b.1 := by
  rcases Nat.lt_trichotomy a.1 b.1 with h | h | h
  · rw [bt_l h, Nat.min_eq_left (by omega)]
  · rw [bt_e h]
    show a.1 = _
    rw [h, Nat.min_self]
  · rw [bt_r h, Nat.min_eq_right (by omega)]
theorem bsn_1 (g : Nat → Pr) : ∀ k, (bsn g k).1 ≤ 63
  | 0 => Nat.le_refl _
  | k + 1 => by
    have := bsn_1 g k
    rw [bsn, bt_1]
    omega
theorem okP_1 {m : Nat} (hm : m ≤ 63) {p : Pr} (h : okP m p) : p.1 ≤ 63 := by
  rcases h with h | h
  · rw [h]
    exact Nat.le_refl _
  · omega
theorem eC_mn {w v a : Nat} (h2 : w ≤ 63) (h6 : v = 63 ∨ v ≤ 24) (h4 : a = 63 ∨ a ≤ 2) : min (eC w) (eC a + eC v) = eC (min w (v + a)) := by
  have hw := eC_l w
  rcases h6 with h6 | h6
  · subst h6
    rw [eC_t, Nat.min_eq_left (by omega), Nat.min_eq_left (by omega)]
  · rcases h4 with h4 | h4
    · subst h4
      rw [eC_t, Nat.min_eq_left (by omega), Nat.min_eq_left (by omega)]
    · rw [eC_f (c := a) (by omega), eC_f (c := v) (by omega)]
      by_cases c : w = 63
      · subst c
        rw [eC_t, Nat.min_eq_right (by omega), Nat.min_eq_right (by omega), eC_f (by omega)]
        omega
      · rw [eC_f (c := w) (by omega), eC_f (by omega)]
        omega
theorem bst_l {N : Nt} (hp : pl N ≤ 12) : ∀ k, k ≤ 2187 → mnf (tot N) k = eC (bsn (tp N) k).1
  | 0, _ => rfl
  | k + 1, hk => by
    have h1 := bst_l hp k (by omega)
    have h2 := bsn_1 (tp N) k
    have h3 := okP_1 (by omega) (V_ok (N := N) (e := pl N - 1) (pl N - 1) k (by omega) (by omega))
    have h5 := V_ok (N := N) (e := pl N - 1) (pl N - 1) k (by omega) (by omega)
    have h4 := ahd_b N k
    rw [mnf, bsn, bt_1, h1]
    have e : (tp N k).1 = (V N (pl N - 1) (pl N - 1) k).1 + ahd N k := rfl
    have e2 : tot N k = eC (ahd N k) + eC (V N (pl N - 1) (pl N - 1) k).1 := rfl
    rw [e, e2]
    have h6 : (V N (pl N - 1) (pl N - 1) k).1 = 63 ∨ (V N (pl N - 1) (pl N - 1) k).1 ≤ 24 := by
      rcases h5 with h | h
      · left
        rw [h]
        rfl
      · right
        omega
    exact eC_mn h2 h6 h4
theorem bst_BP {N : Nt} (hp : pl N ≤ 12) : bst N = eC (BP N).1 := bst_l hp 2187 (Nat.le_refl _)
/-- those of the first k prices that have v moves, together -/
def cnt (g : Nat → Pr) (v : Nat) : Nat → Nat
  | 0 => 0
  | k + 1 => min (cnt g v k + (if (g k).1 = v then (g k).2 else 0)) 1000000
theorem cnt_e {g : Nat → Pr} {v : Nat} (hg : ∀ k, (g k).2 ≤ 1000000) : ∀ k, v ≤ (bsn g k).1 → cnt g v k = (if (bsn g k).1 = v then (bsn g k).2 else 0) ∧ (bsn g k).2 ≤ 1000000
  | 0, h => by
    refine ⟨?_, Nat.zero_le _⟩
    show 0 = if top.1 = v then 0 else 0
    split <;> rfl
  | k + 1, h => by
    rw [bsn, bt_1] at h
    obtain ⟨h1, h2⟩ := cnt_e (v := v) hg k (by omega)
    have h3 := hg k
    rw [cnt, h1, bsn]
    rcases Nat.lt_trichotomy (bsn g k).1 (g k).1 with c | c | c
    · rw [bt_l c]
      refine ⟨?_, h2⟩
      rw [if_neg (show ¬ (g k).1 = v by omega)]
      split <;> omega
    · rw [bt_e c, c]
      refine ⟨?_, by show min _ _ ≤ _; omega⟩
      show _ = if (g k).1 = v then min ((bsn g k).2 + (g k).2) 1000000 else 0
      split <;> omega
    · rw [bt_r c]
      refine ⟨?_, h3⟩
      rw [if_neg (show ¬ (bsn g k).1 = v by omega)]
      split <;> omega
theorem V_2 {N : Nt} {e k d : Nat} (hk : k < 12) (hd : d < 2187) : (V N e k d).2 ≤ 1000000 := (eC_b (V_ok (N := N) (e := e) k d hk hd) (by omega)).2
/-- tp, only of diagrams -/
noncomputable def tq (N : Nt) (d : Nat) : Pr := if d < 2187 then tp N d else top
theorem bsn_c {f g : Nat → Pr} : ∀ k, (∀ i, i < k → f i = g i) → bsn f k = bsn g k
  | 0, _ => rfl
  | k + 1, h => by rw [bsn, bsn, bsn_c k (fun i hi => h i (by omega)), h k (by omega)]
theorem ways_l {M : Mm} (h : WP (M 213)) (hR : Rw M 0 (V (M 213) (pl (M 213) - 1) (pl (M 213) - 1))) {v : Nat} (hv : v < 63) : ∀ k n d : Nat, d + k = 2187 → k < n → L_X7_ways_22 (nI v, M) n (nI (cnt (tq (M 213)) v d)) (nI d) = some (nI (cnt (tq (M 213)) v 2187))
  | _, 0, _, _, h2 => by omega
  | 0, n + 1, d, h1, h2 => by
    have e : d = 2187 := by omega
    subst e
    rw [L_X7_ways_22]
    simp (disch := omega) only [lit_, zle, zlt, zeq, zad, zmu, zsu, zck, zcl, bd_s, nm_d, if_pos, if_neg]
  | k + 1, n + 1, d, h1, h2 => by
    obtain ⟨ep, p1, p2⟩ := wp_pl h
    have r := (hR d (by omega)).1
    have r2 := (hR d (by omega)).2
    rw [Nat.mul_zero, Nat.zero_add] at r r2
    have h5 := eC_l (ahd (M 213) d)
    have h6 := eC_l (V (M 213) (pl (M 213) - 1) (pl (M 213) - 1) d).1
    have h7 := V_2 (N := M 213) (e := pl (M 213) - 1) (k := pl (M 213) - 1) (d := d) (by omega) (by omega)
    have h8 : cnt (tq (M 213)) v d ≤ 1000000 := by
      cases d with
      | zero => exact Nat.zero_le _
      | succ d => rw [cnt]; omega
    have h9 := ahd_b (M 213) d
    have h10 := V_ok (N := M 213) (e := pl (M 213) - 1) (pl (M 213) - 1) d (by omega) (by omega)
    have h6' : (V (M 213) (pl (M 213) - 1) (pl (M 213) - 1) d).1 = 63 ∨ (V (M 213) (pl (M 213) - 1) (pl (M 213) - 1) d).1 ≤ 24 := by
      rcases h10 with h | h
      · left
        rw [h]
        rfl
      · right
        omega
    rw [L_X7_ways_22]
    dsimp only
    rw [ahead_m h (by omega)]
    simp (disch := omega) only [lit_, zle, zlt, zeq, zad, zmu, zsu, zck, zcl, bd_s, nm_d, if_pos, if_neg, r, r2]
    have e1 : (eC (ahd (M 213) d) + eC (V (M 213) (pl (M 213) - 1) (pl (M 213) - 1) d).1 = v) ↔ ((tq (M 213) d).1 = v) := by
      unfold tq tp sh
      rw [if_pos (show d < 2187 by omega)]
      dsimp only
      unfold eC
      repeat' split
      all_goals omega
    have e2 : (tq (M 213) d).2 = (V (M 213) (pl (M 213) - 1) (pl (M 213) - 1) d).2 := by
      unfold tq tp sh
      rw [if_pos (show d < 2187 by omega)]
    have e3 : (if eC (ahd (M 213) d) + eC (V (M 213) (pl (M 213) - 1) (pl (M 213) - 1) d).1 = v then some (nI (V (M 213) (pl (M 213) - 1) (pl (M 213) - 1) d).2) else some (nI 0)) = some (nI (if (tq (M 213) d).1 = v then (tq (M 213) d).2 else 0)) := by
      by_cases c : (tq (M 213) d).1 = v
      · rw [if_pos (e1.mpr c), if_pos c, e2]
      · rw [if_neg (fun q => c (e1.mp q)), if_neg c]
    rw [e3]
    have h11 : (if (tq (M 213) d).1 = v then (tq (M 213) d).2 else 0) ≤ 1000000 := by
      rw [e2]
      split <;> omega
    have e5 : (if nI (cnt (tq (M 213)) v d + (if (tq (M 213) d).1 = v then (tq (M 213) d).2 else 0)) ≤ nI 1000000 then nI (cnt (tq (M 213)) v d + (if (tq (M 213) d).1 = v then (tq (M 213) d).2 else 0)) else nI 1000000) = nI (cnt (tq (M 213)) v (d + 1)) := by
      rw [cnt]
      generalize (if (tq (M 213) d).1 = v then (tq (M 213) d).2 else 0) = u at *
      simp (disch := omega) only [lit_, zle, zlt, zeq, zad, zmu, zsu, zck, zcl, bd_s, nm_d]
      by_cases c : cnt (tq (M 213)) v d + u ≤ 1000000
      · rw [if_pos c, Nat.min_eq_left c]
      · rw [if_neg c, Nat.min_eq_right (by omega)]
    simp only [bd_s, nm_d, zad]
    rw [e5]
    exact ways_l h hR hv k n (d + 1) (by omega) (by omega)
theorem f7_ways {M : Mm} (h : WP (M 213)) : ∃ M', f_X7_ways M = some (if (BP (M 213)).1 < 63 then (nI (BP (M 213)).2, M') else f_X7_finding (-100006) M') ∧ Fm M M' := by
  obtain ⟨M1, q1, q2, q3⟩ := tell_m h
  obtain ⟨ep, p1, p2⟩ := wp_pl h
  have e3 : M1 213 = M 213 := fm_c q3 (by decide) (by decide) (by decide) (by decide) (by decide)
  have hb : mnf (tot (M 213)) 2187 = eC (BP (M 213)).1 := bst_BP p2
  have hb1 : (BP (M 213)).1 ≤ 63 := bsn_1 _ _
  have hb2 := eC_l (BP (M 213)).1
  unfold f_X7_ways
  rw [q1, bd_s, hb]
  dsimp only
  refine ⟨M1, ?_, q3⟩
  by_cases c : (BP (M 213)).1 < 63
  · rw [if_pos c, eC_f c]
    simp (disch := omega) only [lit_, zle, zlt, zeq, zad, zmu, zsu, zck, zcl, bd_s, nm_d, if_pos, if_neg]
    have hR0 := tab_r q2 (b := 0) (by omega)
    rw [Nat.sub_zero] at hR0
    have e9 := ways_l (M := M1) (by rw [e3]; exact h) (by rw [e3]; exact hR0) c 2187 FU 0 (by omega) (by unfold FU; omega)
    have e9' : L_X7_ways_22 (nI (BP (M 213)).1, M1) FU (nI 0) (nI 0) = some (nI (cnt (tq (M1 213)) (BP (M 213)).1 2187)) := e9
    rw [e9', e3]
    have e10 : bsn (tq (M 213)) 2187 = BP (M 213) := bsn_c 2187 (fun i hi => if_pos hi)
    have e8 := (cnt_e (g := tq (M 213)) (v := (BP (M 213)).1) (fun k => by
      unfold tq
      split
      · exact V_2 (by omega) (by omega)
      · decide) 2187 (by rw [e10]; exact Nat.le_refl _)).1
    rw [e8, e10, if_pos rfl, bd_s]
  · have e : (BP (M 213)).1 = 63 := by omega
    rw [if_neg c, e]
    rfl
