/-! PURE: leastNext of the class -/
/-- r is the least of T, 2187: none -/
def lc (T : Nat → Prop) (r : Nat) : Prop := lst (fun v => v = 2187 ∨ T v) r
theorem lc_le {T : Nat → Prop} {r : Nat} (h : lc T r) : r ≤ 2187 := h.2 2187 (Or.inl rfl)
theorem lc_c {T T' : Nat → Prop} {r : Nat} (h : lc T r) (hc : ∀ v, T v ↔ T' v) : lc T' r := by
  have e : T = T' := funext (fun v => propext (hc v))
  rw [← e]
  exact h
theorem lc_no {T : Nat → Prop} {Q : Prop} {r e : Nat} (h : lc T r) (hq : r ≤ e ∨ ¬ Q) : lc (fun v => T v ∨ (v = e ∧ Q)) r := by
  refine ⟨?_, fun v hv => ?_⟩
  · rcases h.1 with q | q
    · exact Or.inl q
    · exact Or.inr (Or.inl q)
  · rcases hv with q | q | ⟨q1, q2⟩
    · exact h.2 v (Or.inl q)
    · exact h.2 v (Or.inr q)
    · rcases hq with q | q
      · omega
      · exact absurd q2 q
theorem lc_yes {T : Nat → Prop} {Q : Prop} {r e : Nat} (h : lc T r) (he : e < r) (hq : Q) : lc (fun v => T v ∨ (v = e ∧ Q)) e := by
  refine ⟨Or.inr (Or.inr ⟨rfl, hq⟩), fun v hv => ?_⟩
  rcases hv with q | q | ⟨q1, q2⟩
  · have := h.2 v (Or.inl q)
    omega
  · have := h.2 v (Or.inr q)
    omega
  · omega
/-- 1 from the second on -/
def frm (i : Nat) : Nat := if i = 0 then 0 else 1
theorem fm_k {i : Nat} (hi : i < 100) : (if nI i ≤ 0 then (0 : Int32) else (1 : Int32)) = nI (frm i) := by
  unfold frm
  by_cases c : i = 0
  · rw [if_pos (by rw [c]; decide), if_pos c]
    rfl
  · rw [if_neg (fun q => by have := (zle (b := 0) (by omega) (by omega)).mp q; omega), if_neg c]
    rfl
theorem fm_b (i : Nat) : frm i ≤ 1 := by
  unfold frm
  split <;> omega
theorem nx_104 {b due i m : Nat} {M : Mm} {f : Nat → Pr} (hb : b < 11) (hi : i < 100) (hR : Row (173 + b) M f) (hm : m ≤ 40) (hf : okR m f) (hdue : due ≤ 100) {l : List Nat} (hl : Ls 202 M l) (hz : l.length ≤ 21) (hlt : ∀ e ∈ l, e < 2187) : ∀ (k n j r : Nat) (T : Nat → Prop), j + k = l.length → k < n → lc T r →
    ∃ r', L_X5_leastNext_104 (nI b) (nI due) (nI i) (nI l.length, M) n (nI r) (nI j) = some (nI r') ∧ lc (fun v => T v ∨ ∃ t, j ≤ t ∧ ∃ h : t < l.length, v = l[t] ∧ frm i + frm t + (f v).1 = due) r'
  | _, 0, _, _, _, _, h2, _ => by omega
  | 0, n + 1, j, r, T, h1, h2, h3 => by
    rw [L_X5_leastNext_104, show ((nI l.length, M) : Int32 × Mm).1 = nI l.length from rfl, if_pos ((zle (by omega) (by omega)).mpr (by omega))]
    refine ⟨r, rfl, lc_c h3 (fun v => ⟨Or.inl, fun q => q.elim id (fun ⟨t, h4, h5, _⟩ => by omega)⟩)⟩
  | k + 1, n + 1, j, r, T, h1, h2, h3 => by
    have hj : j < l.length := by omega
    have he := hlt l[j] (List.getElem_mem hj)
    have hr := lc_le h3
    have b1 := fm_b i
    have b2 := fm_b j
    have hfe := okP_1 (show m ≤ 63 by omega) (hf l[j] he)
    have er : 172 + (b + 1) = 173 + b := by omega
    rw [L_X5_leastNext_104, show ((nI l.length, M) : Int32 × Mm).1 = nI l.length from rfl, show ((nI l.length, M) : Int32 × Mm).2 = M from rfl, if_neg (fun q => by have := (zle (by omega) (by omega)).mp q; omega), zck (by omega) (by omega), zcl (show j < 2147483648 by omega), hl j hj, nm_d, fm_k hi, nm_d, fm_k (show j < 100 by omega), nm_d, zad, nm_d, nI_s, nI_s, zck (show b + 1 < 12 by omega) (by omega), zck he (by omega), zcl (show l[j] < 2147483648 by omega), zcl (show b + 1 < 2147483648 by omega), er, hR _ he, enc_s (okP_E hm (hf _ he)), zad]
    have hnext : ∀ r2 : Nat, lc (fun v => T v ∨ (v = l[j] ∧ frm i + frm j + (f l[j]).1 = due)) r2 → ∃ r', L_X5_leastNext_104 (nI b) (nI due) (nI i) (nI l.length, M) n (nI r2) (nI (j + 1)) = some (nI r') ∧ lc (fun v => T v ∨ ∃ t, j ≤ t ∧ ∃ h : t < l.length, v = l[t] ∧ frm i + frm t + (f v).1 = due) r' := fun r2 hr2 => by
      obtain ⟨r', q1, q2⟩ := nx_104 hb hi hR hm hf hdue hl hz hlt k n (j + 1) r2 _ (by omega) (by omega) hr2
      refine ⟨r', q1, lc_c q2 (fun v => ?_)⟩
      constructor
      · intro q
        rcases q with (q | ⟨q1, q2⟩) | ⟨t, q1, q2, q3⟩
        · exact Or.inl q
        · subst q1
          exact Or.inr ⟨j, Nat.le_refl j, hj, rfl, q2⟩
        · exact Or.inr ⟨t, by omega, q2, q3⟩
      · intro q
        rcases q with q | ⟨t, q1, q2, q3, q4⟩
        · exact Or.inl (Or.inl q)
        · by_cases c : t = j
          · subst c
            subst q3
            exact Or.inl (Or.inr ⟨rfl, q4⟩)
          · exact Or.inr ⟨t, by omega, q2, q3, q4⟩
    by_cases c : r ≤ l[j]
    · rw [if_pos ((zle (by omega) (by omega)).mpr c), bd_s]
      exact hnext r (lc_no h3 (Or.inl c))
    · rw [if_neg (fun q => c ((zle (by omega) (by omega)).mp q))]
      by_cases c2 : frm i + frm j + (f l[j]).1 = due
      · rw [if_pos (congrArg nI c2), bd_s]
        exact hnext l[j] (lc_yes h3 (by omega) c2)
      · rw [if_neg (fun q => c2 ((zeq (by omega) (by omega)).mp q)), bd_s]
        exact hnext r (lc_no h3 (Or.inr c2))
/-- what is reached from x, in the order of the class's list -/
theorem ls_st {L : Nat → Prop} {F : List Nat} {P : Nat → Prop} (hP : ∀ d, fl nL d (fr P 7 0) = fl L d F) {x v c : Nat} : (∃ t, 0 ≤ t ∧ ∃ h : t < (x :: rl P x 7 0).length, v = (x :: rl P x 7 0)[t] ∧ frm t = c) ↔ st L F x v c := by
  have e9 : v ∈ rl P x 7 0 ↔ v ∈ fl L x F := by
    rw [← hP x]
    exact (rl_perm 7 0).mem_iff
  constructor
  · intro ⟨t, _, h, h1, h2⟩
    cases t with
    | zero => exact Or.inl ⟨h2.symm, h1⟩
    | succ t =>
      right
      refine ⟨h2.symm, e9.mp ?_⟩
      rw [h1]
      exact List.getElem_mem (by have h9 : t + 1 < (rl P x 7 0).length + 1 := h; omega)
  · intro h
    rcases h with ⟨h1, h2⟩ | ⟨h1, h2⟩
    · exact ⟨0, Nat.le_refl 0, by show 0 < _ + 1; omega, h2, h1.symm⟩
    · obtain ⟨t, ht, e⟩ := List.getElem_of_mem (e9.mpr h2)
      exact ⟨t + 1, Nat.zero_le _, by show t + 1 < _ + 1; omega, e.symm, h1.symm⟩
theorem nx_71 {b due m : Nat} {x y : Int32} {L : Nat → Prop} {f : Nat → Pr} (hb : b < 11) (hy : (60 : Int32) &&& (y ^^^ (-1 : Int32)) = x) (hx : ∀ p, p < 7 → (bi x p ↔ PR L p)) (hm : m ≤ 40) (hf : okR m f) (hdue : due ≤ 100) {l : List Nat} (hz : l.length ≤ 21) (hlt : ∀ e ∈ l, e < 2187) {q : Int32 × Mm} (hq : q.1 = nI l.length) : ∀ (k n i r : Nat) (T : Nat → Prop) (M : Mm), i + k = l.length → k < n → Hp M → Row (173 + b) M f → Ls 201 M l → lc T r →
    ∃ M' r', L_X5_leastNext_71 (nI b) y (nI due) q n (nI r) (nI i) M = some (nI r', M') ∧ lc (fun v => T v ∨ ∃ t, i ≤ t ∧ ∃ h : t < l.length, ∃ c2, st L fR l[t] v c2 ∧ frm t + c2 + (f v).1 = due) r' ∧ F1 202 M M'
  | _, 0, _, _, _, _, _, h2, _, _, _, _ => by omega
  | 0, n + 1, i, r, T, M, h1, h2, h3, h4, h5, h6 => by
    rw [L_X5_leastNext_71, hq, if_pos ((zle (by omega) (by omega)).mpr (by omega))]
    refine ⟨M, r, rfl, lc_c h6 (fun v => ⟨Or.inl, fun q => q.elim id (fun ⟨t, h4, h5, _⟩ => by omega)⟩), f1_r 202 M⟩
  | k + 1, n + 1, i, r, T, M, h1, h2, h3, h4, h5, h6 => by
    have hi : i < l.length := by omega
    have he := hlt l[i] (List.getElem_mem hi)
    obtain ⟨M1, q1, q2, q3⟩ := reach_c (a := 202) h3 (by decide) hx he
    have hz1 := rl_l (P := PR L) (d := l[i]) 7 0
    have hR1 : Row (173 + b) M1 f := fun d hd => by rw [q3 (173 + b) (by omega)]; exact h4 d hd
    obtain ⟨r1, s1, s2⟩ := nx_104 (due := due) (i := i) hb (by omega) hR1 hm hf hdue q2 (by show (rl (PR L) l[i] 7 0).length + 1 ≤ 21; omega) (fun e he' => by
      rcases List.mem_cons.mp he' with h | h
      · rw [h]
        exact he
      · exact rl_lt he 7 0 (by omega) h) (l[i] :: rl (PR L) l[i] 7 0).length FU 0 r T (by omega) (by show (rl (PR L) l[i] 7 0).length + 1 < FU; unfold FU; omega) h6
    have s1' : L_X5_leastNext_104 (nI b) (nI due) (nI i) (nI (l[i] :: rl (PR L) l[i] 7 0).length, M1) FU (nI r) (0 : Int32) = some (nI r1) := s1
    rw [L_X5_leastNext_71, hq, if_neg (fun q => by have := (zle (by omega) (by omega)).mp q; omega), zck (by omega) (by omega), zcl (show i < 2147483648 by omega), h5 i hi, hy, q1, bd_s, s1', bd_s, nI_s]
    dsimp only
    obtain ⟨M2, r2, t1, t2, t3⟩ := nx_71 hb hy hx hm hf hdue hz hlt hq k n (i + 1) r1 _ M1 (by omega) (by omega) (fun d hd => by rw [q3 2 (by decide)]; exact h3 d hd) hR1 (fun j hj => by rw [q3 201 (by decide)]; exact h5 j hj) s2
    refine ⟨M2, r2, t1, lc_c t2 (fun v => ?_), f1_t q3 t3⟩
    have hst : (∃ t, 0 ≤ t ∧ ∃ h : t < (l[i] :: rl (PR L) l[i] 7 0).length, v = (l[i] :: rl (PR L) l[i] 7 0)[t] ∧ frm i + frm t + (f v).1 = due) ↔ ∃ c2, st L fR l[i] v c2 ∧ frm i + c2 + (f v).1 = due := by
      constructor
      · intro ⟨t, g0, g1, g2, g3⟩
        exact ⟨frm t, (ls_st (fun d => fr_R)).mp ⟨t, g0, g1, g2, rfl⟩, g3⟩
      · intro ⟨c2, g1, g2⟩
        obtain ⟨t, g0, g3, g4, g5⟩ := (ls_st (fun d => fr_R)).mpr g1
        exact ⟨t, g0, g3, g4, by rw [g5]; exact g2⟩
    rw [hst]
    constructor
    · intro g
      rcases g with (g | ⟨c2, g1, g2⟩) | ⟨t, g1, g2, g3⟩
      · exact Or.inl g
      · exact Or.inr ⟨i, Nat.le_refl i, hi, c2, g1, g2⟩
      · exact Or.inr ⟨t, by omega, g2, g3⟩
    · intro g
      rcases g with g | ⟨t, g1, g2, c2, g3, g4⟩
      · exact Or.inl (Or.inl g)
      · by_cases c : t = i
        · subst c
          exact Or.inl (Or.inr ⟨c2, g3, g4⟩)
        · exact Or.inr ⟨t, by omega, g2, c2, g3, g4⟩
theorem jmax_0 {y : Nat} (hy : y < 2147483648) : jmax (nI y) (0 : Int32) = nI y := by
  unfold jmax
  rw [if_neg (fun q => by have := (zlt (b := 0) hy (by omega)).mp q; omega)]
/-- but for what the reckoning of the way writes, M' is M -/
def Fn (M M' : Mm) : Prop := ∀ c, ¬ (162 ≤ c ∧ c ≤ 170) → c ≠ 201 → c ≠ 202 → M' c = M c
theorem least_c {N : Nt} (hN : WP N) {b d m : Nat} {M : Mm} {f g : Nat → Pr} (hb : b < 11) (hd : d < 2187) (hH : Hp M) (hP : RelP 3 M N) (hdo : does N b d) (hm : m ≤ 40) (hf : okR m f) (hR : Row (173 + b) M f) (hg : okP m (g d)) (hRb : Row (172 + b) M g) {e0 c0 : Nat} (h0 : (e0, c0) ∈ ops (lk N b d) d) (h1 : c0 + (f e0).1 = (g d).1) :
    ∃ M' r, f_X5_leastNext (nI b) (nI d) M = some (nI r, M') ∧ lst (fun v => ∃ c, (v, c) ∈ ops (lk N b d) d ∧ c + (f v).1 = (g d).1) r ∧ Fn M M' := by
  obtain ⟨M1, q1, q2, q3⟩ := read_c (a := 162) (a1 := 3) hN (by omega) (show b < 12 by omega) hP
  have hH1 : Hp M1 := fun t ht => by rw [fc_c q3 (by omega)]; exact hH t ht
  have hR1 : Row (173 + b) M1 f := fun t ht => by rw [fc_c q3 (by omega)]; exact hR t ht
  have hRb1 : M1 (172 + b) d = enc (g d) := by rw [fc_c q3 (by omega)]; exact hRb d hd
  have hg63 := okP_1 (show m ≤ 63 by omega) hg
  rcases locksBy_c hN (show b < 12 by omega) hd q2 with ⟨_, y, hy, e⟩ | ⟨hn, _⟩
  · have hL : ∀ p, p < 7 → (bi (nI y) p ↔ lk N b d p) := hy.2
    have hy2 := hy.1
    obtain ⟨M2, r1, r2, r3⟩ := reach_c (a := 201) hH1 (by decide) (bits_L hL) hd
    have hz := rl_l (P := PL (lk N b d)) (d := d) 7 0
    obtain ⟨M3, r, s1, s2, s3⟩ := nx_71 (b := b) (due := (g d).1) (L := lk N b d) hb rfl (bits_R hL) hm hf (by omega) (l := d :: rl (PL (lk N b d)) d 7 0) (by show (rl (PL (lk N b d)) d 7 0).length + 1 ≤ 21; omega) (fun e he => by
      rcases List.mem_cons.mp he with h | h
      · rw [h]
        exact hd
      · exact rl_lt hd 7 0 (by omega) h) (q := (nI (d :: rl (PL (lk N b d)) d 7 0).length, M2)) rfl (d :: rl (PL (lk N b d)) d 7 0).length FU 0 2187 (fun _ => False) M2 (by omega) (by show (rl (PL (lk N b d)) d 7 0).length + 1 < FU; unfold FU; omega) (fun t ht => by rw [r3 2 (by decide)]; exact hH1 t ht) (fun t ht => by rw [r3 _ (by omega)]; exact hR1 t ht) r2 ⟨Or.inl rfl, fun v hv => by
        rcases hv with h | h
        · omega
        · exact h.elim⟩
    have s1' : L_X5_leastNext_71 (nI b) (nI y) (nI (g d).1) (nI (d :: rl (PL (lk N b d)) d 7 0).length, M2) FU (2187 : Int32) (0 : Int32) M2 = some (nI r, M3) := s1
    have hset : ∀ v, (False ∨ ∃ t, 0 ≤ t ∧ ∃ h : t < (d :: rl (PL (lk N b d)) d 7 0).length, ∃ c2, st (lk N b d) fR (d :: rl (PL (lk N b d)) d 7 0)[t] v c2 ∧ frm t + c2 + (f v).1 = (g d).1) ↔ ∃ c, (v, c) ∈ ops (lk N b d) d ∧ c + (f v).1 = (g d).1 := fun v => by
      constructor
      · intro h
        rcases h with h | ⟨t, g0, g1, c2, g2, g3⟩
        · exact h.elim
        · refine ⟨frm t + c2, ops_in.mpr ⟨_, frm t, c2, (ls_st (fun d => fr_L)).mp ⟨t, g0, g1, rfl, rfl⟩, g2, rfl⟩, g3⟩
      · intro ⟨c, g1, g2⟩
        obtain ⟨x, c1, c2, i1, i2, i3⟩ := ops_in.mp g1
        obtain ⟨t, j0, j1, j2, j3⟩ := (ls_st (fun d => fr_L)).mpr i1
        right
        refine ⟨t, j0, j1, c2, ?_, ?_⟩
        · rw [← j2]
          exact i2
        · rw [j3]
          omega
    have s4 := lc_c s2 hset
    have hr : r < 2187 := by
      have h5 := s4.2 e0 (Or.inr ⟨c0, h0, h1⟩)
      have h6 := (ops_b hd h0).1
      have h6' : e0 < 2187 := h6
      omega
    unfold f_X5_leastNext
    rw [q1, bd_s, zck hd (by omega), zcl (show d < 2147483648 by omega), hH1 d hd, e, bd_s, jmax_0 (by omega), nm_d, zck (show b < 12 by omega) (by omega), zck hd (by omega), zcl (show b < 2147483648 by omega), hRb1, enc_s (okP_E hm hg), nm_d, r1, bd_s]
    dsimp only
    rw [s1', bd_s]
    dsimp only
    rw [if_neg (fun q => by have := (zleD (by omega)).mp q; omega)]
    refine ⟨M3, r, rfl, ⟨?_, fun v hv => s4.2 v (Or.inr hv)⟩, fun c g1 g2 g3 => by rw [s3 c g3, r3 c g2, fc_c q3 (by omega)]⟩
    rcases s4.1 with h | h
    · omega
    · exact h
  · exact absurd hdo hn
