/-! PURE: arrival of the class: bringByFoot, bringByBoth, lessen -/
theorem zr_E {a : Nat} (h : a ≤ 1000) : okE (a, 0) := ⟨h, Nat.zero_le _⟩
theorem enc_z (a : Nat) : enc (a, 0) = nI (1048576 * a) := rfl
theorem jmin_z {a b : Nat} (ha : a ≤ 1000) (hb : b ≤ 1000) : jmin (enc (a, 0)) (enc (b, 0)) = enc (min a b, 0) := by
  unfold jmin
  by_cases c : b < a
  · rw [if_pos (by rw [enc_z, enc_z]; exact (zlt (by omega) (by omega)).mpr (by omega)), Nat.min_eq_right (by omega)]
  · rw [if_neg (by rw [enc_z, enc_z]; intro q; have := (zlt (by omega) (by omega)).mp q; omega), Nat.min_eq_left (by omega)]
theorem enc_zm {a : Nat} : enc (a, 0) + (1048576 : Int32) = enc (a + 1, 0) := enc_mv (a, 0)
/-- one value more, in the row -/
theorem row_put {a t w : Nat} {M : Mm} {g : Nat → Nat} (hR : Row a M (zr g)) (ht : t < 2187) (hg : ∀ e, e < 2187 → g e ≤ 1000) (hw : w ≤ 1000) : Row a (mw M a t (jmin (M a t) (enc (w, 0)))) (zr (fun e => if e = t then min (g e) w else g e)) := fun d hd => by
  rw [hR t ht]
  have e1 : zr g t = (g t, 0) := rfl
  rw [e1, jmin_z (hg t ht) hw]
  by_cases c : d = t
  · subst c
    rw [mw_s]
    unfold zr
    dsimp only
    rw [if_pos rfl]
  · rw [mw_o c, hR d hd]
    unfold zr
    dsimp only
    rw [if_neg c]
theorem bring_l {a4 v : Nat} (ha : a4 ≠ 202) (hv : v ≤ 100) {l : List Nat} (hz : l.length ≤ 21) (hb : ∀ e ∈ l, e < 2187) {q : Int32 × Mm} (hq : q.1 = nI l.length) : ∀ (k n i : Nat) (M : Mm) (g : Nat → Nat) (S : Nat → Nat → Prop), i + k = l.length → k < n → Ls 202 M l → Row a4 M (zr g) → isM S g →
    ∃ M' g', L_X5_bringByFoot_27 (enc (v, 0)) a4 q n (nI i) M = some M' ∧ Row a4 M' (zr g') ∧ isM (fun e u => S e u ∨ (e ∈ l.drop i ∧ u = v + 1)) g' ∧ F1 a4 M M'
  | _, 0, _, _, _, _, _, h2, _, _, _ => by omega
  | 0, n + 1, i, M, g, S, h1, h2, h3, h4, h5 => by
    rw [L_X5_bringByFoot_27, hq, if_pos ((zle (by omega) (by omega)).mpr (by omega)), List.drop_eq_nil_of_le (by omega)]
    refine ⟨M, g, rfl, h4, isM_c h5 (fun e u _ _ => ⟨fun r => Or.inl r, fun r => ?_⟩), f1_r a4 M⟩
    rcases r with r | r
    · exact r
    · exact absurd r.1 (by simp)
  | k + 1, n + 1, i, M, g, S, h1, h2, h3, h4, h5 => by
    have hi : i < l.length := by omega
    have he := hb l[i] (List.getElem_mem hi)
    have h63 : ∀ e, e < 2187 → g e ≤ 1000 := fun e he => by have := isM_63 h5 he; omega
    rw [L_X5_bringByFoot_27, hq, if_neg (fun q => by have := (zle (by omega) (by omega)).mp q; omega), zck (by omega) (by omega), zck (by omega) (by omega), zcl (show i < 2147483648 by omega), h3 i hi, zck he (by omega), zck he (by omega), nm_d, zcl (show l[i] < 2147483648 by omega), enc_zm, nI_s]
    have hF : F1 a4 M (mw M a4 l[i] (jmin (M a4 l[i]) (enc (v + 1, 0)))) := fun c g => mw_c g
    obtain ⟨M', g', q1, q2, q3, q4⟩ := bring_l ha hv hz hb hq k n (i + 1) _ _ _ (by omega) (by omega) (fun j hj => by rw [hF 202 (Ne.symm ha)]; exact h3 j hj) (row_put h4 he h63 (show v + 1 ≤ 1000 by omega)) (isM_put h5 l[i] (v + 1))
    refine ⟨M', g', q1, q2, isM_c q3 (fun e u _ _ => ?_), f1_t hF q4⟩
    rw [List.drop_eq_getElem_cons hi, List.mem_cons]
    constructor
    · intro r
      rcases r with (r | r) | r
      · exact Or.inl r
      · exact Or.inr ⟨Or.inl r.1, r.2⟩
      · exact Or.inr ⟨Or.inr r.1, r.2⟩
    · intro r
      rcases r with r | ⟨r | r, r2⟩
      · exact Or.inl (Or.inl r)
      · exact Or.inl (Or.inr ⟨r, r2⟩)
      · exact Or.inr ⟨r, r2⟩
/-- but for a and byRight, M' is M -/
def F2 (a : Nat) (M M' : Mm) : Prop := ∀ c, c ≠ a → c ≠ 202 → M' c = M c
theorem bringFoot_c {a4 v d : Nat} {x : Int32} {P : Nat → Prop} {M : Mm} {g : Nat → Nat} {S : Nat → Nat → Prop} {L : Nat → Prop} {F : List Nat} (hP : ∀ d, fl nL d (fr P 7 0) = fl L d F) (hH : Hp M) (ha : a4 ≠ 202) (hv : v ≤ 100) (hx : ∀ p, p < 7 → (bi x p ↔ P p)) (hd : d < 2187) (hR : Row a4 M (zr g)) (hS : isM S g) :
    ∃ M' g', f_X5_bringByFoot (enc (v, 0)) (nI d) x a4 M = some M' ∧ Row a4 M' (zr g') ∧ isM (fun e u => S e u ∨ ∃ c, st L F d e c ∧ u = v + c) g' ∧ F2 a4 M M' := by
  obtain ⟨M1, q1, q2, q3⟩ := reach_c (a := 202) hH (by decide) hx hd
  have hl := rl_l (P := P) (d := d) 7 0
  have hR1 : Row a4 M1 (zr g) := fun e he => by rw [q3 a4 ha]; exact hR e he
  have h63 : ∀ e, e < 2187 → g e ≤ 1000 := fun e he => by have := isM_63 hS he; omega
  unfold f_X5_bringByFoot
  rw [q1, bd_s, zck hd (by omega), zck hd (by omega), zcl (by omega)]
  dsimp only
  rw [nm_d]
  have hF : F1 a4 M1 (mw M1 a4 d (jmin (M1 a4 d) (enc (v, 0)))) := fun c g => mw_c g
  obtain ⟨M2, g', r1, r2, r3, r4⟩ := bring_l ha hv (l := d :: rl P d 7 0) (by show (rl P d 7 0).length + 1 ≤ 21; omega) (fun e he => by
    rcases List.mem_cons.mp he with h | h
    · rw [h]
      exact hd
    · exact rl_lt hd 7 0 (by omega) h) (q := (nI (d :: rl P d 7 0).length, M1)) rfl (rl P d 7 0).length FU 1 (mw M1 a4 d (jmin (M1 a4 d) (enc (v, 0)))) _ _ (by show 1 + (rl P d 7 0).length = (rl P d 7 0).length + 1; omega) (by unfold FU; omega) (fun j hj => by rw [hF 202 (Ne.symm ha)]; exact q2 j hj) (row_put hR1 hd h63 (show v ≤ 1000 by omega)) (isM_put hS d v)
  have r1' : L_X5_bringByFoot_27 (enc (v, 0)) a4 (nI (d :: rl P d 7 0).length, M1) FU (1 : Int32) (mw M1 a4 d (jmin (M1 a4 d) (enc (v, 0)))) = some M2 := r1
  rw [r1', bd_s]
  refine ⟨M2, g', rfl, r2, isM_c r3 (fun e u _ _ => ?_), fun c h1 h2 => by rw [r4 c h1, hF c h1, q3 c h2]⟩
  have e9 : e ∈ (d :: rl P d 7 0).drop 1 ↔ e ∈ fl L d F := by
    rw [← hP d]
    exact (rl_perm 7 0).mem_iff
  rw [e9]
  constructor
  · intro r
    rcases r with (r | r) | r
    · exact Or.inl r
    · exact Or.inr ⟨0, Or.inl ⟨rfl, r.1⟩, r.2⟩
    · exact Or.inr ⟨1, Or.inr ⟨rfl, r.1⟩, r.2⟩
  · intro r
    rcases r with r | ⟨c, ⟨r1, r2⟩ | ⟨r1, r2⟩, r3⟩
    · exact Or.inl (Or.inl r)
    · exact Or.inl (Or.inr ⟨r2, by omega⟩)
    · exact Or.inr ⟨r2, by omega⟩
theorem bringB_l {a4 v : Nat} {x y : Int32} {L : Nat → Prop} (ha : a4 ≠ 202) (ha' : a4 ≠ 201) (ha'' : a4 ≠ 2) (hv : v ≤ 99) (hy : (60 : Int32) &&& (y ^^^ (-1 : Int32)) = x) (hx : ∀ p, p < 7 → (bi x p ↔ PR L p)) {l : List Nat} (hz : l.length ≤ 21) (hb : ∀ e ∈ l, e < 2187) {q : Int32 × Mm} (hq : q.1 = nI l.length) : ∀ (k n i : Nat) (M : Mm) (g : Nat → Nat) (S : Nat → Nat → Prop), i + k = l.length → k < n → Hp M → Ls 201 M l → Row a4 M (zr g) → isM S g →
    ∃ M' g', L_X5_bringByBoth_34 (enc (v, 0)) y a4 q n (nI i) M = some M' ∧ Row a4 M' (zr g') ∧ isM (fun e u => S e u ∨ ∃ x c, x ∈ l.drop i ∧ st L fR x e c ∧ u = v + 1 + c) g' ∧ F2 a4 M M'
  | _, 0, _, _, _, _, _, h2, _, _, _, _ => by omega
  | 0, n + 1, i, M, g, S, h1, h2, h3, h4, h5, h6 => by
    rw [L_X5_bringByBoth_34, hq, if_pos ((zle (by omega) (by omega)).mpr (by omega)), List.drop_eq_nil_of_le (by omega)]
    refine ⟨M, g, rfl, h5, isM_c h6 (fun e u _ _ => ⟨fun r => Or.inl r, fun r => ?_⟩), fun _ _ _ => rfl⟩
    rcases r with r | ⟨x, c, r, _⟩
    · exact r
    · cases r
  | k + 1, n + 1, i, M, g, S, h1, h2, h3, h4, h5, h6 => by
    have hi : i < l.length := by omega
    have he := hb l[i] (List.getElem_mem hi)
    rw [L_X5_bringByBoth_34, hq, if_neg (fun q => by have := (zle (by omega) (by omega)).mp q; omega), zck (by omega) (by omega), zcl (show i < 2147483648 by omega), h4 i hi, hy, enc_zm, nI_s]
    obtain ⟨M1, g1, q1, q2, q3, q4⟩ := bringFoot_c (v := v + 1) (L := L) (F := fR) (fun d => fr_R) h3 ha (by omega) hx he h5 h6
    rw [q1, bd_s]
    obtain ⟨M2, g2, r1, r2, r3, r4⟩ := bringB_l ha ha' ha'' hv hy hx hz hb hq k n (i + 1) M1 g1 _ (by omega) (by omega) (fun t ht => by rw [q4 2 (Ne.symm ha'') (by decide)]; exact h3 t ht) (fun j hj => by rw [q4 201 (Ne.symm ha') (by decide)]; exact h4 j hj) q2 q3
    refine ⟨M2, g2, r1, r2, isM_c r3 (fun e u _ _ => ?_), fun c g1 g2 => (r4 c g1 g2).trans (q4 c g1 g2)⟩
    rw [List.drop_eq_getElem_cons hi]
    constructor
    · intro r
      rcases r with (r | ⟨c, r, s⟩) | ⟨x, c, r1, r2, r3⟩
      · exact Or.inl r
      · exact Or.inr ⟨l[i], c, List.mem_cons_self, r, s⟩
      · exact Or.inr ⟨x, c, List.mem_cons_of_mem _ r1, r2, r3⟩
    · intro r
      rcases r with r | ⟨x, c, r1, r2, r3⟩
      · exact Or.inl (Or.inl r)
      · rcases List.mem_cons.mp r1 with s | s
        · rw [s] at r2
          exact Or.inl (Or.inr ⟨c, r2, r3⟩)
        · exact Or.inr ⟨x, c, s, r2, r3⟩
/-- but for a, byLeft and byRight, M' is M -/
def F3 (a : Nat) (M M' : Mm) : Prop := ∀ c, c ≠ a → c ≠ 201 → c ≠ 202 → M' c = M c
theorem bringBoth_c {a4 v d : Nat} {y : Int32} {M : Mm} {g : Nat → Nat} {S : Nat → Nat → Prop} {L : Nat → Prop} (hH : Hp M) (ha : a4 ≠ 202) (ha' : a4 ≠ 201) (ha'' : a4 ≠ 2) (hv : v ≤ 99) (hy : ∀ p, p < 7 → (bi y p ↔ L p)) (hd : d < 2187) (hR : Row a4 M (zr g)) (hS : isM S g) :
    ∃ M' g', f_X5_bringByBoth (enc (v, 0)) (nI d) y a4 M = some M' ∧ Row a4 M' (zr g') ∧ isM (fun e u => S e u ∨ ∃ c, (e, c) ∈ ops L d ∧ u = v + c) g' ∧ F3 a4 M M' := by
  obtain ⟨M1, q1, q2, q3⟩ := reach_c (a := 201) hH (by decide) (bits_L hy) hd
  have hl := rl_l (P := PL L) (d := d) 7 0
  have hH1 : Hp M1 := fun t ht => by rw [q3 2 (by decide)]; exact hH t ht
  obtain ⟨M2, g2, r1, r2, r3, r4⟩ := bringFoot_c (a4 := a4) (v := v) (L := L) (F := fR) (fun d => fr_R) hH1 ha (by omega) (bits_R hy) hd (fun t ht => by rw [q3 a4 ha']; exact hR t ht) hS
  unfold f_X5_bringByBoth
  rw [q1, bd_s]
  dsimp only
  rw [r1, bd_s]
  obtain ⟨M3, g3, s1, s2, s3, s4⟩ := bringB_l (v := v) (L := L) ha ha' ha'' hv rfl (bits_R hy) (l := d :: rl (PL L) d 7 0) (by show (rl (PL L) d 7 0).length + 1 ≤ 21; omega) (fun e he => by
    rcases List.mem_cons.mp he with h | h
    · rw [h]
      exact hd
    · exact rl_lt hd 7 0 (by omega) h) (q := (nI (d :: rl (PL L) d 7 0).length, M1)) rfl (rl (PL L) d 7 0).length FU 1 M2 g2 _ (by show 1 + (rl (PL L) d 7 0).length = (rl (PL L) d 7 0).length + 1; omega) (by unfold FU; omega) (fun t ht => by rw [r4 2 (Ne.symm ha'') (by decide)]; exact hH1 t ht) (fun j hj => by rw [r4 201 (Ne.symm ha') (by decide)]; exact q2 j hj) r2 r3
  have s1' : L_X5_bringByBoth_34 (enc (v, 0)) y a4 (nI (d :: rl (PL L) d 7 0).length, M1) FU (1 : Int32) M2 = some M3 := s1
  rw [s1', bd_s]
  refine ⟨M3, g3, rfl, s2, isM_c s3 (fun e u _ _ => ?_), fun c h1 h2 h3 => by rw [s4 c h1 h3, r4 c h1 h3, q3 c h2]⟩
  have e9 : ∀ x, x ∈ (d :: rl (PL L) d 7 0).drop 1 ↔ x ∈ fl L d fL := fun x => by
    rw [← fr_L]
    exact (rl_perm 7 0).mem_iff
  constructor
  · intro r
    rcases r with (r | ⟨c, r1, r2⟩) | ⟨x, c, r1, r2, r3⟩
    · exact Or.inl r
    · exact Or.inr ⟨c, ops_in.mpr ⟨d, 0, c, Or.inl ⟨rfl, rfl⟩, r1, by omega⟩, r2⟩
    · exact Or.inr ⟨1 + c, ops_in.mpr ⟨x, 1, c, Or.inr ⟨rfl, (e9 x).mp r1⟩, r2, rfl⟩, by omega⟩
  · intro r
    rcases r with r | ⟨c, r1, r2⟩
    · exact Or.inl (Or.inl r)
    · obtain ⟨x, c1, c2, t1, t2, t3⟩ := ops_in.mp r1
      rcases t1 with ⟨t4, t5⟩ | ⟨t4, t5⟩
      · rw [t5] at t2
        exact Or.inl (Or.inr ⟨c2, t2, by omega⟩)
      · exact Or.inr ⟨x, c2, (e9 x).mpr t5, t2, by omega⟩
theorem less_l {a0 a1 : Nat} (h01 : a0 ≠ a1) {g0 g1 : Nat → Nat} (hg0 : ∀ e, e < 2187 → g0 e ≤ 1000) (hg1 : ∀ e, e < 2187 → g1 e ≤ 1000) : ∀ (k n d : Nat) (M : Mm), d + k = 2187 → k < n → Row a1 M (zr g1) → (∀ t, t < d → M a0 t = enc (min (g0 t) (g1 t), 0)) → (∀ t, d ≤ t → t < 2187 → M a0 t = enc (g0 t, 0)) →
    ∃ M', L_X5_lessen_2 a0 a1 n (nI d) M = some M' ∧ Row a0 M' (zr (fun e => min (g0 e) (g1 e))) ∧ F1 a0 M M'
  | _, 0, _, _, _, h2, _, _, _ => by omega
  | 0, n + 1, d, M, h1, h2, h3, h4, h5 => by
    rw [L_X5_lessen_2, if_pos ((zleD (by omega)).mpr (by omega))]
    exact ⟨M, rfl, fun t ht => h4 t (by omega), f1_r a0 M⟩
  | k + 1, n + 1, d, M, h1, h2, h3, h4, h5 => by
    have hd : d < 2187 := by omega
    have e1 : M a1 d = enc (g1 d, 0) := h3 d hd
    rw [L_X5_lessen_2, if_neg (fun q => by have := (zleD (by omega)).mp q; omega), zck hd (by omega), zck hd (by omega), zck hd (by omega), zcl (by omega), nm_d, h5 d (Nat.le_refl d) hd, e1, jmin_z (hg0 d hd) (hg1 d hd), nI_s]
    have hF : F1 a0 M (mw M a0 d (enc (min (g0 d) (g1 d), 0))) := fun c g => mw_c g
    obtain ⟨M', q1, q2, q3⟩ := less_l h01 hg0 hg1 k n (d + 1) (mw M a0 d (enc (min (g0 d) (g1 d), 0))) (by omega) (by omega) (fun t ht => by rw [hF a1 (Ne.symm h01)]; exact h3 t ht) (fun t ht => by
      by_cases c : t = d
      · rw [c, mw_s]
      · rw [mw_o c]
        exact h4 t (by omega)) (fun t h6 h7 => by rw [mw_o (by omega)]; exact h5 t (by omega) h7)
    exact ⟨M', q1, q2, f1_t hF q3⟩
theorem lessen_c {a0 a1 : Nat} {M : Mm} (h01 : a0 ≠ a1) {g0 g1 : Nat → Nat} (hg0 : ∀ e, e < 2187 → g0 e ≤ 1000) (hg1 : ∀ e, e < 2187 → g1 e ≤ 1000) (h0 : Row a0 M (zr g0)) (h1 : Row a1 M (zr g1)) : ∃ M', f_X5_lessen a0 a1 M = some M' ∧ Row a0 M' (zr (fun e => min (g0 e) (g1 e))) ∧ F1 a0 M M' := by
  obtain ⟨M', q1, q2, q3⟩ := less_l h01 hg0 hg1 2187 FU 0 M (by omega) (by unfold FU; omega) h1 (fun t ht => by omega) (fun t _ ht => h0 t ht)
  have q1' : L_X5_lessen_2 a0 a1 FU (0 : Int32) M = some M' := q1
  unfold f_X5_lessen
  rw [q1', bd_s]
  exact ⟨M', rfl, q2, q3⟩
