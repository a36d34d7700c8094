/-! PURE: how far one comes from the beginning -/
theorem lst_ex {P : Nat → Prop} : ∀ n : Nat, (∃ v, v ≤ n ∧ P v) → ∃ v, lst P v
  | 0, ⟨v, h1, h2⟩ => ⟨v, h2, fun e _ => by omega⟩
  | n + 1, ⟨v, h1, h2⟩ => by
    by_cases c : ∃ v, v ≤ n ∧ P v
    · exact lst_ex n c
    · refine ⟨v, h2, fun e he => ?_⟩
      have h3 : ¬ e ≤ n := fun q => c ⟨e, q, he⟩
      omega
noncomputable def les (P : Nat → Prop) : Nat := Classical.epsilon (lst P)
theorem les_l {P : Nat → Prop} {n : Nat} (h : P n) : lst P (les P) := Classical.epsilon_spec (lst_ex n ⟨n, Nat.le_refl n, h⟩)
/-- g e is the least of what S e holds of, 63 at most -/
def isM (S : Nat → Nat → Prop) (g : Nat → Nat) : Prop := ∀ e, e < 2187 → lst (fun v => v = 63 ∨ S e v) (g e)
theorem isM_u {S : Nat → Nat → Prop} {g g' : Nat → Nat} (h : isM S g) (h' : isM S g') {e : Nat} (he : e < 2187) : g e = g' e := lst_u (h e he) (h' e he)
theorem isM_63 {S : Nat → Nat → Prop} {g : Nat → Nat} (h : isM S g) {e : Nat} (he : e < 2187) : g e ≤ 63 := (h e he).2 63 (Or.inl rfl)
theorem isM_c {S S' : Nat → Nat → Prop} {g : Nat → Nat} (h : isM S g) (hc : ∀ e v, e < 2187 → v < 63 → (S e v ↔ S' e v)) : isM S' g := fun e he => by
  have h1 := h e he
  have h2 := isM_63 h he
  refine ⟨?_, fun v hv => ?_⟩
  · rcases h1.1 with q | q
    · exact Or.inl q
    · by_cases c : g e = 63
      · exact Or.inl c
      · exact Or.inr ((hc e (g e) he (by omega)).mp q)
  · by_cases c : 63 ≤ v
    · omega
    · rcases hv with q | q
      · omega
      · exact h1.2 v (Or.inr ((hc e v he (by omega)).mpr q))
theorem isM_or {S S' : Nat → Nat → Prop} {g g' : Nat → Nat} (h : isM S g) (h' : isM S' g') : isM (fun e v => S e v ∨ S' e v) (fun e => min (g e) (g' e)) := fun e he => by
  have h1 := h e he
  have h2 := h' e he
  refine ⟨?_, fun v hv => ?_⟩
  · dsimp only
    by_cases c : g e ≤ g' e
    · rw [Nat.min_eq_left c]
      rcases h1.1 with q | q
      · exact Or.inl q
      · exact Or.inr (Or.inl q)
    · rw [Nat.min_eq_right (by omega)]
      rcases h2.1 with q | q
      · exact Or.inl q
      · exact Or.inr (Or.inr q)
  · dsimp only
    rcases hv with q | q | q
    · have := h1.2 v (Or.inl q)
      omega
    · have := h1.2 v (Or.inr q)
      omega
    · have := h2.2 v (Or.inr q)
      omega
/-- nothing yet -/
theorem isM_0 : isM (fun _ _ => False) (fun _ => 63) := fun e _ => ⟨Or.inl rfl, fun v hv => by
  rcases hv with q | q
  · show 63 ≤ v
    omega
  · exact q.elim⟩
/-- one value more -/
theorem isM_put {S : Nat → Nat → Prop} {g : Nat → Nat} (h : isM S g) (t w : Nat) : isM (fun e v => S e v ∨ (e = t ∧ v = w)) (fun e => if e = t then min (g e) w else g e) := fun e he => by
  have h1 := h e he
  dsimp only
  by_cases c : e = t
  · rw [if_pos c]
    refine ⟨?_, fun v hv => ?_⟩
    · by_cases c2 : g e ≤ w
      · rw [Nat.min_eq_left c2]
        rcases h1.1 with q | q
        · exact Or.inl q
        · exact Or.inr (Or.inl q)
      · rw [Nat.min_eq_right (by omega)]
        exact Or.inr (Or.inr ⟨c, rfl⟩)
    · rcases hv with q | q | q
      · have := h1.2 v (Or.inl q)
        omega
      · have := h1.2 v (Or.inr q)
        omega
      · omega
  · rw [if_neg c]
    refine ⟨?_, fun v hv => ?_⟩
    · rcases h1.1 with q | q
      · exact Or.inl q
      · exact Or.inr (Or.inl q)
    · rcases hv with q | q | q
      · exact h1.2 v (Or.inl q)
      · exact h1.2 v (Or.inr q)
      · exact absurd q.1 c
/-- by one foot from d to e, c moves -/
def st (L : Nat → Prop) (F : List Nat) (d e c : Nat) : Prop := (c = 0 ∧ e = d) ∨ (c = 1 ∧ e ∈ fl L d F)
theorem st_lt {L : Nat → Prop} {F : List Nat} (hF : ∀ p, p ∈ F → p < 7) {d e c : Nat} (hd : d < 2187) (h : st L F d e c) : e < 2187 ∧ c ≤ 1 := by
  rcases h with ⟨h1, h2⟩ | ⟨h1, h2⟩
  · exact ⟨by omega, by omega⟩
  · exact ⟨fl_lt hd F hF h2, by omega⟩
theorem opR_in {L : Nat → Prop} {x c1 e c : Nat} : (e, c) ∈ opR L x c1 9 0 ↔ ∃ c2, st L fR x e c2 ∧ c = c1 + c2 := by
  rw [opR_e, List.mem_cons, List.mem_map]
  constructor
  · intro h
    rcases h with h | ⟨y, h1, h2⟩
    · cases h
      exact ⟨0, Or.inl ⟨rfl, rfl⟩, rfl⟩
    · cases h2
      exact ⟨1, Or.inr ⟨rfl, h1⟩, rfl⟩
  · intro ⟨c2, h1, h2⟩
    rcases h1 with ⟨h3, h4⟩ | ⟨h3, h4⟩
    · left
      rw [h2, h3, h4]
      rfl
    · right
      refine ⟨e, h4, ?_⟩
      rw [h2, h3]
theorem ops_in {L : Nat → Prop} {d e c : Nat} : (e, c) ∈ ops L d ↔ ∃ x c1 c2, st L fL d x c1 ∧ st L fR x e c2 ∧ c = c1 + c2 := by
  rw [opL_e, List.mem_append, opR_in, List.mem_flatMap]
  constructor
  · intro h
    rcases h with ⟨c2, h1, h2⟩ | ⟨x, h1, h2⟩
    · exact ⟨d, 0, c2, Or.inl ⟨rfl, rfl⟩, h1, h2⟩
    · obtain ⟨c2, h3, h4⟩ := opR_in.mp h2
      exact ⟨x, 1, c2, Or.inr ⟨rfl, fl_left.mem_iff.mp h1⟩, h3, h4⟩
  · intro ⟨x, c1, c2, h1, h2, h3⟩
    rcases h1 with ⟨h4, h5⟩ | ⟨h4, h5⟩
    · left
      rw [h5] at h2
      exact ⟨c2, h2, by rw [h3, h4]⟩
    · right
      refine ⟨x, fl_left.mem_iff.mpr h5, opR_in.mpr ⟨c2, h2, by rw [h3, h4]⟩⟩
theorem fl_in {L : Nat → Prop} {d e : Nat} {F : List Nat} : e ∈ fl L d F ↔ ∃ p k, p ∈ F ∧ ¬ L p ∧ (k = 1 ∨ k = 2) ∧ e = mv d p k := by
  rw [ml_fl, List.mem_map]
  constructor
  · intro ⟨m, h1, h2⟩
    induction F with
    | nil => cases h1
    | cons p F ih =>
      by_cases hl : L p
      · rw [ml, if_pos hl] at h1
        obtain ⟨q, k, g1, g2⟩ := ih h1
        exact ⟨q, k, List.mem_cons_of_mem _ g1, g2⟩
      · rw [ml, if_neg hl] at h1
        rcases List.mem_cons.mp h1 with g | g
        · rw [g] at h2
          exact ⟨p, 1, List.mem_cons_self, hl, Or.inl rfl, h2.symm⟩
        · rcases List.mem_cons.mp g with g | g
          · rw [g] at h2
            exact ⟨p, 2, List.mem_cons_self, hl, Or.inr rfl, h2.symm⟩
          · obtain ⟨q, k, g1, g2⟩ := ih g
            exact ⟨q, k, List.mem_cons_of_mem _ g1, g2⟩
  · intro ⟨q, k, g1, g2, g3, g4⟩
    refine ⟨(q, k), ?_, g4.symm⟩
    induction F with
    | nil => cases g1
    | cons p F ih =>
      rw [ml]
      rcases List.mem_cons.mp g1 with g | g
      · rw [← g, if_neg g2]
        rcases g3 with g3 | g3
        · rw [g3]
          exact List.mem_cons_self
        · rw [g3]
          exact List.mem_cons_of_mem _ List.mem_cons_self
      · split
        · exact ih g
        · exact List.mem_cons_of_mem _ (List.mem_cons_of_mem _ (ih g))
theorem mv_bk {d p k : Nat} (hp : p < 7) (hk : k = 1 ∨ k = 2) : mv (mv d p k) p (3 - k) = d := by
  rcases hk with h | h <;> subst h <;> unfold mv sd <;> rcases p7 hp with h | h | h | h | h | h | h <;> subst h <;> omega
/-- what comes by a foot goes back by it -/
theorem fl_sym {L : Nat → Prop} {d e : Nat} {F : List Nat} (hF : ∀ p, p ∈ F → p < 7) (h : e ∈ fl L d F) : d ∈ fl L e F := by
  obtain ⟨p, k, h1, h2, h3, h4⟩ := fl_in.mp h
  refine fl_in.mpr ⟨p, 3 - k, h1, h2, by omega, ?_⟩
  rw [h4, mv_bk (hF p h1) h3]
theorem st_sym {L : Nat → Prop} {d e c : Nat} {F : List Nat} (hF : ∀ p, p ∈ F → p < 7) (h : st L F d e c) : st L F e d c := by
  rcases h with ⟨h1, h2⟩ | ⟨h1, h2⟩
  · exact Or.inl ⟨h1, h2.symm⟩
  · exact Or.inr ⟨h1, fl_sym hF h2⟩
/-- the feet in either order -/
theorem st_cm {L : Nat → Prop} {d e x c1 c2 : Nat} (h1 : st L fR d x c1) (h2 : st L fL x e c2) : ∃ y, st L fL d y c2 ∧ st L fR y e c1 := by
  rcases h1 with ⟨h3, h4⟩ | ⟨h3, h4⟩
  · rw [h4] at h2
    exact ⟨e, h2, Or.inl ⟨h3, rfl⟩⟩
  · rcases h2 with ⟨h5, h6⟩ | ⟨h5, h6⟩
    · rw [← h6] at h4
      exact ⟨d, Or.inl ⟨h5, rfl⟩, Or.inr ⟨h3, h4⟩⟩
    · obtain ⟨p, k, g1, g2, g3, g4⟩ := fl_in.mp h4
      obtain ⟨q, j, i1, i2, i3, i4⟩ := fl_in.mp h6
      refine ⟨mv d q j, Or.inr ⟨h5, fl_in.mpr ⟨q, j, i1, i2, i3, rfl⟩⟩, Or.inr ⟨h3, fl_in.mpr ⟨p, k, g1, g2, g3, ?_⟩⟩⟩
      rw [i4, g4]
      exact (mv_cm i1 g1).symm
theorem st_cm' {L : Nat → Prop} {d e x c1 c2 : Nat} (h1 : st L fL d x c1) (h2 : st L fR x e c2) : ∃ y, st L fR d y c2 ∧ st L fL y e c1 := by
  rcases h1 with ⟨h3, h4⟩ | ⟨h3, h4⟩
  · rw [h4] at h2
    exact ⟨e, h2, Or.inl ⟨h3, rfl⟩⟩
  · rcases h2 with ⟨h5, h6⟩ | ⟨h5, h6⟩
    · rw [← h6] at h4
      exact ⟨d, Or.inl ⟨h5, rfl⟩, Or.inr ⟨h3, h4⟩⟩
    · obtain ⟨p, k, g1, g2, g3, g4⟩ := fl_in.mp h4
      obtain ⟨q, j, i1, i2, i3, i4⟩ := fl_in.mp h6
      refine ⟨mv d q j, Or.inr ⟨h5, fl_in.mpr ⟨q, j, i1, i2, i3, rfl⟩⟩, Or.inr ⟨h3, fl_in.mpr ⟨p, k, g1, g2, g3, ?_⟩⟩⟩
      rw [i4, g4]
      exact mv_cm g1 i1
theorem st_c {L L' : Nat → Prop} {F : List Nat} (h : ∀ p, p ∈ F → (L p ↔ L' p)) {d e c : Nat} : st L F d e c ↔ st L' F d e c := by
  unfold st
  rw [fl_c F h]
/-- a row of moves alone, as prices -/
def zr (g : Nat → Nat) (d : Nat) : Pr := (g d, 0)
theorem bt_z {a b : Pr} (ha : a.2 = 0) (hb : b.2 = 0) : (bt a b).2 = 0 := by
  rcases Nat.lt_trichotomy a.1 b.1 with h | h | h
  · rw [bt_l h]
    exact ha
  · rw [bt_e h]
    show min (a.2 + b.2) 1000000 = 0
    rw [ha, hb]
    rfl
  · rw [bt_r h]
    exact hb
theorem bs_z {p : Pr} (hp : p.2 = 0) : ∀ l : List Pr, (∀ x ∈ l, x.2 = 0) → (bs p l).2 = 0
  | [], _ => hp
  | x :: l, h => bt_z (h x List.mem_cons_self) (bs_z hp l (fun y hy => h y (List.mem_cons_of_mem _ hy)))
theorem bs_le {p : Pr} : ∀ l : List Pr, (bs p l).1 ≤ p.1 ∧ ∀ x ∈ l, (bs p l).1 ≤ x.1
  | [] => ⟨Nat.le_refl _, fun x hx => by cases hx⟩
  | y :: l => by
    have ih := bs_le (p := p) l
    have e : (bs p (y :: l)).1 = min y.1 (bs p l).1 := bt_1 _ _
    rw [e]
    refine ⟨by omega, fun x hx => ?_⟩
    rcases List.mem_cons.mp hx with h | h
    · rw [h]
      omega
    · have := ih.2 x h
      omega
/-- what a foot makes of a row of moves -/
noncomputable def sm1 (F : List Nat) (g : Nat → Nat) (e : Nat) : Nat := (sf nL F (zr g) e).1
theorem sf_zr {F : List Nat} {g : Nat → Nat} : sf nL F (zr g) = zr (sm1 F g) := funext (fun e => by
  refine Prod.ext rfl ?_
  refine bs_z rfl _ (fun x hx => ?_)
  obtain ⟨y, h1, h2⟩ := List.mem_map.mp hx
  rw [← h2]
  rfl)
theorem sm1_M {F : List Nat} (hF : ∀ p, p ∈ F → p < 7) {S : Nat → Nat → Prop} {g : Nat → Nat} (h : isM S g) : isM (fun e v => ∃ x c v', x < 2187 ∧ st nL F x e c ∧ S x v' ∧ v = v' + c) (sm1 F g) := by
  intro e he
  have hle := bs_le (p := zr g e) ((fl nL e F).map (fun x => sh 1 (zr g x)))
  have hat := bs_1 (z := zr g e) ((fl nL e F).map (fun x => sh 1 (zr g x)))
  have hs : sm1 F g e = (bs (zr g e) ((fl nL e F).map (fun x => sh 1 (zr g x)))).1 := rfl
  rw [← hs] at hle hat
  have hg := h e he
  have h63 := isM_63 h he
  have hle1 : sm1 F g e ≤ g e := hle.1
  refine ⟨?_, ?_⟩
  · by_cases c : sm1 F g e = 63
    · exact Or.inl c
    · right
      rcases hat with q | ⟨x, q1, q2⟩
      · have q' : sm1 F g e = g e := q
        rcases hg.1 with r | r
        · omega
        · exact ⟨e, 0, g e, he, Or.inl ⟨rfl, rfl⟩, r, q'⟩
      · obtain ⟨y, r1, r2⟩ := List.mem_map.mp q1
        have hy := fl_lt he F hF r1
        rw [← r2] at q2
        have q3 : g y + 1 = sm1 F g e := q2
        rcases (h y hy).1 with r | r
        · omega
        · exact ⟨y, 1, g y, hy, Or.inr ⟨rfl, fl_sym hF r1⟩, r, q3.symm⟩
  · intro v hv
    rcases hv with q | ⟨x, c, v', q1, q2, q3, q4⟩
    · omega
    · have h5 := (h x q1).2 v' (Or.inr q3)
      rcases q2 with ⟨q5, q6⟩ | ⟨q5, q6⟩
      · subst q6
        omega
      · have h6 := hle.2 (sh 1 (zr g x)) (List.mem_map.mpr ⟨x, fl_sym hF q6, rfl⟩)
        have h7 : sm1 F g e ≤ g x + 1 := h6
        omega
/-- how many moves it takes to come to e at beat b; 63: one can't -/
noncomputable def A (N : Nt) : Nat → Nat → Nat
  | 0, d => ahd N d
  | b + 1, e => les (fun v => v = 63 ∨ ∃ d c, d < 2187 ∧ does N b d ∧ (e, c) ∈ ops (lk N b d) d ∧ v = A N b d + c)
theorem A_M {N : Nt} {b : Nat} : isM (fun e v => ∃ d c, d < 2187 ∧ does N b d ∧ (e, c) ∈ ops (lk N b d) d ∧ v = A N b d + c) (A N (b + 1)) := fun e _ => by
  rw [A]
  exact les_l (n := 63) (Or.inl rfl)
theorem A_b {N : Nt} : ∀ b d : Nat, d < 2187 → A N b d = 63 ∨ A N b d ≤ 2 * b + 2
  | 0, d, _ => ahd_b N d
  | b + 1, e, he => by
    rcases (A_M (N := N) (b := b) e he).1 with q | ⟨d, c, h1, h2, h3, h4⟩
    · exact Or.inl q
    · have h5 := (ops_b h1 h3).2
      have h6 := isM_63 (A_M (N := N) (b := b)) he
      have h5' : c ≤ 2 := h5
      rcases A_b (N := N) b d h1 with q | q
      · left
        omega
      · right
        omega
