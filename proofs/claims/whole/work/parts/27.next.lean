/-! PURE: the options of a beat: where both feet can go -/
def ft (i : Nat) : Nat := [6, 0, 1, 2, 3, 4, 5].getD i 0
theorem ft_k : ∀ i : Nat, i < 7 → ft i < 7 := by decide
/-- one foot's move of pedal p by k, where L does not lock it -/
noncomputable def one (L : Nat → Prop) (d p k : Nat) : Option (Nat × Nat) := haveI := Classical.propDecidable (L p); if L p then none else some (mv d p k, 1)
theorem one_t {L : Nat → Prop} {d p k : Nat} (h : L p) : one L d p k = none := if_pos h
theorem one_f {L : Nat → Prop} {d p k : Nat} (h : ¬ L p) : one L d p k = some (mv d p k, 1) := if_neg h
/-- what the left foot can do, what the right one can -/
noncomputable def lft (L : Nat → Prop) (d i : Nat) : Option (Nat × Nat) := if i = 0 then some (d, 0) else one L d (ft ((i - 1) / 2)) (1 + (i - 1) % 2)
noncomputable def rgt (L : Nat → Prop) (d i : Nat) : Option (Nat × Nat) := if i = 0 then some (d, 0) else one L d (ft (3 + (i - 1) / 2)) (1 + (i - 1) % 2)
/-- the options behind the left foot's, the k last of them, from j on -/
noncomputable def opR (L : Nat → Prop) (e c : Nat) : Nat → Nat → List (Nat × Nat)
  | 0, _ => []
  | k + 1, j => (match rgt L e j with
    | none => []
    | some a => [(a.1, c + a.2)]) ++ opR L e c k (j + 1)
noncomputable def opL (L : Nat → Prop) (d : Nat) : Nat → Nat → List (Nat × Nat)
  | 0, _ => []
  | k + 1, i => (match lft L d i with
    | none => []
    | some a => opR L a.1 a.2 9 0) ++ opL L d k (i + 1)
/-- all options out of d -/
noncomputable def ops (L : Nat → Prop) (d : Nat) : List (Nat × Nat) := opL L d 7 0
/-- the model's list holds l -/
def Lst (M : Mm) (l : List (Nat × Nat)) : Prop := M 212 11 = nI l.length ∧ ∀ i, (h : i < l.length) → M 220 i = nI l[i].1 ∧ M 221 i = nI l[i].2
/-- but for the model's list, M' is M -/
def Fr (M M' : Mm) : Prop := ∀ a j, a ≠ 220 → a ≠ 221 → ¬ (a = 212 ∧ j = 11) → M' a j = M a j
theorem fr_r (M : Mm) : Fr M M := fun _ _ _ _ _ => rfl
theorem fr_t {M M' M'' : Mm} (h : Fr M M') (h' : Fr M' M'') : Fr M M'' := fun a j h1 h2 h3 => (h' a j h1 h2 h3).trans (h a j h1 h2 h3)
theorem fr_c {M M' : Mm} (h : Fr M M') {a : Nat} (h1 : a ≠ 220) (h2 : a ≠ 221) (h3 : a ≠ 212) : M' a = M a := funext (fun j => h a j h1 h2 (fun q => h3 q.1))
theorem lst_put {M : Mm} {l : List (Nat × Nat)} (h : Lst M l) (f c : Nat) : Lst (mw (mw (mw M 220 l.length (nI f)) 221 l.length (nI c)) 212 11 (nI (l.length + 1))) (l ++ [(f, c)]) := by
  refine ⟨?_, ?_⟩
  · rw [mw_s, List.length_append]
    rfl
  · intro i hi
    rw [List.length_append] at hi
    have hi' : i < l.length + 1 := hi
    have e1 : mw (mw (mw M 220 l.length (nI f)) 221 l.length (nI c)) 212 11 (nI (l.length + 1)) 220 = mw M 220 l.length (nI f) 220 := by rw [mw_c (by decide), mw_c (by decide)]
    have e2 : mw (mw (mw M 220 l.length (nI f)) 221 l.length (nI c)) 212 11 (nI (l.length + 1)) 221 = mw (mw M 220 l.length (nI f)) 221 l.length (nI c) 221 := by rw [mw_c (by decide)]
    rw [e1, e2]
    by_cases c1 : i = l.length
    · subst c1
      rw [mw_s, mw_s, List.getElem_append_right (Nat.le_refl _)]
      simp
    · rw [mw_o c1, mw_o c1, mw_c (by decide), List.getElem_append_left (by omega)]
      exact h.2 i (by omega)
theorem fr_put (M : Mm) (j : Nat) (u v w : Int32) : Fr M (mw (mw (mw M 220 j u) 221 j v) 212 11 w) := by
  intro a i h1 h2 h3
  rw [mw_at, if_neg h3, mw_c h2, mw_c h1]
theorem rft_k : ∀ j : Nat, j < 9 → 0 < j → ib ((3 : Int32) + ((nI j - (1 : Int32)) / (2 : Int32))) 7 ∧ st_ 9 ((3 : Int32) + ((nI j - (1 : Int32)) / (2 : Int32))).toNatClampNeg = nI (ft (3 + (j - 1) / 2)) ∧ ((1 : Int32) + ((nI j - (1 : Int32)) - (nI j - (1 : Int32)) / (2 : Int32) * (2 : Int32))) = nI (1 + (j - 1) % 2) := by decide +kernel
theorem lft_k : ∀ j : Nat, j < 7 → 0 < j → ib ((nI j - (1 : Int32)) / (2 : Int32)) 7 ∧ st_ 9 ((nI j - (1 : Int32)) / (2 : Int32)).toNatClampNeg = nI (ft ((j - 1) / 2)) ∧ ((1 : Int32) + ((nI j - (1 : Int32)) - (nI j - (1 : Int32)) / (2 : Int32) * (2 : Int32))) = nI (1 + (j - 1) % 2) := by decide +kernel
/-- an option's diagram, -1: none -/
def odi : Option (Nat × Nat) → Int32
  | none => -1
  | some a => nI a.1
theorem one_m {x : Int32} {L : Nat → Prop} (hL : ∀ p, p < 7 → (bi x p ↔ L p)) {d p k : Nat} (hd : d < 2187) (hp : p < 7) (hk : k < 3) : f_X7_moved (nI d) (nI p) (nI k) x = some (odi (one L d p k)) := by
  by_cases c : L p
  · rw [moved_l hp ((hL p hp).mpr c), one_t c]
    rfl
  · rw [moved_m hd hp hk (fun q => c ((hL p hp).mp q)), one_f c]
    rfl
theorem nI_z {j : Nat} (hj : j < 100) : nI j = 0 ↔ j = 0 := by
  rw [oI_n, k0, oI_eq ⟨by omega, by omega⟩ ⟨by omega, by omega⟩]
  omega
theorem rgt_m {x : Int32} {L : Nat → Prop} (hL : ∀ p, p < 7 → (bi x p ↔ L p)) {e j : Nat} (he : e < 2187) (hj : j < 9) :
    (if nI j = 0 then some (nI e) else ck (ib ((3 : Int32) + ((nI j - (1 : Int32)) / (2 : Int32))) 7) (Option.bind (f_X7_moved (nI e) (st_ 9 ((3 : Int32) + ((nI j - (1 : Int32)) / (2 : Int32))).toNatClampNeg) ((1 : Int32) + ((nI j - (1 : Int32)) - (nI j - (1 : Int32)) / (2 : Int32) * (2 : Int32))) x) (fun q => some q))) = some (odi (rgt L e j)) := by
  unfold rgt
  by_cases c : j = 0
  · rw [if_pos ((nI_z (by omega)).mpr c), if_pos c]
    rfl
  · obtain ⟨h1, h2, h3⟩ := rft_k j hj (by omega)
    rw [if_neg (fun q => c ((nI_z (by omega)).mp q)), if_neg c, ck_t h1, h2, h3, one_m hL he (ft_k _ (by omega)) (by omega), bd_s]
theorem lft_m {x : Int32} {L : Nat → Prop} (hL : ∀ p, p < 7 → (bi x p ↔ L p)) {e j : Nat} (he : e < 2187) (hj : j < 7) :
    (if nI j = 0 then some (nI e) else ck (ib ((nI j - (1 : Int32)) / (2 : Int32)) 7) (Option.bind (f_X7_moved (nI e) (st_ 9 ((nI j - (1 : Int32)) / (2 : Int32)).toNatClampNeg) ((1 : Int32) + ((nI j - (1 : Int32)) - (nI j - (1 : Int32)) / (2 : Int32) * (2 : Int32))) x) (fun q => some q))) = some (odi (lft L e j)) := by
  unfold lft
  by_cases c : j = 0
  · rw [if_pos ((nI_z (by omega)).mpr c), if_pos c]
    rfl
  · obtain ⟨h1, h2, h3⟩ := lft_k j hj (by omega)
    rw [if_neg (fun q => c ((nI_z (by omega)).mp q)), if_neg c, ck_t h1, h2, h3, one_m hL he (ft_k _ (by omega)) (by omega), bd_s]
theorem one_b {L : Nat → Prop} {d p k : Nat} (hd : d < 2187) (hp : p < 7) {a : Nat × Nat} (h : one L d p k = some a) : a.1 < 2187 ∧ a.2 = 1 := by
  by_cases c : L p
  · rw [one_t c] at h
    cases h
  · rw [one_f c] at h
    cases h
    exact ⟨mv_lt hd hp, rfl⟩
theorem rgt_b {L : Nat → Prop} {d j : Nat} (hd : d < 2187) (hj : j < 9) {a : Nat × Nat} (h : rgt L d j = some a) : a.1 < 2187 ∧ a.2 = if j = 0 then 0 else 1 := by
  unfold rgt at h
  by_cases c : j = 0
  · rw [if_pos c] at h
    cases h
    rw [if_pos c]
    exact ⟨hd, rfl⟩
  · rw [if_neg c] at h
    rw [if_neg c]
    exact one_b hd (ft_k _ (by omega)) h
theorem lft_b {L : Nat → Prop} {d j : Nat} (hd : d < 2187) (hj : j < 7) {a : Nat × Nat} (h : lft L d j = some a) : a.1 < 2187 ∧ a.2 = if j = 0 then 0 else 1 := by
  unfold lft at h
  by_cases c : j = 0
  · rw [if_pos c] at h
    cases h
    rw [if_pos c]
    exact ⟨hd, rfl⟩
  · rw [if_neg c] at h
    rw [if_neg c]
    exact one_b hd (ft_k _ (by omega)) h
theorem c01 {i : Nat} (hi : i < 100) : (if nI i = 0 then (0 : Int32) else (1 : Int32)) = nI (if i = 0 then 0 else 1) := by
  by_cases c : i = 0
  · rw [if_pos ((nI_z hi).mpr c), if_pos c]
    rfl
  · rw [if_neg (fun q => c ((nI_z hi).mp q)), if_neg c]
    rfl
theorem nI_nn {f : Nat} (hf : f < 100000) : ¬ nI f < 0 := by
  rw [oI_n, k0, oI_lt ⟨by omega, by omega⟩ ⟨by omega, by omega⟩]
  omega
theorem next_i {x : Int32} {L : Nat → Prop} (hL : ∀ p, p < 7 → (bi x p ↔ L p)) {i e c : Nat} (hi : i < 7) (he : e < 2187) (hc : c = if i = 0 then 0 else 1) : ∀ (k n j : Nat) (M : Mm) (l : List (Nat × Nat)), j + k = 9 → k < n → l.length + k ≤ 63 → Lst M l →
    ∃ M', L_X7_tellNext_59 x (nI i) (nI e) n (nI j) M = some M' ∧ Lst M' (l ++ opR L e c k j) ∧ Fr M M'
  | _, 0, _, _, _, _, h2, _, _ => by omega
  | 0, n + 1, j, M, l, h1, h2, h3, h4 => by
    rw [L_X7_tellNext_59, if_pos (by rw [show (9 : Int32) = oI 9 from rfl, oI_n, oI_le ⟨by omega, by omega⟩ ⟨by omega, by omega⟩]; omega)]
    refine ⟨M, rfl, ?_, fr_r M⟩
    rw [opR, List.append_nil]
    exact h4
  | k + 1, n + 1, j, M, l, h1, h2, h3, h4 => by
    rw [L_X7_tellNext_59, if_neg (by rw [show (9 : Int32) = oI 9 from rfl, oI_n, oI_le ⟨by omega, by omega⟩ ⟨by omega, by omega⟩]; omega), if_neg (nI_nn (by omega)), rgt_m hL he (by omega), bd_s, nI_s, opR]
    cases er : rgt L e j with
    | none =>
      have e1 : odi none < 0 := by decide
      rw [if_pos e1, bd_s]
      exact next_i hL hi he hc k n (j + 1) M l (by omega) (by omega) (by omega) h4
    | some a =>
      obtain ⟨hb1, hb2⟩ := rgt_b he (by omega) er
      have e1 : ¬ odi (some a) < 0 := nI_nn (by omega)
      have el := h4.1
      have hl : l.length < 63 := by omega
      have ecl : (nI l.length).toNatClampNeg = l.length := by rw [oI_n, oI_cl ⟨by omega, by omega⟩]; omega
      rw [if_neg e1, el, ck_t (ib_nI hl (by decide)), nm_d, mw_c (by decide), el, nm_d, nm_d, ck_t (ib_nI hl (by decide)), nm_d, nm_d, ecl, c01 (by omega), c01 (by omega), mw_c (by decide), mw_c (by decide), el, nI_s, bd_s]
      have e2 : nI (if i = 0 then 0 else 1) + nI (if j = 0 then 0 else 1) = nI (c + a.2) := by
        rw [oI_n, oI_n, oI_n, oI_add, hc, hb2]
        congr 1
      rw [e2]
      obtain ⟨M', q1, q2, q3⟩ := next_i hL hi he hc k n (j + 1) _ _ (by omega) (by omega) (by rw [List.length_append]; show l.length + 1 + k ≤ 63; omega) (lst_put h4 a.1 (c + a.2))
      refine ⟨M', q1, ?_, fr_t (fr_put _ _ _ _ _) q3⟩
      rw [← List.append_assoc]
      exact q2
