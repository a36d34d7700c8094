/-! PURE: the model's whole table; what lies ahead of the first beat -/
/-- but for the model's list and table, M' is M -/
def Fm (M M' : Mm) : Prop := ∀ a j, a ≠ 218 → a ≠ 219 → a ≠ 220 → a ≠ 221 → ¬ (a = 212 ∧ j = 11) → M' a j = M a j
theorem fm_r (M : Mm) : Fm M M := fun _ _ _ _ _ _ _ => rfl
theorem fm_t {M M' M'' : Mm} (h : Fm M M') (h' : Fm M' M'') : Fm M M'' := fun a j h1 h2 h3 h4 h5 => (h' a j h1 h2 h3 h4 h5).trans (h a j h1 h2 h3 h4 h5)
theorem fm_c {M M' : Mm} (h : Fm M M') {a : Nat} (h1 : a ≠ 220) (h2 : a ≠ 221) (h3 : a ≠ 212) (h4 : a ≠ 218) (h5 : a ≠ 219) : M' a = M a := funext (fun j => h a j h4 h5 h1 h2 (fun q => h3 q.1))
theorem fm_f {b : Nat} {M M' : Mm} (h : Ft b M M') : Fm M M' := fun a j h1 h2 h3 h4 h5 => h a j h3 h4 h5 (fun q => q.1.elim h1 h2)
theorem fm_l {M M' : Mm} (h : Fr M M') : Fm M M' := fun a j _ _ h3 h4 h5 => h a j h3 h4 h5
/-- one row more -/
theorem tell_r {N : Nt} (hN : WP N) {e b k : Nat} (h11 : e < 12) (hb : b + k = e) {M : Mm} (h3 : M 213 = N) (hR : ∀ i, i < k → Rw M (e - i) (V N e i)) : ∃ M', L_X7_tell_17 (nI e) (nI b) FU (nI 0) M = some M' ∧ Rw M' b (V N e k) ∧ Ft b M M' := by
  cases k with
  | zero =>
    have hbe : b = e := by omega
    subst hbe
    exact tell_d (Nat.le_refl b) h11 (m := 0) (by omega) (fun _ _ => Or.inl rfl) 2187 FU 0 M (by omega) (by unfold FU; omega) h3 hN (fun q => by omega) (fun t ht => by omega)
  | succ k =>
    have hbe : b = e - (k + 1) := by omega
    have h9 := hR k (by omega)
    have e1 : e - k = b + 1 := by omega
    rw [e1] at h9
    have h8 := tell_d (show b ≤ e by omega) h11 (m := 2 * k + 2) (by omega) (f := V N e k) (fun q hq => V_ok k q (by omega) hq) 2187 FU 0 M (by omega) (by unfold FU; omega) h3 hN (fun _ => h9) (fun t ht => by omega)
    have e2 : V N e (k + 1) = Wv N e b (V N e k) := by rw [V, ← hbe]
    rw [e2]
    exact h8
theorem tell_b {N : Nt} (hN : WP N) {e : Nat} (h11 : e < 12) : ∀ (t n k : Nat) (M : Mm), t + k = e + 1 → t < n → M 213 = N → (∀ i, i < k → Rw M (e - i) (V N e i)) →
    ∃ M', L_X7_tell_11 (nI e) n (oI ((t : Int) - 1)) M = some M' ∧ (∀ i, i ≤ e → Rw M' (e - i) (V N e i)) ∧ Fm M M'
  | _, 0, _, _, _, h2, _, _ => by omega
  | 0, n + 1, k, M, h1, h2, h3, h4 => by
    rw [L_X7_tell_11, if_pos (by rw [k0, oI_lt ⟨by omega, by omega⟩ ⟨by omega, by omega⟩]; omega)]
    exact ⟨M, rfl, fun i hi => h4 i (by omega), fm_r M⟩
  | t + 1, n + 1, k, M, h1, h2, h3, h4 => by
    have e1 : oI (((t + 1 : Nat) : Int) - 1) = nI t := by rw [oI_n]; congr 1; omega
    have e2 : nI t + (-1) = oI ((t : Int) - 1) := by rw [oI_n, km1, oI_add]; rfl
    obtain ⟨M1, q1, q2, q3⟩ := tell_r hN h11 (show t + k = e by omega) h3 h4
    rw [L_X7_tell_11, e1, if_neg (nI_nn (by omega))]
    show ∃ M', Option.bind (L_X7_tell_17 (nI e) (nI t) FU (nI 0) M) _ = _ ∧ _
    rw [q1, bd_s, e2]
    obtain ⟨M2, r1, r2, r3⟩ := tell_b hN h11 t n (k + 1) M1 (by omega) (by omega) ((ft_c q3 (by decide) (by decide) (by decide) (by decide) (by decide)).trans h3) (by
      intro i hi
      by_cases c : i = k
      · subst c
        have e3 : e - i = t := by omega
        rw [e3]
        exact q2
      · exact ft_R q3 (by omega) (h4 i (by omega)))
    exact ⟨M2, r1, r2, fm_t (fm_f q3) r3⟩
/-! PURE: ahead of the first beat -/
/-- pedal p is not where it starts -/
def off (N : Nt) (d p : Nat) : Nat := if so N p < 0 then 0 else if so N p = (sd d p : Int) then 0 else 1
theorem off_b (N : Nt) (d p : Nat) : off N d p ≤ 1 := by
  unfold off
  split
  · omega
  · split <;> omega
def offL (N : Nt) (d : Nat) : Nat → Nat
  | 0 => 0
  | p + 1 => offL N d p + (if p = 6 then off N d p else if 2 ≤ p then 0 else off N d p)
def offR (N : Nt) (d : Nat) : Nat → Nat
  | 0 => 0
  | p + 1 => offR N d p + (if 6 ≤ p then 0 else if p ≤ 1 then 0 else off N d p)
theorem offL_b (N : Nt) (d : Nat) : ∀ p, offL N d p ≤ p
  | 0 => Nat.le_refl _
  | p + 1 => by
    have h := offL_b N d p
    have h2 := off_b N d p
    rw [offL]
    split
    · omega
    · split <;> omega
theorem offR_b (N : Nt) (d : Nat) : ∀ p, offR N d p ≤ p
  | 0 => Nat.le_refl _
  | p + 1 => by
    have h := offR_b N d p
    have h2 := off_b N d p
    rw [offR]
    split
    · omega
    · split <;> omega
/-- how many moves ahead of the first beat, 63: too many at once -/
def ahd (N : Nt) (d : Nat) : Nat := if 1 < offL N d 7 then 63 else if offR N d 7 ≤ 1 then offL N d 7 + offR N d 7 else 63
theorem ahead_l {M : Mm} (h : WP (M 213)) {d : Nat} (hd : d < 2187) : ∀ k n p : Nat, p + k = 7 → k < n → L_X7_ahead_7 (nI d) M n (nI (offL (M 213) d p)) (nI (offR (M 213) d p)) (nI p) = some (nI (offL (M 213) d 7), nI (offR (M 213) d 7))
  | _, 0, _, _, h2 => by omega
  | 0, n + 1, p, h1, h2 => by
    have e : p = 7 := by omega
    subst e
    rw [L_X7_ahead_7, if_pos (by decide)]
  | k + 1, n + 1, p, h1, h2 => by
    have e1 : (313 : Int32) + nI p = nI (313 + p) := by rw [show (313 : Int32) = nI 313 from rfl, zad]
    have hs := h.2.2.2.2 p (by omega)
    have em : M 213 (313 + p) = oI (so (M 213) p) := (oI_x _).symm
    have hsd := sd_lt d p
    rw [L_X7_ahead_7, if_neg (fun q => by have := (zle (a := 7) (b := p) (by omega) (by omega)).mp q; omega), e1, ck_t (ib_nI (by omega) (by decide)), zcl (by omega), em, standOf_eq hd (by omega), bd_s]
    have e2 : (if oI (so (M 213) p) < 0 then some (0 : Int32) else ck (ib (nI (313 + p)) 320) (if oI (so (M 213) p) = nI (sd d p) then some (0 : Int32) else some (1 : Int32))) = some (nI (off (M 213) d p)) := by
      unfold off
      by_cases c : so (M 213) p < 0
      · rw [if_pos (by rw [k0, oI_lt ⟨by omega, by omega⟩ ⟨by omega, by omega⟩]; exact c), if_pos c]
        rfl
      · rw [if_neg (by rw [k0, oI_lt ⟨by omega, by omega⟩ ⟨by omega, by omega⟩]; exact c), if_neg c, ck_t (ib_nI (by omega) (by decide))]
        by_cases c2 : so (M 213) p = (sd d p : Int)
        · rw [if_pos (by rw [oI_n, oI_eq ⟨by omega, by omega⟩ ⟨by omega, by omega⟩]; exact c2), if_pos c2]
          rfl
        · rw [if_neg (by rw [oI_n, oI_eq ⟨by omega, by omega⟩ ⟨by omega, by omega⟩]; exact c2), if_neg c2]
          rfl
    rw [e2, bd_s, nm_d, nm_d, nm_d, nm_d, nI_s]
    have e3 : (if nI p = (6 : Int32) then nI (off (M 213) d p) else if (2 : Int32) ≤ nI p then (0 : Int32) else nI (off (M 213) d p)) = nI (if p = 6 then off (M 213) d p else if 2 ≤ p then 0 else off (M 213) d p) := by
      rcases p7 (show p < 7 by omega) with q | q | q | q | q | q | q <;> subst q <;> rfl
    have e4 : (if (6 : Int32) ≤ nI p then (0 : Int32) else if nI p ≤ (1 : Int32) then (0 : Int32) else nI (off (M 213) d p)) = nI (if 6 ≤ p then 0 else if p ≤ 1 then 0 else off (M 213) d p) := by
      rcases p7 (show p < 7 by omega) with q | q | q | q | q | q | q <;> subst q <;> rfl
    rw [e3, e4, zad, zad]
    exact ahead_l h hd k n (p + 1) (by omega) (by omega)
theorem ahd_b (N : Nt) (d : Nat) : ahd N d = 63 ∨ ahd N d ≤ 2 := by
  unfold ahd
  split
  · exact Or.inl rfl
  · split
    · right
      omega
    · exact Or.inl rfl
theorem z1lt {a : Nat} (ha : a < 2147483648) : (1 : Int32) < nI a ↔ 1 < a := zlt (a := 1) (by omega) ha
theorem zle1 {a : Nat} (ha : a < 2147483648) : nI a ≤ (1 : Int32) ↔ a ≤ 1 := zle (b := 1) ha (by omega)
theorem ahead_m {M : Mm} (h : WP (M 213)) {d : Nat} (hd : d < 2187) : f_X7_ahead (nI d) M = some (nI (eC (ahd (M 213) d))) := by
  unfold f_X7_ahead
  have h1 := offL_b (M 213) d 7
  have h2 := offR_b (M 213) d 7
  have e := ahead_l h hd 7 FU 0 (by omega) (by unfold FU; omega)
  show Option.bind (L_X7_ahead_7 (nI d) M FU (nI (offL (M 213) d 0)) (nI (offR (M 213) d 0)) (nI 0)) _ = _
  rw [e, bd_s]
  unfold ahd
  dsimp only
  by_cases c : 1 < offL (M 213) d 7
  · rw [if_pos ((z1lt (by omega)).mpr c), if_pos c]
    rfl
  · rw [if_neg (fun q => c ((z1lt (by omega)).mp q)), if_neg c]
    by_cases c2 : offR (M 213) d 7 ≤ 1
    · rw [if_pos ((zle1 (by omega)).mpr c2), if_pos c2, zad, eC_f (by omega)]
    · rw [if_neg (fun q => c2 ((zle1 (by omega)).mp q)), if_neg c2]
      rfl
