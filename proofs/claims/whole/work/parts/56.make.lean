/-! PURE: makeArrival, bestOf -/
/-- but for what makeArrival writes, M' is M -/
def FA (M M' : Mm) : Prop := ∀ c j, ¬ (162 ≤ c ∧ c ≤ 170) → ¬ (186 ≤ c ∧ c ≤ 202) → ¬ (c = 161 ∧ j = 13) → M' c j = M c j
theorem fA_r (M : Mm) : FA M M := fun _ _ _ _ _ => rfl
theorem fA_t {M M' M'' : Mm} (h : FA M M') (h' : FA M' M'') : FA M M'' := fun c j g1 g2 g3 => (h' c j g1 g2 g3).trans (h c j g1 g2 g3)
theorem fA_c {M M' : Mm} (h : FA M M') {c : Nat} (h1 : ¬ (162 ≤ c ∧ c ≤ 170)) (h2 : ¬ (186 ≤ c ∧ c ≤ 202)) (h3 : c ≠ 161) : M' c = M c := funext (fun j => h c j h1 h2 (fun q => h3 q.1))
theorem relp_e {M M' : Mm} {N : Nt} {a : Nat} (h : RelP a M N) (e : ∀ c, a ≤ c → c ≤ a + 6 → M' c = M c) : RelP a M' N := by
  unfold RelP at h ⊢
  rw [e a (by omega) (by omega), e (a + 1) (by omega) (by omega), e (a + 2) (by omega) (by omega), e (a + 3) (by omega) (by omega), e (a + 4) (by omega) (by omega), e (a + 5) (by omega) (by omega), e (a + 6) (by omega) (by omega)]
  exact h
/-- the first k rows of arrival hold -/
def ArO (N : Nt) (M : Mm) (k : Nat) : Prop := ∀ b, b < k → Row (186 + b) M (zr (A N b))
theorem make_l {N : Nt} (hN : WP N) {t : Nat} (ht : t < 12) : ∀ (u n k : Nat) (M : Mm), k + u = t + 1 → u < n → RelP 3 M N → Hp M → ArO N M k →
    ∃ M', L_X5_makeArrival_7 (nI t) n (nI k) M = some M' ∧ ArO N M' (t + 1) ∧ ∀ c, ¬ (162 ≤ c ∧ c ≤ 170) → ¬ (186 ≤ c ∧ c ≤ 202) → M' c = M c
  | _, 0, _, _, _, h2, _, _, _ => by omega
  | 0, n + 1, k, M, h1, h2, h3, h4, h5 => by
    rw [L_X5_makeArrival_7, if_pos ((zlt (by omega) (by omega)).mpr (by omega))]
    have e : k = t + 1 := by omega
    rw [e] at h5
    exact ⟨M, rfl, h5, fun _ _ _ => rfl⟩
  | u + 1, n + 1, k, M, h1, h2, h3, h4, h5 => by
    rw [L_X5_makeArrival_7, if_neg (fun q => by have := (zlt (by omega) (by omega)).mp q; omega), nI_s]
    have hnext : ∀ M1 : Mm, Row (186 + k) M1 (zr (A N k)) → (∀ c, ¬ (162 ≤ c ∧ c ≤ 170) → c ≠ 186 + k → c ≠ 198 → c ≠ 199 → c ≠ 200 → c ≠ 201 → c ≠ 202 → M1 c = M c) → ∃ M', L_X5_makeArrival_7 (nI t) n (nI (k + 1)) M1 = some M' ∧ ArO N M' (t + 1) ∧ ∀ c, ¬ (162 ≤ c ∧ c ≤ 170) → ¬ (186 ≤ c ∧ c ≤ 202) → M' c = M c := fun M1 g1 g2 => by
      obtain ⟨M2, r1, r2, r3⟩ := make_l hN ht u n (k + 1) M1 (by omega) (by omega) (relp_e h3 (fun c i1 i2 => g2 c (by omega) (by omega) (by omega) (by omega) (by omega) (by omega) (by omega))) (fun d hd => by rw [g2 2 (by omega) (by omega) (by omega) (by omega) (by omega) (by omega) (by omega)]; exact h4 d hd) (fun b hb => by
        by_cases c : b = k
        · rw [c]
          exact g1
        · intro d hd
          rw [g2 (186 + b) (by omega) (by omega) (by omega) (by omega) (by omega) (by omega) (by omega)]
          exact h5 b (by omega) d hd)
      exact ⟨M2, r1, r2, fun c i1 i2 => by rw [r3 c i1 i2, g2 c i1 (by omega) (by omega) (by omega) (by omega) (by omega) (by omega)]⟩
    cases k with
    | zero =>
      obtain ⟨M1, q1, q2, q3⟩ := first_c hN h3 h4
      rw [if_pos nI_00, q1, bd_s, bd_s]
      exact hnext M1 q2 (fun c _ g1 _ _ _ _ _ => q3 c (by omega))
    | succ b =>
      obtain ⟨M1, q1, q2, q3⟩ := arr_1 hN (show b + 1 < 12 by omega) h4 h3 (h5 b (by omega))
      rw [if_neg (fun q => by have := (nI_z (by omega)).mp q; omega), q1, bd_s]
      exact hnext M1 q2 q3
theorem make_c {N : Nt} (hN : WP N) {t k : Nat} {M : Mm} (ht : t < 12) (hk : k ≤ 12) (h13 : M 161 13 = oI ((k : Int) - 1)) (hP : RelP 3 M N) (hH : Hp M) (hA : ArO N M k) :
    ∃ M', f_X5_makeArrival (nI t) M = some M' ∧ M' 161 13 = oI ((max k (t + 1) : Nat) - 1) ∧ ArO N M' (max k (t + 1)) ∧ FA M M' := by
  unfold f_X5_makeArrival
  have e1 : oI ((k : Int) - 1) + (1 : Int32) = nI k := by
    rw [k1, oI_add, oI_n]
    congr 1
    omega
  rw [h13, e1, nm_d]
  by_cases c : k ≤ t
  · obtain ⟨M1, q1, q2, q3⟩ := make_l hN ht (t + 1 - k) FU k M (by omega) (by unfold FU; omega) hP hH hA
    have e161 : M1 161 = M 161 := q3 161 (by omega) (by omega)
    rw [q1, bd_s, e161, h13]
    have e2 : jmax (oI ((k : Int) - 1)) (nI t) = oI ((max k (t + 1) : Nat) - 1) := by
      unfold jmax
      rw [oI_n, if_pos (by rw [oI_lt ⟨by omega, by omega⟩ ⟨by omega, by omega⟩]; omega)]
      congr 1
      omega
    rw [nm_d, e2]
    refine ⟨_, rfl, mw_s, ?_, fun c j g1 g2 g3 => ?_⟩
    · rw [Nat.max_eq_right (by omega)]
      intro b hb d hd
      rw [mw_c (by omega)]
      exact q2 b hb d hd
    · rw [mw_at, if_neg g3, q3 c g1 g2]
  · have e3 : L_X5_makeArrival_7 (nI t) FU (nI k) M = some M := by
      show L_X5_makeArrival_7 (nI t) (9999 + 1) (nI k) M = some M
      rw [L_X5_makeArrival_7, if_pos ((zlt (by omega) (by omega)).mpr (by omega))]
    rw [e3, bd_s, h13]
    have e2 : jmax (oI ((k : Int) - 1)) (nI t) = oI ((max k (t + 1) : Nat) - 1) := by
      unfold jmax
      rw [oI_n, if_neg (by rw [oI_lt ⟨by omega, by omega⟩ ⟨by omega, by omega⟩]; omega)]
      congr 1
      omega
    rw [nm_d, e2]
    refine ⟨_, rfl, mw_s, ?_, fun c j g1 g2 g3 => ?_⟩
    · rw [Nat.max_eq_left (by omega)]
      intro b hb d hd
      rw [mw_c (by omega)]
      exact hA b hb d hd
    · rw [mw_at, if_neg g3]
/-- the best of coming at g moves and going on by f -/
def bsf (g : Nat → Nat) (f : Nat → Pr) (d : Nat) : Pr := sh (g d) (f d)
theorem bestOf_l {a0 a1 m : Nat} {M : Mm} {g : Nat → Nat} {f : Nat → Pr} (h0 : Row a0 M (zr g)) (h1 : Row a1 M f) (hg : ∀ d, d < 2187 → g d ≤ 63) (hm : m ≤ 40) (hf : okR m f) : ∀ (k n d : Nat), d + k = 2187 → k < n → L_X5_bestOf_5 a0 a1 M n (enc (bsn (bsf g f) d)) (nI d) = some (enc (bsn (bsf g f) 2187)) ∧ ∀ t, t ≤ 2187 → okE (bsn (bsf g f) t) := by
  have hE : ∀ t, t < 2187 → okE (bsf g f t) := fun t ht => by
    have h2 := okP_E hm (hf t ht)
    have h3 := okP_1 (show m ≤ 63 by omega) (hf t ht)
    have h4 := hg t ht
    exact ⟨by show (f t).1 + g t ≤ 1000; omega, h2.2⟩
  have hB : ∀ t, t ≤ 2187 → okE (bsn (bsf g f) t) := fun t => by
    induction t with
    | zero => exact fun _ => ⟨by show 63 ≤ 1000; omega, Nat.zero_le _⟩
    | succ t ih => exact fun ht => okE_bt (ih (by omega)) (hE t (by omega))
  intro k
  induction k with
  | zero =>
    intro n d h2 h3
    refine ⟨?_, hB⟩
    cases n with
    | zero => omega
    | succ n =>
      rw [L_X5_bestOf_5, if_pos ((zleD (by omega)).mpr (by omega)), show d = 2187 by omega]
  | succ k ih =>
    intro n d h2 h3
    refine ⟨?_, hB⟩
    cases n with
    | zero => omega
    | succ n =>
      have hd : d < 2187 := by omega
      have e1 : enc (zr g d) + enc (f d) = enc (bsf g f d) := enc_ad (f d) (g d)
      rw [L_X5_bestOf_5, if_neg (fun q => by have := (zleD (by omega)).mp q; omega), zck hd (by omega), zck hd (by omega), zcl (by omega), h0 d hd, h1 d hd, e1, better_e (hB d (by omega)) (hE d hd), nm_d, nI_s]
      exact (ih n (d + 1) (by omega) (by omega)).1
theorem bestOf_c {a0 a1 m : Nat} {M : Mm} {g : Nat → Nat} {f : Nat → Pr} (h0 : Row a0 M (zr g)) (h1 : Row a1 M f) (hg : ∀ d, d < 2187 → g d ≤ 63) (hm : m ≤ 40) (hf : okR m f) : f_X5_bestOf a0 a1 M = some (enc (bsn (bsf g f) 2187)) ∧ okE (bsn (bsf g f) 2187) := by
  have h := bestOf_l h0 h1 hg hm hf 2187 FU 0 (by omega) (by unfold FU; omega)
  have h' : L_X5_bestOf_5 a0 a1 M FU (66060288 : Int32) (0 : Int32) = some (enc (bsn (bsf g f) 2187)) := by
    rw [← enc_top]
    exact h.1
  unfold f_X5_bestOf
  rw [h', bd_s]
  exact ⟨rfl, h.2 2187 (Nat.le_refl _)⟩
