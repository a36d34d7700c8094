/-! PURE: the class's chord: read -/
/-- the class's part at a shows N -/
def RelP (a : Nat) (M : Mm) (N : Nt) : Prop :=
  M a 0 = N 0 ∧ (∀ b, b < 12 → M (a + 1) b = N (1 + b)) ∧
  (∀ b n, b < 12 → n < sz N b → M (a + 2) (6 * b + n) = N (13 + 3 * (6 * b + n)) ∧ M (a + 3) (6 * b + n) = N (13 + 3 * (6 * b + n) + 1) ∧ M (a + 4) (6 * b + n) = N (13 + 3 * (6 * b + n) + 2)) ∧
  (∀ b p, b < 12 → p < 7 → M (a + 5) (7 * b + p) = N (229 + 7 * b + p)) ∧ ∀ p, p < 7 → M (a + 6) p = N (313 + p)
/-- fingers of a kind -/
def fg (k : Nat) : Nat := if k = 1 ∨ k = 3 then 2 else 1
theorem fg_k : ∀ k : Nat, k < 4 → st_ 3 k = nI (fg k) ∧ st_ 2 k = oI (rise k) := by decide +kernel
/-- marks of a beat, as bits: which pedals, which stands -/
def mkB (N : Nt) (b m : Nat) (x : Int32) : Prop := ∀ q, q < 32 → (bi x q ↔ q / 2 < m ∧ 0 ≤ mk N b (q / 2))
def mkS (N : Nt) (b m : Nat) (x : Int32) : Prop := ∀ q, q < 32 → (bi x q ↔ q / 2 < m ∧ 0 ≤ mk N b (q / 2) ∧ (mk N b (q / 2)).toNat.testBit (q % 2) = true)
/-- what the chord at a knows of note i of beat b -/
def ChN (a : Nat) (M : Mm) (N : Nt) (b i : Nat) : Prop := M (a + 1) i = nI (fg (kd N b i)) ∧ M (a + 2) i = nI (rg N b i) ∧ fsI (tg N b i) 42 (M (a + 3) i) (M (a + 4) i) (M (a + 5) i) (M (a + 6) i)
/-- the chord at a is beat b of N -/
def Ch (a : Nat) (M : Mm) (N : Nt) (b : Nat) : Prop := M a 0 = nI (sz N b) ∧ (∀ i, i < sz N b → ChN a M N b i) ∧ mkB N b 7 (M a 7) ∧ mkS N b 7 (M a 8)
/-- but for the chord at a, M' is M -/
def Fc (a : Nat) (M M' : Mm) : Prop := ∀ c j, ¬ (a ≤ c ∧ c ≤ a + 8) → M' c j = M c j
theorem fc_r (a : Nat) (M : Mm) : Fc a M M := fun _ _ _ => rfl
theorem fc_t {a : Nat} {M M' M'' : Mm} (h : Fc a M M') (h' : Fc a M' M'') : Fc a M M'' := fun c j q => (h' c j q).trans (h c j q)
theorem fc_c {a : Nat} {M M' : Mm} (h : Fc a M M') {c : Nat} (hc : ¬ (a ≤ c ∧ c ≤ a + 8)) : M' c = M c := funext (fun j => h c j hc)
theorem rel_f {a a1 : Nat} {M M' : Mm} {N : Nt} (ha : a1 + 6 < a) (h : Fc a M M') (hR : RelP a1 M N) : RelP a1 M' N := by
  unfold RelP at *
  rw [fc_c h (show ¬ (a ≤ a1 ∧ a1 ≤ a + 8) by omega), fc_c h (show ¬ (a ≤ a1 + 1 ∧ a1 + 1 ≤ a + 8) by omega), fc_c h (show ¬ (a ≤ a1 + 2 ∧ a1 + 2 ≤ a + 8) by omega), fc_c h (show ¬ (a ≤ a1 + 3 ∧ a1 + 3 ≤ a + 8) by omega), fc_c h (show ¬ (a ≤ a1 + 4 ∧ a1 + 4 ≤ a + 8) by omega), fc_c h (show ¬ (a ≤ a1 + 5 ∧ a1 + 5 ≤ a + 8) by omega), fc_c h (show ¬ (a ≤ a1 + 6 ∧ a1 + 6 ≤ a + 8) by omega)]
  exact hR
theorem place_e {b i : Nat} : f_X3_place (nI b) (nI i) = nI (6 * b + i) := by
  unfold f_X3_place
  simp only [lit_, zmu, zad]
  rw [Nat.mul_comm]
theorem chn_f {a : Nat} {M M' : Mm} {N : Nt} {b i : Nat} (h : ChN a M N b i) (e : ∀ c, a + 1 ≤ c → c ≤ a + 6 → M' c i = M c i) : ChN a M' N b i := by
  unfold ChN at *
  rw [e _ (by omega) (by omega), e _ (by omega) (by omega), e _ (by omega) (by omega), e _ (by omega) (by omega), e _ (by omega) (by omega), e _ (by omega) (by omega)]
  exact h
theorem read_n {a a1 b : Nat} {N : Nt} (hN : WP N) (ha : a1 + 6 < a) (hb : b < 12) : ∀ (k n i : Nat) (M : Mm), i + k = sz N b → k < n → RelP a1 M N → M a 0 = nI (sz N b) → (∀ j, j < i → ChN a M N b j) →
    ∃ M', L_X0_read_12 a a1 (nI b) n (nI i) M = some M' ∧ M' a 0 = nI (sz N b) ∧ (∀ j, j < sz N b → ChN a M' N b j) ∧ Fc a M M'
  | _, 0, _, _, _, h2, _, _, _ => by omega
  | 0, n + 1, i, M, h1, h2, h3, h4, h5 => by
    have hz := (wp_sz hN hb).2
    rw [L_X0_read_12, h4]
    simp (disch := omega) only [lit_, zle, zlt, zeq, zad, zmu, zsu, zck, zcl, bd_s, nm_d, if_pos, if_neg, if_true, if_false]
    exact ⟨M, rfl, h4, fun j hj => h5 j (by omega), fc_r a M⟩
  | k + 1, n + 1, i, M, h1, h2, h3, h4, h5 => by
    have hz := (wp_sz hN hb).2
    have hi : i < sz N b := by omega
    obtain ⟨r1, r2, r3⟩ := h3.2.2.1 b i hb hi
    obtain ⟨ek, hk⟩ := wp_kd hN hb hi
    obtain ⟨er, hr⟩ := wp_rg hN hb hi
    obtain ⟨f1, f2⟩ := fg_k (kd N b i) (by omega)
    have ht := tg_b hN hb hi
    have ep : N (13 + 3 * (6 * b + i) + 1) = oI (pc_ N b i) := (oI_x _).symm
    rw [ek] at r1
    rw [er] at r3
    rw [ep] at r2
    have e1 : mw M (a + 1) i (nI (fg (kd N b i))) (a1 + 4) = M (a1 + 4) := mw_c (by omega)
    have e2 : mw (mw M (a + 1) i (nI (fg (kd N b i)))) (a + 2) i (nI (rg N b i)) (a1 + 3) = M (a1 + 3) := by rw [mw_c (by omega), mw_c (by omega)]
    rw [L_X0_read_12, h4, place_e]
    simp (disch := omega) only [lit_, zle, zlt, zeq, zad, zmu, zsu, zck, zcl, bd_s, nm_d, if_pos, if_neg, if_true, if_false, r1, f1, e1, r3, e2, r2, f2, oI_sub]
    have e3 : pc_ N b i - rise (kd N b i) = tg N b i := rfl
    rw [e3]
    obtain ⟨M1, q1, q2, q3⟩ := find_m (a := a) (i := i) (M := mw (mw M (a + 1) i (nI (fg (kd N b i)))) (a + 2) i (nI (rg N b i))) (show i < 6 by omega) (show -100 ≤ tg N b i by omega) (by omega)
    rw [q1, bd_s]
    have hF : Fc a M M1 := fun c j q => by
      rw [q3 c j (by omega), mw_c (by omega), mw_c (by omega)]
    obtain ⟨M', s1, s2, s3, s4⟩ := read_n hN ha hb k n (i + 1) M1 (by omega) (by omega) (rel_f ha hF h3) (by rw [q3 a 0 (by omega), mw_c (by omega), mw_c (by omega)]; exact h4) (by
      intro j hj
      by_cases c : j = i
      · subst c
        refine ⟨?_, ?_, q2⟩
        · rw [q3 (a + 1) j (by omega), mw_c (by omega), mw_s]
        · rw [q3 (a + 2) j (by omega), mw_s]
      · refine chn_f (h5 j (by omega)) (fun d h7 h8 => ?_)
        rw [q3 d j (by omega), mw_at, if_neg (by omega), mw_at, if_neg (by omega)])
    exact ⟨M', s1, s2, s3, fc_t hF s4⟩
theorem bits_k : ∀ p : Nat, p < 7 → ∀ q : Nat, q < 32 → ((f_X1_bitsOf (nI p)).toBitVec.getLsbD q = true ↔ q / 2 = p) := by decide +kernel
theorem stsh_k : ∀ p : Nat, p < 7 → ∀ s : Nat, s < 3 → ∀ q : Nat, q < 32 → ((nI s <<< (((2 : Int32) * nI p) &&& 31)).toBitVec.getLsbD q = true ↔ q / 2 = p ∧ s.testBit (q % 2) = true) := by decide +kernel
theorem read_m {a a1 b : Nat} {N : Nt} (hN : WP N) (ha : a1 + 6 < a) (hb : b < 12) : ∀ (k n p : Nat) (M : Mm), p + k = 7 → k < n → RelP a1 M N → mkB N b p (M a 7) → mkS N b p (M a 8) →
    ∃ M', L_X0_read_98 a a1 (nI b) n (nI p) M = some M' ∧ mkB N b 7 (M' a 7) ∧ mkS N b 7 (M' a 8) ∧ ∀ c j, ¬ (c = a ∧ (j = 7 ∨ j = 8)) → M' c j = M c j
  | _, 0, _, _, _, h2, _, _, _ => by omega
  | 0, n + 1, p, M, h1, h2, h3, h4, h5 => by
    have e : p = 7 := by omega
    subst e
    rw [L_X0_read_98]
    simp (disch := omega) only [lit_, zle, zlt, zeq, zad, zmu, zsu, zck, zcl, bd_s, nm_d, if_pos, if_neg, if_true, if_false]
    exact ⟨M, rfl, h4, h5, fun _ _ _ => rfl⟩
  | k + 1, n + 1, p, M, h1, h2, h3, h4, h5 => by
    have hm := hN.2.2.2.1 b p hb (by omega)
    have em : N (229 + 7 * b + p) = oI (mk N b p) := (oI_x _).symm
    have er := h3.2.2.2.1 b p hb (by omega)
    rw [em, Nat.mul_comm 7 b] at er
    rw [L_X0_read_98]
    have hlt : ¬ (7 : Int32) ≤ nI p := fun q => by have := (zle (a := 7) (b := p) (by omega) (by omega)).mp q; omega
    have ex : nI b * (7 : Int32) + nI p = nI (b * 7 + p) := by rw [lit_, zmu, zad]
    rw [if_neg hlt, ex, zck (by omega) (by omega), zcl (by omega), er, nm_d, nm_d, nI_s]
    by_cases c : mk N b p < 0
    · rw [if_pos (by rw [k0, oI_lt ⟨by omega, by omega⟩ ⟨by omega, by omega⟩]; exact c)]
      refine read_m hN ha hb k n (p + 1) M (by omega) (by omega) h3 (fun q hq => ?_) (fun q hq => ?_)
      · rw [h4 q hq]
        constructor
        · intro ⟨g1, g2⟩
          exact ⟨by omega, g2⟩
        · intro ⟨g1, g2⟩
          by_cases c9 : q / 2 = p
          · rw [c9] at g2
            omega
          · exact ⟨by omega, g2⟩
      · rw [h5 q hq]
        constructor
        · intro ⟨g1, g2⟩
          exact ⟨by omega, g2⟩
        · intro ⟨g1, g2⟩
          by_cases c9 : q / 2 = p
          · rw [c9] at g2
            omega
          · exact ⟨by omega, g2⟩
    · rw [if_neg (by rw [k0, oI_lt ⟨by omega, by omega⟩ ⟨by omega, by omega⟩]; exact c)]
      obtain ⟨s, es⟩ := Int.eq_ofNat_of_zero_le (show 0 ≤ mk N b p by omega)
      have hs : s < 3 := by omega
      rw [es, ← oI_n, nm_d, nm_d, mw_o (show (8 : Nat) ≠ 7 by decide)]
      have hF : ∀ c j, ¬ (c = a ∧ (j = 7 ∨ j = 8)) → mw (mw M a 7 (M a 7 ||| f_X1_bitsOf (nI p))) a 8 (M a 8 ||| nI s <<< (((2 : Int32) * nI p) &&& 31)) c j = M c j := fun c j q => by
        rw [mw_at, if_neg (by omega), mw_at, if_neg (by omega)]
      obtain ⟨M', s1, s2, s3, s4⟩ := read_m hN ha hb k n (p + 1) (mw (mw M a 7 (M a 7 ||| f_X1_bitsOf (nI p))) a 8 (M a 8 ||| nI s <<< (((2 : Int32) * nI p) &&& 31))) (by omega) (by omega) (rel_f ha (fun c j q => hF c j (by omega)) h3) (fun q hq => by
        rw [mw_o (by decide), mw_s, bi_or, h4 q hq]
        have h9 : bi (f_X1_bitsOf (nI p)) q ↔ q / 2 = p := bits_k p (by omega) q hq
        rw [h9]
        constructor
        · intro g
          rcases g with ⟨g1, g2⟩ | g
          · exact ⟨by omega, g2⟩
          · exact ⟨by omega, by rw [g]; omega⟩
        · intro ⟨g1, g2⟩
          by_cases c9 : q / 2 = p
          · exact Or.inr c9
          · exact Or.inl ⟨by omega, g2⟩) (fun q hq => by
        rw [mw_s, bi_or, h5 q hq]
        have h9 : bi (nI s <<< (((2 : Int32) * nI p) &&& 31)) q ↔ q / 2 = p ∧ s.testBit (q % 2) = true := stsh_k p (by omega) s hs q hq
        rw [h9]
        constructor
        · intro g
          rcases g with ⟨g1, g2⟩ | ⟨g, g2⟩
          · exact ⟨by omega, g2⟩
          · rw [g, es]
            exact ⟨by omega, by omega, g2⟩
        · intro ⟨g1, g2, g3⟩
          by_cases c9 : q / 2 = p
          · rw [c9, es] at g3
            exact Or.inr ⟨c9, g3⟩
          · exact Or.inl ⟨by omega, g2, g3⟩)
      exact ⟨M', s1, s2, s3, fun c j q => (s4 c j q).trans (hF c j q)⟩
theorem bi_00 {q : Nat} : ¬ bi (0 : Int32) q := bi_0
theorem read_c {a a1 b : Nat} {N : Nt} {M : Mm} (hN : WP N) (ha : a1 + 6 < a) (hb : b < 12) (hR : RelP a1 M N) : ∃ M', f_X0_read a a1 (nI b) M = some M' ∧ Ch a M' N b ∧ Fc a M M' := by
  obtain ⟨ez, hz⟩ := wp_sz hN hb
  have e1 := hR.2.1 b hb
  rw [ez] at e1
  unfold f_X0_read
  rw [zck hb (by omega), zcl (by omega), e1, nm_d]
  have hF1 : Fc a M (mw M a 0 (nI (sz N b))) := fun c j q => by rw [mw_c (by omega)]
  obtain ⟨M1, q1, q2, q3, q4⟩ := read_n hN ha hb (sz N b) FU 0 (mw M a 0 (nI (sz N b))) (by omega) (by unfold FU; omega) (rel_f ha hF1 hR) mw_s (fun j hj => by omega)
  have q1' : L_X0_read_12 a a1 (nI b) FU (0 : Int32) (mw M a 0 (nI (sz N b))) = some M1 := q1
  rw [q1', bd_s, nm_d, nm_d]
  have hF2 : ∀ c j, ¬ (c = a ∧ (j = 7 ∨ j = 8)) → mw (mw M1 a 7 0) a 8 0 c j = M1 c j := fun c j q => by
    rw [mw_at, if_neg (by omega), mw_at, if_neg (by omega)]
  have hF3 : Fc a M (mw (mw M1 a 7 0) a 8 0) := fc_t hF1 (fc_t q4 (fun c j q => hF2 c j (by omega)))
  obtain ⟨M2, s1, s2, s3, s4⟩ := read_m hN ha hb 7 FU 0 (mw (mw M1 a 7 0) a 8 0) (by omega) (by unfold FU; omega) (rel_f ha hF3 hR) (fun q _ => by
    rw [mw_o (by decide), mw_s]
    exact ⟨fun g => absurd g bi_00, fun g => by omega⟩) (fun q _ => by
    rw [mw_s]
    exact ⟨fun g => absurd g bi_00, fun g => by omega⟩)
  have s1' : L_X0_read_98 a a1 (nI b) FU (0 : Int32) (mw (mw M1 a 7 0) a 8 0) = some M2 := s1
  rw [s1', bd_s]
  refine ⟨M2, rfl, ⟨?_, ?_, s2, s3⟩, fc_t hF3 (fun c j q => s4 c j (by omega))⟩
  · rw [s4 a 0 (by omega), hF2 a 0 (by omega)]
    exact q2
  · intro i hi
    exact chn_f (q3 i hi) (fun d h7 h8 => by rw [s4 d i (by omega), hF2 d i (by omega)])
