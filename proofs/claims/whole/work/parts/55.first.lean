/-! PURE: the first row of arrival; makeArrival -/
theorem sin_k : ∀ p : Nat, p < 7 → ((((2 : Int32) * nI p) &&& 31).toBitVec.smod 32).toNat = 2 * p := by decide +kernel
theorem sin_bit (x : Int32) {p : Nat} (hp : p < 7) (i : Nat) (hi : i < 32) : (f_X1_standIn x (nI p)).toBitVec.getLsbD i = (decide (i < 2) && x.toBitVec.getLsbD (2 * p + i)) := by
  unfold f_X1_standIn
  rw [Int32.toBitVec_and, BitVec.getLsbD_and, Int32.toBitVec_shiftRight, BitVec.sshiftRight_eq', sin_k p hp, BitVec.getLsbD_sshiftRight]
  have e3 : ∀ i : Nat, i < 32 → (3 : Int32).toBitVec.getLsbD i = decide (i < 2) := by decide +kernel
  rw [e3 i hi]
  by_cases h : i < 2
  · have e1 : decide (i < 2) = true := decide_eq_true h
    rw [e1, if_pos (by omega), Bool.and_true, Bool.true_and]
    have e2 : decide (32 ≤ i) = false := decide_eq_false (by omega)
    rw [e2]
    simp
  · have e1 : decide (i < 2) = false := decide_eq_false h
    rw [e1, Bool.and_false, Bool.false_and]
theorem sin_0 {x : Int32} {p : Nat} (hp : p < 7) : f_X1_standIn x (nI p) = 0 ↔ ¬ bi x (2 * p) ∧ ¬ bi x (2 * p + 1) := by
  rw [bi_ext]
  constructor
  · intro h
    have h0 := h 0 (by omega)
    have h1 := h 1 (by omega)
    unfold bi at h0 h1 ⊢
    rw [sin_bit x hp 0 (by omega)] at h0
    rw [sin_bit x hp 1 (by omega)] at h1
    simp at h0 h1
    exact ⟨by simpa using h0, by simpa using h1⟩
  · intro ⟨h0, h1⟩ q hq
    have hz := bi_00 (q := q)
    refine ⟨fun g => ?_, fun g => absurd g hz⟩
    unfold bi at g h0 h1
    rw [sin_bit x hp q hq] at g
    have g' : q < 2 ∧ x.toBitVec.getLsbD (2 * p + q) = true := by simpa using g
    have h5 : q = 0 ∨ q = 1 := by omega
    rcases h5 with h5 | h5
    · rw [h5] at g'
      exact absurd g'.2 h0
    · rw [h5] at g'
      exact absurd g'.2 h1
theorem bi_xor {x y : Int32} {q : Nat} : bi (x ^^^ y) q ↔ ¬ (bi x q ↔ bi y q) := by
  unfold bi
  rw [Int32.toBitVec_xor, BitVec.getLsbD_xor]
  cases x.toBitVec.getLsbD q <;> cases y.toBitVec.getLsbD q <;> simp
theorem sB_bi {d q : Nat} (hd : d < 2187) (hq : q < 32) : bi (nI (sB d)) q ↔ q < 14 ∧ (sd d (q / 2)).testBit (q % 2) = true := by
  unfold bi
  rw [sB_bit d hd q hq]
  simp
/-- the bits of pedals below m that do not stand as they start -/
def unB (N : Nt) (d m : Nat) (x : Int32) : Prop := ∀ q, q < 32 → (bi x q ↔ q / 2 < m ∧ 0 ≤ so N (q / 2) ∧ ¬ ((sd d (q / 2)).testBit (q % 2) = true ↔ (so N (q / 2)).toNat.testBit (q % 2) = true))
theorem un_l {N : Nt} (hN : WP N) {M : Mm} (hP : RelP 3 M N) {d : Nat} (hd : d < 2187) : ∀ (k n p : Nat) (x : Int32), p + k = 7 → k < n → unB N d p x → ∃ y, L_X5_unlikeStart_4 (nI (sB d)) M n x (nI p) = some y ∧ unB N d 7 y
  | _, 0, _, _, _, h2, _ => by omega
  | 0, n + 1, p, x, h1, h2, h3 => by
    rw [L_X5_unlikeStart_4, if_pos ((zle7 (by omega)).mpr (by omega))]
    have e : p = 7 := by omega
    rw [e] at h3
    exact ⟨x, rfl, h3⟩
  | k + 1, n + 1, p, x, h1, h2, h3 => by
    have hp : p < 7 := by omega
    have hs := hN.2.2.2.2 p hp
    have e1 : M 9 p = oI (so N p) := (hP.2.2.2.2 p hp).trans (oI_x _).symm
    rw [L_X5_unlikeStart_4, if_neg (fun q => by have := (zle7 (by omega)).mp q; omega), zck hp (by omega), zcl (by omega), nm_d, e1, nm_d, nI_s]
    by_cases c : so N p < 0
    · rw [if_pos (by rw [k0, oI_lt ⟨by omega, by omega⟩ ⟨by omega, by omega⟩]; exact c)]
      refine un_l hN hP hd k n (p + 1) x (by omega) (by omega) (fun q hq => ?_)
      rw [h3 q hq]
      constructor
      · intro ⟨g1, g2⟩
        exact ⟨by omega, g2⟩
      · intro ⟨g1, g2, g3⟩
        by_cases c9 : q / 2 = p
        · rw [c9] at g2
          omega
        · exact ⟨by omega, g2, g3⟩
    · rw [if_neg (by rw [k0, oI_lt ⟨by omega, by omega⟩ ⟨by omega, by omega⟩]; exact c), nm_d]
      obtain ⟨s, es⟩ := Int.eq_ofNat_of_zero_le (show 0 ≤ so N p by omega)
      have hs3 : s < 3 := by omega
      rw [es, ← oI_n]
      refine un_l hN hP hd k n (p + 1) _ (by omega) (by omega) (fun q hq => ?_)
      have h9 : bi (f_X1_bitsOf (nI p)) q ↔ q / 2 = p := bits_k p hp q hq
      have h8 : bi (nI s <<< (((2 : Int32) * nI p) &&& 31)) q ↔ q / 2 = p ∧ s.testBit (q % 2) = true := stsh_k p hp s hs3 q hq
      rw [bi_or, h3 q hq, bi_and, bi_xor, sB_bi hd hq, h8, h9]
      constructor
      · intro g
        rcases g with ⟨g1, g2⟩ | ⟨g1, g2⟩
        · exact ⟨by omega, g2⟩
        · refine ⟨by omega, by rw [g2, es]; omega, ?_⟩
          rw [g2, es]
          rw [g2] at g1
          intro r
          have e9 : (Int.ofNat s).toNat = s := rfl
          refine g1 ⟨fun u => ⟨rfl, r.mp u.2⟩, fun u => ⟨by omega, r.mpr u.2⟩⟩
      · intro ⟨g1, g2, g3⟩
        by_cases c9 : q / 2 = p
        · right
          refine ⟨fun r => g3 ?_, c9⟩
          rw [c9, es]
          rw [c9] at r
          exact ⟨fun u => (r.mp ⟨by omega, u⟩).2, fun u => (r.mpr ⟨rfl, u⟩).2⟩
        · exact Or.inl ⟨by omega, g2, g3⟩
theorem off_un {N : Nt} (hN : WP N) {d p : Nat} {x : Int32} (hp : p < 7) (hx : unB N d 7 x) : f_X1_standIn x (nI p) = 0 ↔ off N d p = 0 := by
  have hs := hN.2.2.2.2 p hp
  rw [sin_0 hp, hx (2 * p) (by omega), hx (2 * p + 1) (by omega), show (2 * p) / 2 = p by omega, show (2 * p + 1) / 2 = p by omega, show (2 * p) % 2 = 0 by omega, show (2 * p + 1) % 2 = 1 by omega]
  unfold off
  by_cases c : so N p < 0
  · rw [if_pos c]
    exact ⟨fun _ => rfl, fun _ => ⟨fun q => by omega, fun q => by omega⟩⟩
  · rw [if_neg c]
    obtain ⟨s, es⟩ := Int.eq_ofNat_of_zero_le (show 0 ≤ so N p by omega)
    have hs3 : s < 3 := by omega
    have h5 := tb_k (sd d p) (sd_lt d p) s hs3
    rw [es]
    have e9 : (Int.ofNat s).toNat = s := rfl
    by_cases c2 : sd d p = s
    · rw [if_pos (by rw [c2])]
      have h6 := h5.mpr c2
      exact ⟨fun _ => rfl, fun _ => ⟨fun q => q.2.2 (h6 0 (by omega)), fun q => q.2.2 (h6 1 (by omega))⟩⟩
    · rw [if_neg (fun q => c2 (by omega))]
      refine ⟨fun q => absurd (h5.mp (fun i hi => ?_)) c2, fun q => by omega⟩
      have h7 : i = 0 ∨ i = 1 := by omega
      rcases h7 with h7 | h7
      · subst h7
        exact Classical.byContradiction (fun r => q.1 ⟨hp, by omega, r⟩)
      · subst h7
        exact Classical.byContradiction (fun r => q.2 ⟨hp, by omega, r⟩)
theorem unlike_c {N : Nt} (hN : WP N) {M : Mm} (hP : RelP 3 M N) {d : Nat} (hd : d < 2187) : ∃ y, f_X5_unlikeStart (nI (sB d)) M = some y ∧ ∀ p, p < 7 → (f_X1_standIn y (nI p) = 0 ↔ off N d p = 0) := by
  obtain ⟨y, q1, q2⟩ := un_l hN hP hd 7 FU 0 0 (by omega) (by unfold FU; omega) (fun q _ => ⟨fun g => absurd g bi_00, fun g => by omega⟩)
  have q1' : L_X5_unlikeStart_4 (nI (sB d)) M FU (0 : Int32) (0 : Int32) = some y := q1
  unfold f_X5_unlikeStart
  rw [q1', bd_s]
  exact ⟨y, rfl, fun p hp => off_un hN hp q2⟩
theorem sin_00 : ∀ p : Nat, p < 7 → f_X1_standIn 0 (nI p) = 0 := by decide +kernel
theorem ftb_k : ∀ p : Nat, p < 7 → (((67 : Int32) >>> (nI p &&& 31)) &&& (1 : Int32)) = nI (if p = 6 then 1 else if 2 ≤ p then 0 else 1) ∧ (((60 : Int32) >>> (nI p &&& 31)) &&& (1 : Int32)) = nI (if 6 ≤ p then 0 else if p ≤ 1 then 0 else 1) := by decide +kernel
theorem off_0 {N : Nt} {d : Nat} (h : ∀ p, p < 7 → off N d p = 0) : ∀ k p : Nat, p + k = 7 → offL N d 7 = offL N d p ∧ offR N d 7 = offR N d p
  | 0, p, h1 => by
    have e : p = 7 := by omega
    rw [e]
    exact ⟨rfl, rfl⟩
  | k + 1, p, h1 => by
    obtain ⟨e1, e2⟩ := off_0 h k (p + 1) (by omega)
    rw [e1, e2, offL, offR, h p (by omega)]
    constructor
    · split
      · rfl
      · split <;> rfl
    · split
      · rfl
      · split <;> rfl
theorem fst_l {N : Nt} {d : Nat} {y : Int32} (hy : ∀ p, p < 7 → (f_X1_standIn y (nI p) = 0 ↔ off N d p = 0)) : ∀ (k n p : Nat), p + k = 7 → k < n → L_X5_fillFirstArrival_31 y n (nI (offL N d p)) (nI (offR N d p)) (nI p) = some (nI (offL N d 7), nI (offR N d 7))
  | _, 0, _, _, h2 => by omega
  | 0, n + 1, p, h1, h2 => by
    rw [L_X5_fillFirstArrival_31, if_pos ((zle7 (by omega)).mpr (by omega))]
    have e : p = 7 := by omega
    rw [e]
  | k + 1, n + 1, p, h1, h2 => by
    have hp : p < 7 := by omega
    obtain ⟨b1, b2⟩ := ftb_k p hp
    rw [L_X5_fillFirstArrival_31, if_neg (fun q => by have := (zle7 (by omega)).mp q; omega)]
    by_cases c : y = 0
    · rw [if_pos c]
      have h9 : ∀ p, p < 7 → off N d p = 0 := fun p hp => (hy p hp).mp (by rw [c]; exact sin_00 p hp)
      obtain ⟨e1, e2⟩ := off_0 h9 (k + 1) p (by omega)
      rw [e1, e2]
    · rw [if_neg c, nm_d, nI_s]
      have hob := off_b N d p
      by_cases c2 : off N d p = 0
      · rw [if_pos ((hy p hp).mpr c2)]
        dsimp only
        have e1 : offL N d (p + 1) = offL N d p := by
          rw [offL, c2]
          split
          · rfl
          · split <;> rfl
        have e2 : offR N d (p + 1) = offR N d p := by
          rw [offR, c2]
          split
          · rfl
          · split <;> rfl
        have ih := fst_l hy k n (p + 1) (by omega) (by omega)
        rw [e1, e2] at ih
        exact ih
      · have c3 : off N d p = 1 := by omega
        rw [if_neg (fun q => c2 ((hy p hp).mp q)), nm_d, nm_d, b1, b2, zad, zad]
        dsimp only
        have ih := fst_l hy k n (p + 1) (by omega) (by omega)
        rw [offL, offR, c3] at ih
        exact ih
theorem mul_z (a : Nat) : nI a * (1048576 : Int32) = enc (a, 0) := by
  rw [enc_z, show (1048576 : Int32) = nI 1048576 from rfl, zmu, Nat.mul_comm]
theorem first_l {N : Nt} (hN : WP N) : ∀ (k n d : Nat) (M : Mm), d + k = 2187 → k < n → RelP 3 M N → Hp M → (∀ t, t < d → M 186 t = enc (A N 0 t, 0)) →
    ∃ M', L_X5_fillFirstArrival_2 n (nI d) M = some M' ∧ Row 186 M' (zr (A N 0)) ∧ F1 186 M M'
  | _, 0, _, _, _, h2, _, _, _ => by omega
  | 0, n + 1, d, M, h1, h2, h3, h4, h5 => by
    rw [L_X5_fillFirstArrival_2, if_pos ((zleD (by omega)).mpr (by omega))]
    exact ⟨M, rfl, fun t ht => h5 t (by omega), f1_r 186 M⟩
  | k + 1, n + 1, d, M, h1, h2, h3, h4, h5 => by
    have hd : d < 2187 := by omega
    obtain ⟨y, q1, q2⟩ := unlike_c hN h3 hd
    have h6 := fst_l q2 7 FU 0 (by omega) (by unfold FU; omega)
    have h6' : L_X5_fillFirstArrival_31 y FU (0 : Int32) (0 : Int32) (0 : Int32) = some (nI (offL N d 7), nI (offR N d 7)) := h6
    have b1 := offL_b N d 7
    have b2 := offR_b N d 7
    rw [L_X5_fillFirstArrival_2, if_neg (fun q => by have := (zleD (by omega)).mp q; omega), zck hd (by omega), zcl (by omega), h4 d hd, q1, bd_s, h6', bd_s, ck_t (by decide), nm_d, zck hd (by omega), nm_d, nI_s]
    dsimp only
    have e0 : 186 + (0 : Int32).toNatClampNeg = 186 := rfl
    have e1 : (if (1 : Int32) < nI (offL N d 7) then (66060288 : Int32) else if nI (offR N d 7) ≤ (1 : Int32) then ((nI (offL N d 7) + nI (offR N d 7)) * (1048576 : Int32)) else (66060288 : Int32)) = enc (A N 0 d, 0) := by
      rw [A]
      unfold ahd
      by_cases c : 1 < offL N d 7
      · rw [if_pos ((z1lt (by omega)).mpr c), if_pos c]
        exact enc_top.symm
      · rw [if_neg (fun q => c ((z1lt (by omega)).mp q)), if_neg c]
        by_cases c2 : offR N d 7 ≤ 1
        · rw [if_pos ((zle1 (by omega)).mpr c2), if_pos c2, zad, mul_z]
        · rw [if_neg (fun q => c2 ((zle1 (by omega)).mp q)), if_neg c2]
          exact enc_top.symm
    rw [e0, e1]
    have hF : F1 186 M (mw M 186 d (enc (A N 0 d, 0))) := fun c g => mw_c g
    obtain ⟨M', r1, r2, r3⟩ := first_l hN k n (d + 1) (mw M 186 d (enc (A N 0 d, 0))) (by omega) (by omega) (by
      unfold RelP at h3 ⊢
      rw [mw_c (by decide), mw_c (by decide), mw_c (by decide), mw_c (by decide), mw_c (by decide), mw_c (by decide), mw_c (by decide)]
      exact h3) (fun t ht => by rw [mw_c (by decide)]; exact h4 t ht) (fun t ht => by
      by_cases c : t = d
      · rw [c, mw_s]
      · rw [mw_o c]
        exact h5 t (by omega))
    exact ⟨M', r1, r2, f1_t hF r3⟩
theorem first_c {N : Nt} (hN : WP N) {M : Mm} (hP : RelP 3 M N) (hH : Hp M) : ∃ M', f_X5_fillFirstArrival M = some M' ∧ Row 186 M' (zr (A N 0)) ∧ F1 186 M M' := by
  obtain ⟨M', q1, q2, q3⟩ := first_l hN 2187 FU 0 M (by omega) (by unfold FU; omega) hP hH (fun t ht => by omega)
  have q1' : L_X5_fillFirstArrival_2 FU (0 : Int32) M = some M' := q1
  unfold f_X5_fillFirstArrival
  rw [q1', bd_s]
  exact ⟨M', rfl, q2, q3⟩
