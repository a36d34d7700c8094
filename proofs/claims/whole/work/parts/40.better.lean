/-! PURE: prices as the class writes them -/
theorem zxo (a b : Nat) : nI a ^^^ nI b = nI (a ^^^ b) := Int32.toBitVec_inj.mp BitVec.ofNat_xor.symm
theorem zan (a b : Nat) : nI a &&& nI b = nI (a &&& b) := Int32.toBitVec_inj.mp BitVec.ofNat_and.symm
theorem zor (a b : Nat) : nI a ||| nI b = nI (a ||| b) := Int32.toBitVec_inj.mp BitVec.ofNat_or.symm
theorem xor_z {a b : Nat} (h : a ^^^ b = 0) : a = b := by
  have h1 : (a ^^^ b) ^^^ b = b := by rw [h, Nat.zero_xor]
  rw [Nat.xor_assoc, Nat.xor_self, Nat.xor_zero] at h1
  exact h1
theorem xor_20 {a b : Nat} : a ^^^ b < 1048576 ↔ a / 1048576 = b / 1048576 := by
  have e : (a ^^^ b) / 2 ^ 20 = a / 2 ^ 20 ^^^ b / 2 ^ 20 := Nat.xor_div_two_pow
  have e2 : (2 : Nat) ^ 20 = 1048576 := rfl
  rw [e2] at e
  constructor
  · intro h
    refine xor_z ?_
    rw [← e]
    omega
  · intro h
    rw [h, Nat.xor_self] at e
    omega
theorem and_lo (a : Nat) : a &&& 1048575 = a % 1048576 := Nat.and_two_pow_sub_one_eq_mod a 20
theorem and_hi {a : Nat} (h : a < 2147483648) : a &&& 4293918720 = 1048576 * (a / 1048576) := by
  have e1 : (a &&& 4293918720) % 2 ^ 20 = (a % 2 ^ 20) &&& (4293918720 % 2 ^ 20) := Nat.and_mod_two_pow
  have e2 : (a &&& 4293918720) / 2 ^ 20 = (a / 2 ^ 20) &&& (4293918720 / 2 ^ 20) := Nat.and_div_two_pow
  have e3 : (4293918720 : Nat) % 2 ^ 20 = 0 := by decide +kernel
  have e4 : (4293918720 : Nat) / 2 ^ 20 = 2 ^ 12 - 1 := by decide +kernel
  rw [e3, Nat.and_zero] at e1
  rw [e4, Nat.and_two_pow_sub_one_eq_mod] at e2
  have e5 : (2 : Nat) ^ 20 = 1048576 := rfl
  have e6 : (2 : Nat) ^ 12 = 4096 := rfl
  rw [e5] at e1 e2
  rw [e6] at e2
  omega
def enc (p : Pr) : Int32 := nI (1048576 * p.1 + p.2)
/-- a price that can be written -/
def okE (p : Pr) : Prop := p.1 ≤ 1000 ∧ p.2 ≤ 1000000
theorem okE_bt {a b : Pr} (ha : okE a) (hb : okE b) : okE (bt a b) := by
  unfold okE at *
  rcases Nat.lt_trichotomy a.1 b.1 with h | h | h
  · rw [bt_l h]
    exact ha
  · rw [bt_e h]
    exact ⟨ha.1, by show min _ _ ≤ _; omega⟩
  · rw [bt_r h]
    exact hb
theorem dv20 {a m : Nat} (h : m ≤ 1000000) : (1048576 * a + m) / 1048576 = a := by omega
theorem md20 {a m : Nat} (h : m ≤ 1000000) : (1048576 * a + m) % 1048576 = m := by omega
theorem better_e {a b : Pr} (ha : okE a) (hb : okE b) : f_X5_better (enc a) (enc b) = enc (bt a b) := by
  obtain ⟨a1, a2⟩ := a
  obtain ⟨b1, b2⟩ := b
  have ha1 : a1 ≤ 1000 := ha.1
  have ha2 : a2 ≤ 1000000 := ha.2
  have hb1 : b1 ≤ 1000 := hb.1
  have hb2 : b2 ≤ 1000000 := hb.2
  unfold f_X5_better enc
  dsimp only
  have ex : (1048576 * a1 + a2) ^^^ (1048576 * b1 + b2) < 2147483648 := by
    have h := Nat.xor_lt_two_pow (x := 1048576 * a1 + a2) (y := 1048576 * b1 + b2) (n := 31) (by omega) (by omega)
    exact h
  have hx := xor_20 (a := 1048576 * a1 + a2) (b := 1048576 * b1 + b2)
  have e1 : (1048576 * a1 + a2) / 1048576 = a1 := dv20 ha2
  have e2 : (1048576 * b1 + b2) / 1048576 = b1 := dv20 hb2
  have e3 : (1048576 * a1 + a2) % 1048576 = a2 := md20 ha2
  have e4 : (1048576 * b1 + b2) % 1048576 = b2 := md20 hb2
  rw [e1, e2] at hx
  have em : (-1048576 : Int32) = nI 4293918720 := by decide +kernel
  rw [em]
  simp only [lit_, zxo, zan, and_lo, e3, e4, zad, nm_d]
  rw [and_hi (by omega), e1]
  clear e1 e2 e3 e4 em ha hb
  by_cases c : a1 = b1
  · have h1 := hx.mpr c
    subst c
    rw [bt_e (show (a1, a2).1 = (a1, b2).1 from rfl)]
    clear hx
    simp (disch := omega) only [lit_, zle, zlt, zeq, zad, zmu, zsu, zck, zcl, bd_s, nm_d, if_pos, if_neg, if_true, if_false]
    by_cases c2 : 1000000 ≤ a2 + b2
    · rw [if_pos c2, Nat.min_eq_right c2]
    · rw [if_neg c2, Nat.min_eq_left (by omega)]
  · have h1 : ¬ _ := fun q => c (hx.mp q)
    clear hx
    simp (disch := omega) only [lit_, zle, zlt, zeq, zad, zmu, zsu, zck, zcl, bd_s, nm_d, if_pos, if_neg, if_true, if_false]
    rcases Nat.lt_trichotomy a1 b1 with h | h | h
    · rw [bt_l (show (a1, a2).1 < (b1, b2).1 from h)]
      simp (disch := omega) only [lit_, zle, zlt, zeq, zad, zmu, zsu, zck, zcl, bd_s, nm_d, if_pos, if_neg, if_true, if_false]
    · exact absurd h c
    · rw [bt_r (show (b1, b2).1 < (a1, a2).1 from h)]
      simp (disch := omega) only [lit_, zle, zlt, zeq, zad, zmu, zsu, zck, zcl, bd_s, nm_d, if_pos, if_neg, if_true, if_false]
theorem enc_mv (a : Pr) : enc a + (1048576 : Int32) = enc (sh 1 a) := by
  unfold enc sh
  rw [show (1048576 : Int32) = nI 1048576 from rfl, zad]
  exact congrArg nI (by dsimp only; omega)
theorem enc_ad (a : Pr) (c : Nat) : enc (c, 0) + enc a = enc (sh c a) := by
  unfold enc sh
  rw [zad]
  exact congrArg nI (by dsimp only; omega)
theorem enc_le {a : Pr} (ha : okE a) : (66060288 : Int32) ≤ enc a ↔ 63 ≤ a.1 := by
  unfold enc
  have := ha.1
  have := ha.2
  simp (disch := omega) only [lit_, zle, zlt, zeq, zad, zmu, zsu, zck, zcl, bd_s, nm_d]
  omega
theorem enc_top : enc top = 66060288 := by decide +kernel
theorem sh20a : ((20 : Int32) &&& 31) = 20 := by decide +kernel
theorem sh20b : ((20 : Int32).toBitVec.smod 32) = 20#32 := by decide +kernel
theorem shr_20 : ∀ x : Nat, x < 2147483648 → nI x >>> ((20 : Int32) &&& 31) = nI (x / 1048576) := by
  intro x hx
  rw [sh20a]
  refine Int32.toBitVec_inj.mp ?_
  rw [Int32.toBitVec_shiftRight]
  have e3 : (nI x).toBitVec = BitVec.ofNat 32 x := rfl
  have e4 : (nI (x / 1048576)).toBitVec = BitVec.ofNat 32 (x / 1048576) := rfl
  rw [sh20b, e3, e4, BitVec.sshiftRight_eq']
  have e5 : (20#32).toNat = 20 := rfl
  rw [e5, BitVec.sshiftRight_eq_of_msb_false (by rw [BitVec.msb_eq_decide]; simp; omega)]
  refine BitVec.eq_of_toNat_eq ?_
  rw [BitVec.toNat_ushiftRight, BitVec.toNat_ofNat, BitVec.toNat_ofNat, Nat.shiftRight_eq_div_pow]
  have e6 : (2 : Nat) ^ 20 = 1048576 := rfl
  have e7 : (2 : Nat) ^ 32 = 4294967296 := rfl
  rw [e6, e7]
  omega
theorem enc_s {a : Pr} (ha : okE a) : enc a >>> ((20 : Int32) &&& 31) = nI a.1 := by
  have := ha.1
  have := ha.2
  unfold enc
  rw [shr_20 _ (by omega), dv20 ha.2]
theorem enc_1 {a : Pr} (ha : okE a) : 1048576 * a.1 + a.2 < 2147483648 := by
  have := ha.1
  have := ha.2
  omega
theorem enc_i {a b : Pr} (ha : okE a) (hb : okE b) (h : enc a = enc b) : a = b := by
  have h1 := (zeq (enc_1 ha) (enc_1 hb)).mp h
  refine Prod.ext ?_ ?_
  · have h2 := dv20 (a := a.1) ha.2
    rw [h1, dv20 hb.2] at h2
    exact h2.symm
  · have h2 := md20 (a := a.1) ha.2
    rw [h1, md20 hb.2] at h2
    exact h2.symm
