/-! PURE: sets of strings, as bits of a long -/
/-- string s is in x -/
def bt_ (x : Int64) (s : Nat) : Prop := x.toBitVec.getLsbD s = true
theorem sft_k : ∀ s : Nat, s < 42 → (((nI s).toInt64 &&& 63).toBitVec.smod 64).toNat = s := by decide +kernel
theorem cmp_0 {x y : Int64} : lg_cmp x y = 0 ↔ x = y := by
  unfold lg_cmp
  by_cases h : x > y
  · rw [if_pos h]
    constructor
    · intro q
      cases q
    · intro q
      subst q
      exact absurd h (Int64.lt_irrefl)
  · rw [if_neg h]
    by_cases h2 : x = y
    · rw [if_pos h2]
      exact ⟨fun _ => h2, fun _ => rfl⟩
    · rw [if_neg h2]
      exact ⟨fun q => absurd q (by decide), fun q => absurd q h2⟩
theorem low_g (x : Int64) {s : Nat} (hs : s < 42) (i : Nat) : ((x >>> ((nI s).toInt64 &&& 63)) &&& (1 : Int64)).toBitVec.getLsbD i = (decide (i = 0) && x.toBitVec.getLsbD s) := by
  rw [Int64.toBitVec_and, BitVec.getLsbD_and, Int64.toBitVec_shiftRight, BitVec.sshiftRight_eq', sft_k s hs, BitVec.getLsbD_sshiftRight]
  have e : (1 : Int64).toBitVec = 1#64 := rfl
  rw [e, BitVec.getLsbD_one]
  by_cases h : i = 0
  · subst h
    rw [if_pos (by omega)]
    simp
  · simp [h]
theorem low_1 {x : Int64} {s : Nat} (hs : s < 42) : lg_cmp ((x >>> ((nI s).toInt64 &&& 63)) &&& (1 : Int64)) (1 : Int64) = 0 ↔ bt_ x s := by
  rw [cmp_0]
  constructor
  · intro h
    have h1 := low_g x hs 0
    rw [h] at h1
    unfold bt_
    have e : (1 : Int64).toBitVec.getLsbD 0 = true := rfl
    rw [e] at h1
    simpa using h1.symm
  · intro h
    refine Int64.toBitVec_inj.mp (BitVec.eq_of_getLsbD_eq ?_)
    intro i _
    unfold bt_ at h
    rw [low_g x hs i, h]
    have e : (1 : Int64).toBitVec = 1#64 := rfl
    rw [e, BitVec.getLsbD_one]
    simp
theorem low_0 {x : Int64} {s : Nat} (hs : s < 42) : lg_cmp ((x >>> ((nI s).toInt64 &&& 63)) &&& (1 : Int64)) (0 : Int64) = 0 ↔ ¬ bt_ x s := by
  rw [cmp_0]
  constructor
  · intro h q
    have h1 := low_g x hs 0
    unfold bt_ at q
    rw [h, q] at h1
    exact absurd h1 (by decide)
  · intro h
    refine Int64.toBitVec_inj.mp (BitVec.eq_of_getLsbD_eq ?_)
    intro i _
    unfold bt_ at h
    rw [low_g x hs i, Bool.eq_false_iff.mpr h]
    have e : (0 : Int64).toBitVec = 0#64 := rfl
    rw [e]
    simp
theorem bt_put {x : Int64} {s t : Nat} (hs : s < 42) (ht : t < 42) : bt_ (x ||| ((1 : Int64) <<< ((nI s).toInt64 &&& 63))) t ↔ bt_ x t ∨ t = s := by
  unfold bt_
  rw [Int64.toBitVec_or, BitVec.getLsbD_or, Int64.toBitVec_shiftLeft, BitVec.shiftLeft_eq', sft_k s hs, BitVec.getLsbD_shiftLeft]
  have e : (1 : Int64).toBitVec = 1#64 := rfl
  rw [e, BitVec.getLsbD_one]
  simp
  constructor
  · intro h
    rcases h with h | h
    · exact Or.inl h
    · right
      omega
  · intro h
    rcases h with h | h
    · exact Or.inl h
    · right
      omega
theorem bt_0 {t : Nat} : ¬ bt_ 0 t := by
  unfold bt_
  have e : (0 : Int64).toBitVec = 0#64 := rfl
  rw [e]
  simp
/-! PURE: what a diagram does for a beat -/
noncomputable def str (N : Nt) (b n d : Nat) : Int := strI (tg N b n) d
