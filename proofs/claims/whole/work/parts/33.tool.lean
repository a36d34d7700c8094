/-! PURE: tools for walking: words of the machine as numbers -/
theorem lit_ (n : Nat) : (no_index (OfNat.ofNat n) : Int32) = nI n := rfl
theorem neg_ (n : Nat) : -(nI n) = oI (-(n : Int)) := by
  rw [ti_eq, Int32.toInt_neg, oI_n]
  unfold oI
  rw [Int32.toInt_ofInt, Int32.toInt_ofInt]
  have e : Int32.size = 2 ^ 32 := rfl
  rw [e]
  exact Int.bmod_neg_bmod
theorem zsu {a b : Nat} (h : b ≤ a) : nI a - nI b = nI (a - b) := by
  rw [oI_n, oI_n, oI_n, oI_sub]
  congr 1
  omega
theorem zib {a n : Nat} (h : a < n) (hn : a < 2147483648) : ib (nI a) n := by
  have e := ti_nI (show a < 2 ^ 31 by omega)
  exact ⟨by rw [e]; omega, by rw [e]; omega⟩
theorem zck {α : Type} {a n : Nat} {x : Option α} (h : a < n) (hn : a < 2147483648) : ck (ib (nI a) n) x = x := if_pos (zib h hn)
theorem ztI {a : Nat} (h : a < 2147483648) : (nI a).toInt = (a : Int) := ti_nI (by omega)
theorem zdi {a b : Nat} (ha : a < 2147483648) (hb : 0 < b) (hb2 : b < 2147483648) : nI a / nI b = nI (a / b) := by
  rw [oI_n, oI_n, oI_n, oI_div ⟨by omega, by omega⟩ (by omega) (by omega) ⟨by omega, by omega⟩]
  congr 1
theorem zre {a b : Nat} (ha : a < 2147483648) (hb : 0 < b) (hb2 : b < 2147483648) : nI a - nI (a / b * b) = nI (a % b) := by
  have h := Nat.div_mul_le_self a b
  rw [zsu h]
  congr 1
  have := Nat.div_add_mod a b
  rw [Nat.mul_comm] at this
  omega
