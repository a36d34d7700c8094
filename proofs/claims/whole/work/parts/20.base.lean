/-! PURE: ints of the machine as numbers -/
theorem ti_le {x y : Int32} : x ≤ y ↔ x.toInt ≤ y.toInt := Int32.le_iff_toInt_le
theorem ti_lt {x y : Int32} : x < y ↔ x.toInt < y.toInt := Int32.lt_iff_toInt_lt
theorem ti_eq {x y : Int32} : x = y ↔ x.toInt = y.toInt := Int32.toInt_inj.symm
theorem ti_b (x : Int32) : -2147483648 ≤ x.toInt ∧ x.toInt ≤ 2147483647 := by
  have h1 := Int32.le_toInt x
  have h2 := Int32.toInt_lt x
  omega
theorem ti_add {x y : Int32} (h1 : -2147483648 ≤ x.toInt + y.toInt) (h2 : x.toInt + y.toInt ≤ 2147483647) : (x + y).toInt = x.toInt + y.toInt := by
  rw [Int32.toInt_add]
  exact Int.bmod_eq_of_le (by omega) (by omega)
theorem ti_sub {x y : Int32} (h1 : -2147483648 ≤ x.toInt - y.toInt) (h2 : x.toInt - y.toInt ≤ 2147483647) : (x - y).toInt = x.toInt - y.toInt := by
  rw [Int32.toInt_sub]
  exact Int.bmod_eq_of_le (by omega) (by omega)
theorem ti_mul {x y : Int32} (h1 : -2147483648 ≤ x.toInt * y.toInt) (h2 : x.toInt * y.toInt ≤ 2147483647) : (x * y).toInt = x.toInt * y.toInt := by
  rw [Int32.toInt_mul]
  exact Int.bmod_eq_of_le (by omega) (by omega)
theorem ti_cl {x : Int32} : x.toNatClampNeg = x.toInt.toNat := rfl
theorem ti_nI {n : Nat} (h : n < 2 ^ 31) : (nI n).toInt = (n : Int) := nI_toInt h
/-- an int that is not negative, below m, is nI of a number below m -/
theorem nI_get {x : Int32} {m : Nat} (h1 : ¬ x < 0) (h2 : x.toInt < m) : ∃ n : Nat, n < m ∧ x = nI n := by
  have h3 : 0 ≤ x.toInt := by
    have h9 : ¬ x.toInt < (0 : Int32).toInt := fun q => h1 (ti_lt.mpr q)
    rw [Int32.toInt_zero] at h9
    omega
  obtain ⟨n, hn⟩ := Int.eq_ofNat_of_zero_le h3
  have hb := ti_b x
  refine ⟨n, by omega, ti_eq.mpr ?_⟩
  rw [hn, ti_nI (by omega)]
theorem ib_nI {n m : Nat} (h : n < m) (hm : m < 2 ^ 31) : ib (nI n) m := by
  have e := ti_nI (show n < 2 ^ 31 by omega)
  exact ⟨by rw [e]; omega, by rw [e]; omega⟩
theorem ck_t {α : Type} {c : Prop} [Decidable c] {x : Option α} (h : c) : ck c x = x := if_pos h
theorem nm_d {α β : Type} {v : α} {f : α → β} : nm v f = f v := rfl
theorem bd_s {α β : Type} {v : α} {f : α → Option β} : Option.bind (some v) f = f v := rfl
/-! PURE: the memory -/
theorem mw_c {M : Mm} {k j a : Nat} {v : Int32} (h : a ≠ k) : mw M k j v a = M a := mu_n h
theorem mw_s {M : Mm} {k j : Nat} {v : Int32} : mw M k j v k j = v := by
  unfold mw
  rw [mu_s]
  simp [upd]
theorem mw_o {M : Mm} {k j i : Nat} {v : Int32} (h : i ≠ j) : mw M k j v k i = M k i := by
  unfold mw
  rw [mu_s]
  simp [upd, h]
theorem mw_at {M : Mm} {k j a i : Nat} {v : Int32} : mw M k j v a i = if a = k ∧ i = j then v else M a i := by
  by_cases h : a = k
  · subst h
    by_cases h2 : i = j
    · subst h2
      rw [mw_s, if_pos ⟨rfl, rfl⟩]
    · rw [mw_o h2, if_neg (fun q => h2 q.2)]
  · rw [mw_c h, if_neg (fun q => h q.1)]
/-! PURE: prices -/
abbrev Pr : Type := Nat × Nat
/-- both prices in one -/
def bt (a b : Pr) : Pr := if a.1 < b.1 then a else if b.1 < a.1 then b else (a.1, min (a.2 + b.2) 1000000)
theorem bt_comm (a b : Pr) : bt a b = bt b a := by
  unfold bt
  by_cases h1 : a.1 < b.1
  · rw [if_pos h1, if_neg (by omega), if_pos h1]
  · by_cases h2 : b.1 < a.1
    · rw [if_neg h1, if_pos h2, if_pos h2]
    · rw [if_neg h1, if_neg h2, if_neg h2, if_neg h1]
      have e : a.1 = b.1 := by omega
      rw [e, Nat.add_comm]
theorem bt_assoc (a b c : Pr) : bt (bt a b) c = bt a (bt b c) := by
  obtain ⟨a1, a2⟩ := a
  obtain ⟨b1, b2⟩ := b
  obtain ⟨c1, c2⟩ := c
  unfold bt
  dsimp only
  rcases Nat.lt_trichotomy a1 b1 with h1 | h1 | h1 <;> rcases Nat.lt_trichotomy b1 c1 with h2 | h2 | h2 <;> rcases Nat.lt_trichotomy a1 c1 with h3 | h3 | h3 <;> simp only [h1, h2, h3, if_true, if_false, Nat.lt_irrefl] <;> (try omega) <;> (try (repeat' split)) <;> (try omega) <;> (try rfl) <;> exact Prod.ext rfl (by dsimp only; omega)
/-- a price behind c more moves -/
def sh (c : Nat) (a : Pr) : Pr := (a.1 + c, a.2)
theorem sh_bt (c : Nat) (a b : Pr) : sh c (bt a b) = bt (sh c a) (sh c b) := by
  unfold sh bt
  dsimp only
  by_cases h1 : a.1 < b.1
  · rw [if_pos h1, if_pos (by omega)]
  · by_cases h2 : b.1 < a.1
    · rw [if_neg h1, if_pos h2, if_neg (by omega), if_pos (by omega)]
    · rw [if_neg h1, if_neg h2, if_neg (by omega), if_neg (by omega)]
theorem sh_sh (c e : Nat) (a : Pr) : sh c (sh e a) = sh (e + c) a := by
  unfold sh
  dsimp only
  rw [Nat.add_assoc]
/-- the sum of prices over a list, from z on -/
def bs (z : Pr) (l : List Pr) : Pr := l.foldr bt z
theorem bs_perm {z : Pr} {l m : List Pr} (h : l.Perm m) : bs z l = bs z m := by
  induction h with
  | nil => rfl
  | cons x _ ih => show bt x _ = bt x _; exact congrArg _ ih
  | swap x y l =>
    show bt y (bt x (bs z l)) = bt x (bt y (bs z l))
    rw [← bt_assoc, bt_comm y x, bt_assoc]
  | trans _ _ i1 i2 => exact i1.trans i2
theorem bs_app {z : Pr} {l m : List Pr} : bs z (l ++ m) = bs (bs z m) l := List.foldr_append ..
theorem bs_out {z w : Pr} {l : List Pr} : bs (bt z w) l = bt (bs z l) w := by
  induction l with
  | nil => rfl
  | cons x l ih => show bt x (bs (bt z w) l) = bt (bt x (bs z l)) w; rw [ih, bt_assoc]
theorem bs_sh {c : Nat} {z : Pr} {l : List Pr} : sh c (bs z l) = bs (sh c z) (l.map (sh c)) := by
  induction l with
  | nil => rfl
  | cons x l ih => show sh c (bt x (bs z l)) = bt (sh c x) (bs (sh c z) (l.map (sh c))); rw [sh_bt, ih]
