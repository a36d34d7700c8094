/-! PURE: stands and pitches -/
/-- the stand of pedal p in diagram d -/
def sd (d p : Nat) : Nat := d / 3 ^ p % 3
theorem sd_lt (d p : Nat) : sd d p < 3 := Nat.mod_lt _ (by decide)
set_option maxRecDepth 100000 in
theorem standOf_k : ∀ p : Nat, p < 7 → ∀ d : Nat, d < 2187 → f_X7_standOf (nI d) (nI p) = some (nI (sd d p)) := by decide +kernel
set_option maxRecDepth 100000 in
theorem standIn_k : ∀ p : Nat, p < 7 → ∀ d : Nat, d < 2187 → f_X1_standIn (nI (sB d)) (nI p) = nI (sd d p) := by decide +kernel
theorem standOf_eq {d p : Nat} (hd : d < 2187) (hp : p < 7) : f_X7_standOf (nI d) (nI p) = some (nI (sd d p)) := standOf_k p hp d hd
theorem standIn_eq {d p : Nat} (hd : d < 2187) (hp : p < 7) : f_X1_standIn (nI (sB d)) (nI p) = nI (sd d p) := standIn_k p hp d hd
/-- the pitch of string s when its pedal stands at 1 -/
def nat_ (s : Nat) : Nat := 12 * (s / 7) + [0, 2, 4, 5, 7, 9, 11].getD (s % 7) 0
theorem natural_k : ∀ s : Nat, s < 42 → f_X1_natural (nI s) = some (nI (nat_ s)) ∧ (nI s - nI s / 7 * 7) = nI (s % 7) ∧ nat_ s ≤ 71 := by decide +kernel
/-- the pitch of string s by diagram d -/
def pit (s d : Nat) : Int := (nat_ s : Int) + sd d (s % 7) - 1
theorem pit_b {s d : Nat} (hs : s < 42) : -1 ≤ pit s d ∧ pit s d ≤ 72 := by
  have h1 := (natural_k s hs).2.2
  have h2 := sd_lt d (s % 7)
  unfold pit
  omega
theorem pit_I {s d : Nat} (hs : s < 42) : (nI (nat_ s) + nI (sd d (s % 7))) - 1 = Int32.ofInt (pit s d) := by
  have h1 := (natural_k s hs).2.2
  have h2 := sd_lt d (s % 7)
  have h3 := pit_b (d := d) hs
  rw [ti_eq, Int32.toInt_ofInt]
  have e1 : (nI (nat_ s)).toInt = (nat_ s : Int) := ti_nI (by omega)
  have e2 : (nI (sd d (s % 7))).toInt = (sd d (s % 7) : Int) := ti_nI (by omega)
  have e3 : (1 : Int32).toInt = 1 := rfl
  have e4 : (nI (nat_ s) + nI (sd d (s % 7))).toInt = (nat_ s : Int) + sd d (s % 7) := by rw [ti_add (by omega) (by omega), e1, e2]
  rw [ti_sub (by omega) (by omega), e4, e3]
  have e5 : (Int32.size : Int) = 4294967296 := rfl
  rw [Int.bmod_eq_of_le (by omega) (by omega)]
  rfl
/-- the harp's table -/
def Hp (M : Mm) : Prop := ∀ d, d < 2187 → M 2 d = nI (sB d)
theorem pitchOf_c {M : Mm} {s d : Nat} (hM : Hp M) (hs : s < 42) (hd : d < 2187) : f_X1_pitchOf (nI s) (nI d) M = some (Int32.ofInt (pit s d)) := by
  obtain ⟨h1, h2, h3⟩ := natural_k s hs
  unfold f_X1_pitchOf
  rw [h1, bd_s, ck_t (ib_nI hd (by decide)), nI_clamp (by omega), hM d hd, h2, standIn_eq hd (Nat.mod_lt _ (by decide)), pit_I hs]
theorem pitchOf_m {s d : Nat} (hs : s < 42) (hd : d < 2187) : f_X7_pitchOf (nI s) (nI d) = some (Int32.ofInt (pit s d)) := by
  obtain ⟨h1, h2, h3⟩ := natural_k s hs
  have h4 : f_X7_pitchOf (nI s) (nI d) = (f_X1_natural (nI s)).bind (fun q => (f_X7_standOf (nI d) (nI s - nI s / 7 * 7)).bind (fun r => some (q + r - 1))) := by
    unfold f_X7_pitchOf f_X1_natural ck
    split <;> rfl
  rw [h4, h1, bd_s, h2, standOf_eq hd (Nat.mod_lt _ (by decide)), bd_s, pit_I hs]
