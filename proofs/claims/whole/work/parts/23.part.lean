/-! PURE: a part, as the model keeps it: N is its row of 320 -/
abbrev Nt : Type := Nat → Int32
/-- how many beats are played -/
def pl (N : Nt) : Nat := (N 0).toNatClampNeg
/-- how many notes beat b has -/
def sz (N : Nt) (b : Nat) : Nat := (N (1 + b)).toNatClampNeg
/-- note n of beat b: kind, pitch, whether it rings -/
def kd (N : Nt) (b n : Nat) : Nat := (N (13 + 3 * (6 * b + n))).toNatClampNeg
def pc_ (N : Nt) (b n : Nat) : Int := (N (13 + 3 * (6 * b + n) + 1)).toInt
def rg (N : Nt) (b n : Nat) : Nat := (N (13 + 3 * (6 * b + n) + 2)).toNatClampNeg
/-- the mark at beat b for pedal p, the start of pedal p (-1: none) -/
def mk (N : Nt) (b p : Nat) : Int := (N (229 + 7 * b + p)).toInt
def so (N : Nt) (p : Nat) : Int := (N (313 + p)).toInt
/-- what holds of every part -/
def WP (N : Nt) : Prop :=
  (1 ≤ (N 0).toInt ∧ (N 0).toInt ≤ 12) ∧ (∀ b, b < 12 → 0 ≤ (N (1 + b)).toInt ∧ (N (1 + b)).toInt ≤ 6) ∧
  (∀ b n, b < 12 → n < sz N b → (0 ≤ (N (13 + 3 * (6 * b + n))).toInt ∧ (N (13 + 3 * (6 * b + n))).toInt ≤ 3) ∧ (-1 ≤ pc_ N b n ∧ pc_ N b n ≤ 100) ∧ (0 ≤ (N (13 + 3 * (6 * b + n) + 2)).toInt ∧ (N (13 + 3 * (6 * b + n) + 2)).toInt ≤ 1)) ∧
  (∀ b p, b < 12 → p < 7 → -1 ≤ mk N b p ∧ mk N b p ≤ 2) ∧ ∀ p, p < 7 → -1 ≤ so N p ∧ so N p ≤ 2
theorem x_nI {x : Int32} (h : 0 ≤ x.toInt) : x = nI x.toNatClampNeg := by
  have hb := ti_b x
  rw [ti_eq, ti_cl, ti_nI (by omega)]
  omega
theorem wp_sz {N : Nt} (h : WP N) {b : Nat} (hb : b < 12) : N (1 + b) = nI (sz N b) ∧ sz N b ≤ 6 := by
  have h1 := h.2.1 b hb
  refine ⟨x_nI h1.1, ?_⟩
  show (N (1 + b)).toInt.toNat ≤ 6
  omega
theorem wp_pl {N : Nt} (h : WP N) : N 0 = nI (pl N) ∧ 1 ≤ pl N ∧ pl N ≤ 12 := by
  have h1 := h.1
  refine ⟨x_nI (by omega), ?_, ?_⟩
  · show 1 ≤ (N 0).toInt.toNat
    omega
  · show (N 0).toInt.toNat ≤ 12
    omega
theorem wp_kd {N : Nt} (h : WP N) {b n : Nat} (hb : b < 12) (hn : n < sz N b) : N (13 + 3 * (6 * b + n)) = nI (kd N b n) ∧ kd N b n ≤ 3 := by
  have h1 := (h.2.2.1 b n hb hn).1
  refine ⟨x_nI h1.1, ?_⟩
  show (N (13 + 3 * (6 * b + n))).toInt.toNat ≤ 3
  omega
theorem wp_rg {N : Nt} (h : WP N) {b n : Nat} (hb : b < 12) (hn : n < sz N b) : N (13 + 3 * (6 * b + n) + 2) = nI (rg N b n) ∧ rg N b n ≤ 1 := by
  have h1 := (h.2.2.1 b n hb hn).2.2
  refine ⟨x_nI h1.1, ?_⟩
  show (N (13 + 3 * (6 * b + n) + 2)).toInt.toNat ≤ 1
  omega
/-- how far above its string a kind sounds -/
def rise (k : Nat) : Int := if k = 1 then 12 else if k = 3 then 19 else 0
theorem rise_b (k : Nat) : 0 ≤ rise k ∧ rise k ≤ 19 := by
  unfold rise
  split
  · omega
  · split <;> omega
/-- what the string of note n must sound as -/
def tg (N : Nt) (b n : Nat) : Int := pc_ N b n - rise (kd N b n)
/-- the least string that sounds as t by d, -1: none -/
noncomputable def strI (t : Int) (d : Nat) : Int := Classical.epsilon (fun r => isL t d 7 r)
theorem strI_L {t : Int} {d : Nat} (ht1 : -1000 ≤ t) (ht2 : t ≤ 1000) (hd : d < 2187) : isL t d 7 (strI t d) := by
  obtain ⟨r, hr, -⟩ := stringOf_loop ht1 ht2 hd 8 0 (-1) (by omega) (by omega) isL_0
  exact Classical.epsilon_spec (⟨r, hr⟩ : ∃ r, isL t d 7 r)
theorem strI_b {t : Int} {d : Nat} (ht1 : -1000 ≤ t) (ht2 : t ≤ 1000) (hd : d < 2187) : -1 ≤ strI t d ∧ strI t d < 42 := isL_sm (strI_L ht1 ht2 hd)
theorem note_m {M : Mm} {b n w : Nat} (hb : b < 12) (hn : n < 6) (hw : w < 3) : f_X7_note (nI b) (nI n) (oI w) M = some (M 213 (13 + 3 * (6 * b + n) + w)) := by
  unfold f_X7_note
  rw [k13, k3, k6, oI_n b, oI_n n, oI_mul, oI_add, oI_mul, oI_add, oI_add, ck_t ((oI_ib ⟨by omega, by omega⟩).mpr (by omega)), oI_cl ⟨by omega, by omega⟩]
  congr 2
theorem note_0 {M : Mm} {b n : Nat} (hb : b < 12) (hn : n < 6) : f_X7_note (nI b) (nI n) 0 M = some (M 213 (13 + 3 * (6 * b + n))) := note_m (w := 0) hb hn (by omega)
theorem note_1 {M : Mm} {b n : Nat} (hb : b < 12) (hn : n < 6) : f_X7_note (nI b) (nI n) 1 M = some (M 213 (13 + 3 * (6 * b + n) + 1)) := note_m (w := 1) hb hn (by omega)
theorem note_2 {M : Mm} {b n : Nat} (hb : b < 12) (hn : n < 6) : f_X7_note (nI b) (nI n) 2 M = some (M 213 (13 + 3 * (6 * b + n) + 2)) := note_m (w := 2) hb hn (by omega)
theorem tg_b {N : Nt} (h : WP N) {b n : Nat} (hb : b < 12) (hn : n < sz N b) : -20 ≤ tg N b n ∧ tg N b n ≤ 100 := by
  have h1 := (h.2.2.1 b n hb hn).2.1
  have h2 := rise_b (kd N b n)
  unfold tg
  omega
theorem stringOf_m {M : Mm} (h : WP (M 213)) {b n d : Nat} (hb : b < 12) (hn : n < sz (M 213) b) (hd : d < 2187) : f_X7_stringOf (nI b) (nI n) (nI d) M = some (oI (strI (tg (M 213) b n) d)) := by
  have hs := (wp_sz h hb).2
  have ht := tg_b h hb hn
  have hp := (h.2.2.1 b n hb hn).2.1
  obtain ⟨ek, hk⟩ := wp_kd h hb hn
  unfold f_X7_stringOf
  rw [note_0 hb (by omega), bd_s, note_1 hb (by omega), bd_s, nm_d, nm_d, ek]
  have e1 : (if nI (kd (M 213) b n) = 1 then (12 : Int32) else if nI (kd (M 213) b n) = 3 then 19 else 0) = oI (rise (kd (M 213) b n)) := by
    unfold rise
    by_cases c1 : kd (M 213) b n = 1
    · rw [if_pos (by rw [oI_n, k1, oI_eq ⟨by omega, by omega⟩ ⟨by omega, by omega⟩]; omega), if_pos c1]
      rfl
    · rw [if_neg (by rw [oI_n, k1, oI_eq ⟨by omega, by omega⟩ ⟨by omega, by omega⟩]; omega), if_neg c1]
      by_cases c2 : kd (M 213) b n = 3
      · rw [if_pos (by rw [oI_n, k3, oI_eq ⟨by omega, by omega⟩ ⟨by omega, by omega⟩]; omega), if_pos c2]
        rfl
      · rw [if_neg (by rw [oI_n, k3, oI_eq ⟨by omega, by omega⟩ ⟨by omega, by omega⟩]; omega), if_neg c2]
        rfl
  rw [e1]
  have e2 : M 213 (13 + 3 * (6 * b + n) + 1) = oI (pc_ (M 213) b n) := (oI_x _).symm
  rw [e2, oI_sub]
  obtain ⟨r, hr, e3⟩ := stringOf_loop (t := tg (M 213) b n) (by omega) (by omega) hd FU 0 (-1) (by omega) (by unfold FU; omega) isL_0
  have e4 : pc_ (M 213) b n - rise (kd (M 213) b n) = tg (M 213) b n := rfl
  rw [e4, show (-1 : Int32) = oI (-1) from rfl, show (0 : Int32) = nI 0 from rfl, e3, bd_s, isL_u hr (strI_L (by omega) (by omega) hd)]
