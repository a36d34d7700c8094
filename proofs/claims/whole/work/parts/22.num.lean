/-! PURE: the machine's ints by integers -/
def oI (i : Int) : Int32 := Int32.ofInt i
/-- no integer that the machine's ints can't hold -/
def sm (i : Int) : Prop := -2147483648 ≤ i ∧ i ≤ 2147483647
theorem oI_t {i : Int} (h : sm i) : (oI i).toInt = i := by
  unfold oI
  have e : (Int32.size : Int) = 4294967296 := rfl
  rw [Int32.toInt_ofInt]
  exact Int.bmod_eq_of_le (by unfold sm at h; omega) (by unfold sm at h; omega)
theorem oI_x (x : Int32) : oI x.toInt = x := Int32.ofInt_toInt x
theorem oI_n (n : Nat) : nI n = oI (n : Int) := Int32.ofInt_eq_ofNat.symm
theorem oI_add (a b : Int) : oI a + oI b = oI (a + b) := (Int32.ofInt_add a b).symm
theorem oI_sub (a b : Int) : oI a - oI b = oI (a - b) := (Int32.ofInt_sub a b).symm
theorem oI_mul (a b : Int) : oI a * oI b = oI (a * b) := (Int32.ofInt_mul a b).symm
theorem oI_lt {a b : Int} (ha : sm a) (hb : sm b) : oI a < oI b ↔ a < b := by rw [ti_lt, oI_t ha, oI_t hb]
theorem oI_le {a b : Int} (ha : sm a) (hb : sm b) : oI a ≤ oI b ↔ a ≤ b := by rw [ti_le, oI_t ha, oI_t hb]
theorem oI_eq {a b : Int} (ha : sm a) (hb : sm b) : oI a = oI b ↔ a = b := by rw [ti_eq, oI_t ha, oI_t hb]
theorem oI_div {a b : Int} (ha : sm a) (h0 : 0 ≤ a) (hb : 0 < b) (hb2 : sm b) : oI a / oI b = oI (a / b) := by
  have h1 : a / b ≤ a := Int.ediv_le_self b h0
  have h2 : 0 ≤ a / b := Int.ediv_nonneg h0 (by omega)
  have hab : sm (a / b) := ⟨by omega, by unfold sm at ha; omega⟩
  rw [ti_eq, Int32.toInt_div_of_ne_right _ _ (fun q => by
    have q2 := ti_eq.mp q
    rw [oI_t hb2] at q2
    have e : (-1 : Int32).toInt = -1 := rfl
    omega), oI_t ha, oI_t hb2, oI_t hab]
  exact Int.tdiv_eq_ediv_of_nonneg h0
theorem oI_rem {a b : Int} (ha : sm a) (h0 : 0 ≤ a) (hb : 0 < b) (hb2 : sm b) : oI a - oI a / oI b * oI b = oI (a % b) := by
  rw [oI_div ha h0 hb hb2, oI_mul, oI_sub]
  congr 1
  have := Int.emod_add_mul_ediv a b
  rw [Int.mul_comm b] at this
  omega
theorem oI_cl {a : Int} (ha : sm a) : (oI a).toNatClampNeg = a.toNat := by
  rw [ti_cl, oI_t ha]
theorem oI_ib {a : Int} {n : Nat} (ha : sm a) : ib (oI a) n ↔ 0 ≤ a ∧ a < n := by
  show 0 ≤ (oI a).toInt ∧ (oI a).toInt < n ↔ _
  rw [oI_t ha]
theorem k0 : (0 : Int32) = oI 0 := rfl
theorem k1 : (1 : Int32) = oI 1 := rfl
theorem km1 : (-1 : Int32) = oI (-1) := rfl
theorem k2 : (2 : Int32) = oI 2 := rfl
theorem k3 : (3 : Int32) = oI 3 := rfl
theorem k6 : (6 : Int32) = oI 6 := rfl
theorem k7 : (7 : Int32) = oI 7 := rfl
theorem k12 : (12 : Int32) = oI 12 := rfl
theorem k13 : (13 : Int32) = oI 13 := rfl
theorem k19 : (19 : Int32) = oI 19 := rfl
/-! PURE: the string of a pitch -/
theorem pit_7 {k l d : Nat} (hl : l < 7) : pit (7 * k + l) d = 12 * (k : Int) + pit l d := by
  have e1 : (7 * k + l) / 7 = k := by omega
  have e2 : (7 * k + l) % 7 = l := by omega
  have e3 : l / 7 = 0 := by omega
  have e4 : l % 7 = l := by omega
  unfold pit nat_
  rw [e1, e2, e3, e4]
  omega
/-- s sounds as t by d -/
def snd (t : Int) (d s : Nat) : Prop := s < 42 ∧ pit s d = t
/-- r is the least string of those letters below m that sound as t by d; -1 if there is none -/
def isL (t : Int) (d m : Nat) (r : Int) : Prop := (r = -1 ∧ ∀ s, snd t d s → m ≤ s % 7) ∨ ∃ s : Nat, r = s ∧ snd t d s ∧ s % 7 < m ∧ ∀ s', snd t d s' → s' % 7 < m → s ≤ s'
theorem isL_0 {t : Int} {d : Nat} : isL t d 0 (-1) := Or.inl ⟨rfl, fun _ _ => Nat.zero_le _⟩
theorem isL_sm {t r : Int} {d m : Nat} (h : isL t d m r) : -1 ≤ r ∧ r < 42 := by
  rcases h with ⟨rfl, -⟩ | ⟨s, rfl, h, -, -⟩
  · omega
  · have := h.1
    omega
theorem isL_u {t r r' : Int} {d m : Nat} (h : isL t d m r) (h' : isL t d m r') : r = r' := by
  rcases h with ⟨rfl, h⟩ | ⟨s, rfl, h1, h2, h3⟩ <;> rcases h' with ⟨rfl, g⟩ | ⟨s', rfl, g1, g2, g3⟩
  · rfl
  · exact absurd (h s' g1) (by omega)
  · exact absurd (g s h1) (by omega)
  · have a := h3 s' g1 g2
    have b := g3 s h1 h2
    omega
/-- letter m has none: the least stays -/
theorem isL_no {t r : Int} {d m : Nat} (h : isL t d m r) (hn : ∀ s, snd t d s → s % 7 ≠ m) : isL t d (m + 1) r := by
  rcases h with ⟨rfl, h⟩ | ⟨s, rfl, h1, h2, h3⟩
  · exact Or.inl ⟨rfl, fun s hs => by have := h s hs; have := hn s hs; omega⟩
  · exact Or.inr ⟨s, rfl, h1, by omega, fun s' g1 g2 => h3 s' g1 (by have := hn s' g1; omega)⟩
theorem isL_yes {t r : Int} {d m s : Nat} (h : isL t d m r) (hs : snd t d s) (hm : s % 7 = m) (hu : ∀ s', snd t d s' → s' % 7 = m → s' = s) : isL t d (m + 1) (if r < 0 then (s : Int) else if r ≤ s then r else s) := by
  rcases h with ⟨rfl, h⟩ | ⟨q, rfl, h1, h2, h3⟩
  · rw [if_pos (by omega)]
    refine Or.inr ⟨s, rfl, hs, by omega, fun s' g1 g2 => ?_⟩
    have := h s' g1
    rw [hu s' g1 (by omega)]
    exact Nat.le_refl _
  · rw [if_neg (by omega)]
    by_cases hq : (q : Int) ≤ s
    · rw [if_pos hq]
      refine Or.inr ⟨q, rfl, h1, by omega, fun s' g1 g2 => ?_⟩
      by_cases g3 : s' % 7 < m
      · exact h3 s' g1 g3
      · rw [hu s' g1 (by omega)]
        omega
    · rw [if_neg hq]
      refine Or.inr ⟨s, rfl, hs, by omega, fun s' g1 g2 => ?_⟩
      by_cases g3 : s' % 7 < m
      · have := h3 s' g1 g3
        omega
      · rw [hu s' g1 (by omega)]
        exact Nat.le_refl _
theorem snd_form {t : Int} {d s m : Nat} (hs : snd t d s) (hm : s % 7 = m) : t - pit m d = 12 * ((s / 7 : Nat) : Int) ∧ s / 7 < 6 ∧ s = 7 * (s / 7) + m := by
  have hl : m < 7 := by omega
  have e : s = 7 * (s / 7) + m := by omega
  have h1 := hs.2
  rw [e, pit_7 hl] at h1
  have := hs.1
  exact ⟨by omega, by omega, e⟩
set_option maxHeartbeats 1000000 in
theorem stringOf_loop {t : Int} {d : Nat} (ht1 : -1000 ≤ t) (ht2 : t ≤ 1000) (hd : d < 2187) : ∀ (n m : Nat) (r : Int), m ≤ 7 → 7 < n + m → isL t d m r → ∃ r', isL t d 7 r' ∧ L_X7_stringOf_48 (nI d) (oI t) n (oI r) (nI m) = some (oI r')
  | 0, m, r, h1, h2, _ => absurd h2 (by omega)
  | n + 1, m, r, h1, h2, hr => by
    have hrb := isL_sm hr
    have s7 : sm 7 := ⟨by omega, by omega⟩
    rw [L_X7_stringOf_48]
    by_cases hm : m = 7
    · subst hm
      rw [if_pos (by rw [k7, oI_n, oI_le s7 ⟨by omega, by omega⟩]; omega)]
      exact ⟨r, hr, rfl⟩
    · have hlt : m < 7 := by omega
      have hpb := pit_b (d := d) (show m < 42 by omega)
      rw [if_neg (by rw [k7, oI_n, oI_le s7 ⟨by omega, by omega⟩]; omega), pitchOf_m (by omega) hd, bd_s, nm_d, nm_d]
      rw [show Int32.ofInt (pit m d) = oI (pit m d) from rfl, oI_sub]
      have sx : sm (t - pit m d) := ⟨by omega, by omega⟩
      have hnext : ∀ r2 : Int, isL t d (m + 1) r2 → ∃ r', isL t d 7 r' ∧ L_X7_stringOf_48 (nI d) (oI t) n (oI r2) (nI m + 1) = some (oI r') := fun r2 h => by
        rw [nI_1]
        exact stringOf_loop ht1 ht2 hd n (m + 1) r2 (by omega) (by omega) h
      by_cases c1 : t - pit m d < 0
      · rw [if_pos (by rw [k0, oI_lt sx ⟨by omega, by omega⟩]; exact c1)]
        exact hnext r (isL_no hr (fun s hs hq => by have := (snd_form hs hq).1; omega))
      · rw [if_neg (by rw [k0, oI_lt sx ⟨by omega, by omega⟩]; exact c1)]
        rw [k12, oI_rem sx (by omega) (by omega) ⟨by omega, by omega⟩, oI_div sx (by omega) (by omega) ⟨by omega, by omega⟩]
        by_cases c2 : (t - pit m d) % 12 = 0
        · rw [if_pos (by rw [c2]; rfl)]
          by_cases c3 : 6 ≤ (t - pit m d) / 12
          · rw [if_pos (by rw [k6, oI_le ⟨by omega, by omega⟩ ⟨by omega, by omega⟩]; exact c3)]
            exact hnext r (isL_no hr (fun s hs hq => by have := snd_form hs hq; omega))
          · rw [if_neg (by rw [k6, oI_le ⟨by omega, by omega⟩ ⟨by omega, by omega⟩]; exact c3)]
            obtain ⟨k, hk⟩ := Int.eq_ofNat_of_zero_le (show 0 ≤ (t - pit m d) / 12 by omega)
            have hs : snd t d (7 * k + m) := ⟨by omega, by rw [pit_7 hlt]; omega⟩
            have hyes := isL_yes hr hs (by omega) (fun s' g1 g2 => by have := snd_form g1 g2; omega)
            rw [nm_d, nm_d, k7, oI_mul, oI_n m, oI_add]
            rw [oI_n m] at hnext
            have e1 : (7 * ((t - pit m d) / 12) + (m : Int)) = ((7 * k + m : Nat) : Int) := by omega
            rw [e1]
            by_cases c4 : r < 0
            · rw [if_pos (by rw [k0, oI_lt ⟨by omega, by omega⟩ ⟨by omega, by omega⟩]; exact c4)]
              rw [if_pos c4] at hyes
              exact hnext _ hyes
            · rw [if_neg (by rw [k0, oI_lt ⟨by omega, by omega⟩ ⟨by omega, by omega⟩]; exact c4)]
              rw [if_neg c4] at hyes
              by_cases c5 : r ≤ ((7 * k + m : Nat) : Int)
              · rw [if_pos (by rw [oI_le ⟨by omega, by omega⟩ ⟨by omega, by omega⟩]; exact c5)]
                rw [if_pos c5] at hyes
                exact hnext _ hyes
              · rw [if_neg (by rw [oI_le ⟨by omega, by omega⟩ ⟨by omega, by omega⟩]; exact c5)]
                rw [if_neg c5] at hyes
                exact hnext _ hyes
        · rw [if_neg (by rw [k0, oI_eq ⟨by omega, by omega⟩ ⟨by omega, by omega⟩]; exact c2)]
          exact hnext r (isL_no hr (fun s hs hq => by have := (snd_form hs hq).1; omega))
