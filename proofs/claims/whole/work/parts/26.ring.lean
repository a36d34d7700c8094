/-! PURE: sets of pedals, as bits of an int; which pedals a beat locks -/
def bi (x : Int32) (p : Nat) : Prop := x.toBitVec.getLsbD p = true
theorem sfi_k : ∀ p : Nat, p < 7 → ((nI p &&& 31).toBitVec.smod 32).toNat = p := by decide +kernel
theorem sfs_k : ∀ s : Nat, s < 42 → (((oI s - oI s / (7 : Int32) * (7 : Int32)) &&& 31).toBitVec.smod 32).toNat = s % 7 := by decide +kernel
theorem sfn_k : (((oI (-1) - oI (-1) / (7 : Int32) * (7 : Int32)) &&& 31).toBitVec.smod 32).toNat = 31 := by decide +kernel
theorem low_i (x : Int32) {p : Nat} (hp : p < 7) (i : Nat) : ((x >>> (nI p &&& 31)) &&& (1 : Int32)).toBitVec.getLsbD i = (decide (i = 0) && x.toBitVec.getLsbD p) := by
  rw [Int32.toBitVec_and, BitVec.getLsbD_and, Int32.toBitVec_shiftRight, BitVec.sshiftRight_eq', sfi_k p hp, BitVec.getLsbD_sshiftRight]
  have e : (1 : Int32).toBitVec = 1#32 := rfl
  rw [e, BitVec.getLsbD_one]
  by_cases h : i = 0
  · subst h
    rw [if_pos (by omega)]
    simp
  · simp [h]
theorem bi_1 {x : Int32} {p : Nat} (hp : p < 7) : ((x >>> (nI p &&& 31)) &&& (1 : Int32)) = 1 ↔ bi x p := by
  constructor
  · intro h
    have h1 := low_i x hp 0
    rw [h] at h1
    unfold bi
    have e : (1 : Int32).toBitVec.getLsbD 0 = true := rfl
    rw [e] at h1
    simpa using h1.symm
  · intro h
    refine Int32.toBitVec_inj.mp (BitVec.eq_of_getLsbD_eq ?_)
    intro i _
    unfold bi at h
    rw [low_i x hp i, h]
    have e : (1 : Int32).toBitVec = 1#32 := rfl
    rw [e, BitVec.getLsbD_one]
    simp
theorem bi_0 {p : Nat} : ¬ bi 0 p := by
  unfold bi
  have e : (0 : Int32).toBitVec = 0#32 := rfl
  rw [e]
  simp
theorem bi_or {x y : Int32} {p : Nat} : bi (x ||| y) p ↔ bi x p ∨ bi y p := by
  unfold bi
  rw [Int32.toBitVec_or, BitVec.getLsbD_or]
  simp
theorem bi_sh {y : Int32} {k p : Nat} (hk : (y.toBitVec.smod 32).toNat = k) (hp : p < 7) : bi ((1 : Int32) <<< y) p ↔ p = k := by
  unfold bi
  rw [Int32.toBitVec_shiftLeft, BitVec.shiftLeft_eq', hk, BitVec.getLsbD_shiftLeft]
  have e : (1 : Int32).toBitVec = 1#32 := rfl
  rw [e, BitVec.getLsbD_one]
  simp
  omega
theorem bi_str {q : Int} {p : Nat} (h1 : -1 ≤ q) (h2 : q < 42) (hp : p < 7) : bi ((1 : Int32) <<< ((oI q - oI q / (7 : Int32) * (7 : Int32)) &&& 31)) p ↔ 0 ≤ q ∧ q % 7 = p := by
  by_cases c : q < 0
  · have e : q = -1 := by omega
    subst e
    rw [bi_sh sfn_k hp]
    omega
  · obtain ⟨s, es⟩ := Int.eq_ofNat_of_zero_le (show 0 ≤ q by omega)
    subst es
    rw [bi_sh (sfs_k s (by omega)) hp]
    omega
/-- pedal p is locked at beat b by diagram d -/
def lkm (N : Nt) (b d m p : Nat) : Prop := ∃ n, n < m ∧ rg N b n = 1 ∧ 0 ≤ str N b n d ∧ str N b n d % 7 = (p : Int)
def lk (N : Nt) (b d p : Nat) : Prop := lkm N b d (sz N b) p
theorem nI_s (m : Nat) : nI m + 1 = nI (m + 1) := by rw [oI_n, oI_n, k1, oI_add]; congr 1
theorem ringing_l {M : Mm} (h : WP (M 213)) {b d : Nat} (hb : b < 12) (hd : d < 2187) : ∀ (n m : Nat) (x : Int32), m ≤ sz (M 213) b → sz (M 213) b < n + m → (∀ p, p < 7 → (bi x p ↔ lkm (M 213) b d m p)) →
    ∃ y, L_X7_ringing_5 (nI b) (nI d) M n x (nI m) = some y ∧ ∀ p, p < 7 → (bi y p ↔ lk (M 213) b d p)
  | 0, m, x, h1, h2, _ => by omega
  | n + 1, m, x, h1, h2, hx => by
    obtain ⟨ez, hz⟩ := wp_sz h hb
    rw [L_X7_ringing_5]
    have e1 : (1 : Int32) + nI b = oI ((1 + b : Nat) : Int) := by rw [k1, oI_n, oI_add]; congr 1
    rw [e1, ck_t ((oI_ib ⟨by omega, by omega⟩).mpr (by omega)), oI_cl ⟨by omega, by omega⟩, Int.toNat_natCast, ez]
    by_cases c : m = sz (M 213) b
    · rw [if_pos (by rw [oI_n, oI_n, oI_le ⟨by omega, by omega⟩ ⟨by omega, by omega⟩]; omega)]
      exact ⟨x, rfl, fun p hp => by rw [hx p hp, c]; exact Iff.rfl⟩
    · rw [if_neg (by rw [oI_n, oI_n, oI_le ⟨by omega, by omega⟩ ⟨by omega, by omega⟩]; omega), note_2 hb (by omega), bd_s]
      obtain ⟨er, hr⟩ := wp_rg h hb (show m < sz (M 213) b by omega)
      have hs := str_b h hb (show m < sz (M 213) b by omega) hd
      rw [er, nI_s]
      by_cases c1 : rg (M 213) b m = 1
      · rw [if_pos (by rw [oI_n, k1, oI_eq ⟨by omega, by omega⟩ ⟨by omega, by omega⟩]; omega), stringOf_m h hb (by omega) hd, bd_s, bd_s, nm_d]
        refine ringing_l h hb hd n (m + 1) _ (by omega) (by omega) ?_
        intro p hp
        rw [bi_or, hx p hp]
        have e9 := bi_str hs.1 hs.2 hp
        unfold str at e9
        rw [e9]
        constructor
        · intro q
          rcases q with ⟨i, hi, q⟩ | q
          · exact ⟨i, by omega, q⟩
          · exact ⟨m, by omega, c1, q⟩
        · intro q
          obtain ⟨i, hi, q⟩ := q
          by_cases e : i = m
          · subst e
            exact Or.inr q.2
          · exact Or.inl ⟨i, by omega, q⟩
      · rw [if_neg (by rw [oI_n, k1, oI_eq ⟨by omega, by omega⟩ ⟨by omega, by omega⟩]; omega), bd_s, nm_d]
        refine ringing_l h hb hd n (m + 1) _ (by omega) (by omega) ?_
        intro p hp
        rw [bi_or, hx p hp]
        constructor
        · intro q
          rcases q with ⟨i, hi, q⟩ | q
          · exact ⟨i, by omega, q⟩
          · exact absurd q bi_0
        · intro q
          obtain ⟨i, hi, q⟩ := q
          by_cases e : i = m
          · subst e
            exact absurd q.1 c1
          · exact Or.inl ⟨i, by omega, q⟩
theorem ringing_m {M : Mm} (h : WP (M 213)) {b d : Nat} (hb : b < 12) (hd : d < 2187) : ∃ y, f_X7_ringing (nI b) (nI d) M = some y ∧ ∀ p, p < 7 → (bi y p ↔ lk (M 213) b d p) := by
  have hz := (wp_sz h hb).2
  obtain ⟨y, e, hy⟩ := ringing_l h hb hd FU 0 0 (by omega) (by unfold FU; omega) (fun p _ => ⟨fun q => absurd q bi_0, fun ⟨i, hi, _⟩ => by omega⟩)
  refine ⟨y, ?_, hy⟩
  unfold f_X7_ringing
  show Option.bind (L_X7_ringing_5 (nI b) (nI d) M FU 0 (nI 0)) _ = _
  rw [e, bd_s]
/-! PURE: moving a pedal -/
def mv (d p k : Nat) : Nat := d + 3 ^ p * ((sd d p + k) % 3) - 3 ^ p * sd d p
theorem p7 {p : Nat} (hp : p < 7) : p = 0 ∨ p = 1 ∨ p = 2 ∨ p = 3 ∨ p = 4 ∨ p = 5 ∨ p = 6 := by omega
theorem pow_k : ∀ p : Nat, p < 7 → st_ 8 (nI p).toNatClampNeg = oI ((3 ^ p : Nat) : Int) := by decide +kernel
theorem trn_k : ∀ s : Nat, s < 3 → ∀ k : Nat, k < 3 → ((nI s + nI k) - (nI s + nI k) / (3 : Int32) * (3 : Int32)) - nI s = oI ((((s + k) % 3 : Nat) : Int) - (s : Nat)) := by decide +kernel
theorem mv_i {d p k : Nat} (hp : p < 7) : (mv d p k : Int) = d + 3 ^ p * (((sd d p + k) % 3 : Nat) : Int) - 3 ^ p * (sd d p : Int) := by
  unfold mv sd
  rcases p7 hp with h | h | h | h | h | h | h <;> subst h <;> omega
theorem mv_lt {d p k : Nat} (hd : d < 2187) (hp : p < 7) : mv d p k < 2187 := by
  unfold mv sd
  rcases p7 hp with h | h | h | h | h | h | h <;> subst h <;> omega
theorem moved_k {d p k : Nat} (hp : p < 7) (hk : k < 3) : nI d + ((st_ 8 (nI p).toNatClampNeg) * (((nI (sd d p) + nI k) - (nI (sd d p) + nI k) / (3 : Int32) * (3 : Int32)) - nI (sd d p))) = nI (mv d p k) := by
  rw [pow_k p hp, trn_k (sd d p) (sd_lt d p) k hk, oI_mul, oI_n d, oI_add, oI_n (mv d p k), mv_i hp]
  congr 1
  rcases p7 hp with h | h | h | h | h | h | h <;> subst h <;> omega
theorem moved_l {x : Int32} {d p k : Nat} (hp : p < 7) (hl : bi x p) : f_X7_moved (nI d) (nI p) (nI k) x = some (-1) := by
  unfold f_X7_moved
  rw [if_pos ((bi_1 hp).mpr hl)]
theorem moved_m {x : Int32} {d p k : Nat} (hd : d < 2187) (hp : p < 7) (hk : k < 3) (hl : ¬ bi x p) : f_X7_moved (nI d) (nI p) (nI k) x = some (nI (mv d p k)) := by
  unfold f_X7_moved
  rw [if_neg (fun q => hl ((bi_1 hp).mp q)), standOf_eq hd hp, bd_s, ck_t (ib_nI hp (by decide)), moved_k hp hk]
