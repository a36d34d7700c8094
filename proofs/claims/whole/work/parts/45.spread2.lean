/-! PURE: spread of the class, all blocks, all pedals of a foot -/
theorem blk_1 {p B w : Nat} (hp : p < 7) (hw : w = 3 ^ p) (hB : B % (w * 3) = 0) (h : B < 2187) : B + w * 3 ≤ 2187 ∧ (B + 3 * w) % (w * 3) = 0 := by
  subst hw
  rcases p7 hp with h | h | h | h | h | h | h <;> subst h <;> (refine ⟨?_, ?_⟩ <;> omega)
theorem blk_2 {p B w d : Nat} (hp : p < 7) (hw : w = 3 ^ p) (hB : B % (w * 3) = 0) (hd : d < 2187) : bse d p < B + w ↔ bse d p < B + 3 * w := by
  have h := (bse_1 hp hd).2.1
  subst hw
  generalize bse d p = x at *
  rcases p7 hp with h | h | h | h | h | h | h <;> subst h <;> omega
theorem sp_2 {a0 a2 p m : Nat} (h02 : a0 ≠ a2) (hp : p < 7) (hm : m ≤ 40) {f g : Nat → Pr} (hf : okR m f) (hg : ∀ d, d < 2187 → okE (g d) ∧ (g d).1 ≤ (f d).1 ∧ (g d).1 ≤ 63) {w : Nat} (hw : w = 3 ^ p) (hw0 : 0 < w) (hw1 : w ≤ 729) : ∀ (k n B : Nat) (M : Mm), B + k ≤ 2187 + w * 3 → 2187 ≤ B + k → k < n + B → B ≤ 2187 → B % (w * 3) = 0 → Row a0 M f → Row a2 M (spI f g p B) → 2188 ≤ n + B →
    ∃ M', L_X5_spreadPedal_2 a0 (nI w) a2 n (nI B) M = some M' ∧ Row a2 M' (spP f g p) ∧ F1 a2 M M'
  | k, 0, B, M, h1, h2, h3, h4, h5, h6, h7, h8 => by omega
  | k, n + 1, B, M, h1, h2, h3, h4, h5, h6, h7, h8 => by
    by_cases c : B = 2187
    · rw [L_X5_spreadPedal_2, if_pos (by rw [c]; decide)]
      refine ⟨M, rfl, fun d hd => ?_, f1_r a2 M⟩
      rw [h7 d hd]
      unfold spI
      rw [if_pos (by have := (bse_1 hp hd).1; omega)]
    · obtain ⟨b1, b2⟩ := blk_1 hp hw h5 (by omega)
      rw [L_X5_spreadPedal_2, if_neg (fun q => by have := (zleD (by omega)).mp q; omega)]
      obtain ⟨M1, q1, q2, q3⟩ := sp_12 h02 hp hm hf hg hw hw0 h5 b1 w FU B M (by omega) (by omega) (by unfold FU; omega) h6 h7
      rw [q1, bd_s, nm_d, show (3 : Int32) = nI 3 from rfl, zmu, zad]
      obtain ⟨M2, r1, r2, r3⟩ := sp_2 h02 hp hm hf hg hw hw0 hw1 (k - 3 * w) n (B + 3 * w) M1 (by omega) (by omega) (by omega) (by omega) b2 (fun d hd => by rw [q3 a0 h02]; exact h6 d hd) (fun d hd => by
        rw [q2 d hd]
        have e := blk_2 hp hw h5 hd
        unfold spI
        by_cases c3 : bse d p < B + w
        · rw [if_pos c3, if_pos (e.mp c3)]
        · rw [if_neg c3, if_neg (fun q => c3 (e.mpr q))]) (by omega)
      exact ⟨M2, r1, r2, f1_t q3 r3⟩
theorem w_k {p : Nat} (hp : p < 7) : 0 < 3 ^ p ∧ 3 ^ p ≤ 729 ∧ st_ 4 p = nI (3 ^ p) := by
  rcases p7 hp with h | h | h | h | h | h | h <;> subst h <;> decide +kernel
/-- what a row must be to be spread into -/
def okI (f g : Nat → Pr) : Prop := ∀ d, d < 2187 → okE (g d) ∧ (g d).1 ≤ (f d).1 ∧ (g d).1 ≤ 63
theorem spreadPedal_c {a0 a2 p m : Nat} {M : Mm} (h02 : a0 ≠ a2) (hp : p < 7) (hm : m ≤ 40) {f g : Nat → Pr} (hf : okR m f) (hg : okI f g) (h6 : Row a0 M f) (h7 : Row a2 M g) : ∃ M', f_X5_spreadPedal a0 (st_ 4 p) a2 M = some M' ∧ Row a2 M' (spP f g p) ∧ F1 a2 M M' := by
  obtain ⟨w1, w2, w3⟩ := w_k hp
  unfold f_X5_spreadPedal
  obtain ⟨M1, q1, q2, q3⟩ := sp_2 h02 hp hm hf hg (w := 3 ^ p) rfl w1 w2 2187 FU 0 M (by omega) (by omega) (by unfold FU; omega) (by omega) (Nat.zero_mod _) h6 (fun d hd => by rw [h7 d hd]; unfold spI; rw [if_neg (by omega)]) (by unfold FU; omega)
  have q1' : L_X5_spreadPedal_2 a0 (nI (3 ^ p)) a2 FU (0 : Int32) M = some M1 := q1
  rw [w3, q1', bd_s]
  exact ⟨M1, rfl, q2, q3⟩
theorem okI_p {f g : Nat → Pr} {p m : Nat} (hp : p < 7) (hm : m ≤ 40) (hf : okR m f) (hg : okI f g) : okI f (spP f g p) := by
  intro d hd
  obtain ⟨h1, h2, h3⟩ := hg d hd
  have m1 := hf _ (mv_lt (d := d) (p := p) (k := 1) hd hp)
  have m2 := hf _ (mv_lt (d := d) (p := p) (k := 2) hd hp)
  unfold spP
  refine ⟨okE_bt h1 (okE_bt (okP_s hm m1) (okP_s hm m2)), ?_, ?_⟩
  · rw [bt_1]
    omega
  · rw [bt_1]
    omega
/-- the pedals of set P from p on -/
noncomputable def fr (P : Nat → Prop) : Nat → Nat → List Nat
  | 0, _ => []
  | k + 1, p => haveI := Classical.propDecidable (P p); if P p then p :: fr P k (p + 1) else fr P k (p + 1)
theorem fr_p {P : Nat → Prop} {k p : Nat} (h : P p) : fr P (k + 1) p = p :: fr P k (p + 1) := by rw [fr, if_pos h]
theorem fr_n {P : Nat → Prop} {k p : Nat} (h : ¬ P p) : fr P (k + 1) p = fr P k (p + 1) := by rw [fr, if_neg h]
/-- where d comes by one move of the pedals F, but for those that L locks -/
noncomputable def fl (L : Nat → Prop) (d : Nat) : List Nat → List Nat
  | [] => []
  | p :: F => haveI := Classical.propDecidable (L p); if L p then fl L d F else mv d p 1 :: mv d p 2 :: fl L d F
theorem fl_t {L : Nat → Prop} {d p : Nat} {F : List Nat} (h : L p) : fl L d (p :: F) = fl L d F := by rw [fl, if_pos h]
theorem fl_f {L : Nat → Prop} {d p : Nat} {F : List Nat} (h : ¬ L p) : fl L d (p :: F) = mv d p 1 :: mv d p 2 :: fl L d F := by rw [fl, if_neg h]
/-- no lock -/
def nL : Nat → Prop := fun _ => False
/-- g and what one move of F brings from f -/
noncomputable def sg (L : Nat → Prop) (F : List Nat) (f g : Nat → Pr) (d : Nat) : Pr := bs (g d) ((fl L d F).map (fun e => sh 1 (f e)))
theorem sg_p {F : List Nat} {f g : Nat → Pr} {p d : Nat} : sg nL F f (spP f g p) d = sg nL (p :: F) f g d := by
  unfold sg
  rw [fl_f (L := nL) (fun h => h), List.map_cons, List.map_cons]
  unfold spP
  rw [bs_out]
  show bt _ (bt _ _) = bt _ (bt _ _)
  rw [bt_comm, bt_assoc]
  rfl
theorem zle7 {a : Nat} (ha : a < 2147483648) : (7 : Int32) ≤ nI a ↔ 7 ≤ a := zle (a := 7) (by omega) ha
theorem spread_l {a0 a2 m : Nat} {x : Int32} {P : Nat → Prop} (hx : ∀ p, p < 7 → (bi x p ↔ P p)) (h02 : a0 ≠ a2) (hm : m ≤ 40) {f : Nat → Pr} (hf : okR m f) : ∀ (k n p : Nat) (M : Mm) (g : Nat → Pr), p + k = 7 → k < n → okI f g → Row a0 M f → Row a2 M g →
    ∃ M', L_X5_spread_12 a0 x a2 n (nI p) M = some M' ∧ Row a2 M' (sg nL (fr P k p) f g) ∧ F1 a2 M M'
  | _, 0, _, _, _, _, h2, _, _, _ => by omega
  | 0, n + 1, p, M, g, h1, h2, h3, h4, h5 => by
    rw [L_X5_spread_12, if_pos ((zle7 (by omega)).mpr (by omega))]
    exact ⟨M, rfl, h5, f1_r a2 M⟩
  | k + 1, n + 1, p, M, g, h1, h2, h3, h4, h5 => by
    have hp : p < 7 := by omega
    have hb : ((x >>> (nI p &&& 31)) &&& (1 : Int32)) = 0 ↔ ¬ P p := by
      rw [← hx p hp, ← bi_1 hp]
      constructor
      · intro q r
        rw [q] at r
        exact absurd r (by decide)
      · intro q
        refine Int32.toBitVec_inj.mp (BitVec.eq_of_getLsbD_eq ?_)
        intro i _
        rw [low_i x hp i]
        have e : (0 : Int32).toBitVec = 0#32 := rfl
        rw [e, BitVec.getLsbD_zero]
        by_cases c : i = 0
        · subst c
          have q' := fun r => q ((bi_1 hp).mpr r)
          unfold bi at q'
          simpa using q'
        · simp [c]
    rw [L_X5_spread_12, if_neg (fun q => by have := (zle (a := 7) (by omega) (by omega)).mp q; omega), nI_s]
    by_cases c : P p
    · obtain ⟨M1, q1, q2, q3⟩ := spreadPedal_c h02 hp hm hf h3 h4 h5
      rw [if_neg (fun q => hb.mp q c), zck hp (by omega), zcl (by omega), q1, bd_s, bd_s]
      obtain ⟨M2, r1, r2, r3⟩ := spread_l hx h02 hm hf k n (p + 1) M1 (spP f g p) (by omega) (by omega) (okI_p hp hm hf h3) (fun d hd => by rw [q3 a0 h02]; exact h4 d hd) q2
      refine ⟨M2, r1, fun d hd => ?_, f1_t q3 r3⟩
      rw [r2 d hd, sg_p, fr_p c]
    · rw [if_pos (hb.mpr c), bd_s, fr_n c]
      exact spread_l hx h02 hm hf k n (p + 1) M g (by omega) (by omega) h3 h4 h5
theorem cpy_a {f g : Nat → Int32} {n : Nat} (hn : n < 2147483648) {j : Nat} (hj : j < n) : cpy f g 0 0 (nI n) j = f j := by
  unfold cpy va_cpy
  rw [zcl hn]
  have e : (0 : Int32).toNatClampNeg = 0 := rfl
  rw [e]
  simp
  intro h
  omega
theorem spread_c {a0 a2 m : Nat} {x : Int32} {P : Nat → Prop} {M : Mm} (hx : ∀ p, p < 7 → (bi x p ↔ P p)) (h02 : a0 ≠ a2) (hm : m ≤ 40) {f : Nat → Pr} (hf : okR m f) (h4 : Row a0 M f) : ∃ M', f_X5_spread a0 x a2 M = some M' ∧ Row a2 M' (sg nL (fr P 7 0) f f) ∧ F1 a2 M M' := by
  unfold f_X5_spread
  rw [ck_t (by decide), nm_d]
  have hF : F1 a2 M (mu M a2 (cpy (M a0) (M a2) (0 : Int32) (0 : Int32) (2187 : Int32))) := fun c q => mu_n q
  obtain ⟨M1, q1, q2, q3⟩ := spread_l hx h02 hm hf 7 FU 0 (mu M a2 (cpy (M a0) (M a2) (0 : Int32) (0 : Int32) (2187 : Int32))) f (by omega) (by unfold FU; omega) (fun d hd => ⟨okP_E hm (hf d hd), Nat.le_refl _, okP_1 (by omega) (hf d hd)⟩) (fun d hd => by rw [hF a0 h02]; exact h4 d hd) (fun d hd => by
    rw [mu_s, show (2187 : Int32) = nI 2187 from rfl, cpy_a (by omega) hd]
    exact h4 d hd)
  have q1' : L_X5_spread_12 a0 x a2 FU (0 : Int32) (mu M a2 (cpy (M a0) (M a2) (0 : Int32) (0 : Int32) (2187 : Int32))) = some M1 := q1
  rw [q1', bd_s]
  exact ⟨M1, rfl, q2, f1_t hF q3⟩
