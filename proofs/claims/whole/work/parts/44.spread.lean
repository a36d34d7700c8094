/-! PURE: spread of the class -/
/-- row a holds the prices f -/
def Row (a : Nat) (M : Mm) (f : Nat → Pr) : Prop := ∀ d, d < 2187 → M a d = enc (f d)
/-- all prices of f have at most m moves, or are none -/
def okR (m : Nat) (f : Nat → Pr) : Prop := ∀ d, d < 2187 → okP m (f d)
theorem okP_E {m : Nat} (hm : m ≤ 40) {p : Pr} (h : okP m p) : okE p := by
  rcases h with h | h
  · rw [h]
    exact ⟨by decide, by decide⟩
  · exact ⟨by omega, h.2⟩
theorem okP_s {m : Nat} (hm : m ≤ 40) {p : Pr} (h : okP m p) : okE (sh 1 p) := by
  rcases h with h | h
  · rw [h]
    exact ⟨by decide, by decide⟩
  · exact ⟨by show p.1 + 1 ≤ _; omega, h.2⟩
/-- but for cell a, M' is M -/
def F1 (a : Nat) (M M' : Mm) : Prop := ∀ c, c ≠ a → M' c = M c
theorem f1_r (a : Nat) (M : Mm) : F1 a M M := fun _ _ => rfl
theorem f1_t {a : Nat} {M M' M'' : Mm} (h : F1 a M M') (h' : F1 a M' M'') : F1 a M M'' := fun c q => (h' c q).trans (h c q)
/-- d with pedal p at 0 -/
def bse (d p : Nat) : Nat := d - 3 ^ p * sd d p
theorem bse_1 {d p : Nat} (hp : p < 7) (hd : d < 2187) : bse d p + 3 ^ p * 2 < 2187 ∧ bse d p % (3 ^ p * 3) < 3 ^ p ∧ bse d p + 3 ^ p * sd d p = d := by
  unfold bse sd
  rcases p7 hp with h | h | h | h | h | h | h <;> subst h <;> (refine ⟨?_, ?_, ?_⟩ <;> omega)
theorem bse_2 {a p : Nat} (hp : p < 7) (ha : a % (3 ^ p * 3) < 3 ^ p) : sd a p = 0 ∧ sd (a + 3 ^ p) p = 1 ∧ sd (a + 3 ^ p + 3 ^ p) p = 2 := by
  unfold sd
  rcases p7 hp with h | h | h | h | h | h | h <;> subst h <;> (refine ⟨?_, ?_, ?_⟩ <;> omega)
theorem bse_3 {a p : Nat} (hp : p < 7) (ha : a % (3 ^ p * 3) < 3 ^ p) : bse a p = a ∧ bse (a + 3 ^ p) p = a ∧ bse (a + 3 ^ p + 3 ^ p) p = a := by
  obtain ⟨h1, h2, h3⟩ := bse_2 hp ha
  unfold bse
  rw [h1, h2, h3]
  omega
theorem bse_4 {a d p : Nat} (hp : p < 7) (hd : d < 2187) (h : bse d p = a) : d = a ∨ d = a + 3 ^ p ∨ d = a + 3 ^ p + 3 ^ p := by
  obtain ⟨h1, h2, h3⟩ := bse_1 hp hd
  have h4 := sd_lt d p
  have h5 : sd d p = 0 ∨ sd d p = 1 ∨ sd d p = 2 := by omega
  rcases h5 with h5 | h5 | h5 <;> rw [h5] at h3 <;> omega
theorem mv_a {a p : Nat} (hp : p < 7) (ha : a % (3 ^ p * 3) < 3 ^ p) : mv a p 1 = a + 3 ^ p ∧ mv a p 2 = a + 3 ^ p + 3 ^ p ∧ mv (a + 3 ^ p) p 1 = a + 3 ^ p + 3 ^ p ∧ mv (a + 3 ^ p) p 2 = a ∧ mv (a + 3 ^ p + 3 ^ p) p 1 = a ∧ mv (a + 3 ^ p + 3 ^ p) p 2 = a + 3 ^ p := by
  obtain ⟨h1, h2, h3⟩ := bse_2 hp ha
  unfold mv
  rw [h1, h2, h3]
  refine ⟨?_, ?_, ?_, ?_, ?_, ?_⟩ <;> simp <;> omega
/-- g after pedal p of f was spread into it -/
def spP (f g : Nat → Pr) (p d : Nat) : Pr := bt (g d) (bt (sh 1 (f (mv d p 1))) (sh 1 (f (mv d p 2))))
theorem sh_1 (c : Nat) (a : Pr) : (sh c a).1 = a.1 + c := rfl
/-- g d takes no notice of what costs more -/
theorem bt_ab {a b c d : Pr} (h : a.1 < b.1) : bt a (bt (bt b c) d) = bt a (bt c d) := by
  rw [bt_assoc b c d, ← bt_assoc a b, bt_l h]
theorem bt_ab2 {a b c d : Pr} (h : a.1 < b.1) : bt a (bt (bt c b) d) = bt a (bt d c) := by
  rw [bt_comm c b, bt_ab h, bt_comm c d]
theorem bt_ab3 {a b c d : Pr} (h : a.1 < b.1) : bt a (bt (bt c d) b) = bt a (bt c d) := by
  rw [bt_comm _ b, ← bt_assoc a b, bt_l h]
/-- what is spread from the three that share a base -/
theorem spP_3 {f g : Nat → Pr} {p a : Nat} (hp : p < 7) (ha : a % (3 ^ p * 3) < 3 ^ p) (h0 : (g a).1 ≤ (f a).1) (h1 : (g (a + 3 ^ p)).1 ≤ (f (a + 3 ^ p)).1) (h2 : (g (a + 3 ^ p + 3 ^ p)).1 ≤ (f (a + 3 ^ p + 3 ^ p)).1) :
    spP f g p a = bt (g a) (sh 1 (bt (bt (f a) (f (a + 3 ^ p))) (f (a + 3 ^ p + 3 ^ p)))) ∧
    spP f g p (a + 3 ^ p) = bt (g (a + 3 ^ p)) (sh 1 (bt (bt (f a) (f (a + 3 ^ p))) (f (a + 3 ^ p + 3 ^ p)))) ∧
    spP f g p (a + 3 ^ p + 3 ^ p) = bt (g (a + 3 ^ p + 3 ^ p)) (sh 1 (bt (bt (f a) (f (a + 3 ^ p))) (f (a + 3 ^ p + 3 ^ p)))) := by
  obtain ⟨m1, m2, m3, m4, m5, m6⟩ := mv_a hp ha
  unfold spP
  rw [m1, m2, m3, m4, m5, m6, sh_bt, sh_bt]
  refine ⟨?_, ?_, ?_⟩
  · rw [bt_ab (by rw [sh_1]; omega)]
  · rw [bt_ab2 (by rw [sh_1]; omega)]
  · rw [bt_ab3 (by rw [sh_1]; omega)]
/-- into, as far as it was spread: bases below a are done -/
def spI (f g : Nat → Pr) (p a d : Nat) : Pr := if bse d p < a then spP f g p d else g d
theorem spI_s {f g : Nat → Pr} {p a d : Nat} (h : bse d p ≠ a) : spI f g p (a + 1) d = spI f g p a d := by
  unfold spI
  by_cases c : bse d p < a
  · rw [if_pos c, if_pos (by omega)]
  · rw [if_neg c, if_neg (by omega)]
theorem okP_63 {m : Nat} (hm : m ≤ 40) {p : Pr} (h : okP m p) (h6 : 62 ≤ p.1) : p = top := by
  rcases h with h | h
  · exact h
  · omega
theorem bt_tt : bt top top = top := by decide +kernel
theorem sh_tt : sh 1 top = (64, 0) := by decide +kernel
/-- what the three are after the step -/
theorem sp_val {p a w : Nat} (hp : p < 7) (hw : w = 3 ^ p) (ha : a % (3 ^ p * 3) < 3 ^ p) {f g : Nat → Pr} {v : Pr} (h0 : spP f g p a = bt (g a) v) (h1 : spP f g p (a + w) = bt (g (a + w)) v) (h2 : spP f g p (a + w + w) = bt (g (a + w + w)) v) {d : Nat} (hd : d < 2187) (hb : bse d p = a) : spP f g p d = bt (g d) v := by
  have q := bse_4 hp hd hb
  rw [← hw] at q
  rcases q with q | q | q
  · rw [q]
    exact h0
  · rw [q]
    exact h1
  · rw [q]
    exact h2
theorem sp_st {a0 a2 p m : Nat} (h02 : a0 ≠ a2) (hp : p < 7) (hm : m ≤ 40) {f g : Nat → Pr} (hf : okR m f) (hg : ∀ d, d < 2187 → okE (g d) ∧ (g d).1 ≤ (f d).1 ∧ (g d).1 ≤ 63) {w : Nat} (hw : w = 3 ^ p) (hw0 : 0 < w) {B n a : Nat} {M : Mm} (ha : a % (3 ^ p * 3) < 3 ^ p) (hB : a < B + w) (d1 : a + w + w < 2187) (hB2 : B + w < 2187) (h3 : Row a0 M f) (h4 : Row a2 M (spI f g p a)) :
    ∃ M', L_X5_spreadPedal_12 a0 (nI w) a2 (nI B) (n + 1) (nI a) M = L_X5_spreadPedal_12 a0 (nI w) a2 (nI B) n (nI (a + 1)) M' ∧ Row a2 M' (spI f g p (a + 1)) ∧ F1 a2 M M' := by
  obtain ⟨b1, b2, b3⟩ := bse_3 hp ha
  rw [← hw] at b2 b3
  have g0 := hg a (by omega)
  have g1 := hg (a + w) (by omega)
  have g2 := hg (a + w + w) d1
  have s3 := spP_3 (f := f) (g := g) hp ha (by exact g0.2.1) (by rw [← hw]; exact g1.2.1) (by rw [← hw]; exact g2.2.1)
  rw [← hw] at s3
  have o0 := hf a (by omega)
  have o1 := hf (a + w) (by omega)
  have o2 := hf (a + w + w) d1
  have r0 := h3 a (by omega)
  have r1 := h3 (a + w) (by omega)
  have r2 := h3 (a + w + w) d1
  have i0 := h4 a (by omega)
  have i1 := h4 (a + w) (by omega)
  have i2 := h4 (a + w + w) d1
  have u0 : spI f g p a a = g a := if_neg (by rw [b1]; exact Nat.lt_irrefl a)
  have u1 : spI f g p a (a + w) = g (a + w) := if_neg (by rw [b2]; exact Nat.lt_irrefl a)
  have u2 : spI f g p a (a + w + w) = g (a + w + w) := if_neg (by rw [b3]; exact Nat.lt_irrefl a)
  rw [u0] at i0
  rw [u1] at i1
  rw [u2] at i2
  have oE : okE (bt (bt (f a) (f (a + w))) (f (a + w + w))) := okE_bt (okE_bt (okP_E hm o0) (okP_E hm o1)) (okP_E hm o2)
  have hmin : (bt (bt (f a) (f (a + w))) (f (a + w + w))).1 = min (min (f a).1 (f (a + w)).1) (f (a + w + w)).1 := by rw [bt_1, bt_1]
  have l0 := okP_1 (by omega) o0
  have l1 := okP_1 (by omega) o1
  have l2 := okP_1 (by omega) o2
  have oS : okE (sh 1 (bt (bt (f a) (f (a + w))) (f (a + w + w)))) := ⟨by rw [sh_1, hmin]; omega, oE.2⟩
  have sv := fun d hd hb => sp_val (d := d) hp hw ha s3.1 s3.2.1 s3.2.2 hd hb
  rw [L_X5_spreadPedal_12]
  have hlt : ¬ nI B + nI w ≤ nI a := fun q => by
    rw [zad] at q
    have := (zle (by omega) (by omega)).mp q
    omega
  rw [if_neg hlt]
  rw [nm_d, nm_d, zad, zad, zck (by omega) (by omega), zck (by omega) (by omega), zck (by omega) (by omega), nm_d, zcl (show a < 2147483648 by omega), zcl (show a + w < 2147483648 by omega), zcl (show a + w + w < 2147483648 by omega), r0, r1, r2, nI_s]
  rw [better_e (okP_E hm o0) (okP_E hm o1), better_e (okE_bt (okP_E hm o0) (okP_E hm o1)) (okP_E hm o2), enc_mv]
  by_cases c : 63 ≤ (sh 1 (bt (bt (f a) (f (a + w))) (f (a + w + w)))).1
  · rw [if_pos ((enc_le oS).mpr c), bd_s]
    rw [sh_1, hmin] at c
    have t0 := okP_63 hm o0 (by omega)
    have t1 := okP_63 hm o1 (by omega)
    have t2 := okP_63 hm o2 (by omega)
    refine ⟨M, rfl, fun d hd => ?_, f1_r a2 M⟩
    have h9 := h4 d hd
    by_cases c2 : bse d p = a
    · have e9 : spI f g p (a + 1) d = g d := by
        unfold spI
        rw [if_pos (by rw [c2]; exact Nat.lt_succ_self a), sv d hd c2, t0, t1, t2, bt_tt, bt_tt, sh_tt, bt_l]
        show (g d).1 < 64
        have := (hg d hd).2.2
        omega
      have e8 : spI f g p a d = g d := if_neg (by rw [c2]; exact Nat.lt_irrefl a)
      rw [e9, h9, e8]
    · rw [spI_s c2]
      exact h9
  · rw [if_neg (fun q => c ((enc_le oS).mp q))]
    have x1 : ∀ v : Int32, mw M a2 a v a2 (a + w) = enc (g (a + w)) := fun v => by rw [mw_o (by omega)]; exact i1
    have x2 : ∀ v u : Int32, mw (mw M a2 a v) a2 (a + w) u a2 (a + w + w) = enc (g (a + w + w)) := fun v u => by rw [mw_o (by omega), mw_o (by omega)]; exact i2
    rw [zck (by omega) (by omega), zck (by omega) (by omega), nm_d, zck (by omega) (by omega), zck (by omega) (by omega), nm_d, zck (by omega) (by omega), zck (by omega) (by omega), nm_d]
    rw [i0, x1, x2, bd_s, better_e g0.1 oS, better_e g1.1 oS, better_e g2.1 oS, ← s3.1, ← s3.2.1, ← s3.2.2]
    refine ⟨_, rfl, fun d hd => ?_, fun c q => by rw [mw_c q, mw_c q, mw_c q]⟩
    by_cases c2 : bse d p = a
    · have e9 : spI f g p (a + 1) d = spP f g p d := if_pos (by rw [c2]; exact Nat.lt_succ_self a)
      rw [e9]
      have q := bse_4 hp hd c2
      rw [← hw] at q
      rcases q with q | q | q
      · rw [q, mw_o (by omega), mw_o (by omega), mw_s]
      · rw [q, mw_o (by omega), mw_s]
      · rw [q, mw_s]
    · rw [spI_s c2, mw_o (fun q => c2 (by rw [q]; exact b3)), mw_o (fun q => c2 (by rw [q]; exact b2)), mw_o (fun q => c2 (by rw [q]; exact b1))]
      exact h4 d hd
theorem sp_12 {a0 a2 p m : Nat} (h02 : a0 ≠ a2) (hp : p < 7) (hm : m ≤ 40) {f g : Nat → Pr} (hf : okR m f) (hg : ∀ d, d < 2187 → okE (g d) ∧ (g d).1 ≤ (f d).1 ∧ (g d).1 ≤ 63) {w : Nat} (hw : w = 3 ^ p) (hw0 : 0 < w) {B : Nat} (hB : B % (w * 3) = 0) (hB2 : B + w * 3 ≤ 2187) : ∀ (k n a : Nat) (M : Mm), a + k = B + w → B ≤ a → k < n → Row a0 M f → Row a2 M (spI f g p a) →
    ∃ M', L_X5_spreadPedal_12 a0 (nI w) a2 (nI B) n (nI a) M = some M' ∧ Row a2 M' (spI f g p (B + w)) ∧ F1 a2 M M'
  | _, 0, _, _, _, _, h2, _, _ => by omega
  | 0, n + 1, a, M, h1, h1', h2, h3, h4 => by
    have e : a = B + w := by omega
    rw [L_X5_spreadPedal_12, if_pos (by rw [zad, e]; exact Int32.le_refl _)]
    rw [e] at h4
    exact ⟨M, rfl, h4, f1_r a2 M⟩
  | k + 1, n + 1, a, M, h1, h1', h2, h3, h4 => by
    have ha : a % (3 ^ p * 3) < 3 ^ p := by
      rw [← hw]
      have e1 : a = B + (a - B) := by omega
      rw [e1, Nat.add_mod, hB, Nat.zero_add, Nat.mod_mod, Nat.mod_eq_of_lt (by omega)]
      omega
    obtain ⟨M1, q1, q2, q3⟩ := sp_st (n := n) (B := B) h02 hp hm hf hg hw hw0 ha (by omega) (by omega) (by omega) h3 h4
    obtain ⟨M2, r1, r2, r3⟩ := sp_12 h02 hp hm hf hg hw hw0 hB hB2 k n (a + 1) M1 (by omega) (by omega) (by omega) (fun d hd => by rw [q3 a0 h02]; exact h3 d hd) q2
    exact ⟨M2, q1.trans r1, r2, f1_t q3 r3⟩
