/-! PURE: sparedWithout of the class -/
/-- N without the mark at beat b for pedal p -/
def noM (N : Nt) (b p : Nat) : Nt := fun j => if j = 229 + 7 * b + p then oI (-1) else N j
theorem noM_o {N : Nt} {b p j : Nat} (h : j ≠ 229 + 7 * b + p) : noM N b p j = N j := if_neg h
theorem noM_s {N : Nt} {b p : Nat} : noM N b p (229 + 7 * b + p) = oI (-1) := if_pos rfl
theorem noM_pl {N : Nt} {b p : Nat} : pl (noM N b p) = pl N := by
  unfold pl
  rw [noM_o (by omega)]
theorem noM_sz {N : Nt} {b p t : Nat} (ht : t < 12) : sz (noM N b p) t = sz N t := by
  unfold sz
  rw [noM_o (by omega)]
theorem noM_n {N : Nt} {b p t n w : Nat} (ht : t < 12) (hn : n < 6) (hw : w < 3) : noM N b p (13 + 3 * (6 * t + n) + w) = N (13 + 3 * (6 * t + n) + w) := noM_o (by omega)
theorem noM_nt {N : Nt} {b p t n : Nat} (ht : t < 12) (hn : n < 6) : kd (noM N b p) t n = kd N t n ∧ pc_ (noM N b p) t n = pc_ N t n ∧ rg (noM N b p) t n = rg N t n := by
  unfold kd pc_ rg
  rw [noM_n (w := 1) ht hn (by omega), noM_n (w := 2) ht hn (by omega)]
  have h := noM_n (N := N) (b := b) (p := p) (w := 0) ht hn (by omega)
  rw [Nat.add_zero] at h
  rw [h]
  exact ⟨rfl, rfl, rfl⟩
theorem noM_mk {N : Nt} {b p t q : Nat} (hp : p < 7) (hq : q < 7) : mk (noM N b p) t q = if t = b ∧ q = p then -1 else mk N t q := by
  unfold mk
  by_cases c : t = b ∧ q = p
  · rw [if_pos c, c.1, c.2, noM_s]
    rfl
  · rw [if_neg c, noM_o (by omega)]
theorem noM_so {N : Nt} {b p q : Nat} (hb : b < 12) (hp : p < 7) : so (noM N b p) q = so N q := by
  unfold so
  rw [noM_o (by omega)]
theorem noM_WP {N : Nt} (hN : WP N) {b p : Nat} (hb : b < 12) (hp : p < 7) : WP (noM N b p) := by
  obtain ⟨h1, h2, h3, h4, h5⟩ := hN
  refine ⟨?_, fun t ht => ?_, fun t n ht hn => ?_, fun t q ht hq => ?_, fun q hq => ?_⟩
  · rw [noM_o (by omega)]
    exact h1
  · rw [noM_o (by omega)]
    exact h2 t ht
  · rw [noM_sz ht] at hn
    have hz : sz N t ≤ 6 := by
      show (N (1 + t)).toInt.toNat ≤ 6
      have := h2 t ht
      omega
    have h := noM_n (N := N) (b := b) (p := p) (w := 0) ht (show n < 6 by omega) (by omega)
    rw [Nat.add_zero] at h
    rw [h, (noM_nt ht (by omega)).2.1, noM_n (w := 2) ht (by omega) (by omega)]
    exact h3 t n ht hn
  · rw [noM_mk hp hq]
    split
    · omega
    · exact h4 t q ht hq
  · rw [noM_so hb hp]
    exact h5 q hq
theorem noM_eqB {N : Nt} (hN : WP N) {b p t : Nat} (hp : p < 7) (ht : t < 12) (hne : t ≠ b) : eqB N (noM N b p) t := by
  have hz := (wp_sz hN ht).2
  refine ⟨(noM_sz ht).symm, fun n hn => ?_, fun q hq => ?_⟩
  · obtain ⟨g1, g2, g3⟩ := noM_nt (N := N) (b := b) (p := p) (n := n) ht (by omega)
    exact ⟨g1.symm, g2.symm, g3.symm⟩
  · rw [noM_mk hp hq, if_neg (fun c => hne c.1)]
theorem noM_st {N : Nt} (hN : WP N) {b p d n : Nat} (hb : b < 12) (hn : n < sz N b) : str (noM N b p) b n d = str N b n d := by
  have hz := (wp_sz hN hb).2
  obtain ⟨g1, g2, g3⟩ := noM_nt (N := N) (b := b) (p := p) (n := n) hb (by omega)
  unfold str tg
  rw [g1, g2]
theorem noM_lk {N : Nt} (hN : WP N) {b p d : Nat} (hb : b < 12) : lk (noM N b p) b d = lk N b d := funext (fun q => propext (by
  have hz := (wp_sz hN hb).2
  unfold lk lkm
  rw [noM_sz hb]
  constructor
  · intro ⟨n, g1, g2, g3⟩
    exact ⟨n, g1, by rw [← (noM_nt (b := b) (p := p) hb (show n < 6 by omega)).2.2]; exact g2, by rw [← noM_st hN (p := p) hb g1]; exact g3⟩
  · intro ⟨n, g1, g2, g3⟩
    exact ⟨n, g1, by rw [(noM_nt (b := b) (p := p) hb (show n < 6 by omega)).2.2]; exact g2, by rw [noM_st hN hb g1]; exact g3⟩))
theorem noM_does {N : Nt} (hN : WP N) {b p d : Nat} (hb : b < 12) (hp : p < 7) (h : does N b d) : does (noM N b p) b d := by
  obtain ⟨g1, g2, g3⟩ := h
  refine ⟨fun q hq => ?_, ?_⟩
  · rw [noM_mk hp hq]
    split
    · exact Or.inl (by omega)
    · exact g1 q hq
  · rw [noM_sz hb]
    refine ⟨fun n hn => ?_, fun n n' h1 h2 => ?_⟩
    · rw [noM_st hN hb hn]
      exact g2 n hn
    · rw [noM_st hN hb h2, noM_st hN hb (by omega)]
      exact g3 n n' h1 h2
/-- without a mark of a beat that is not played, nothing changes -/
theorem noM_far {N : Nt} (hN : WP N) {b p : Nat} (hb : b < 12) (hp : p < 7) (h : pl N ≤ b) : BP (noM N b p) = BP N := by
  obtain ⟨ep, p1, p2⟩ := wp_pl hN
  have e1 : VB N 0 = VB (noM N b p) 0 := VB_eq noM_pl.symm (pl N - 1) 0 (by omega) (fun t _ ht => noM_eqB hN hp (by omega) (by omega))
  have e2 : A N 0 = A (noM N b p) 0 := A_eq (fun q _ => (noM_so hb hp).symm) 0 (fun t ht => by omega)
  rw [BP_f, BP_f, ← e1, ← e2]
/-- without a mark there is still a way, of no more moves -/
theorem noM_le {N : Nt} (hN : WP N) {b p : Nat} (hb : b < pl N) (hp : p < 7) (h : (BP N).1 < 63) : (BP (noM N b p)).1 ≤ (BP N).1 := by
  obtain ⟨ep, p1, p2⟩ := wp_pl hN
  have hN' := noM_WP hN (show b < 12 by omega) hp
  rw [← cut hN b hb] at h ⊢
  rw [← cut hN' b (by rw [noM_pl]; exact hb)]
  obtain ⟨d, h1, h2⟩ := mB_at h
  have h3 : (VB N b d).1 < 63 := by omega
  have hdo := V_does hb h3
  have hdo' := noM_does hN (show b < 12 by omega) hp hdo
  have h4 := mB_le (N := noM N b p) (b := b) h1
  have eA : A N b = A (noM N b p) b := A_eq (fun q _ => (noM_so (by omega) hp).symm) b (fun t ht => noM_eqB hN hp (by omega) (by omega))
  have eV : VB (noM N b p) b d = VB N b d := by
    by_cases c : b + 1 < pl N
    · have e1 : VB N (b + 1) = VB (noM N b p) (b + 1) := VB_eq noM_pl.symm (pl N - 1 - (b + 1)) (b + 1) (by omega) (fun t g1 g2 => noM_eqB hN hp (by omega) (by omega))
      rw [VB_s (N := N) c, VB_s (N := noM N b p) (by rw [noM_pl]; exact c), ← e1, noM_pl, wv_n hdo (by omega), wv_n hdo' (by omega), noM_lk hN (by omega)]
    · rw [VB_e (N := N) (by omega), VB_e (N := noM N b p) (by rw [noM_pl]; omega), noM_pl, wv_e hdo (by omega), wv_e hdo' (by omega)]
  rw [eV, ← eA] at h4
  omega
theorem forget_c {N : Nt} (hN : WP N) {b p : Nat} {M : Mm} (hb : b < 12) (hp : p < 7) (hC : Ch 162 M N b) : Ch 162 (f_X0_forgetMark 162 (nI p) M) (noM N b p) b ∧ ∀ c, c ≠ 162 → f_X0_forgetMark 162 (nI p) M c = M c := by
  have hz := (wp_sz hN hb).2
  unfold f_X0_forgetMark
  rw [nm_d, nm_d, mw_o (show (8 : Nat) ≠ 7 by decide)]
  have hcell : ∀ c, c ≠ 162 → mw (mw M 162 7 (M 162 7 &&& (f_X1_bitsOf (nI p) ^^^ (-1 : Int32)))) 162 8 (M 162 8 &&& (f_X1_bitsOf (nI p) ^^^ (-1 : Int32))) c = M c := fun c g => by rw [mw_c g, mw_c g]
  refine ⟨⟨?_, fun i hi => ?_, fun q hq => ?_, fun q hq => ?_⟩, hcell⟩
  · rw [mw_o (by decide), mw_o (by decide), noM_sz hb]
    exact hC.1
  · rw [noM_sz hb] at hi
    obtain ⟨g1, g2, g3⟩ := noM_nt (N := N) (b := b) (p := p) (n := i) hb (by omega)
    have h1 := chn_f (M' := mw (mw M 162 7 (M 162 7 &&& (f_X1_bitsOf (nI p) ^^^ (-1 : Int32)))) 162 8 (M 162 8 &&& (f_X1_bitsOf (nI p) ^^^ (-1 : Int32)))) (hC.2.1 i hi) (fun c h1 h2 => by rw [hcell c (by omega)])
    unfold ChN tg at h1 ⊢
    rw [g1, g2, g3]
    exact h1
  · have h9 : bi (f_X1_bitsOf (nI p)) q ↔ q / 2 = p := bits_k p hp q hq
    rw [mw_o (by decide), mw_s, bi_and, neg_bit hq, h9, hC.2.2.1 q hq]
    constructor
    · intro ⟨⟨g1, g2⟩, g3⟩
      rw [noM_mk hp g1, if_neg (fun c => g3 c.2)]
      exact ⟨g1, g2⟩
    · intro ⟨g1, g2⟩
      rw [noM_mk hp g1] at g2
      by_cases c : q / 2 = p
      · rw [if_pos ⟨rfl, c⟩] at g2
        omega
      · rw [if_neg (fun r => c r.2)] at g2
        exact ⟨⟨g1, g2⟩, c⟩
  · have h9 : bi (f_X1_bitsOf (nI p)) q ↔ q / 2 = p := bits_k p hp q hq
    rw [mw_s, bi_and, neg_bit hq, h9, hC.2.2.2 q hq]
    constructor
    · intro ⟨⟨g1, g2⟩, g3⟩
      rw [noM_mk hp g1, if_neg (fun c => g3 c.2)]
      exact ⟨g1, g2⟩
    · intro ⟨g1, g2⟩
      rw [noM_mk hp g1] at g2
      by_cases c : q / 2 = p
      · rw [if_pos ⟨rfl, c⟩] at g2
        omega
      · rw [if_neg (fun r => c r.2)] at g2
        exact ⟨⟨g1, g2⟩, c⟩
theorem spared_c {N : Nt} (hN : WP N) {b p : Nat} {M : Mm} (hb : b < 12) (hp : p < 7) (hP : RelP 3 M N) (hH : Hp M) (hW : WI N M) (hS : SolO N M) (hO : OnO N M 0) (hB : (BP N).1 < 63) : ∃ M', f_X5_sparedWithout (nI b) (nI p) M = some (nI (BP N).1 - nI (BP (noM N b p)).1, M') ∧ WI N M' ∧ FW M M' := by
  obtain ⟨ep, p1, p2⟩ := wp_pl hN
  have hN' := noM_WP hN hb hp
  unfold f_X5_sparedWithout
  rw [hP.1, ep]
  by_cases c : b < pl N
  · rw [if_pos ((zlt (by omega) (by omega)).mpr c)]
    obtain ⟨o, k, o1, hk1, w12, wO, w13, wA, w14, w16⟩ := hW
    obtain ⟨M1, q1, q2, q3, q4⟩ := make_c hN (t := b) hb hk1 w13 hP hH wA
    have hP1 : RelP 3 M1 N := relp_e hP (fun c g1 g2 => fA_c q4 (by omega) (by omega) (by omega))
    obtain ⟨M2, r1, r2, r3⟩ := read_c (a := 162) (a1 := 3) hN (by omega) hb hP1
    obtain ⟨s1, s2⟩ := forget_c hN hb hp r2
    have hF3 : ∀ c, ¬ (162 ≤ c ∧ c ≤ 170) → f_X0_forgetMark 162 (nI p) M2 c = M1 c := fun c g => by rw [s2 c (by omega), fc_c r3 (by omega)]
    rw [q1, bd_s, r1, bd_s, nm_d]
    generalize f_X0_forgetMark 162 (nI p) M2 = M3 at s1 s2 hF3 ⊢
    have hM : ∀ c, ¬ (162 ≤ c ∧ c ≤ 170) → ¬ (186 ≤ c ∧ c ≤ 202) → c ≠ 161 → M3 c = M c := fun c g1 g2 g3 => by rw [hF3 c g1, fA_c q4 g1 g2 g3]
    have hf : okR 26 (if b + 1 < pl N then VB N (b + 1) else fun _ => top) := by
      split
      · exact VB_ok hN
      · exact fun _ _ => Or.inl rfl
    obtain ⟨M4, t1, t2, t3⟩ := fillOnward_c hN' (b := b) (e := pl N - 1) (a2 := 198) (M := M3) (by omega) (by omega) (Or.inr rfl) (by
      rw [hM 3 (by omega) (by omega) (by omega), hP.1, ep]
      congr 1
      omega) (fun t ht => by rw [hM 2 (by omega) (by omega) (by omega)]; exact hH t ht) s1 (by omega) hf (fun h => by
      obtain ⟨g1, g2⟩ := hO (b + 1) (Nat.zero_le _) (by omega)
      rw [if_pos (by omega)]
      refine ⟨fun t ht => ?_, ?_⟩
      · rw [hM _ (by omega) (by omega) (by omega), show 173 + b = 172 + (b + 1) by omega]
        exact g1 t ht
      · rw [hM _ (by omega) (by omega) (by omega)]
        exact g2)
    have eV : Row 198 M4 (VB (noM N b p) b) := by
      by_cases c2 : b + 1 < pl N
      · have e1 : VB N (b + 1) = VB (noM N b p) (b + 1) := VB_eq noM_pl.symm (pl N - 1 - (b + 1)) (b + 1) (by omega) (fun t g1 g2 => noM_eqB hN hp (by omega) (by omega))
        rw [if_pos c2, e1] at t2
        rw [VB_s (N := noM N b p) (by rw [noM_pl]; exact c2), noM_pl]
        exact t2
      · rw [if_neg c2] at t2
        rw [VB_e (N := noM N b p) (by rw [noM_pl]; omega), noM_pl]
        exact t2
    have eA : A N b = A (noM N b p) b := A_eq (fun q _ => (noM_so hb hp).symm) b (fun t ht => noM_eqB hN hp (by omega) (by omega))
    have hA4 : Row (186 + b) M4 (zr (A (noM N b p) b)) := fun t ht => by
      rw [t3 _ (by omega) (by omega) (by omega) (by omega) (by omega), hF3 _ (by omega), ← eA]
      exact q3 b (by omega) t ht
    obtain ⟨u1, u2⟩ := bestOf_c hA4 eV (fun d hd => by rcases A_b (N := noM N b p) b d hd with h | h <;> omega) (show 26 ≤ 40 by omega) (VB_ok hN')
    rw [← mB_d] at u1 u2
    have h15 : M4 161 15 = enc (BP N) := by
      rw [t3 161 (by omega) (by omega) (by omega) (by omega) (by omega), hF3 161 (by omega), q4 161 15 (by omega) (by omega) (by omega)]
      exact hS.1
    unfold f_X5_cost
    rw [t1, bd_s, zck hb (by omega), zcl (by omega), u1, bd_s, h15, enc_s (BP_E hN).1, enc_s u2, cut hN' b (by rw [noM_pl]; exact c)]
    have hM4 : ∀ c, ¬ (162 ≤ c ∧ c ≤ 170) → ¬ (186 ≤ c ∧ c ≤ 202) → c ≠ 161 → M4 c = M c := fun c g1 g2 g3 => by rw [t3 c (by omega) (by omega) (by omega) (by omega) (by omega), hM c g1 g2 g3]
    have h161 : ∀ j, j ≠ 13 → M4 161 j = M 161 j := fun j g => by rw [t3 161 (by omega) (by omega) (by omega) (by omega) (by omega), hF3 161 (by omega), q4 161 j (by omega) (by omega) (by omega)]
    refine ⟨M4, rfl, ⟨o, max k (b + 1), o1, by omega, ?_, ono_f wO (fun c g1 g2 => hM4 c (by omega) (by omega) (by omega)) p2, ?_, aro_f q3 (fun c g1 g2 => by rw [t3 c (by omega) (by omega) (by omega) (by omega) (by omega), hF3 c (by omega)]) (by omega), ?_, ?_⟩, fun c g => hM4 c (by omega) (by omega) (by omega)⟩
    · rw [h161 12 (by decide)]
      exact w12
    · rw [t3 161 (by omega) (by omega) (by omega) (by omega) (by omega), hF3 161 (by omega)]
      exact q2
    · rcases w14 with w14 | ⟨w14, w15, w15'⟩
      · left
        rw [h161 14 (by decide)]
        exact w14
      · right
        refine ⟨w14, ?_, fun hB => ?_⟩
        · rw [h161 15 (by decide)]
          exact w15
        · obtain ⟨w, i1, i2⟩ := w15' hB
          exact ⟨w, i1, fun i hi => by rw [hM4 203 (by omega) (by omega) (by omega)]; exact i2 i hi⟩
    · rw [h161 16 (by decide), h161 17 (by decide)]
      exact w16
  · rw [if_neg (fun q => c ((zlt (by omega) (by omega)).mp q)), noM_far hN hb hp (by omega), zsu (Nat.le_refl _), Nat.sub_self]
    exact ⟨M, rfl, hW, fun _ _ => rfl⟩
