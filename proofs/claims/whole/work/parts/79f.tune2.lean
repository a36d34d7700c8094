/-! PURE: tune, the class's beats -/
theorem tn_in {N : Nt} {v : Int32} {i t n w : Nat} (hi : i < 12) (ht : t < 12) (hn : n < 6) (hw : w < 3) (hne : ¬ (t = i ∧ n = 0)) : tnS N v i (13 + 3 * (6 * t + n) + w) = N (13 + 3 * (6 * t + n) + w) := tn_o (by omega) (by omega)
theorem tk_rel {N : Nt} (hN : WP N) {M M' : Mm} (hR : RelP 3 M N) {v : Int32} {i : Nat} (hi : i < 12) (h4 : M' 4 = pt (M 4) i (isV v)) (h5 : ∀ j, j ≠ 6 * i → M' 5 j = M 5 j ∧ M' 6 j = M 6 j ∧ M' 7 j = M 7 j) (h6 : isV v = 1 → M' 5 (6 * i) = 0 ∧ M' 6 (6 * i) = v ∧ M' 7 (6 * i) = 0) (hc : ∀ c, ¬ (4 ≤ c ∧ c ≤ 7) → M' c = M c) : RelP 3 M' (tnS N v i) := by
  obtain ⟨r1, r2, r3, r4, r5⟩ := hR
  refine ⟨?_, fun t ht => ?_, fun t n ht hn => ?_, fun t p ht hp => ?_, fun p hp => ?_⟩
  · rw [hc 3 (by omega), tn_o (by omega) (by omega)]
    exact r1
  · have h4' : M' (3 + 1) = pt (M 4) i (isV v) := h4
    rw [h4', tn_sz hi ht]
    by_cases c : t = i
    · rw [if_pos c, c, pt_s]
    · rw [if_neg c, pt_o c]
      exact r2 t ht
  · by_cases c : t = i
    · subst c
      have e1 : sz (tnS N v t) t = (isV v).toNatClampNeg := by
        have e0 : sz (tnS N v t) t = (tnS N v t (1 + t)).toNatClampNeg := rfl
        rw [e0, tn_sz ht ht, if_pos rfl]
      rw [e1] at hn
      rcases isV_b v with q | q
      · rw [q, zcl (by omega)] at hn
        have n0 : n = 0 := by omega
        subst n0
        obtain ⟨a1, a2, a3⟩ := h6 q
        unfold tnS
        rw [lyn_0, lyn_1, lyn_2, Nat.add_zero]
        exact ⟨a1, a2, a3⟩
      · rw [q, zcl (by omega)] at hn
        omega
    · have e1 : sz (tnS N v i) t = sz N t := by
        have e0 : sz (tnS N v i) t = (tnS N v i (1 + t)).toNatClampNeg := rfl
        rw [e0, tn_sz hi ht, if_neg c]
        rfl
      rw [e1] at hn
      have hz := (wp_sz hN ht).2
      obtain ⟨a1, a2, a3⟩ := h5 (6 * t + n) (by omega)
      have e0 := tn_in (N := N) (v := v) (w := 0) hi ht (show n < 6 by omega) (by omega) (fun q => c q.1)
      rw [Nat.add_zero] at e0
      rw [e0, tn_in (w := 1) hi ht (by omega) (by omega) (fun q => c q.1), tn_in (w := 2) hi ht (by omega) (by omega) (fun q => c q.1)]
      obtain ⟨b1, b2, b3⟩ := r3 t n ht hn
      exact ⟨a1.trans b1, a2.trans b2, a3.trans b3⟩
  · rw [hc (3 + 5) (by omega), tn_o (by omega) (by omega)]
    exact r4 t p ht hp
  · rw [hc (3 + 6) (by omega), tn_o (by omega) (by omega)]
    exact r5 p hp
theorem isV_f {v : Int32} (h : v < -1) : isV v = 0 := by
  unfold isV
  rw [if_neg (fun q => by have := ti_lt.mp h; have := ti_le.mp q; omega)]
theorem isV_t {v : Int32} (h : ¬ v < -1) : isV v = 1 := by
  unfold isV
  rw [if_pos (ti_le.mpr (by have h9 : ¬ v.toInt < (-1 : Int32).toInt := fun q => h (ti_lt.mpr q); omega))]
/-- one beat of the class's tune -/
theorem tk_st {N : Nt} (hN : WP N) {M : Mm} (hR : RelP 3 M N) {v : Int32} {i n a : Nat} {c x2 : Int32} (hi : i < 12) (hlt : ¬ x2 ≤ nI i) (ha : ¬ (4 ≤ a ∧ a ≤ 7)) (hv : M a i = v) : ∃ M', L_X3_takeTune_5 3 a x2 (n + 1) c (nI i) M = L_X3_takeTune_5 3 a x2 n (c + isV v) (nI (i + 1)) M' ∧ RelP 3 M' (tnS N v i) ∧ ∀ c, ¬ (4 ≤ c ∧ c ≤ 7) → M' c = M c := by
  have hm : mw M (3 + 1) i (0 : Int32) a i = v := by
    rw [mw_c (by omega)]
    exact hv
  rw [L_X3_takeTune_5, if_neg hlt, zck hi (by omega), zcl (show i < 2147483648 by omega), nm_d, zck (by omega) (by omega), hm, zck (by omega) (by omega), nI_s]
  by_cases cv : v < -1
  · rw [if_pos cv, bd_s, isV_f cv, Int32.add_zero]
    dsimp only
    refine ⟨mw M (3 + 1) i (0 : Int32), rfl, tk_rel hN hR hi ?_ (fun j hj => ?_) (fun q => ?_) (fun c g => mw_c (by omega)), fun c g => mw_c (by omega)⟩
    · rw [isV_f cv]
      exact mw_pt (k := 4)
    · rw [mw_c (by decide), mw_c (by decide), mw_c (by decide)]
      exact ⟨rfl, rfl, rfl⟩
    · rw [isV_f cv] at q
      exact absurd q (by decide)
  · rw [if_neg cv, isV_t cv]
    obtain ⟨M', a1, a2, a3, a4, a5, a6⟩ := add_c (M := mw M (3 + 1) i (0 : Int32)) (n := 0) (k := 0) (p := v) (x := 0) hi (by omega) (mw_s (k := 4))
    have hmc : ∀ c, c ≠ 4 → mw M (3 + 1) i (0 : Int32) c = M c := fun c g => mw_c g
    rw [a1, bd_s, bd_s]
    dsimp only
    refine ⟨M', rfl, tk_rel hN hR hi ?_ (fun j hj => ?_) (fun q => ?_) (fun c g => by rw [a6 c (by omega) (by omega) (by omega) (by omega), hmc c (by omega)]), fun c g => by rw [a6 c (by omega) (by omega) (by omega) (by omega), hmc c (by omega)]⟩
    · rw [isV_t cv, a2]
      funext j
      by_cases cj : j = i
      · rw [cj, pt_s, pt_s]
        rfl
      · rw [pt_o cj, pt_o cj]
        exact mw_o (k := 4) cj
    · rw [a3, a4, a5, pt_o (by omega), pt_o (by omega), pt_o (by omega), hmc 5 (by decide), hmc 6 (by decide), hmc 7 (by decide)]
      exact ⟨rfl, rfl, rfl⟩
    · have e0 : 6 * i + 0 = 6 * i := Nat.add_zero _
      rw [e0] at a3 a4 a5
      rw [a3, a4, a5, pt_s, pt_s, pt_s]
      exact ⟨rfl, rfl, rfl⟩
theorem tk_l {N : Nt} (hN : WP N) {v : Ar} {m a : Nat} (hm : m ≤ 12) (hv : ∀ t, t < m → v t ≤ 100) (ha : ¬ (4 ≤ a ∧ a ≤ 7)) : ∀ (u n i : Nat) (M : Mm), i + u = m → u < n → RelP 3 M (tnN v N i) → (∀ t, t < m → M a t = v t) →
    ∃ M', L_X3_takeTune_5 3 a (nI m) n (cnV v i) (nI i) M = some (cnV v m, M') ∧ RelP 3 M' (tnN v N m) ∧ ∀ c, ¬ (4 ≤ c ∧ c ≤ 7) → M' c = M c
  | _, 0, _, _, _, h2, _, _ => by omega
  | 0, n + 1, i, M, h1, h2, h3, h4 => by
    rw [L_X3_takeTune_5, if_pos ((zle (by omega) (by omega)).mpr (by omega))]
    have e : i = m := by omega
    rw [e] at h3 ⊢
    exact ⟨M, rfl, h3, fun _ _ => rfl⟩
  | u + 1, n + 1, i, M, h1, h2, h3, h4 => by
    obtain ⟨M1, q1, q2, q3⟩ := tk_st (n := n) (c := cnV v i) (x2 := nI m) (a := a) (tnN_WP hN i (by omega) (fun t ht => hv t (by omega))) h3 (v := v i) (show i < 12 by omega) (fun q => by have := (zle (by omega) (by omega)).mp q; omega) ha (h4 i (by omega))
    obtain ⟨M2, r1, r2, r3⟩ := tk_l hN hm hv ha u n (i + 1) M1 (by omega) (by omega) q2 (fun t ht => by rw [q3 a ha]; exact h4 t ht)
    exact ⟨M2, q1.trans r1, r2, fun c g => by rw [r3 c g, q3 c g]⟩
/-- the model's tune -/
theorem tm_97 {N : Nt} {v : Ar} {m s : Nat} (hs : s < 4) (hm : m ≤ 12) : ∀ (u n i : Nat) (M : Mm), i + u = m → u < n → M 213 = tnN v N i → M 216 s = nI m → (∀ t, t < m → M 217 (30 * s + t) = v t) →
    ∃ M', L_X7_tune_97 (nI s) n (cnV v i) (nI i) M = some (cnV v m, M') ∧ M' 213 = tnN v N m ∧ ∀ c, c ≠ 213 → M' c = M c
  | _, 0, _, _, _, h2, _, _, _ => by omega
  | 0, n + 1, i, M, h1, h2, h3, h4, h5 => by
    rw [L_X7_tune_97, zck hs (by omega), zcl (by omega), h4, if_pos ((zle (by omega) (by omega)).mpr (by omega))]
    have e : i = m := by omega
    rw [e] at h3 ⊢
    exact ⟨M, rfl, h3, fun _ _ => rfl⟩
  | u + 1, n + 1, i, M, h1, h2, h3, h4, h5 => by
    have e1 : (30 : Int32) * nI s + nI i = nI (30 * s + i) := by rw [show (30 : Int32) = nI 30 from rfl, zmu, zad]
    have eb : (1 : Int32) + nI i = nI (1 + i) := zad 1 i
    obtain ⟨M1, l1, l2, l3⟩ := lay_m (M := mw M 213 (1 + i) (isV (v i))) (b := i) (n := 0) (k := 0) (p := v i) (x := 0) (by omega) (by omega)
    rw [nI_00] at l1
    have er : rv 0 0 = 0 := rfl
    have e213 : M1 213 = tnN v N (i + 1) := by
      rw [l2, mw_pt, h3, er]
      rfl
    have es : M1 213 (1 + i) = isV (v i) := by
      rw [e213, tnN, tn_sz (by omega) (by omega), if_pos rfl]
    rw [L_X7_tune_97, zck hs (by omega), zcl (show s < 2147483648 by omega), h4, if_neg (fun q => by have := (zle (by omega) (by omega)).mp q; omega), e1, zck (by omega) (by omega), zcl (show 30 * s + i < 2147483648 by omega), h5 i (by omega), nm_d, eb, nI_s]
    have ev : (if (-1 : Int32) ≤ v i then (1 : Int32) else (0 : Int32)) = isV (v i) := rfl
    rw [ev, nm_d, zck (by omega) (by omega), zcl (show 1 + i < 2147483648 by omega), nm_d, l1, bd_s, zck (by omega) (by omega), es, nm_d]
    obtain ⟨M2, r1, r2, r3⟩ := tm_97 (N := N) (v := v) hs hm u n (i + 1) M1 (by omega) (by omega) e213 (by rw [l3 216 (by decide), mw_c (by decide)]; exact h4) (fun t ht => by rw [l3 217 (by decide), mw_c (by decide)]; exact h5 t ht)
    exact ⟨M2, r1, r2, fun c g => by rw [r3 c g, l3 c g, mw_c g]⟩
