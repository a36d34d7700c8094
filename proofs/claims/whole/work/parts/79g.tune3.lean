/-! PURE: tune, the call -/
theorem zle30 {a : Nat} (ha : a < 2147483648) : nI a ≤ (12 : Int32) ↔ a ≤ 12 := zle (b := 12) ha (by omega)
theorem ha_l {M : Mm} {s m : Nat} (hs : s < 4) (hm : m ≤ 30) (h6 : M 206 s = nI m) : ∀ (u n i : Nat), i + u = m → u < n → (∀ t, t < i → M (208 + s) t ≤ 100) →
    ((∀ t, t < m → M (208 + s) t ≤ 100) ∧ L_X4_hasAbove_2 (nI s) 100 M n (nI i) = some (.inl ())) ∨ (¬ (∀ t, t < m → M (208 + s) t ≤ 100) ∧ L_X4_hasAbove_2 (nI s) 100 M n (nI i) = some (.inr 1))
  | _, 0, _, _, h2, _ => by omega
  | 0, n + 1, i, h1, h2, h3 => by
    rw [L_X4_hasAbove_2, zck hs (by omega), zcl (by omega), h6, if_pos ((zle (by omega) (by omega)).mpr (by omega))]
    exact Or.inl ⟨fun t ht => h3 t (by omega), rfl⟩
  | u + 1, n + 1, i, h1, h2, h3 => by
    rw [L_X4_hasAbove_2, zck hs (by omega), zcl (show s < 2147483648 by omega), h6, if_neg (fun q => by have := (zle (by omega) (by omega)).mp q; omega), zck hs (by omega), zck (by omega) (by omega), zcl (show i < 2147483648 by omega), nI_s]
    by_cases c : M (208 + s) i ≤ 100
    · rw [if_pos c]
      exact ha_l hs hm h6 u n (i + 1) (by omega) (by omega) (fun t ht => by
        by_cases c2 : t = i
        · rw [c2]
          exact c
        · exact h3 t (by omega))
    · rw [if_neg c]
      exact Or.inr ⟨fun q => c (q i (by omega)), rfl⟩
theorem ta_50 {M : Mm} {s m : Nat} {v : Ar} (hs : s < 4) (hm : m ≤ 30) (h6 : M 216 s = nI m) (hv : ∀ t, t < m → M 217 (30 * s + t) = v t) : ∀ (u n i : Nat), i + u = m → u < n → (∀ t, t < i → v t ≤ 100) →
    ((∀ t, t < m → v t ≤ 100) ∧ L_X7_tune_50 (nI s) M n (nI i) = some (.inl ())) ∨ (¬ (∀ t, t < m → v t ≤ 100) ∧ L_X7_tune_50 (nI s) M n (nI i) = some (.inr (f_X7_finding (-100001) M)))
  | _, 0, _, _, h2, _ => by omega
  | 0, n + 1, i, h1, h2, h3 => by
    rw [L_X7_tune_50, zck hs (by omega), zcl (by omega), h6, if_pos ((zle (by omega) (by omega)).mpr (by omega))]
    exact Or.inl ⟨fun t ht => h3 t (by omega), rfl⟩
  | u + 1, n + 1, i, h1, h2, h3 => by
    have e1 : (30 : Int32) * nI s + nI i = nI (30 * s + i) := by rw [show (30 : Int32) = nI 30 from rfl, zmu, zad]
    rw [L_X7_tune_50, zck hs (by omega), zcl (show s < 2147483648 by omega), h6, if_neg (fun q => by have := (zle (by omega) (by omega)).mp q; omega), e1, zck (by omega) (by omega), zcl (show 30 * s + i < 2147483648 by omega), hv i (by omega), nI_s]
    by_cases c : v i ≤ 100
    · rw [if_pos c]
      exact ta_50 hs hm h6 hv u n (i + 1) (by omega) (by omega) (fun t ht => by
        by_cases c2 : t = i
        · rw [c2]
          exact c
        · exact h3 t (by omega))
    · rw [if_neg c]
      exact Or.inr ⟨fun q => c (q i (by omega)), rfl⟩
theorem same_tune {M : Mm} (h : Inv M) (x1 : Int32) : Same (f_X6_tune x1) (f_X7_tune x1) M := by
  obtain ⟨ep, p1, p2⟩ := wp_pl h.2.1
  rcases sht_i x1 with ⟨s, hs, rfl, e1, e2⟩ | ⟨e1, e2⟩
  · obtain ⟨s1, s2, s3, s4⟩ := h.2.2.2.2.2.1 s hs
    by_cases c0 : M 205 s = 0
    · refine same_f0 h (z := -100002) ?_ (fun M' hM => ?_)
      · unfold f_X6_tune
        rw [e1, if_neg ne10, miss_c hs, if_pos c0, bd_s, if_neg ne10]
        rfl
      · unfold f_X7_tune
        rw [e2, if_neg ne10, zck hs (by omega), zcl (by omega), hM 215 (by decide), ← s1, if_pos c0]
        rfl
    · have em : M 206 s = nI (M 206 s).toNatClampNeg := x_nI s3.1
      have hm : (M 206 s).toNatClampNeg ≤ 30 := by
        show (M 206 s).toInt.toNat ≤ 30
        omega
      generalize (M 206 s).toNatClampNeg = m at em hm
      by_cases c1 : m ≤ 12
      · have hc := ha_l hs hm em m FU 0 (by omega) (by unfold FU; omega) (fun t ht => by omega)
        rw [nI_00] at hc
        have hvv : ∀ t, t < m → M 217 (30 * s + t) = M (208 + s) t := fun t ht => (s4 t (by omega)).symm
        rcases hc with ⟨ha, ec⟩ | ⟨ha, ec⟩
        · have eh : f_X4_hasAbove (nI s) 100 M = some 0 := by
            unfold f_X4_hasAbove
            rw [ec]
            rfl
          have hN' := tnN_WP (v := M (208 + s)) h.2.1 m c1 ha
          have ex2 : (nI m - (1 : Int32)) + 1 = nI m := by
            rw [oI_n, k1, oI_sub, oI_add]
            congr 1
            omega
          refine chg h (r := cnV (M (208 + s)) m) hN' (fun M1 k1' k2 => ?_) (fun M2 M3 k1' k2 k3 => ?_)
          · obtain ⟨Ma, a1, a2, a3⟩ := tk_l h.2.1 (v := M (208 + s)) (m := m) (a := 208 + s) c1 ha (by omega) m FU 0 M1 (by omega) (by unfold FU; omega) (relp_e h.2.2.1 (fun c g1 g2 => k2 c (by omega))) (fun t ht => by rw [k2 (208 + s) (by omega)])
            have ec0 : cnV (M (208 + s)) 0 = 0 := rfl
            rw [nI_00, ec0] at a1
            have pin : ∀ j, j = 0 ∨ 229 ≤ j → tnN (M (208 + s)) (M 213) m j = M 213 j := fun j hj => tnN_o m (fun t ht => by omega)
            obtain ⟨w1, w2⟩ := wi_beats (M := Ma) (N' := tnN (M (208 + s)) (M 213) m) (fst := 0) (l := m) (x2 := nI m - 1) h.2.2.2.1 (fun c g1 g2 => by rw [a3 c (by omega), k2 c (by omega)]) h.2.1 (by unfold pl; rw [pin 0 (by omega)]) (fun q hq => by unfold so; rw [pin _ (by omega)]) (by omega) c1 (by omega) ex2 (fun t ht hne => by
              have hz := (wp_sz h.2.1 ht).2
              have e0 : ∀ j, (j = 1 + t ∨ (13 + 3 * (6 * t) ≤ j ∧ j < 13 + 3 * (6 * t) + 18) ∨ 229 ≤ j) → tnN (M (208 + s)) (M 213) m j = M 213 j := fun j hj => tnN_o m (fun q hq => by omega)
              refine ⟨?_, fun n hn => ?_, fun q hq => ?_⟩
              · unfold sz
                rw [e0 _ (by omega)]
              · unfold kd pc_ rg
                rw [e0 _ (by omega), e0 _ (by omega), e0 _ (by omega)]
                exact ⟨rfl, rfl, rfl⟩
              · unfold mk
                rw [e0 _ (by omega)]) (by rw [a3 3 (by omega), k2 3 (by omega)]; exact h.2.2.1.1.trans ep)
            rw [nI_00] at w1 w2
            refine ⟨_, ?_, fun c g1 g2 => by rw [w2 c g2, a3 c (by omega)], relp_e a2 (fun c g1 g2 => w2 c (by omega)), w1⟩
            unfold f_X6_tune f_X3_takeTune
            rw [e1, if_neg ne10, miss_c hs, if_neg c0, bd_s, if_pos rfl, zck hs (by omega), zcl (by omega), em, nm_d, if_pos ((zle30 (by omega)).mpr c1), eh, bd_s, if_pos rfl, k1', bd_s, zck hs (by omega), a1, bd_s, bd_s, nm_d]
          · have e9 := m3_213 k1' k3
            have ta := ta_50 (M := M2) (v := M (208 + s)) hs hm (by rw [k1' 216 (by omega), ← s2]; exact em) (fun t ht => by rw [k1' 217 (by omega)]; exact hvv t ht) m FU 0 (by omega) (by unfold FU; omega) (fun t ht => by omega)
            rw [nI_00] at ta
            rcases ta with ⟨_, es⟩ | ⟨hb, _⟩
            · have m3c : ∀ c, c ≠ 214 → c ≠ 212 → M3 c = M2 c := fun c g1 g2 => funext (fun j => k3 c j g1 (fun q => g2 q.1))
              obtain ⟨M4, b1, b2, b3⟩ := tm_97 (N := M 213) (v := M (208 + s)) hs c1 m FU 0 M3 (by omega) (by unfold FU; omega) e9 (by rw [m3c 216 (by decide) (by decide), k1' 216 (by omega), ← s2]; exact em) (fun t ht => by rw [m3c 217 (by decide) (by decide), k1' 217 (by omega)]; exact hvv t ht)
              have ec0 : cnV (M (208 + s)) 0 = 0 := rfl
              rw [nI_00, ec0] at b1
              refine ⟨M4, ?_, b2, b3⟩
              unfold f_X7_tune
              rw [e2, if_neg ne10, zck hs (by omega), zcl (by omega), k1' 215 (by omega), ← s1, if_neg c0, zck hs (by omega), k1' 216 (by omega), ← s2, em, if_pos ((zle30 (by omega)).mpr c1), es, bd_s]
              show Option.bind (f_X7_keep M2) _ = _
              rw [k2, bd_s, b1, bd_s]
            · exact absurd ha hb
        · have eh : f_X4_hasAbove (nI s) 100 M = some 1 := by
            unfold f_X4_hasAbove
            rw [ec]
            rfl
          refine same_f0 h (z := -100001) ?_ (fun M' hM => ?_)
          · unfold f_X6_tune
            rw [e1, if_neg ne10, miss_c hs, if_neg c0, bd_s, if_pos rfl, zck hs (by omega), zcl (by omega), em, nm_d, if_pos ((zle30 (by omega)).mpr c1), eh, bd_s, if_neg ne10]
            rfl
          · have ta := ta_50 (M := M') (v := M (208 + s)) hs hm (by rw [hM 216 (by decide), ← s2]; exact em) (fun t ht => by rw [hM 217 (by decide)]; exact hvv t ht) m FU 0 (by omega) (by unfold FU; omega) (fun t ht => by omega)
            rw [nI_00] at ta
            rcases ta with ⟨hb, _⟩ | ⟨_, es⟩
            · exact absurd hb ha
            · unfold f_X7_tune
              rw [e2, if_neg ne10, zck hs (by omega), zcl (by omega), hM 215 (by decide), ← s1, if_neg c0, zck hs (by omega), hM 216 (by decide), ← s2, em, if_pos ((zle30 (by omega)).mpr c1), es]
              rfl
      · refine same_f0 h (z := -100003) ?_ (fun M' hM => ?_)
        · unfold f_X6_tune
          rw [e1, if_neg ne10, miss_c hs, if_neg c0, bd_s, if_pos rfl, zck hs (by omega), zcl (by omega), em, nm_d, if_neg (fun q => c1 ((zle30 (by omega)).mp q))]
          rfl
        · unfold f_X7_tune
          rw [e2, if_neg ne10, zck hs (by omega), zcl (by omega), hM 215 (by decide), ← s1, if_neg c0, zck hs (by omega), hM 216 (by decide), ← s2, em, if_neg (fun q => c1 ((zle30 (by omega)).mp q))]
          rfl
  · refine same_f0 h (z := -100001) ?_ (fun M' hM => ?_)
    · unfold f_X6_tune
      rw [e1, if_pos rfl]
      rfl
    · unfold f_X7_tune
      rw [e2, if_pos rfl]
      rfl
