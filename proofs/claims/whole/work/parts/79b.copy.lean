/-! PURE: copy -/
theorem c_101 {s f m : Nat} (hs : s < 4) (hf : f + m ≤ 30) {M0 : Mm} : ∀ (u n i : Nat) (M : Mm), i + u = m → u < n → M 217 = M0 217 → (∀ t, t < i → M 227 t = M0 217 (30 * s + f + t)) →
    ∃ M', L_X7_copy_101 (nI s) (nI f) (nI m) n (nI i) M = some M' ∧ (∀ t, t < m → M' 227 t = M0 217 (30 * s + f + t)) ∧ ∀ c, c ≠ 227 → M' c = M c
  | _, 0, _, _, _, h2, _, _ => by omega
  | 0, n + 1, i, M, h1, h2, h3, h4 => by
    rw [L_X7_copy_101, if_pos ((zle (by omega) (by omega)).mpr (by omega))]
    exact ⟨M, rfl, fun t ht => h4 t (by omega), fun _ _ => rfl⟩
  | u + 1, n + 1, i, M, h1, h2, h3, h4 => by
    have e1 : (30 : Int32) * nI s + nI f + nI i = nI (30 * s + f + i) := by rw [show (30 : Int32) = nI 30 from rfl, zmu, zad, zad]
    rw [L_X7_copy_101, if_neg (fun q => by have := (zle (by omega) (by omega)).mp q; omega), e1, zck (by omega) (by omega), zck (by omega) (by omega), nm_d, zcl (show 30 * s + f + i < 2147483648 by omega), zcl (show i < 2147483648 by omega), h3, nI_s]
    obtain ⟨M', q1, q2, q3⟩ := c_101 hs hf (M0 := M0) u n (i + 1) (mw M 227 i (M0 217 (30 * s + f + i))) (by omega) (by omega) (by rw [mw_c (by decide)]; exact h3) (fun t ht => by
      by_cases c : t = i
      · rw [c, mw_s]
      · rw [mw_o c]
        exact h4 t (by omega))
    exact ⟨M', q1, q2, fun c g => by rw [q3 c g, mw_c g]⟩
theorem c_138 {t f m : Nat} (ht : t < 4) (hf : f + m ≤ 30) {M0 : Mm} : ∀ (u n i : Nat) (M : Mm), i + u = m → u < n → M 227 = M0 227 → (∀ j, M 217 j = if 30 * t + f ≤ j ∧ j < 30 * t + f + i then M0 227 (j - (30 * t + f)) else M0 217 j) →
    ∃ M', L_X7_copy_138 (nI t) (nI f) (nI m) n (nI i) M = some M' ∧ (∀ j, M' 217 j = if 30 * t + f ≤ j ∧ j < 30 * t + f + m then M0 227 (j - (30 * t + f)) else M0 217 j) ∧ ∀ c, c ≠ 217 → M' c = M c
  | _, 0, _, _, _, h2, _, _ => by omega
  | 0, n + 1, i, M, h1, h2, h3, h4 => by
    rw [L_X7_copy_138, if_pos ((zle (by omega) (by omega)).mpr (by omega))]
    rw [show i = m by omega] at h4
    exact ⟨M, rfl, h4, fun _ _ => rfl⟩
  | u + 1, n + 1, i, M, h1, h2, h3, h4 => by
    have e1 : (30 : Int32) * nI t + nI f + nI i = nI (30 * t + f + i) := by rw [show (30 : Int32) = nI 30 from rfl, zmu, zad, zad]
    rw [L_X7_copy_138, if_neg (fun q => by have := (zle (by omega) (by omega)).mp q; omega), e1, zck (by omega) (by omega), zck (by omega) (by omega), nm_d, zcl (show 30 * t + f + i < 2147483648 by omega), zcl (show i < 2147483648 by omega), h3, nI_s]
    obtain ⟨M', q1, q2, q3⟩ := c_138 ht hf (M0 := M0) u n (i + 1) (mw M 217 (30 * t + f + i) (M0 227 i)) (by omega) (by omega) (by rw [mw_c (by decide)]; exact h3) (fun j => by
      by_cases c : j = 30 * t + f + i
      · rw [c, mw_s, if_pos (by omega), show 30 * t + f + i - (30 * t + f) = i by omega]
      · rw [mw_o c, h4 j]
        by_cases c2 : 30 * t + f ≤ j ∧ j < 30 * t + f + i
        · rw [if_pos c2, if_pos (by omega)]
        · rw [if_neg c2, if_neg (by omega)])
    exact ⟨M', q1, q2, fun c g => by rw [q3 c g, mw_c g]⟩
/-- n numbers stand from f on in sheet s -/
theorem has_i {M : Mm} (h : Inv M) {s : Nat} (hs : s < 4) (x y : Int32) : (∃ f n, f + n ≤ 30 ∧ x = nI f ∧ y = nI n ∧ f_X4_has (nI s) x y M = some 1 ∧ ∀ M' : Mm, M' 216 = M 216 → f_X7_hasPart (nI s) x y M' = some 1) ∨ (f_X4_has (nI s) x y M = some 0 ∧ ∀ M' : Mm, M' 216 = M 216 → f_X7_hasPart (nI s) x y M' = some 0) := by
  obtain ⟨s1, s2, s3, s4⟩ := h.2.2.2.2.2.1 s hs
  unfold f_X4_has f_X7_hasPart
  rw [zck hs (by omega), zck hs (by omega), zcl (by omega)]
  by_cases c1 : x < 0
  · rw [if_pos c1]
    exact Or.inr ⟨rfl, fun M' hM => by rw [if_pos c1]⟩
  · by_cases c2 : y < 0
    · rw [if_neg c1, if_pos c2]
      exact Or.inr ⟨rfl, fun M' hM => by rw [if_neg c1, if_pos c2]⟩
    · have t0 : (0 : Int32).toInt = 0 := rfl
      have gx : ¬ x.toInt < (0 : Int32).toInt := fun q => c1 (ti_lt.mpr q)
      have gy : ¬ y.toInt < (0 : Int32).toInt := fun q => c2 (ti_lt.mpr q)
      have bx := ti_b x
      have by' := ti_b y
      rw [if_neg c1, if_neg c2]
      have tx : (M 206 s - x).toInt = (M 206 s).toInt - x.toInt := ti_sub (by omega) (by omega)
      have ty : (M 206 s - y).toInt = (M 206 s).toInt - y.toInt := ti_sub (by omega) (by omega)
      by_cases c3 : x.toInt + y.toInt ≤ (M 206 s).toInt
      · have a1 : ¬ M 206 s < x := fun q => by have := ti_lt.mp q; omega
        have a2 : ¬ M 206 s - x < y := fun q => by have := ti_lt.mp q; omega
        have a3 : ¬ M 206 s < y := fun q => by have := ti_lt.mp q; omega
        have a4 : ¬ M 206 s - y < x := fun q => by have := ti_lt.mp q; omega
        obtain ⟨f, hf, ef⟩ := nI_get (m := 31) c1 (by omega)
        obtain ⟨n, hn, en⟩ := nI_get (m := 31) c2 (by omega)
        have tf : x.toInt = f := by rw [ef, ztI (by omega)]
        have tn : y.toInt = n := by rw [en, ztI (by omega)]
        rw [if_neg a1, if_neg a2]
        exact Or.inl ⟨f, n, by omega, ef, en, rfl, fun M' hM => by rw [if_neg c1, if_neg c2, hM, ← s2, zck hs (by omega), if_neg a3, zck hs (by omega), if_neg a4]⟩
      · right
        refine ⟨?_, fun M' hM => ?_⟩
        · by_cases a1 : M 206 s < x
          · rw [if_pos a1]
          · rw [if_neg a1, if_pos (ti_lt.mpr (by omega))]
        · rw [if_neg c1, if_neg c2, hM, ← s2, zck hs (by omega)]
          by_cases a1 : M 206 s < y
          · rw [if_pos a1]
          · rw [if_neg a1, zck hs (by omega), if_pos (ti_lt.mpr (by omega))]
theorem same_copy {M : Mm} (h : Inv M) (x1 x2 x3 x4 x5 : Int32) : Same (f_X6_copy x1 x2 x3 x4 x5) (f_X7_copy x1 x2 x3 x4 x5) M := by
  rcases sht_i x1 with ⟨s, hs, rfl, e1, e2⟩ | ⟨e1, e2⟩
  · rcases sht_i x3 with ⟨t, ht, rfl, e3, e4⟩ | ⟨e3, e4⟩
    · obtain ⟨s1, s2, s3, s4⟩ := h.2.2.2.2.2.1 s hs
      obtain ⟨t1, t2, t3, t4⟩ := h.2.2.2.2.2.1 t ht
      by_cases c0 : M 205 s = 0
      · refine same_f0 h (z := -100002) ?_ (fun M' hM => ?_)
        · unfold f_X6_copy
          rw [e1, if_neg ne10, e3, if_neg ne10, miss_c hs, if_pos c0, bd_s, if_neg ne10]
          rfl
        · unfold f_X7_copy
          rw [e2, if_neg ne10, e4, if_neg ne10, zck hs (by omega), zcl (show s < 2147483648 by omega), hM 215 (by decide), ← s1, if_pos c0]
          rfl
      · by_cases c1 : M 205 t = 0
        · refine same_f0 h (z := -100002) ?_ (fun M' hM => ?_)
          · unfold f_X6_copy
            rw [e1, if_neg ne10, e3, if_neg ne10, miss_c hs, if_neg c0, bd_s, if_pos rfl, miss_c ht, if_pos c1, bd_s, if_neg ne10]
            rfl
          · unfold f_X7_copy
            rw [e2, if_neg ne10, e4, if_neg ne10, zck hs (by omega), zcl (show s < 2147483648 by omega), zcl (show t < 2147483648 by omega), hM 215 (by decide), ← s1, if_neg c0, zck ht (by omega), ← t1, if_pos c1]
            rfl
        · by_cases c2 : M 205 s = M 205 t
          · have hmid : ∀ M' : Mm, M' 215 = M 215 → f_X7_copy (nI s) x2 (nI t) x4 x5 M' = Option.bind (f_X7_hasPart (nI s) x2 x5 M') (fun q_14 => if q_14 = 0 then some (f_X7_finding (-100001) M') else Option.bind (f_X7_hasPart (nI t) x4 x5 M') (fun q_19 => if q_19 = 0 then some (f_X7_finding (-100001) M') else Option.bind (L_X7_copy_101 (nI s) x2 x5 FU (0 : Int32) M') (fun q_24 => Option.bind (L_X7_copy_138 (nI t) x4 x5 FU (0 : Int32) q_24) (fun q_38 => some (x5, q_38))))) := fun M' hM => by
              unfold f_X7_copy
              rw [e2, if_neg ne10, e4, if_neg ne10, zck hs (by omega), zcl (show s < 2147483648 by omega), zcl (show t < 2147483648 by omega), hM, ← s1, if_neg c0, zck ht (by omega), ← t1, if_neg c1, zck hs (by omega), zck ht (by omega), if_pos c2]
              rfl
            have hcl : f_X6_copy (nI s) x2 (nI t) x4 x5 M = Option.bind (f_X4_has (nI s) x2 x5 M) (fun q_16 => if q_16 = 0 then some (f_X6_finding (-100001) M) else Option.bind (f_X4_has (nI t) x4 x5 M) (fun q_21 => if q_21 = 0 then some (f_X6_finding (-100001) M) else ck (ib (nI s) 4) (ck (ib (nI t) 4) (ck (cpo x2 x4 x5 30 30) (nm (mu M (208 + (nI t).toNatClampNeg) (cpy (M (208 + (nI s).toNatClampNeg)) (M (208 + (nI t).toNatClampNeg)) x2 x4 x5)) (fun M_27 => some (x5, M_27))))))) := by
              unfold f_X6_copy
              rw [e1, if_neg ne10, e3, if_neg ne10, miss_c hs, if_neg c0, bd_s, if_pos rfl, miss_c ht, if_neg c1, bd_s, if_pos rfl, zck hs (by omega), zck ht (by omega), zcl (show s < 2147483648 by omega), zcl (show t < 2147483648 by omega), if_pos c2]
              rfl
            rcases has_i h hs x2 x5 with ⟨f, n, hfn, rfl, rfl, g1, g2⟩ | ⟨g1, g2⟩
            · rcases has_i h ht x4 (nI n) with ⟨f', n', hfn', rfl, en, g3, g4⟩ | ⟨g3, g4⟩
              · have enn : n' = n := ((zeq (by omega) (by omega)).mp en).symm
                subst enn
                have hcp : cpo (nI f) (nI f') (nI n') 30 30 := ⟨by rw [ztI (by omega)]; omega, by rw [ztI (by omega)]; omega, by rw [ztI (by omega)]; omega, by rw [ztI (by omega), ztI (by omega)]; omega, by rw [ztI (by omega), ztI (by omega)]; omega⟩
                have ecp : ∀ j, cpy (M (208 + s)) (M (208 + t)) (nI f) (nI f') (nI n') j = if f' ≤ j ∧ j < f' + n' then M (208 + s) (f + (j - f')) else M (208 + t) j := fun j => by
                  unfold cpy va_cpy
                  rw [zcl (by omega), zcl (by omega), zcl (by omega)]
                have ef : f_X6_copy (nI s) (nI f) (nI t) (nI f') (nI n') M = some (nI n', mu M (208 + t) (cpy (M (208 + s)) (M (208 + t)) (nI f) (nI f') (nI n'))) := by
                  rw [hcl, g1, bd_s, if_neg ne10, g3, bd_s, if_neg ne10, zck hs (by omega), zck ht (by omega), ck_t hcp, nm_d, zcl (show s < 2147483648 by omega), zcl (show t < 2147483648 by omega)]
                generalize hM1 : mu M (208 + t) (cpy (M (208 + s)) (M (208 + t)) (nI f) (nI f') (nI n')) = M1 at ef
                have cc : ∀ c, c ≠ 208 + t → M1 c = M c := fun c g => by rw [← hM1, mu_n g]
                have c208 : ∀ j, M1 (208 + t) j = if f' ≤ j ∧ j < f' + n' then M (208 + s) (f + (j - f')) else M (208 + t) j := fun j => by rw [← hM1, mu_s, ecp]
                obtain ⟨M2, q1, q2, q3⟩ := c_101 hs hfn (M0 := M1) n' FU 0 M1 (by omega) (by unfold FU; omega) rfl (fun t ht => by omega)
                rw [nI_00] at q1
                obtain ⟨M3, r1, r2, r3⟩ := c_138 ht hfn' (M0 := M2) n' FU 0 M2 (by omega) (by unfold FU; omega) rfl (fun j => by rw [if_neg (by omega)])
                rw [nI_00] at r1
                have eg : f_X7_copy (nI s) (nI f) (nI t) (nI f') (nI n') M1 = some (nI n', M3) := by
                  rw [hmid M1 (cc 215 (by omega)), g2 M1 (cc 216 (by omega)), bd_s, if_neg ne10, g4 M1 (cc 216 (by omega)), bd_s, if_neg ne10, q1, bd_s, r1, bd_s]
                refine ⟨nI n', M1, M3, ef, eg, inv_sh (M1 := M1) h (fun c g => cc c (by omega)) (fun c j1 j2 => by rw [r3 c (by omega), q3 c j2]) (fun v hv => ?_)⟩
                obtain ⟨u1, u2, u3, u4⟩ := h.2.2.2.2.2.1 v hv
                have low : ∀ c, c ≠ 217 → c ≠ 227 → M3 c = M1 c := fun c j1 j2 => by rw [r3 c j1, q3 c j2]
                rw [low 205 (by decide) (by decide), low 206 (by decide) (by decide), low 215 (by decide) (by decide), low 216 (by decide) (by decide), cc 205 (by omega), cc 206 (by omega), cc 215 (by omega), cc 216 (by omega)]
                refine ⟨u1, u2, u3, fun i hi => ?_⟩
                rw [low (208 + v) (by omega) (by omega), r2, q3 217 (by decide), cc 217 (by omega)]
                by_cases d : v = t
                · rw [d, c208]
                  by_cases d2 : f' ≤ i ∧ i < f' + n'
                  · rw [if_pos d2, if_pos (by omega), q2 _ (by omega), cc 217 (by omega), s4 _ (by omega)]
                    congr 1
                    omega
                  · rw [if_neg d2, if_neg (by omega)]
                    exact t4 i hi
                · rw [cc (208 + v) (by omega), if_neg (by omega)]
                  exact u4 i hi
              · refine same_f0 h (z := -100001) ?_ (fun M' hM => ?_)
                · rw [hcl, g1, bd_s, if_neg ne10, g3, bd_s, if_pos rfl]
                · rw [hmid M' (hM 215 (by decide)), g2 M' (hM 216 (by decide)), bd_s, if_neg ne10, g4 M' (hM 216 (by decide)), bd_s, if_pos rfl]
            · refine same_f0 h (z := -100001) ?_ (fun M' hM => ?_)
              · rw [hcl, g1, bd_s, if_pos rfl]
              · rw [hmid M' (hM 215 (by decide)), g2 M' (hM 216 (by decide)), bd_s, if_pos rfl]
          · refine same_f0 h (z := -100004) ?_ (fun M' hM => ?_)
            · unfold f_X6_copy
              rw [e1, if_neg ne10, e3, if_neg ne10, miss_c hs, if_neg c0, bd_s, if_pos rfl, miss_c ht, if_neg c1, bd_s, if_pos rfl, zck hs (by omega), zck ht (by omega), zcl (show s < 2147483648 by omega), zcl (show t < 2147483648 by omega), if_neg c2]
              rfl
            · unfold f_X7_copy
              rw [e2, if_neg ne10, e4, if_neg ne10, zck hs (by omega), zcl (show s < 2147483648 by omega), zcl (show t < 2147483648 by omega), hM 215 (by decide), ← s1, if_neg c0, zck ht (by omega), ← t1, if_neg c1, zck hs (by omega), zck ht (by omega), if_neg c2]
              rfl
    · refine same_f0 h (z := -100001) ?_ (fun M' hM => ?_)
      · unfold f_X6_copy
        rw [e1, if_neg ne10, e3, if_pos rfl]
        rfl
      · unfold f_X7_copy
        rw [e2, if_neg ne10, e4, if_pos rfl]
        rfl
  · refine same_f0 h (z := -100001) ?_ (fun M' hM => ?_)
    · unfold f_X6_copy
      rw [e1, if_pos rfl]
      rfl
    · unfold f_X7_copy
      rw [e2, if_pos rfl]
      rfl
