/-! PURE: sheet, put -/
theorem inv_sh {M M1 M2 : Mm} (h : Inv M) (c1 : ∀ c, ¬ (205 ≤ c ∧ c ≤ 211) → M1 c = M c) (c2 : ∀ c, ¬ (215 ≤ c ∧ c ≤ 217) → c ≠ 227 → M2 c = M1 c) (hs : ShI M2) : Inv M2 := by
  obtain ⟨i1, i2, i3, i4, i5, i6, i7⟩ := h
  have e : ∀ c, ¬ (205 ≤ c ∧ c ≤ 211) → ¬ (215 ≤ c ∧ c ≤ 217) → c ≠ 227 → M2 c = M c := fun c g1 g2 g3 => by rw [c2 c g2 g3, c1 c g1]
  have e213 := e 213 (by omega) (by omega) (by omega)
  refine ⟨fun t ht => by rw [e 2 (by omega) (by omega) (by omega)]; exact i1 t ht, by rw [e213]; exact i2, by rw [e213]; exact relp_e i3 (fun c g1 g2 => e c (by omega) (by omega) (by omega)), by rw [e213]; exact wi_e i4 (wp_pl i2).2.2 (fun c g1 g2 => e c (by omega) (by omega) (by omega)), by rw [e 0 (by omega) (by omega) (by omega), e 212 (by omega) (by omega) (by omega)]; exact i5, hs, inv_hi i7 (fun c g1 g2 => e c (by omega) (by omega) (by omega)) (by rw [e 212 (by omega) (by omega) (by omega)]) (e 214 (by omega) (by omega) (by omega))⟩
theorem sht_i (x : Int32) : (∃ n, n < 4 ∧ x = nI n ∧ f_X4_isSheet x = 1 ∧ f_X7_isSheet x = 1) ∨ (f_X4_isSheet x = 0 ∧ f_X7_isSheet x = 0) := knd_i x
theorem sh_85 {s : Nat} (hs : s < 4) : ∀ (u n i : Nat) (M : Mm), i + u = 30 → u < n → (∀ t, t < i → M 217 (30 * s + t) = 0) →
    ∃ M', L_X7_sheet_85 (nI s) n (nI i) M = some M' ∧ (∀ t, t < 30 → M' 217 (30 * s + t) = 0) ∧ (∀ t, ¬ (30 * s ≤ t ∧ t < 30 * s + 30) → M' 217 t = M 217 t) ∧ ∀ c, c ≠ 217 → M' c = M c
  | _, 0, _, _, _, h2, _ => by omega
  | 0, n + 1, i, M, h1, h2, h3 => by
    have hl : (30 : Int32) ≤ nI i := (zle (a := 30) (by omega) (by omega)).mpr (by omega)
    rw [L_X7_sheet_85, if_pos hl]
    exact ⟨M, rfl, fun t ht => h3 t (by omega), fun _ _ => rfl, fun _ _ => rfl⟩
  | u + 1, n + 1, i, M, h1, h2, h3 => by
    have hl : ¬ (30 : Int32) ≤ nI i := fun q => by have := (zle (a := 30) (by omega) (by omega)).mp q; omega
    have e1 : (30 : Int32) * nI s + nI i = nI (30 * s + i) := by rw [show (30 : Int32) = nI 30 from rfl, zmu, zad]
    rw [L_X7_sheet_85, if_neg hl, e1, zck (by omega) (by omega), zcl (by omega), nm_d, nI_s]
    obtain ⟨M', q1, q2, q3, q4⟩ := sh_85 hs u n (i + 1) (mw M 217 (30 * s + i) 0) (by omega) (by omega) (fun t ht => by
      by_cases c : t = i
      · rw [c, mw_s]
      · rw [mw_o (by omega)]
        exact h3 t (by omega))
    exact ⟨M', q1, q2, fun t ht => by rw [q3 t ht, mw_o (by omega)], fun c g => by rw [q4 c g, mw_c g]⟩
theorem bits_i (x : Int32) : ((x = 0 ∨ x = 8 ∨ x = 16 ∨ x = 32) ∧ f_X4_isBits x = 1) ∨ (¬ x = 0 ∧ ¬ x = 8 ∧ ¬ x = 16 ∧ ¬ x = 32 ∧ f_X4_isBits x = 0) := by
  unfold f_X4_isBits
  by_cases c0 : x = 0
  · rw [if_pos c0]
    exact Or.inl ⟨Or.inl c0, rfl⟩
  · by_cases c1 : x = 8
    · rw [if_neg c0, if_pos c1]
      exact Or.inl ⟨Or.inr (Or.inl c1), rfl⟩
    · by_cases c2 : x = 16
      · rw [if_neg c0, if_neg c1, if_pos c2]
        exact Or.inl ⟨Or.inr (Or.inr (Or.inl c2)), rfl⟩
      · by_cases c3 : x = 32
        · rw [if_neg c0, if_neg c1, if_neg c2, if_pos c3]
          exact Or.inl ⟨Or.inr (Or.inr (Or.inr c3)), rfl⟩
        · rw [if_neg c0, if_neg c1, if_neg c2, if_neg c3]
          exact Or.inr ⟨c0, c1, c2, c3, rfl⟩
/-- the model's sheet, when its arguments are right -/
theorem sheet_m {s : Nat} {x2 x3 : Int32} {M : Mm} (hs : f_X7_isSheet (nI s) = 1) (hx : x2 = 0 ∨ x2 = 8 ∨ x2 = 16 ∨ x2 = 32) : f_X7_sheet (nI s) x2 x3 M = (if 0 ≤ x3 then (if x3 ≤ (30 : Int32) then
    ck (ib (nI s) 4) (nm (mw M 215 (nI s).toNatClampNeg x2) (fun M_8 => nm (if x2 = 0 then (0 : Int32) else x3) (fun q_11 => ck (ib (nI s) 4) (nm (mw M_8 216 (nI s).toNatClampNeg q_11) (fun M_16 => Option.bind (L_X7_sheet_85 (nI s) FU (0 : Int32) M_16) (fun q_20 => ck (ib (nI s) 4) (some ((q_20 216 (nI s).toNatClampNeg), q_20))))))))
    else some (f_X7_finding (-100001) M)) else some (f_X7_finding (-100003) M)) := by
  unfold f_X7_sheet
  rw [hs, if_neg ne10]
  rcases hx with hx | hx | hx | hx
  · subst hx
    rw [if_pos rfl]
    rfl
  · subst hx
    rw [if_neg (show ¬ (8 : Int32) = 0 by decide), if_pos rfl]
    rfl
  · subst hx
    rw [if_neg (show ¬ (16 : Int32) = 0 by decide), if_neg (show ¬ (16 : Int32) = 8 by decide), if_pos rfl]
    rfl
  · subst hx
    rw [if_neg (show ¬ (32 : Int32) = 0 by decide), if_neg (show ¬ (32 : Int32) = 8 by decide), if_neg (show ¬ (32 : Int32) = 16 by decide), if_pos rfl]
    rfl
theorem same_sheet {M : Mm} (h : Inv M) (x1 x2 x3 : Int32) : Same (f_X6_sheet x1 x2 x3) (f_X7_sheet x1 x2 x3) M := by
  rcases sht_i x1 with ⟨s, hs, rfl, e1, e2⟩ | ⟨e1, e2⟩
  · rcases bits_i x2 with ⟨hx, e3⟩ | ⟨n0, n1, n2, n3, e3⟩
    · by_cases c1 : 0 ≤ x3
      · by_cases c2 : x3 ≤ 30
        · have t0 : (0 : Int32).toInt = 0 := rfl
          have t30 : (30 : Int32).toInt = 30 := rfl
          have g1 := ti_le.mp c1
          have g2 := ti_le.mp c2
          have hq : 0 ≤ (if x2 = 0 then (0 : Int32) else x3).toInt ∧ (if x2 = 0 then (0 : Int32) else x3).toInt ≤ 30 := by
            split
            · decide
            · omega
          generalize hqe : (if x2 = 0 then (0 : Int32) else x3) = q at hq
          obtain ⟨M1, q1, q2, q3, q4⟩ := fill_c (N := 30) (a := 208 + s) (v := 0) (M := mw (mw M 205 s x2) 206 s q) (by omega)
          have ef : f_X6_sheet (nI s) x2 x3 M = some (q, M1) := by
            unfold f_X6_sheet f_X4_renew
            rw [e1, if_neg ne10, e3, if_neg ne10, if_pos c1, if_pos c2, zck hs (by omega), zcl (by omega), nm_d, hqe, nm_d, zck hs (by omega), nm_d, zck hs (by omega), q1, bd_s, zck hs (by omega), q4 206 (by omega), mw_s, bd_s]
          obtain ⟨M2, r1, r2, r3, r4⟩ := sh_85 hs 30 FU 0 (mw (mw M1 215 s x2) 216 s q) (by omega) (by unfold FU; omega) (fun t ht => by omega)
          rw [nI_00] at r1
          have eg : f_X7_sheet (nI s) x2 x3 M1 = some (q, M2) := by
            rw [sheet_m e2 hx, if_pos c1, if_pos c2, zck hs (by omega), zcl (by omega), nm_d, hqe, nm_d, zck hs (by omega), nm_d, r1, bd_s, zck hs (by omega), r4 216 (by decide), mw_s]
          refine ⟨q, M1, M2, ef, eg, inv_sh (M1 := M1) h (fun c g => by rw [q4 c (by omega), mw_c (by omega), mw_c (by omega)]) (fun c j1 j2 => by rw [r4 c (by omega), mw_c (by omega), mw_c (by omega)]) (fun t ht => ?_)⟩
          obtain ⟨s1, s2, s3, s4⟩ := h.2.2.2.2.2.1 t ht
          have l205 : M2 205 t = if t = s then x2 else M 205 t := by
            rw [r4 205 (by decide), mw_c (by decide), mw_c (by decide), q4 205 (by omega), mw_c (by decide), mw_at]
            by_cases c : t = s
            · rw [if_pos ⟨rfl, c⟩, if_pos c]
            · rw [if_neg (fun q => c q.2), if_neg c]
          have l206 : M2 206 t = if t = s then q else M 206 t := by
            rw [r4 206 (by decide), mw_c (by decide), mw_c (by decide), q4 206 (by omega), mw_at]
            by_cases c : t = s
            · rw [if_pos ⟨rfl, c⟩, if_pos c]
            · rw [if_neg (fun q => c q.2), if_neg c, mw_c (by decide)]
          have l215 : M2 215 t = if t = s then x2 else M 215 t := by
            rw [r4 215 (by decide), mw_c (by decide), mw_at]
            by_cases c : t = s
            · rw [if_pos ⟨rfl, c⟩, if_pos c]
            · rw [if_neg (fun q => c q.2), if_neg c, q4 215 (by omega), mw_c (by decide), mw_c (by decide)]
          have l216 : M2 216 t = if t = s then q else M 216 t := by
            rw [r4 216 (by decide), mw_at]
            by_cases c : t = s
            · rw [if_pos ⟨rfl, c⟩, if_pos c]
            · rw [if_neg (fun q => c q.2), if_neg c, mw_c (by decide), q4 216 (by omega), mw_c (by decide), mw_c (by decide)]
          rw [l205, l206, l215, l216]
          have hrow : ∀ i, i < 30 → M2 (208 + t) i = M2 217 (30 * t + i) := fun i hi => by
            rw [r4 (208 + t) (by omega), mw_c (by omega), mw_c (by omega)]
            by_cases c : t = s
            · rw [c, q2 i hi, r2 i hi]
            · rw [q4 (208 + t) (by omega), mw_c (by omega), mw_c (by omega), r3 _ (by omega), mw_c (by decide), mw_c (by decide), q4 217 (by omega), mw_c (by decide), mw_c (by decide)]
              exact s4 i hi
          by_cases c : t = s
          · rw [if_pos c, if_pos c, if_pos c, if_pos c]
            exact ⟨rfl, rfl, hq, hrow⟩
          · rw [if_neg c, if_neg c, if_neg c, if_neg c]
            exact ⟨s1, s2, s3, hrow⟩
        · refine same_f0 h (z := -100001) ?_ (fun M' hM => ?_)
          · unfold f_X6_sheet
            rw [e1, if_neg ne10, e3, if_neg ne10, if_pos c1, if_neg c2]
            rfl
          · rw [sheet_m e2 hx, if_pos c1, if_neg c2]
      · refine same_f0 h (z := -100003) ?_ (fun M' hM => ?_)
        · unfold f_X6_sheet
          rw [e1, if_neg ne10, e3, if_neg ne10, if_neg c1]
          rfl
        · rw [sheet_m e2 hx, if_neg c1]
    · refine same_f0 h (z := -100001) ?_ (fun M' hM => ?_)
      · unfold f_X6_sheet
        rw [e1, if_neg ne10, e3, if_pos rfl]
        rfl
      · unfold f_X7_sheet
        rw [e2, if_neg ne10, if_neg n0, if_neg n1, if_neg n2, if_neg n3]
        rfl
  · refine same_f0 h (z := -100001) ?_ (fun M' hM => ?_)
    · unfold f_X6_sheet
      rw [e1, if_pos rfl]
      rfl
    · unfold f_X7_sheet
      rw [e2, if_pos rfl]
      rfl
/-- what a put writes -/
def wrt (b v : Int32) : Int32 := if b = 8 then v.toInt8.toInt32 else if b = 16 then v.toInt16.toInt32 else v
theorem miss_c {M : Mm} {s : Nat} (hs : s < 4) : f_X4_isMissing (nI s) M = some (if M 205 s = 0 then 1 else 0) := by
  unfold f_X4_isMissing
  rw [zck hs (by omega), zcl (by omega)]
  split <;> rfl
theorem same_put {M : Mm} (h : Inv M) (x1 x2 x3 : Int32) : Same (f_X6_put x1 x2 x3) (f_X7_put x1 x2 x3) M := by
  rcases sht_i x1 with ⟨s, hs, rfl, e1, e2⟩ | ⟨e1, e2⟩
  · obtain ⟨s1, s2, s3, s4⟩ := h.2.2.2.2.2.1 s hs
    by_cases c0 : M 205 s = 0
    · refine same_f0 h (z := -100002) ?_ (fun M' hM => ?_)
      · unfold f_X6_put
        rw [e1, if_neg ne10, miss_c hs, if_pos c0, bd_s, if_neg ne10]
        rfl
      · unfold f_X7_put
        rw [e2, if_neg ne10, zck hs (by omega), zcl (by omega), hM 215 (by decide), ← s1, if_pos c0]
        rfl
    · by_cases c1 : x2 < 0
      · refine same_f0 h (z := -100001) ?_ (fun M' hM => ?_)
        · unfold f_X6_put
          rw [e1, if_neg ne10, miss_c hs, if_neg c0, bd_s, if_pos rfl, if_pos c1]
          rfl
        · unfold f_X7_put
          rw [e2, if_neg ne10, zck hs (by omega), zcl (by omega), hM 215 (by decide), ← s1, if_neg c0, if_pos c1]
          rfl
      · by_cases c2 : x2 < M 206 s
        · obtain ⟨i, hi, rfl⟩ := nI_get (m := 30) c1 (by have := ti_lt.mp c2; omega)
          have e30 : (30 : Int32) * nI s + nI i = nI (30 * s + i) := by rw [show (30 : Int32) = nI 30 from rfl, zmu, zad]
          have ef : f_X6_put (nI s) (nI i) x3 M = some (0, mw M (208 + s) i (wrt (M 205 s) x3)) := by
            unfold f_X6_put f_X4_write wrt
            rw [e1, if_neg ne10, miss_c hs, if_neg c0, bd_s, if_pos rfl, if_neg c1, zck hs (by omega), zcl (show s < 2147483648 by omega), if_pos c2, zck hs (by omega), zck hs (by omega), zck hi (by omega), zcl (show i < 2147483648 by omega), zck hs (by omega), zck hi (by omega), zck hs (by omega), zck hi (by omega), nm_d, nm_d, nm_d]
            by_cases d1 : M 205 s = 8
            · rw [if_pos d1, if_pos d1]
              rfl
            · rw [if_neg d1, if_neg d1]
              by_cases d2 : M 205 s = 16
              · rw [if_pos d2, if_pos d2]
                rfl
              · rw [if_neg d2, if_neg d2]
                rfl
          have eg : f_X7_put (nI s) (nI i) x3 (mw M (208 + s) i (wrt (M 205 s) x3)) = some (0, mw (mw M (208 + s) i (wrt (M 205 s) x3)) 217 (30 * s + i) (wrt (M 205 s) x3)) := by
            unfold f_X7_put
            rw [e2, if_neg ne10, zck hs (by omega), zcl (show s < 2147483648 by omega), mw_c (show 215 ≠ 208 + s by omega), ← s1, if_neg c0, if_neg c1, zck hs (by omega), mw_c (show 216 ≠ 208 + s by omega), ← s2, if_pos c2, zck hs (by omega), zck hs (by omega), e30]
            have ew : (if M 205 s = 8 then some x3.toInt8.toInt32 else if M 205 s = 16 then some x3.toInt16.toInt32 else some x3) = some (wrt (M 205 s) x3) := by
              unfold wrt
              split
              · rfl
              · split <;> rfl
            rw [ew, bd_s, zck (by omega) (by omega), zcl (by omega), nm_d]
          refine ⟨0, _, _, ef, eg, inv_sh (M1 := mw M (208 + s) i (wrt (M 205 s) x3)) h (fun c g => mw_c (by omega)) (fun c j1 j2 => mw_c (by omega)) (fun t ht => ?_)⟩
          obtain ⟨u1, u2, u3, u4⟩ := h.2.2.2.2.2.1 t ht
          rw [mw_c (by decide), mw_c (show 205 ≠ 208 + s by omega), mw_c (by decide), mw_c (show 215 ≠ 208 + s by omega), mw_c (by decide), mw_c (show 206 ≠ 208 + s by omega), mw_c (by decide), mw_c (show 216 ≠ 208 + s by omega)]
          refine ⟨u1, u2, u3, fun j hj => ?_⟩
          rw [mw_c (show 208 + t ≠ 217 by omega)]
          by_cases d : t = s ∧ j = i
          · rw [d.1, d.2, mw_s, mw_s]
          · rw [mw_at, if_neg (by omega), mw_o (by omega), mw_c (show 217 ≠ 208 + s by omega)]
            exact u4 j hj
        · refine same_f0 h (z := -100001) ?_ (fun M' hM => ?_)
          · unfold f_X6_put
            rw [e1, if_neg ne10, miss_c hs, if_neg c0, bd_s, if_pos rfl, if_neg c1, zck hs (by omega), zcl (by omega), if_neg c2]
            rfl
          · unfold f_X7_put
            rw [e2, if_neg ne10, zck hs (by omega), zcl (by omega), hM 215 (by decide), ← s1, if_neg c0, if_neg c1, zck hs (by omega), hM 216 (by decide), ← s2, if_neg c2]
            rfl
  · refine same_f0 h (z := -100001) ?_ (fun M' hM => ?_)
    · unfold f_X6_put
      rw [e1, if_pos rfl]
      rfl
    · unfold f_X7_put
      rw [e2, if_pos rfl]
      rfl
