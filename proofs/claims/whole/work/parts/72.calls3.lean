/-! PURE: calls: split, hard, without, of, as -/
theorem same_split {M : Mm} (h : Inv M) (x1 x2 : Int32) : Same (f_X6_split x1 x2) (f_X7_split x1 x2) M := by
  rcases beat_i x1 with ⟨b, hb, rfl, e1, e2⟩ | ⟨e1, e2⟩
  · rcases dia_i x2 with ⟨d, hd, rfl, e3, e4⟩ | ⟨e3, e4⟩
    · obtain ⟨M1, q1, q2, q3, q4, q5⟩ := desk_r h hb
      have e213 : M1 213 = M 213 := fc_c q3 (by omega)
      rcases locksBy_c h.2.1 hb hd q2 with ⟨hdo, y, hy, e⟩ | ⟨hdo, e⟩
      · obtain ⟨M2, s1, s2⟩ := split_c h.2.1 hb hd q2
        have c1 : ∀ c, ¬ (152 ≤ c ∧ c ≤ 203) → M2 c = M c := fun c g => by rw [s2 c (by omega) (by omega), fc_c q3 (by omega)]
        have hw : WI (M 213) M2 := wi_e q4 (wp_pl h.2.1).2.2 (fun c g1 g2 => s2 c (by omega) (by omega))
        have ec : f_X6_split (nI b) (nI d) M = (if 0 ≤ spl (M 213) b d then some (spl (M 213) b d, M2) else some (f_X6_finding (-100006) M2)) := by
          unfold f_X6_split
          rw [e1, if_neg ne10, e3, if_neg ne10, q1, bd_s, zck hd (by omega), zcl (by omega), nm_d, q5 d hd, e, bd_s, if_pos (znn (show y < 2147483648 by have := hy.1; omega)), s1, bd_s]
          rfl
        have em : ∀ M' : Mm, M' 213 = M 213 → ∃ M3, f_X7_split (nI b) (nI d) M' = (if 0 ≤ spl (M 213) b d then some (spl (M 213) b d, M3) else some (f_X7_finding (-100006) M3)) ∧ ∀ c j, c < 218 → ¬ (c = 212 ∧ j = 11) → M3 c j = M' c j := fun M' hM => by
          obtain ⟨M3, t1, t2⟩ := split_m h.2.1 hb hd hM
          refine ⟨M3, ?_, fun c j g1 g2 => by rw [t2 c (by omega) (by omega)]⟩
          unfold f_X7_split
          rw [e2, if_neg ne10, e4, if_neg ne10, does_m' h hM hb hd, bd_s, yes_t hdo, if_neg ne10, t1, bd_s]
          rfl
        by_cases c : 0 ≤ spl (M 213) b d
        · rw [if_pos c] at ec
          obtain ⟨M3, t1, t2⟩ := em M2 (by rw [s2 213 (by omega) (by omega), e213])
          rw [if_pos c] at t1
          exact same_r h ec c1 hw t1 t2
        · rw [if_neg c] at ec
          obtain ⟨M3, t1, t2⟩ := em (mw M2 0 6 (M2 0 6 + 1)) (by rw [mw_c (by decide), s2 213 (by omega) (by omega), e213])
          rw [if_neg c] at t1
          exact same_f h ec c1 hw t1 t2
      · refine same_f h (z := -100004) (M1 := M1) (M2 := mw M1 0 6 (M1 0 6 + 1)) ?_ (fun c g => fc_c q3 (by omega)) q4 ?_ (fun _ _ _ _ => rfl)
        · unfold f_X6_split
          rw [e1, if_neg ne10, e3, if_neg ne10, q1, bd_s, zck hd (by omega), zcl (by omega), nm_d, q5 d hd, e, bd_s, if_neg (by decide)]
          rfl
        · unfold f_X7_split
          rw [e2, if_neg ne10, e4, if_neg ne10, does_m' h (by rw [mw_c (by decide), e213]) hb hd, bd_s, yes_f hdo, if_pos rfl]
          rfl
    · refine same_f0 h (z := -100001) ?_ (fun M' _ => ?_)
      · unfold f_X6_split
        rw [e1, if_neg ne10, e3, if_pos rfl]
        rfl
      · unfold f_X7_split
        rw [e2, if_neg ne10, e4, if_pos rfl]
        rfl
  · refine same_f0 h (z := -100001) ?_ (fun M' _ => ?_)
    · unfold f_X6_split
      rw [e1, if_pos rfl]
      rfl
    · unfold f_X7_split
      rw [e2, if_pos rfl]
      rfl
/-- the first beat from b on that has no split -/
noncomputable def hrd (N : Nt) (w : Nat → Nat) : Nat → Nat → Int32
  | 0, _ => -1
  | u + 1, b => haveI := Classical.propDecidable (0 ≤ spl N b (w b)); if 0 ≤ spl N b (w b) then hrd N w u (b + 1) else nI b
theorem hard_l {N : Nt} (hN : WP N) {w : Nat → Nat} (hl : ∀ i, i < pl N → w i < 2187) : ∀ (u n b : Nat) (M : Mm), b + u = pl N → u < n → RelP 3 M N → Hp M → (∀ i, i < pl N → M 203 i = nI (w i)) →
    ∃ M', Option.bind (L_X6_hard_19 n (nI b) M) (fun q_6 => Sum.elim (fun w_13 => some ((-1 : Int32), w_13)) (fun r => some r) q_6) = some (hrd N w u b, M') ∧ ∀ c, ¬ (152 ≤ c ∧ c ≤ 160) → M' c = M c
  | _, 0, _, _, _, h2, _, _, _ => by omega
  | 0, n + 1, b, M, h1, h2, h3, h4, h5 => by
    obtain ⟨ep, p1, p2⟩ := wp_pl hN
    rw [L_X6_hard_19, h3.1, ep, if_pos ((zle (by omega) (by omega)).mpr (by omega))]
    exact ⟨M, rfl, fun _ _ => rfl⟩
  | u + 1, n + 1, b, M, h1, h2, h3, h4, h5 => by
    obtain ⟨ep, p1, p2⟩ := wp_pl hN
    have hwb := hl b (by omega)
    obtain ⟨M1, q1, q2, q3⟩ := read_c (a := 152) (a1 := 3) hN (by omega) (show b < 12 by omega) h3
    have e203 : M1 203 b = nI (w b) := by rw [fc_c q3 (by omega)]; exact h5 b (by omega)
    have e2 : M1 2 (w b) = nI (sB (w b)) := by rw [fc_c q3 (by omega)]; exact h4 _ hwb
    obtain ⟨M2, s1, s2⟩ := split_c hN (show b < 12 by omega) hwb q2
    have hF : ∀ c, ¬ (152 ≤ c ∧ c ≤ 160) → M2 c = M c := fun c g => by rw [s2 c (by omega) (by omega), fc_c q3 (by omega)]
    rw [L_X6_hard_19, h3.1, ep, if_neg (fun q => by have := (zle (by omega) (by omega)).mp q; omega), q1, bd_s, zck (by omega) (by omega), zcl (show b < 2147483648 by omega), e203, zck hwb (by omega), zcl (by omega), e2, s1, bd_s, nI_s]
    dsimp only
    by_cases c : 0 ≤ spl N b (w b)
    · obtain ⟨M3, r1, r2⟩ := hard_l hN hl u n (b + 1) M2 (by omega) (by omega) (relp_e h3 (fun c g1 g2 => hF c (by omega))) (fun t ht => by rw [hF 2 (by omega)]; exact h4 t ht) (fun i hi => by rw [hF 203 (by omega)]; exact h5 i hi)
      rw [if_pos c]
      have e9 : hrd N w (u + 1) b = hrd N w u (b + 1) := by rw [hrd, if_pos c]
      rw [e9]
      exact ⟨M3, r1, fun c g => by rw [r2 c g, hF c g]⟩
    · rw [if_neg c]
      have e9 : hrd N w (u + 1) b = nI b := by rw [hrd, if_neg c]
      rw [e9]
      exact ⟨M2, rfl, hF⟩
theorem hard_m {N : Nt} (hN : WP N) {w : Nat → Nat} (hl : ∀ i, i < pl N → w i < 2187) : ∀ (u n b : Nat) (M : Mm), b + u = pl N → u < n → M 213 = N → (∀ i, i < pl N → M 222 i = nI (w i)) →
    ∃ M', Option.bind (L_X7_hard_18 n (nI b) M) (fun q_6 => Sum.elim (fun w_13 => some ((-1 : Int32), w_13)) (fun r => some r) q_6) = some (hrd N w u b, M') ∧ ∀ c, c ≠ 225 → c ≠ 226 → M' c = M c
  | _, 0, _, _, _, h2, _, _ => by omega
  | 0, n + 1, b, M, h1, h2, h3, h4 => by
    obtain ⟨ep, p1, p2⟩ := wp_pl hN
    have e0 : M 213 (0 : Int32).toNatClampNeg = nI (pl N) := by rw [h3]; exact ep
    rw [L_X7_hard_18, ck_t (by decide), e0, if_pos ((zle (by omega) (by omega)).mpr (by omega))]
    exact ⟨M, rfl, fun _ _ _ => rfl⟩
  | u + 1, n + 1, b, M, h1, h2, h3, h4 => by
    obtain ⟨ep, p1, p2⟩ := wp_pl hN
    have e0 : M 213 (0 : Int32).toNatClampNeg = nI (pl N) := by rw [h3]; exact ep
    have hwb := hl b (by omega)
    obtain ⟨M2, s1, s2⟩ := split_m hN (show b < 12 by omega) hwb h3
    rw [L_X7_hard_18, ck_t (by decide), e0, if_neg (fun q => by have := (zle (by omega) (by omega)).mp q; omega), zck (by omega) (by omega), zcl (by omega), h4 b (by omega), s1, bd_s, nI_s]
    dsimp only
    by_cases c : 0 ≤ spl N b (w b)
    · obtain ⟨M3, r1, r2⟩ := hard_m hN hl u n (b + 1) M2 (by omega) (by omega) (by rw [s2 213 (by decide) (by decide)]; exact h3) (fun i hi => by rw [s2 222 (by decide) (by decide)]; exact h4 i hi)
      rw [if_pos c]
      have e9 : hrd N w (u + 1) b = hrd N w u (b + 1) := by rw [hrd, if_pos c]
      rw [e9]
      exact ⟨M3, r1, fun c g1 g2 => by rw [r2 c g1 g2, s2 c g1 g2]⟩
    · rw [if_neg c]
      have e9 : hrd N w (u + 1) b = nI b := by rw [hrd, if_neg c]
      rw [e9]
      exact ⟨M2, rfl, s2⟩
theorem same_hard {M : Mm} (h : Inv M) : Same f_X6_hard f_X7_hard M := by
  obtain ⟨ep, p1, p2⟩ := wp_pl h.2.1
  obtain ⟨M1, q1, q2, q3, q4, q5, q6, q7, q8⟩ := ex_N h
  by_cases c : (BP (M 213)).1 < 63
  · obtain ⟨w, w1, w2⟩ := q4.2 c
    have hl := fun i hi => isW_lt w1 i hi
    obtain ⟨M2, s1, s2⟩ := hard_l h.2.1 hl (pl (M 213)) FU 0 M1 (by omega) (by unfold FU; omega) q7 q6 w2
    rw [nI_00] at s1
    have e213 : M2 213 = M 213 := by rw [s2 213 (by omega), q8]
    obtain ⟨M3, r1, r2, r3⟩ := way_N h.2.1 e213
    obtain ⟨w', w3, w4⟩ := r2 c
    have e213' : M3 213 = M 213 := by
      have : M3 213 = M2 213 := funext (fun j => r3 213 j (by decide) (by decide) (by decide) (by decide) (by decide) (fun q => absurd q.1 (by decide)))
      rw [this, e213]
    obtain ⟨M4, t1, t2⟩ := hard_m h.2.1 hl (pl (M 213)) FU 0 M3 (by omega) (by unfold FU; omega) e213' (fun i hi => by rw [w4 i hi, isW_u w3 w1 i hi])
    rw [nI_00] at t1
    refine same_r h (M1 := M2) (M2 := M4) (r := hrd (M 213) w (pl (M 213)) 0) ?_ (fun c g => by rw [s2 c (by omega), q5 c g]) (wi_e q2 p2 (fun c g1 g2 => s2 c (by omega))) ?_ (fun c j g1 g2 => by rw [t2 c (by omega) (by omega)]; exact fy_rd r3 c j g1 g2)
    · unfold f_X6_hard
      rw [q1, bd_s, exi_t c, if_neg ne10]
      exact s1
    · unfold f_X7_hard
      rw [r1, bd_s]
      dsimp only
      rw [if_neg (far_f c)]
      exact t1
  · obtain ⟨M2, r1, r2, r3⟩ := way_N (M := mw M1 0 6 (M1 0 6 + 1)) h.2.1 (by rw [mw_c (by decide)]; exact q8)
    refine same_f h (z := -100006) (M1 := M1) (M2 := M2) ?_ q5 q2 ?_ (fy_rd r3)
    · unfold f_X6_hard
      rw [q1, bd_s, exi_f c, if_pos rfl]
      rfl
    · unfold f_X7_hard
      rw [r1, bd_s]
      dsimp only
      rw [if_pos (far_t h.2.1 c)]
      rfl
theorem same_without {M : Mm} (h : Inv M) (x1 x2 : Int32) : Same (f_X6_without x1 x2) (f_X7_without x1 x2) M := by
  obtain ⟨ep, p1, p2⟩ := wp_pl h.2.1
  rcases beat_i x1 with ⟨b, hb, rfl, e1, e2⟩ | ⟨e1, e2⟩
  · rcases ped_i x2 with ⟨p, hp, rfl, e3, e4⟩ | ⟨e3, e4⟩
    · have hm := h.2.1.2.2.2.1 b p hb hp
      have ea : nI b * (7 : Int32) + nI p = nI (b * 7 + p) := by rw [lit_, zmu, zad]
      have eb : (229 : Int32) + (7 : Int32) * nI b + nI p = nI (229 + 7 * b + p) := by rw [show (229 : Int32) = nI 229 from rfl, show (7 : Int32) = nI 7 from rfl, zmu, zad, zad]
      have em : M 213 (229 + 7 * b + p) = oI (mk (M 213) b p) := (oI_x _).symm
      have ec : M 8 (b * 7 + p) = oI (mk (M 213) b p) := by
        rw [Nat.mul_comm]
        exact (h.2.2.1.2.2.2.1 b p hb hp).trans em
      by_cases cm : 0 ≤ mk (M 213) b p
      · obtain ⟨M1, q1, q2, q3, q4, q5, q6, q7, q8⟩ := ex_N h
        by_cases c : (BP (M 213)).1 < 63
        · obtain ⟨M2, s1, s2, s3⟩ := spared_c h.2.1 hb hp q7 q6 q2 q4 q3 c
          have e213 : M2 213 = M 213 := by rw [s3 213 (by omega), q8]
          obtain ⟨M3, t1, t2⟩ := tell_N h.2.1 e213
          have e213' : M3 213 = M 213 := (fm_c t2 (by decide) (by decide) (by decide) (by decide) (by decide)).trans e213
          have eN : mw M3 213 (229 + 7 * b + p) (oI (-1)) 213 = noM (M 213) b p := by
            rw [mw_pt, e213']
            rfl
          obtain ⟨M4, u1, u2⟩ := tell_N (noM_WP h.2.1 hb hp) eN
          have hlt : (BP (noM (M 213) b p)).1 < 63 := by
            by_cases c3 : b < pl (M 213)
            · have := noM_le h.2.1 c3 hp c
              omega
            · rw [noM_far h.2.1 hb hp (by omega)]
              exact c
          have e4213 : M4 213 = noM (M 213) b p := (fm_c u2 (by decide) (by decide) (by decide) (by decide) (by decide)).trans eN
          refine same_r h (r := nI (BP (M 213)).1 - nI (BP (noM (M 213) b p)).1) (M1 := M2) (M2 := mw M4 213 (229 + 7 * b + p) (oI (mk (M 213) b p))) ?_ (fun c g => by rw [s3 c (by omega), q5 c g]) s2 ?_ (fun cc j g1 g2 => ?_)
          · unfold f_X6_without
            rw [e1, if_neg ne10, e3, if_neg ne10, ea, zck (by omega) (by omega), zcl (by omega), ec, if_pos (znn0 cm (by omega)), q1, bd_s, exi_t c, if_neg ne10]
            dsimp only
            rw [s1, bd_s]
          · unfold f_X7_without
            rw [e2, if_neg ne10, e4, if_neg ne10, nm_d, eb, zck (by omega) (by omega), zcl (by omega), nm_d, e213, em, if_pos (znn0 cm (by omega)), t1, bd_s]
            dsimp only
            rw [if_neg (far_f c), zck (by omega) (by omega), nm_d, show (-1 : Int32) = oI (-1) from rfl, u1, bd_s]
            dsimp only
            rw [nm_d, zck (by omega) (by omega), nm_d, eC_f c, eC_f hlt]
          · by_cases c3 : cc = 213
            · rw [c3, mw_pt, e4213, e213]
              unfold pt noM
              by_cases c4 : j = 229 + 7 * b + p
              · rw [if_pos c4, c4, em]
              · rw [if_neg c4, if_neg c4]
            · rw [mw_c c3, fm_rd u2 cc j g1 g2, mw_c c3, fm_rd t2 cc j g1 g2]
        · have e9 : mw M1 0 6 (M1 0 6 + 1) 213 = M 213 := by rw [mw_c (by decide)]; exact q8
          obtain ⟨M3, t1, t2⟩ := tell_N h.2.1 e9
          refine same_f h (z := -100006) (M1 := M1) (M2 := M3) ?_ q5 q2 ?_ (fm_rd t2)
          · unfold f_X6_without
            rw [e1, if_neg ne10, e3, if_neg ne10, ea, zck (by omega) (by omega), zcl (by omega), ec, if_pos (znn0 cm (by omega)), q1, bd_s, exi_f c, if_pos rfl]
            rfl
          · unfold f_X7_without
            rw [e2, if_neg ne10, e4, if_neg ne10, nm_d, eb, zck (by omega) (by omega), zcl (by omega), nm_d, e9, em, if_pos (znn0 cm (by omega)), t1, bd_s]
            dsimp only
            rw [if_pos (far_t h.2.1 c)]
            rfl
      · refine same_f0 h (z := -100004) ?_ (fun M' hM => ?_)
        · unfold f_X6_without
          rw [e1, if_neg ne10, e3, if_neg ne10, ea, zck (by omega) (by omega), zcl (by omega), ec, if_neg (zng (by omega) (by omega))]
          rfl
        · unfold f_X7_without
          rw [e2, if_neg ne10, e4, if_neg ne10, nm_d, eb, zck (by omega) (by omega), zcl (by omega), nm_d, hM 213 (by decide), em, if_neg (zng (by omega) (by omega))]
          rfl
    · refine same_f0 h (z := -100001) ?_ (fun M' _ => ?_)
      · unfold f_X6_without
        rw [e1, if_neg ne10, e3, if_pos rfl]
        rfl
      · unfold f_X7_without
        rw [e2, if_neg ne10, e4, if_pos rfl]
        rfl
  · refine same_f0 h (z := -100001) ?_ (fun M' _ => ?_)
    · unfold f_X6_without
      rw [e1, if_pos rfl]
      rfl
    · unfold f_X7_without
      rw [e2, if_pos rfl]
      rfl
