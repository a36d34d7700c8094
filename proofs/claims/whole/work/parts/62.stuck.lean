/-! PURE: stuckBeat of the class -/
theorem can_l {N : Nt} (hN : WP N) {b : Nat} {M : Mm} (hb : b < 12) (hH : Hp M) (hC : Ch 162 M N b) (hA : Row (186 + b) M (zr (A N b))) : ∀ (k n d : Nat), d + k = 2187 → k < n → (∀ t, t < d → ¬ (A N b t < 63 ∧ does N b t)) →
    (¬ cs N b ∧ L_X5_canStandAt_14 (nI b) M n (nI d) = some (.inl ())) ∨ (cs N b ∧ L_X5_canStandAt_14 (nI b) M n (nI d) = some (.inr (1, M)))
  | _, 0, _, _, h2, _ => by omega
  | 0, n + 1, d, h1, h2, h3 => by
    rw [L_X5_canStandAt_14, if_pos ((zleD (by omega)).mpr (by omega))]
    exact Or.inl ⟨fun ⟨t, g1, g2, g3⟩ => h3 t (by omega) ⟨g2, g3⟩, rfl⟩
  | k + 1, n + 1, d, h1, h2, h3 => by
    have hd : d < 2187 := by omega
    have hnext : ¬ (A N b d < 63 ∧ does N b d) → (¬ cs N b ∧ L_X5_canStandAt_14 (nI b) M n (nI (d + 1)) = some (.inl ())) ∨ (cs N b ∧ L_X5_canStandAt_14 (nI b) M n (nI (d + 1)) = some (.inr (1, M))) := fun g => can_l hN hb hH hC hA k n (d + 1) (by omega) (by omega) (fun t ht => by
      by_cases c : t = d
      · rw [c]
        exact g
      · exact h3 t (by omega))
    have e1 : M (186 + b) d = enc (A N b d, 0) := hA d hd
    have hA63 : A N b d ≤ 1000 := by
      rcases A_b (N := N) b d hd with h | h <;> omega
    rw [L_X5_canStandAt_14, if_neg (fun q => by have := (zleD (by omega)).mp q; omega), zck hb (by omega), zck hd (by omega), zcl (show b < 2147483648 by omega), zcl (show d < 2147483648 by omega), e1, nI_s]
    by_cases c : 63 ≤ A N b d
    · rw [if_pos ((enc_le (zr_E hA63)).mpr c)]
      exact hnext (fun g => by omega)
    · rw [if_neg (fun q => c ((enc_le (zr_E hA63)).mp q)), zck hd (by omega), hH d hd]
      rcases locksBy_c hN hb hd hC with ⟨hdo, y, hy, e⟩ | ⟨hdo, e⟩
      · rw [e, bd_s, if_neg (nI_nn (by have := hy.1; omega))]
        exact Or.inr ⟨⟨d, hd, by omega, hdo⟩, rfl⟩
      · rw [e, bd_s, if_pos (by decide)]
        exact hnext (fun g => hdo g.2)
theorem can_c {N : Nt} (hN : WP N) {b : Nat} {M : Mm} (hb : b < 12) (hP : RelP 3 M N) (hH : Hp M) (hA : Row (186 + b) M (zr (A N b))) : ∃ M', ((¬ cs N b ∧ f_X5_canStandAt (nI b) M = some (0, M')) ∨ (cs N b ∧ f_X5_canStandAt (nI b) M = some (1, M'))) ∧ Fc 162 M M' := by
  obtain ⟨M1, q1, q2, q3⟩ := read_c (a := 162) (a1 := 3) hN (by omega) hb hP
  unfold f_X5_canStandAt
  rw [q1, bd_s]
  have h := can_l hN hb (M := M1) (fun t ht => by rw [fc_c q3 (by omega)]; exact hH t ht) q2 (fun t ht => by rw [fc_c q3 (by omega)]; exact hA t ht) 2187 FU 0 (by omega) (by unfold FU; omega) (fun t ht => by omega)
  rw [nI_00] at h
  rcases h with ⟨h, e⟩ | ⟨h, e⟩
  · rw [e]
    exact ⟨M1, Or.inl ⟨h, rfl⟩, q3⟩
  · rw [e]
    exact ⟨M1, Or.inr ⟨h, rfl⟩, q3⟩
/-- but for arrival's reckoning and slots 13 and 17 of the way, M' is M -/
def FS (M M' : Mm) : Prop := ∀ c j, ¬ (162 ≤ c ∧ c ≤ 170) → ¬ (186 ≤ c ∧ c ≤ 202) → ¬ (c = 161 ∧ (j = 13 ∨ j = 17)) → M' c j = M c j
theorem fS_c {M M' : Mm} (h : FS M M') {c : Nat} (h1 : ¬ (162 ≤ c ∧ c ≤ 170)) (h2 : ¬ (186 ≤ c ∧ c ≤ 202)) (h3 : c ≠ 161) : M' c = M c := funext (fun j => h c j h1 h2 (fun q => h3 q.1))
theorem stb_l {N : Nt} (hN : WP N) : ∀ (u n s k : Nat) (M : Mm), s + u + 1 = pl N → u < n → RelP 3 M N → Hp M → M 161 17 = nI s → M 161 13 = oI ((k : Int) - 1) → k ≤ 12 → s < k → ArO N M k → (∀ b, b < s → cs N b) →
    ∃ (M' : Mm) (k' s' : Nat), L_X5_stuckBeat_17 n M = some M' ∧ M' 161 17 = nI s' ∧ stkP N s' ∧ M' 161 13 = oI ((k' : Int) - 1) ∧ k' ≤ 12 ∧ ArO N M' k' ∧ FS M M'
  | _, 0, _, _, _, _, h2, _, _, _, _, _, _, _, _ => by omega
  | 0, n + 1, s, k, M, h1, h2, h3, h4, h5, h6, h7, h8, h9, h10 => by
    obtain ⟨ep, p1, p2⟩ := wp_pl hN
    have e1 : nI (pl N) - (1 : Int32) = nI (pl N - 1) := zsu (a := pl N) (b := 1) (by omega)
    rw [L_X5_stuckBeat_17, h3.1, ep, e1, h5, if_pos ((zle (by omega) (by omega)).mpr (by omega))]
    exact ⟨M, k, s, rfl, h5, ⟨by omega, h10, Or.inl (by omega)⟩, h6, h7, h9, fun _ _ _ _ _ => rfl⟩
  | u + 1, n + 1, s, k, M, h1, h2, h3, h4, h5, h6, h7, h8, h9, h10 => by
    obtain ⟨ep, p1, p2⟩ := wp_pl hN
    have e1 : nI (pl N) - (1 : Int32) = nI (pl N - 1) := zsu (a := pl N) (b := 1) (by omega)
    rw [L_X5_stuckBeat_17, h3.1, ep, e1, h5, if_neg (fun q => by have := (zle (by omega) (by omega)).mp q; omega)]
    obtain ⟨M1, q1, q2⟩ := can_c hN (show s < 12 by omega) h3 h4 (h9 s h8)
    have e161 : M1 161 = M 161 := fc_c q2 (by omega)
    rcases q1 with ⟨q1, q3⟩ | ⟨q1, q3⟩
    · rw [q3, bd_s, if_pos rfl]
      refine ⟨M1, k, s, rfl, by rw [e161]; exact h5, ⟨by omega, h10, Or.inr q1⟩, by rw [e161]; exact h6, h7, aro_f h9 (fun c g1 g2 => fc_c q2 (by omega)) h7, fun c j g1 g2 g3 => by rw [fc_c q2 (by omega)]⟩
    · rw [q3, bd_s, if_neg (show ¬ (1 : Int32) = 0 by decide)]
      dsimp only
      rw [e161, h5, nI_s, nm_d, mw_s]
      have hF1 : ∀ c, ¬ (162 ≤ c ∧ c ≤ 170) → c ≠ 161 → mw M1 161 17 (nI (s + 1)) c = M c := fun c g1 g2 => by rw [mw_c g2, fc_c q2 (by omega)]
      obtain ⟨M2, r1, r2, r3, r4⟩ := make_c hN (t := s + 1) (k := k) (M := mw M1 161 17 (nI (s + 1))) (by omega) h7 (by rw [mw_o (by decide), e161]; exact h6) (relp_e h3 (fun c g1 g2 => hF1 c (by omega) (by omega))) (fun t ht => by rw [hF1 2 (by omega) (by omega)]; exact h4 t ht) (aro_f h9 (fun c g1 g2 => hF1 c (by omega) (by omega)) h7)
      rw [r1, bd_s]
      obtain ⟨M3, k', s', s1, s2, s3, s4, s5, s6, s7⟩ := stb_l hN u n (s + 1) (max k (s + 1 + 1)) M2 (by omega) (by omega) (relp_e h3 (fun c g1 g2 => by rw [fA_c r4 (by omega) (by omega) (by omega), hF1 c (by omega) (by omega)])) (fun t ht => by rw [fA_c r4 (by omega) (by omega) (by omega), hF1 2 (by omega) (by omega)]; exact h4 t ht) (by rw [r4 161 17 (by omega) (by omega) (by omega), mw_s]) r2 (by omega) (by omega) r3 (fun b hb => by
        by_cases c : b = s
        · rw [c]
          exact q1
        · exact h10 b (by omega))
      refine ⟨M3, k', s', s1, s2, s3, s4, s5, s6, fun c j g1 g2 g3 => ?_⟩
      rw [s7 c j g1 g2 g3, r4 c j g1 g2 (fun q => g3 ⟨q.1, Or.inl q.2⟩), mw_at, if_neg (fun q => g3 ⟨q.1, Or.inr q.2⟩), fc_c q2 (by omega)]
theorem stuckBeat_c {N : Nt} (hN : WP N) {M : Mm} (hP : RelP 3 M N) (hH : Hp M) (hW : WI N M) : ∃ M' s, f_X5_stuckBeat M = some (nI s, M') ∧ stkP N s ∧ WI N M' ∧ FW M M' := by
  obtain ⟨ep, p1, p2⟩ := wp_pl hN
  obtain ⟨o, k, o1, hk1, w12, wO, w13, wA, w14, w16⟩ := hW
  unfold f_X5_stuckBeat
  by_cases c : M 161 16 = 0
  · rw [if_pos c, nm_d]
    have hF1 : ∀ c, c ≠ 161 → mw M 161 17 (0 : Int32) c = M c := fun c g => mw_c g
    obtain ⟨M2, r1, r2, r3, r4⟩ := make_c hN (t := 0) (k := k) (M := mw M 161 17 (0 : Int32)) (by omega) hk1 (by rw [mw_o (by decide)]; exact w13) (relp_e hP (fun c g1 g2 => hF1 c (by omega))) (fun t ht => by rw [hF1 2 (by omega)]; exact hH t ht) (aro_f wA (fun c g1 g2 => hF1 c (by omega)) hk1)
    rw [nI_00] at r1
    rw [r1, bd_s]
    obtain ⟨M3, k', s', s1, s2, s3, s4, s5, s6, s7⟩ := stb_l hN (pl N - 1) FU 0 (max k (0 + 1)) M2 (by omega) (by unfold FU; omega) (relp_e hP (fun c g1 g2 => by rw [fA_c r4 (by omega) (by omega) (by omega), hF1 c (by omega)])) (fun t ht => by rw [fA_c r4 (by omega) (by omega) (by omega), hF1 2 (by omega)]; exact hH t ht) (by rw [r4 161 17 (by omega) (by omega) (by omega), mw_s]; rfl) r2 (by omega) (by omega) r3 (fun b hb => by omega)
    rw [s1, bd_s, nm_d, mw_o (by decide), s2]
    have h161 : ∀ j, j ≠ 13 → j ≠ 17 → j ≠ 16 → mw M3 161 16 1 161 j = M 161 j := fun j g1 g2 g3 => by
      rw [mw_o g3, s7 161 j (by omega) (by omega) (by omega), r4 161 j (by omega) (by omega) (by omega), mw_o g2]
    have hcell : ∀ c, ¬ (162 ≤ c ∧ c ≤ 170) → ¬ (186 ≤ c ∧ c ≤ 202) → c ≠ 161 → mw M3 161 16 1 c = M c := fun c g1 g2 g3 => by
      rw [mw_c g3, fS_c s7 g1 g2 g3, fA_c r4 g1 g2 g3, hF1 c g3]
    refine ⟨_, s', rfl, s3, ⟨o, k', o1, s5, ?_, ono_f wO (fun c g1 g2 => hcell c (by omega) (by omega) (by omega)) p2, ?_, aro_f s6 (fun c g1 g2 => mw_c (by omega)) s5, ?_, Or.inr ⟨s', ?_, s3⟩⟩, fun c g => hcell c (by omega) (by omega) (by omega)⟩
    · rw [h161 12 (by decide) (by decide) (by decide)]
      exact w12
    · rw [mw_o (by decide)]
      exact s4
    · rcases w14 with w14 | ⟨w14, w15, w15'⟩
      · left
        rw [h161 14 (by decide) (by decide) (by decide)]
        exact w14
      · right
        refine ⟨w14, ?_, fun hB => ?_⟩
        · rw [h161 15 (by decide) (by decide) (by decide)]
          exact w15
        · obtain ⟨w, i1, i2⟩ := w15' hB
          exact ⟨w, i1, fun i hi => by rw [hcell 203 (by omega) (by omega) (by omega)]; exact i2 i hi⟩
    · rw [mw_o (by decide)]
      exact s2
  · rw [if_neg c]
    rcases w16 with w16 | ⟨s, w17, w18⟩
    · exact absurd w16 c
    · rw [w17]
      exact ⟨M, s, rfl, w18, ⟨o, k, o1, hk1, w12, wO, w13, wA, w14, Or.inr ⟨s, w17, w18⟩⟩, fun _ _ => rfl⟩
