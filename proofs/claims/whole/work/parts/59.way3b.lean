theorem trace_c {N : Nt} (hN : WP N) {M : Mm} (hP : RelP 3 M N) (hH : Hp M) (hO : OnO N M 0) (hA : Row 186 M (zr (A N 0))) (hb : M 161 15 = enc (BP N)) (hB : (BP N).1 < 63) : ∃ M', f_X5_trace M = some M' ∧ (∃ w, isW N w ∧ ∀ i, i < pl N → M' 203 i = nI (w i)) ∧ Fp M M' := by
  obtain ⟨ep, p1, p2⟩ := wp_pl hN
  have hV := (hO 0 (Nat.le_refl 0) (by omega)).1
  obtain ⟨t, ht, et⟩ := bsn_at (tp N) 2187 (by rw [← BP_d]; exact hB)
  rw [← BP_d] at et
  obtain ⟨r, q1, q2⟩ := tr_2 hN hA hV hb (BP_E hN).1 ht et 2187 FU 0 (by omega) (by unfold FU; omega) (by omega) (fun s hs => by omega)
  rw [nI_00] at q1
  have hr : lst (fun d => d < 2187 ∧ tot N d = bst N) r := ⟨⟨q2.1.1, (first_e hN hB q2.1.1).mpr q2.1.2⟩, fun e he => q2.2 e ⟨he.1, (first_e hN hB he.1).mp he.2⟩⟩
  have e0 : (0 : Int32).toNatClampNeg = 0 := rfl
  have hF : Fp M (mw M 203 0 (nI r)) := fun c j1 j2 j3 j4 => mw_c j4
  obtain ⟨M2, s1, s2, s3⟩ := tr_51 hN (pl N - 1) FU 0 (mw M 203 0 (nI r)) (by omega) (by unfold FU; omega) (relp_e hP (fun c j1 j2 => hF c (by omega) (by omega) (by omega) (by omega))) (fun t ht => by rw [hF 2 (by omega) (by omega) (by omega) (by omega)]; exact hH t ht) (fun t j1 j2 => by
      obtain ⟨k1, k2⟩ := hO t j1 j2
      refine ⟨fun d hd => ?_, ?_⟩
      · rw [hF _ (by omega) (by omega) (by omega) (by omega)]
        exact k1 d hd
      · rw [hF _ (by omega) (by omega) (by omega) (by omega)]
        exact k2) (by
      refine ⟨fun _ => r, fun i hi => ?_, hr, fun i hi => by omega, q2.1.1, ?_⟩
      · rw [show i = 0 by omega, mw_s]
      · have h9 := q2.1.2
        rw [tp_V] at h9
        have h8 : (VB N 0 r).1 + A N 0 r = (BP N).1 := h9
        show (VB N 0 r).1 < 63
        omega)
  rw [show nI (0 + 1) = (1 : Int32) from rfl] at s1
  unfold f_X5_trace
  rw [q1, bd_s, ck_t (by decide), e0, nm_d, s1, bd_s]
  exact ⟨M2, rfl, s2, fun c j1 j2 j3 j4 => (s3 c j1 j2 j3 j4).trans (hF c j1 j2 j3 j4)⟩
