/-! PURE: exists of the class, at last -/
theorem jmin_n {a b : Nat} (ha : a < 2147483648) (hb : b < 2147483648) : jmin (nI a) (nI b) = nI (min a b) := by
  unfold jmin
  by_cases c : b < a
  · rw [if_pos ((zlt hb ha).mpr c), Nat.min_eq_right (by omega)]
  · rw [if_neg (fun q => c ((zlt hb ha).mp q)), Nat.min_eq_left (by omega)]
theorem ono_f {N : Nt} {M M' : Mm} {o : Nat} (h : OnO N M o) (e : ∀ c, 172 ≤ c → c ≤ 184 → M' c = M c) (hp : pl N ≤ 12) : OnO N M' o := fun b h1 h2 => by
  obtain ⟨g1, g2⟩ := h b h1 h2
  refine ⟨fun d hd => ?_, ?_⟩
  · rw [e _ (by omega) (by omega)]
    exact g1 d hd
  · rw [e _ (by omega) (by omega)]
    exact g2
theorem aro_f {N : Nt} {M M' : Mm} {k : Nat} (h : ArO N M k) (e : ∀ c, 186 ≤ c → c ≤ 197 → M' c = M c) (hk : k ≤ 12) : ArO N M' k := fun b h1 d hd => by
  rw [e _ (by omega) (by omega)]
  exact h b h1 d hd
/-- solved: 1 where there is a way -/
noncomputable def exi (N : Nt) : Int32 := if (BP N).1 < 63 then 1 else 0
theorem exists_c {N : Nt} (hN : WP N) {M : Mm} (hP : RelP 3 M N) (hH : Hp M) (hW : WI N M) : ∃ M', f_X5_exists M = some (exi N, M') ∧ WI N M' ∧ M' 161 12 = nI 0 ∧ OnO N M' 0 ∧ SolO N M' ∧ FW M M' := by
  obtain ⟨ep, p1, p2⟩ := wp_pl hN
  obtain ⟨o, k, o1, k1, w12, wO, w13, wA, w14, w16⟩ := hW
  obtain ⟨bE, b63⟩ := BP_E hN
  have hend : ∀ M1 : Mm, WI N M1 → M1 161 12 = nI 0 → OnO N M1 0 → SolO N M1 → FW M M1 → ∃ M', Option.bind (some M1) (fun q_46 => if (66060288 : Int32) ≤ (q_46 161 15) then (some ((0 : Int32), q_46)) else (some ((1 : Int32), q_46))) = some (exi N, M') ∧ WI N M' ∧ M' 161 12 = nI 0 ∧ OnO N M' 0 ∧ SolO N M' ∧ FW M M' := fun M1 g1 g2 g3 g4 g5 => by
    rw [bd_s, g4.1]
    unfold exi
    by_cases c : (BP N).1 < 63
    · rw [if_neg (fun q => by have := (enc_le bE).mp q; omega), if_pos c]
      exact ⟨M1, rfl, g1, g2, g3, g4, g5⟩
    · rw [if_pos ((enc_le bE).mpr (by omega)), if_neg c]
      exact ⟨M1, rfl, g1, g2, g3, g4, g5⟩
  unfold f_X5_exists
  by_cases c14 : M 161 14 = 0
  · rw [if_pos c14, w12, hP.1, ep, jmin_n (by omega) (by omega)]
    have e1 : nI (min o (pl N)) - (1 : Int32) = oI (((min o (pl N) : Nat) : Int) - 1) := by rw [show (1 : Int32) = oI 1 from rfl, oI_n, oI_sub]
    rw [e1, nm_d]
    obtain ⟨M1, q1, q2, q3⟩ := ex_l hN (min o (pl N)) FU M (by omega) (by unfold FU; omega) hP hH (fun b h1 h2 => wO b (by omega) h2)
    rw [q1, bd_s, nm_d]
    have hF1 : ∀ c, ¬ (162 ≤ c ∧ c ≤ 184) → ¬ (199 ≤ c ∧ c ≤ 202) → c ≠ 161 → mw M1 161 12 (0 : Int32) c = M c := fun c g1 g2 g3 => by rw [mw_c g3, q3 c g1 g2]
    have e161 : M1 161 = M 161 := q3 161 (by omega) (by omega)
    obtain ⟨M2, r1, r2, r3, r4⟩ := make_c hN (t := 0) (k := k) (M := mw M1 161 12 (0 : Int32)) (by omega) k1 (by rw [mw_o (by decide), e161]; exact w13) (relp_e hP (fun c g1 g2 => hF1 c (by omega) (by omega) (by omega))) (fun t ht => by rw [hF1 2 (by omega) (by omega) (by omega)]; exact hH t ht) (aro_f wA (fun c g1 g2 => hF1 c (by omega) (by omega) (by omega)) k1)
    have hO2 : OnO N M2 0 := ono_f q2 (fun c g1 g2 => by rw [fA_c r4 (by omega) (by omega) (by omega), mw_c (by omega)]) p2
    have hA2 : Row 186 M2 (zr (A N 0)) := r3 0 (by omega)
    have hV2 : Row 172 M2 (VB N 0) := (hO2 0 (Nat.le_refl 0) (by omega)).1
    rw [nI_00] at r1
    have e0 : 186 + (0 : Int32).toNatClampNeg = 186 := rfl
    have e00 : 172 + (0 : Int32).toNatClampNeg = 172 := rfl
    obtain ⟨s1, s2⟩ := bestOf_c hA2 hV2 (fun d hd => by have h9 : A N 0 d = 63 ∨ A N 0 d ≤ 2 := ahd_b N d; omega) (show 26 ≤ 40 by omega) (VB_ok hN)
    have s1' : f_X5_bestOf 186 172 M2 = some (enc (BP N)) := by
      rw [s1, BP_f]
    rw [r1, bd_s, ck_t (by decide), ck_t (by decide), e0, e00, s1', bd_s, nm_d, mw_s]
    have h12 : M2 161 12 = nI 0 := by rw [r4 161 12 (by omega) (by omega) (by omega), mw_s]; rfl
    have h16 : M2 161 16 = M 161 16 := by rw [r4 161 16 (by omega) (by omega) (by omega), mw_o (by decide), e161]
    have h17 : M2 161 17 = M 161 17 := by rw [r4 161 17 (by omega) (by omega) (by omega), mw_o (by decide), e161]
    have hF2 : ∀ c, ¬ (161 ≤ c ∧ c ≤ 203) → M2 c = M c := fun c g => by rw [fA_c r4 (by omega) (by omega) (by omega), hF1 c (by omega) (by omega) (by omega)]
    have hfin : ∀ M3 : Mm, (∀ c, ¬ (162 ≤ c ∧ c ≤ 170) → c ≠ 201 → c ≠ 202 → c ≠ 203 → M3 c = mw M2 161 15 (enc (BP N)) c) → ((BP N).1 < 63 → ∃ w, isW N w ∧ ∀ i, i < pl N → M3 203 i = nI (w i)) → WI N (mw M3 161 14 1) ∧ mw M3 161 14 1 161 12 = nI 0 ∧ OnO N (mw M3 161 14 1) 0 ∧ SolO N (mw M3 161 14 1) ∧ FW M (mw M3 161 14 1) := fun M3 g1 g2 => by
      have e3 : M3 161 = mw M2 161 15 (enc (BP N)) 161 := g1 161 (by omega) (by omega) (by omega) (by omega)
      have hO3 : OnO N (mw M3 161 14 1) 0 := ono_f hO2 (fun c i1 i2 => by rw [mw_c (by omega), g1 c (by omega) (by omega) (by omega) (by omega), mw_c (by omega)]) p2
      have hS3 : SolO N (mw M3 161 14 1) := by
        refine ⟨?_, fun hB => ?_⟩
        · rw [mw_o (by decide), e3, mw_s]
        · obtain ⟨w, i1, i2⟩ := g2 hB
          exact ⟨w, i1, fun i hi => by rw [mw_c (by decide)]; exact i2 i hi⟩
      have h12' : mw M3 161 14 1 161 12 = nI 0 := by rw [mw_o (by decide), e3, mw_o (by decide)]; exact h12
      refine ⟨⟨0, max k 1, by omega, by omega, h12', hO3, ?_, ?_, Or.inr ⟨rfl, hS3⟩, ?_⟩, h12', hO3, hS3, fun c g => ?_⟩
      · rw [mw_o (by decide), e3, mw_o (by decide)]
        exact r2
      · exact aro_f r3 (fun c i1 i2 => by rw [mw_c (by omega), g1 c (by omega) (by omega) (by omega) (by omega), mw_c (by omega)]) (by omega)
      · rw [mw_o (by decide), mw_o (by decide), e3, mw_o (by decide), mw_o (by decide), h16, h17]
        exact w16
      · rw [mw_c (by omega), g1 c (by omega) (by omega) (by omega) (by omega), mw_c (by omega), hF2 c g]
    by_cases cB : (BP N).1 < 63
    · rw [if_neg (fun q => by have := (enc_le bE).mp q; omega)]
      obtain ⟨M3, t1, t2, t3⟩ := trace_c hN (M := mw M2 161 15 (enc (BP N))) (relp_e hP (fun c g1 g2 => by rw [mw_c (by omega), hF2 c (by omega)])) (fun t ht => by rw [mw_c (by omega), hF2 2 (by omega)]; exact hH t ht) (ono_f hO2 (fun c i1 i2 => mw_c (by omega)) p2) (fun t ht => by rw [mw_c (by omega)]; exact hA2 t ht) mw_s cB
      rw [t1, bd_s, bd_s, nm_d]
      obtain ⟨i1, i2, i3, i4, i5⟩ := hfin M3 t3 (fun _ => t2)
      exact hend _ i1 i2 i3 i4 i5
    · rw [if_pos ((enc_le bE).mpr (by omega)), bd_s, nm_d]
      obtain ⟨i1, i2, i3, i4, i5⟩ := hfin (mw M2 161 15 (enc (BP N))) (fun c _ _ _ _ => rfl) (fun q => absurd q cB)
      exact hend _ i1 i2 i3 i4 i5
  · rw [if_neg c14]
    rcases w14 with w14 | ⟨w14, w15⟩
    · exact absurd w14 c14
    · subst w14
      exact hend M ⟨0, k, o1, k1, w12, wO, w13, wA, Or.inr ⟨rfl, w15⟩, w16⟩ w12 wO w15 (fun _ _ => rfl)
