/-! PURE: the way of the class: rows, trace -/
/-- beat b's prices -/
noncomputable def VB (N : Nt) (b : Nat) : Nat → Pr := V N (pl N - 1) (pl N - 1 - b)
theorem VB_s {N : Nt} {b : Nat} (hb : b + 1 < pl N) : VB N b = Wv N (pl N - 1) b (VB N (b + 1)) := by
  unfold VB
  have e1 : pl N - 1 - b = (pl N - 1 - (b + 1)) + 1 := by omega
  rw [e1, V, show pl N - 1 - (pl N - 1 - (b + 1) + 1) = b by omega]
theorem VB_e {N : Nt} {b : Nat} (hb : b + 1 = pl N) : VB N b = Wv N (pl N - 1) b (fun _ => top) := by
  unfold VB
  have e1 : pl N - 1 - b = 0 := by omega
  have e2 : b = pl N - 1 := by omega
  rw [e1, V, ← e2]
theorem VB_ok {N : Nt} (hN : WP N) {b : Nat} : okR 26 (VB N b) := fun d hd => by
  have h := (wp_pl hN).2.2
  exact okP_w (V_ok (pl N - 1 - b) d (by omega) hd) (by omega)
/-- rows of onward from beat o on hold -/
def OnO (N : Nt) (M : Mm) (o : Nat) : Prop := ∀ b, o ≤ b → b < pl N → Row (172 + b) M (VB N b) ∧ (M 184 b = 0 ∨ EvenP (VB N b))
theorem nar_k : vp_nar .boolean (1 : Int32) = 1 ∧ vp_nar .boolean (0 : Int32) = 0 := by decide +kernel
/-- but for the way's rows, M' is M -/
def Fx (M M' : Mm) : Prop := ∀ c, ¬ (162 ≤ c ∧ c ≤ 184) → ¬ (199 ≤ c ∧ c ≤ 202) → M' c = M c
theorem fx_t {M M' M'' : Mm} (h : Fx M M') (h' : Fx M' M'') : Fx M M'' := fun c g1 g2 => (h' c g1 g2).trans (h c g1 g2)
theorem ex_1 {N : Nt} (hN : WP N) {b n : Nat} {M : Mm} (hb : b < pl N) (hP : RelP 3 M N) (hH : Hp M) (hO : OnO N M (b + 1)) : ∃ M', L_X5_exists_24 (n + 1) (nI b) M = L_X5_exists_24 n (oI ((b : Int) - 1)) M' ∧ OnO N M' b ∧ Fx M M' := by
  obtain ⟨ep, p1, p2⟩ := wp_pl hN
  obtain ⟨M1, q1, q2, q3⟩ := read_c (a := 162) (a1 := 3) hN (by omega) (show b < 12 by omega) hP
  have hH1 : Hp M1 := fun t ht => by rw [fc_c q3 (by omega)]; exact hH t ht
  have h30 : M1 3 0 = nI (pl N - 1 + 1) := by
    rw [fc_c q3 (by omega), hP.1, ep]
    congr 1
    omega
  have hf : okR 26 (if b + 1 < pl N then VB N (b + 1) else fun _ => top) := by
    split
    · exact VB_ok hN
    · exact fun _ _ => Or.inl rfl
  obtain ⟨M2, r1, r2, r3⟩ := fillOnward_c hN (b := b) (e := pl N - 1) (a2 := 172 + b) (M := M1) (by omega) (by omega) (Or.inl rfl) h30 hH1 q2 (by omega) hf (fun h => by
    obtain ⟨g1, g2⟩ := hO (b + 1) (Nat.le_refl _) (by omega)
    rw [if_pos (by omega)]
    refine ⟨fun t ht => ?_, ?_⟩
    · rw [fc_c q3 (by omega), show 173 + b = 172 + (b + 1) by omega]
      exact g1 t ht
    · rw [fc_c q3 (by omega)]
      exact g2)
  have r2' : Row (172 + b) M2 (VB N b) := by
    by_cases c : b + 1 < pl N
    · rw [if_pos c, ← VB_s c] at r2
      exact r2
    · rw [if_neg c, ← VB_e (by omega)] at r2
      exact r2
  rw [L_X5_exists_24, if_neg (nI_nn (by omega)), q1, bd_s, zck (by omega) (by omega), zcl (show b < 2147483648 by omega), r1, bd_s, zck (by omega) (by omega)]
  have e3 : nI b + (-1) = oI ((b : Int) - 1) := by rw [oI_n, km1, oI_add]; rfl
  have hfin : ∀ v : Int32, (v = 0 ∨ EvenP (VB N b)) → OnO N (mw M2 184 b v) b ∧ Fx M (mw M2 184 b v) := fun v hv => by
    refine ⟨fun t h1 h2 => ?_, fun c g1 g2 => ?_⟩
    · by_cases c : t = b
      · subst c
        refine ⟨fun d hd => ?_, ?_⟩
        · rw [mw_c (by omega)]
          exact r2' d hd
        · rw [mw_s]
          exact hv
      · obtain ⟨g1, g2⟩ := hO t (by omega) h2
        refine ⟨fun d hd => ?_, ?_⟩
        · rw [mw_c (by omega), r3 _ (by omega) (by omega) (by omega) (by omega) (by omega), fc_c q3 (by omega)]
          exact g1 d hd
        · rw [mw_o c, r3 _ (by omega) (by omega) (by omega) (by omega) (by omega), fc_c q3 (by omega)]
          exact g2
    · rw [mw_c (by omega), r3 c (by omega) (by omega) (by omega) (by omega) (by omega), fc_c q3 (by omega)]
  rcases isEven_c (show 26 ≤ 40 by omega) (VB_ok hN) r2' with ⟨he, e⟩ | e
  · rw [e, bd_s, zck (by omega) (by omega), nm_d, e3, nar_k.1]
    exact ⟨_, rfl, hfin 1 (Or.inr he)⟩
  · rw [e, bd_s, zck (by omega) (by omega), nm_d, e3, nar_k.2]
    exact ⟨_, rfl, hfin 0 (Or.inl rfl)⟩
theorem ex_l {N : Nt} (hN : WP N) : ∀ (k n : Nat) (M : Mm), k ≤ pl N → k < n → RelP 3 M N → Hp M → OnO N M k → ∃ M', L_X5_exists_24 n (oI ((k : Int) - 1)) M = some M' ∧ OnO N M' 0 ∧ Fx M M'
  | _, 0, _, _, h2, _, _, _ => by omega
  | 0, n + 1, M, h1, h2, h3, h4, h5 => by
    rw [L_X5_exists_24, if_pos (by decide)]
    exact ⟨M, rfl, h5, fun _ _ _ => rfl⟩
  | k + 1, n + 1, M, h1, h2, h3, h4, h5 => by
    have e1 : oI (((k + 1 : Nat) : Int) - 1) = nI k := by rw [oI_n]; congr 1; omega
    obtain ⟨M1, q1, q2, q3⟩ := ex_1 (n := n) hN (show k < pl N by omega) h3 h4 h5
    obtain ⟨M2, r1, r2, r3⟩ := ex_l hN k n M1 (by omega) (by omega) (relp_e h3 (fun c g1 g2 => q3 c (by omega) (by omega))) (fun t ht => by rw [q3 2 (by omega) (by omega)]; exact h4 t ht) q2
    rw [e1]
    exact ⟨M2, q1.trans r1, r2, fx_t q3 r3⟩
theorem tp_V {N : Nt} : tp N = bsf (A N 0) (VB N 0) := funext (fun d => by
  unfold tp bsf VB
  rw [Nat.sub_zero]
  rfl)
theorem V_1 {N : Nt} (hN : WP N) {b d : Nat} (hd : d < 2187) : (VB N b d).1 = 63 ∨ (VB N b d).1 ≤ 26 := by
  rcases VB_ok (b := b) hN d hd with h | h
  · left
    rw [h]
    rfl
  · exact Or.inr h.1
theorem co_VB {N : Nt} {b d : Nat} : co N b d = eC (VB N b d).1 := rfl
/-- steps of the best way, in the class's words -/
theorem step_c {N : Nt} (hN : WP N) {b d v : Nat} (hd : d < 2187) (hf : (VB N b d).1 < 63) : stepP N b d v ↔ ∃ c, (v, c) ∈ ops (lk N b d) d ∧ c + (VB N (b + 1) v).1 = (VB N b d).1 := by
  have h1 := V_1 (b := b) hN hd
  unfold stepP
  rw [co_VB, co_VB, eC_f hf]
  constructor
  · intro ⟨a, h2, h3, h4⟩
    have h5 := (ops_b hd h2)
    rw [h3] at h5
    have h6 := V_1 (b := b + 1) hN h5.1
    refine ⟨a.2, ?_, ?_⟩
    · rw [← h3]
      exact h2
    · rcases h6 with h6 | h6
      · rw [h6, eC_t] at h4
        omega
      · rw [eC_f (by omega)] at h4
        exact h4
  · intro ⟨c, h2, h3⟩
    refine ⟨(v, c), h2, rfl, ?_⟩
    have h5 := (ops_b hd h2).1
    have h5' : v < 2187 := h5
    have h6 := V_1 (b := b + 1) hN h5'
    rw [eC_f (by omega)]
    exact h3
theorem bsn_at (g : Nat → Pr) : ∀ k, (bsn g k).1 < 63 → ∃ d, d < k ∧ (g d).1 = (bsn g k).1
  | 0, h => absurd h (by show ¬ 63 < 63; omega)
  | k + 1, h => by
    rw [bsn, bt_1] at h ⊢
    by_cases c : (bsn g k).1 ≤ (g k).1
    · rw [Nat.min_eq_left c] at h ⊢
      obtain ⟨d, h1, h2⟩ := bsn_at g k h
      exact ⟨d, by omega, h2⟩
    · rw [Nat.min_eq_right (by omega)]
      exact ⟨k, by omega, rfl⟩
/-- the first diagram of the best way, in the class's words -/
theorem first_e {N : Nt} (hN : WP N) (hB : (BP N).1 < 63) {d : Nat} (hd : d < 2187) : tot N d = bst N ↔ (tp N d).1 = (BP N).1 := by
  obtain ⟨ep, p1, p2⟩ := wp_pl hN
  rw [bst_BP p2, eC_f hB]
  have h1 := ahd_b N d
  have h2 := V_1 (b := 0) hN hd
  unfold VB at h2
  rw [Nat.sub_zero] at h2
  have e2 : tot N d = eC (ahd N d) + eC (V N (pl N - 1) (pl N - 1) d).1 := rfl
  have e3 : (tp N d).1 = (V N (pl N - 1) (pl N - 1) d).1 + ahd N d := rfl
  rw [e2, e3]
  generalize (V N (pl N - 1) (pl N - 1) d).1 = v at *
  generalize ahd N d = a at *
  rcases h1 with h1 | h1
  · rw [h1, eC_t]
    omega
  · rw [eC_f (c := a) (by omega)]
    rcases h2 with h2 | h2
    · rw [h2, eC_t]
      omega
    · rw [eC_f (c := v) (by omega)]
      omega
theorem tr_2 {N : Nt} (hN : WP N) {M : Mm} (hA : Row 186 M (zr (A N 0))) (hV : Row 172 M (VB N 0)) (hb : M 161 15 = enc (BP N)) (hE : okE (BP N)) {t : Nat} (ht : t < 2187) (et : (tp N t).1 = (BP N).1) : ∀ (k n d : Nat), d + k = 2187 → k ≤ n → d ≤ t → (∀ s, s < d → (tp N s).1 ≠ (BP N).1) →
    ∃ r, L_X5_trace_2 M n (nI d) = some (nI r) ∧ lst (fun d => d < 2187 ∧ (tp N d).1 = (BP N).1) r
  | 0, _, d, h1, _, h3, _ => by omega
  | k + 1, 0, d, h1, h2, h3, h4 => by omega
  | k + 1, n + 1, d, h1, h2, h3, h4 => by
    have hd : d < 2187 := by omega
    have hlast : ∀ s, s < 2187 ∧ (tp N s).1 = (BP N).1 → d ≤ s := fun s hs => by
      by_cases c : s < d
      · exact absurd hs.2 (h4 s c)
      · omega
    rw [L_X5_trace_2]
    by_cases c0 : d = 2186
    · rw [if_pos (by rw [c0]; decide)]
      have e : t = d := by omega
      rw [e] at et
      exact ⟨d, rfl, ⟨hd, et⟩, hlast⟩
    · have hEt : okE (tp N d) := by
        have h5 := V_1 (b := 0) hN hd
        have h6 := (okP_E (by omega) (VB_ok (b := 0) hN d hd)).2
        have h7 := ahd_b N d
        rw [tp_V]
        exact ⟨by show (VB N 0 d).1 + ahd N d ≤ 1000; omega, h6⟩
      have e0 : 186 + (0 : Int32).toNatClampNeg = 186 := rfl
      have e00 : 172 + (0 : Int32).toNatClampNeg = 172 := rfl
      have e1 : enc (zr (A N 0) d) + enc (VB N 0 d) = enc (tp N d) := by
        rw [tp_V]
        exact enc_ad (VB N 0 d) (A N 0 d)
      have hlt : ¬ (2186 : Int32) ≤ nI d := fun q => by have := (zle (a := 2186) (by omega) (by omega)).mp q; omega
      unfold f_X5_cost
      rw [if_neg hlt, ck_t (by decide), zck hd (by omega), ck_t (by decide), zck hd (by omega), e0, e00, zcl (by omega), hA d hd, hV d hd, e1, enc_s hEt, hb, enc_s hE, nI_s]
      by_cases c : (tp N d).1 = (BP N).1
      · rw [if_pos (congrArg nI c)]
        exact ⟨d, rfl, ⟨hd, c⟩, hlast⟩
      · have h5 := hEt.1
        have h6 := hE.1
        rw [if_neg (fun q => c ((zeq (by omega) (by omega)).mp q))]
        refine tr_2 hN hA hV hb hE ht et k n (d + 1) (by omega) (by omega) ?_ (fun s hs => ?_)
        · by_cases c2 : d = t
          · subst c2
            exact absurd et c
          · omega
        · by_cases c2 : s = d
          · rw [c2]
            exact c
          · exact h4 s (by omega)
/-- the way up to beat b stands in the class's path, and goes on -/
def pUp (N : Nt) (M : Mm) (b : Nat) : Prop := ∃ w : Nat → Nat, (∀ i, i ≤ b → M 203 i = nI (w i)) ∧ lst (fun d => d < 2187 ∧ tot N d = bst N) (w 0) ∧ (∀ i, i + 1 ≤ b → lst (stepP N i (w i)) (w (i + 1))) ∧ w b < 2187 ∧ (VB N b (w b)).1 < 63
theorem V_does {N : Nt} {b d : Nat} (hb : b < pl N) (h : (VB N b d).1 < 63) : does N b d := by
  refine Classical.byContradiction (fun c => ?_)
  by_cases c2 : b + 1 < pl N
  · rw [VB_s c2, wv_f c] at h
    exact absurd h (by decide)
  · rw [VB_e (by omega), wv_f c] at h
    exact absurd h (by decide)
/-- but for the path and what its reckoning writes, M' is M -/
def Fp (M M' : Mm) : Prop := ∀ c, ¬ (162 ≤ c ∧ c ≤ 170) → c ≠ 201 → c ≠ 202 → c ≠ 203 → M' c = M c
theorem tr_51 {N : Nt} (hN : WP N) : ∀ (k n b : Nat) (M : Mm), b + 1 + k = pl N → k < n → RelP 3 M N → Hp M → OnO N M 0 → pUp N M b →
    ∃ M', L_X5_trace_51 n (nI (b + 1)) M = some M' ∧ (∃ w, isW N w ∧ ∀ i, i < pl N → M' 203 i = nI (w i)) ∧ Fp M M'
  | _, 0, _, _, _, h2, _, _, _, _ => by omega
  | 0, n + 1, b, M, h1, h2, h3, h4, h5, h6 => by
    obtain ⟨ep, p1, p2⟩ := wp_pl hN
    rw [L_X5_trace_51, h3.1, ep, if_pos ((zle (by omega) (by omega)).mpr (by omega))]
    obtain ⟨w, w1, w2, w3, w4, w5⟩ := h6
    exact ⟨M, rfl, ⟨w, ⟨w2, fun i hi => w3 i (by omega)⟩, fun i hi => w1 i (by omega)⟩, fun _ _ _ _ _ => rfl⟩
  | k + 1, n + 1, b, M, h1, h2, h3, h4, h5, h6 => by
    obtain ⟨ep, p1, p2⟩ := wp_pl hN
    obtain ⟨w, w1, w2, w3, w4, w5⟩ := h6
    have hdo := V_does (show b < pl N by omega) w5
    have hfin : co N b (w b) < 100000 := by
      rw [co_VB, eC_f w5]
      omega
    obtain ⟨e0, hst⟩ := step_e (show b + 1 < pl N by omega) p2 w4 hfin
    obtain ⟨c0, g1, g2⟩ := (step_c hN w4 w5).mp hst
    have hRn := (h5 (b + 1) (Nat.zero_le _) (by omega)).1
    rw [show 172 + (b + 1) = 173 + b by omega] at hRn
    obtain ⟨M1, r, q1, q2, q3⟩ := least_c hN (show b < 11 by omega) w4 h4 h3 hdo (show 26 ≤ 40 by omega) (VB_ok hN) hRn (VB_ok hN _ w4) (h5 b (Nat.zero_le _) (by omega)).1 g1 g2
    have e1 : nI (b + 1) - (1 : Int32) = nI b := zsu (a := b + 1) (b := 1) (by omega)
    rw [L_X5_trace_51, h3.1, ep, if_neg (fun q => by have := (zle (by omega) (by omega)).mp q; omega), e1, zck (by omega) (by omega), zcl (show b < 2147483648 by omega), w1 b (Nat.le_refl b), q1, bd_s, zck (by omega) (by omega), zcl (show b + 1 < 2147483648 by omega), nm_d, nI_s]
    dsimp only
    have hr : lst (stepP N b (w b)) r := ⟨(step_c hN w4 w5).mpr q2.1, fun e he => q2.2 e ((step_c hN w4 w5).mp he)⟩
    obtain ⟨c1, i1, i2⟩ := q2.1
    have hrlt : r < 2187 := (ops_b w4 i1).1
    have hF : Fp M (mw M1 203 (b + 1) (nI r)) := fun c j1 j2 j3 j4 => by rw [mw_c j4, q3 c j1 j2 j3]
    have e203 : M1 203 = M 203 := q3 203 (by omega) (by omega) (by omega)
    obtain ⟨M2, s1, s2, s3⟩ := tr_51 hN k n (b + 1) (mw M1 203 (b + 1) (nI r)) (by omega) (by omega) (relp_e h3 (fun c j1 j2 => hF c (by omega) (by omega) (by omega) (by omega))) (fun t ht => by rw [hF 2 (by omega) (by omega) (by omega) (by omega)]; exact h4 t ht) (fun t j1 j2 => by
      obtain ⟨k1, k2⟩ := h5 t j1 j2
      refine ⟨fun d hd => ?_, ?_⟩
      · rw [hF _ (by omega) (by omega) (by omega) (by omega)]
        exact k1 d hd
      · rw [hF _ (by omega) (by omega) (by omega) (by omega)]
        exact k2) (by
      refine ⟨fun i => if i = b + 1 then r else w i, ?_, ?_, ?_, ?_, ?_⟩
      · intro i hi
        by_cases c : i = b + 1
        · subst c
          rw [mw_s]
          simp
        · rw [mw_o c, e203]
          simp only [if_neg c]
          exact w1 i (by omega)
      · dsimp only
        rw [if_neg (by omega)]
        exact w2
      · intro i hi
        dsimp only
        by_cases c : i = b
        · subst c
          rw [if_neg (by omega), if_pos rfl]
          exact hr
        · have h9 := w3 i (by omega)
          rw [if_neg (by omega), if_neg (by omega)]
          exact h9
      · simp only [if_true]
        exact hrlt
      · simp only [if_true]
        omega)
    exact ⟨M2, s1, s2, fun c j1 j2 j3 j4 => (s3 c j1 j2 j3 j4).trans (hF c j1 j2 j3 j4)⟩
