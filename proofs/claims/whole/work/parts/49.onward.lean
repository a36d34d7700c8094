/-! PURE: fillOnward of the class -/
/-- but for a2 and the rows of one beat's reckoning, M' is M -/
def Fo (a : Nat) (M M' : Mm) : Prop := ∀ c, c ≠ a → c ≠ 199 → c ≠ 200 → c ≠ 201 → c ≠ 202 → M' c = M c
theorem fo_t {a : Nat} {M M' M'' : Mm} (h : Fo a M M') (h' : Fo a M' M'') : Fo a M M'' := fun c g1 g2 g3 g4 g5 => (h' c g1 g2 g3 g4 g5).trans (h c g1 g2 g3 g4 g5)
theorem fo_1 {a : Nat} {M M' : Mm} (h : F1 a M M') : Fo a M M' := fun c g1 _ _ _ _ => h c g1
theorem fo_199 {a : Nat} {M M' : Mm} (h : F1 199 M M') : Fo a M M' := fun c _ g1 _ _ _ => h c g1
theorem fo_200 {a : Nat} {M M' : Mm} (h : F1 200 M M') : Fo a M M' := fun c _ _ g1 _ _ => h c g1
/-- by beat b, where d does -/
noncomputable def ifD (N : Nt) (b : Nat) (f : Nat → Pr) (d : Nat) : Pr := haveI := Classical.propDecidable (does N b d); if does N b d then f d else top
theorem ifD_t {N : Nt} {b d : Nat} {f : Nat → Pr} (h : does N b d) : ifD N b f d = f d := if_pos h
theorem ifD_f {N : Nt} {b d : Nat} {f : Nat → Pr} (h : ¬ does N b d) : ifD N b f d = top := if_neg h
theorem fillL_l {N : Nt} (hN : WP N) {b a1 a2 m : Nat} (hb : b < 12) (h12 : a1 ≠ a2) (ha1 : 171 < a1 ∧ a1 < 199) (ha2 : 171 < a2 ∧ a2 < 199) (hm : m + 4 ≤ 40) {f : Nat → Pr} (hf : okR m f) : ∀ (k n d : Nat) (M : Mm), d + k = 2187 → k < n → Kf N b a1 f M → (∀ t, t < d → M a2 t = enc (ifD N b (tv N b f) t)) →
    ∃ M', L_X5_fillLockedOnward_22 a1 a2 n (nI d) M = some M' ∧ Row a2 M' (ifD N b (tv N b f)) ∧ ∀ c, c ≠ a2 → c ≠ 201 → c ≠ 202 → M' c = M c
  | _, 0, _, _, _, h2, _, _ => by omega
  | 0, n + 1, d, M, h1, h2, h3, h4 => by
    rw [L_X5_fillLockedOnward_22, if_pos ((zleD (by omega)).mpr (by omega))]
    exact ⟨M, rfl, fun t ht => h4 t (by omega), fun _ _ _ _ => rfl⟩
  | k + 1, n + 1, d, M, h1, h2, h3, h4 => by
    obtain ⟨M1, v, q1, q2, q3, q4, q5, q6⟩ := fillL_st (n := n) hN hb h12 ha1 ha2 hm hf (show d < 2187 by omega) h3
    obtain ⟨hH, hC, hR, hRl, hRr⟩ := h3
    have hK : Kf N b a1 f M1 := by
      refine ⟨fun t ht => ?_, ch_f hC (fun c g1 g2 => q6 c (by omega) (by omega) (by omega)), fun t ht => ?_, fun t ht => ?_, fun t ht => ?_⟩
      · rw [q6 2 (by omega) (by omega) (by omega)]
        exact hH t ht
      · rw [q6 a1 (by omega) (by omega) (by omega)]
        exact hR t ht
      · rw [q6 199 (by omega) (by omega) (by omega)]
        exact hRl t ht
      · rw [q6 200 (by omega) (by omega) (by omega)]
        exact hRr t ht
    obtain ⟨M2, r1, r2, r3⟩ := fillL_l hN hb h12 ha1 ha2 hm hf k n (d + 1) M1 (by omega) (by omega) hK (fun t ht => by
      by_cases c : t = d
      · subst c
        rw [q4]
        by_cases c2 : does N b t
        · rw [q2 c2, ifD_t c2]
        · rw [q3 c2, ifD_f c2]
      · rw [q5 t c]
        exact h4 t (by omega))
    exact ⟨M2, q1.trans r1, r2, fun c g1 g2 g3 => (r3 c g1 g2 g3).trans (q6 c g1 g2 g3)⟩
theorem sg_0L {f : Nat → Pr} : sg nL (fr (PL nL) 7 0) f f = sf nL fL f := funext (fun _ => sg_L)
theorem sg_0R {f : Nat → Pr} : sg nL (fr (PR nL) 7 0) f f = sf nL fR f := funext (fun _ => sg_R)
theorem fillL_c {N : Nt} (hN : WP N) {b a1 a2 m : Nat} {M : Mm} (hb : b < 12) (h12 : a1 ≠ a2) (ha1 : 171 < a1 ∧ a1 < 199) (ha2 : 171 < a2 ∧ a2 < 199) (hm : m + 4 ≤ 40) {f : Nat → Pr} (hf : okR m f) (hH : Hp M) (hC : Ch 162 M N b) (hR : Row a1 M f) :
    ∃ M', f_X5_fillLockedOnward a1 a2 M = some M' ∧ Row a2 M' (ifD N b (tv N b f)) ∧ Fo a2 M M' := by
  obtain ⟨M1, q1, q2, q3⟩ := spread_c (a0 := a1) (a2 := 199) bits_L0 (by omega) (show m ≤ 40 by omega) hf hR
  rw [sg_0L] at q2
  obtain ⟨M2, r1, r2, r3⟩ := spread_c (a0 := a1) (a2 := 200) (M := M1) bits_R0 (by omega) (show m ≤ 40 by omega) hf (fun t ht => by rw [q3 a1 (by omega)]; exact hR t ht)
  rw [sg_0R] at r2
  unfold f_X5_fillLockedOnward
  rw [q1, bd_s, r1, bd_s]
  obtain ⟨M3, s1, s2, s3⟩ := fillL_l hN hb h12 ha1 ha2 hm hf 2187 FU 0 M2 (by omega) (by unfold FU; omega) ⟨fun t ht => by rw [r3 2 (by omega), q3 2 (by omega)]; exact hH t ht, ch_f hC (fun c g1 g2 => by rw [r3 c (by omega), q3 c (by omega)]), fun t ht => by rw [r3 a1 (by omega), q3 a1 (by omega)]; exact hR t ht, fun t ht => by rw [r3 199 (by omega)]; exact q2 t ht, r2⟩ (fun t ht => by omega)
  have s1' : L_X5_fillLockedOnward_22 a1 a2 FU (0 : Int32) M2 = some M3 := s1
  rw [s1', bd_s]
  refine ⟨M3, rfl, s2, fun c g1 g2 g3 g4 g5 => ?_⟩
  rw [s3 c g1 g4 g5, r3 c g3, q3 c g2]
theorem drop_l {N : Nt} (hN : WP N) {b a m : Nat} (hb : b < 12) (ha : 171 < a) (hm : m ≤ 40) {f : Nat → Pr} (hf : okR m f) : ∀ (k n d : Nat) (M : Mm), d + k = 2187 → k < n → Hp M → Ch 162 M N b → (∀ t, t < d → M a t = enc (ifD N b f t)) → (∀ t, d ≤ t → t < 2187 → M a t = enc (f t)) →
    ∃ M', L_X5_dropUnfit_2 a n (nI d) M = some M' ∧ Row a M' (ifD N b f) ∧ F1 a M M'
  | _, 0, _, _, _, h2, _, _, _, _ => by omega
  | 0, n + 1, d, M, h1, h2, h3, h4, h5, h6 => by
    rw [L_X5_dropUnfit_2, if_pos ((zleD (by omega)).mpr (by omega))]
    exact ⟨M, rfl, fun t ht => h5 t (by omega), f1_r a M⟩
  | k + 1, n + 1, d, M, h1, h2, h3, h4, h5, h6 => by
    have hd : d < 2187 := by omega
    have hnext : ∀ M1 : Mm, F1 a M M1 → M1 a d = enc (ifD N b f d) → (∀ j, j ≠ d → M1 a j = M a j) → ∃ M', L_X5_dropUnfit_2 a n (nI (d + 1)) M1 = some M' ∧ Row a M' (ifD N b f) ∧ F1 a M M' := fun M1 g1 g2 g3 => by
      obtain ⟨M2, r1, r2, r3⟩ := drop_l hN hb ha hm hf k n (d + 1) M1 (by omega) (by omega) (fun t ht => by rw [g1 2 (by omega)]; exact h3 t ht) (ch_f h4 (fun c q1 q2 => g1 c (by omega))) (fun t ht => by
        by_cases c : t = d
        · rw [c]
          exact g2
        · rw [g3 t c]
          exact h5 t (by omega)) (fun t ht1 ht2 => by rw [g3 t (by omega)]; exact h6 t (by omega) ht2)
      exact ⟨M2, r1, r2, f1_t g1 r3⟩
    rw [L_X5_dropUnfit_2, if_neg (fun q => by have := (zleD (by omega)).mp q; omega), zck hd (by omega), zcl (by omega), h6 d (Nat.le_refl d) hd, nI_s]
    by_cases c : 63 ≤ (f d).1
    · have et : f d = top := okP_63 hm (hf d hd) (by omega)
      rw [if_pos ((enc_le (okP_E hm (hf d hd))).mpr c), bd_s]
      refine hnext M (f1_r a M) ?_ (fun _ _ => rfl)
      rw [h6 d (Nat.le_refl d) hd]
      by_cases c2 : does N b d
      · rw [ifD_t c2]
      · rw [ifD_f c2, et]
    · rw [if_neg (fun q => c ((enc_le (okP_E hm (hf d hd))).mp q)), zck hd (by omega), h3 d hd]
      rcases locksBy_c hN hb hd h4 with ⟨hdo, y, hy, e⟩ | ⟨hdo, e⟩
      · rw [e, bd_s, if_pos (znn (show y < 2147483648 by have := hy.1; omega)), bd_s]
        refine hnext M (f1_r a M) ?_ (fun _ _ => rfl)
        rw [h6 d (Nat.le_refl d) hd, ifD_t hdo]
      · rw [e, bd_s, if_neg (by decide), zck hd (by omega), nm_d, bd_s]
        refine hnext _ (fun c g => mw_c g) ?_ (fun j hj => mw_o hj)
        rw [mw_s, ifD_f hdo, enc_top]
theorem drop_c {N : Nt} (hN : WP N) {b a m : Nat} {M : Mm} (hb : b < 12) (ha : 171 < a) (hm : m ≤ 40) {f : Nat → Pr} (hf : okR m f) (hH : Hp M) (hC : Ch 162 M N b) (hR : Row a M f) : ∃ M', f_X5_dropUnfit a M = some M' ∧ Row a M' (ifD N b f) ∧ F1 a M M' := by
  obtain ⟨M1, q1, q2, q3⟩ := drop_l hN hb ha hm hf 2187 FU 0 M (by omega) (by unfold FU; omega) hH hC (fun t ht => by omega) (fun t _ ht => hR t ht)
  have q1' : L_X5_dropUnfit_2 a FU (0 : Int32) M = some M1 := q1
  unfold f_X5_dropUnfit
  rw [q1', bd_s]
  exact ⟨M1, rfl, q2, q3⟩
theorem sil_l {N : Nt} (hN : WP N) {a b : Nat} {M : Mm} (hb : b < 12) (hC : Ch a M N b) : ∀ (k n i : Nat), i + k = sz N b → k < n → (∀ j, j < i → rg N b j = 0) →
    ((∀ j, j < sz N b → rg N b j = 0) ∧ L_X0_isSilent_2 a M n (nI i) = some (.inl ())) ∨ ((∃ j, j < sz N b ∧ rg N b j = 1) ∧ L_X0_isSilent_2 a M n (nI i) = some (.inr 0))
  | _, 0, _, _, h2, _ => by omega
  | 0, n + 1, i, h1, h2, h3 => by
    have hz := (wp_sz hN hb).2
    rw [L_X0_isSilent_2, hC.1, if_pos ((zle (by omega) (by omega)).mpr (by omega))]
    exact Or.inl ⟨fun j hj => h3 j (by omega), rfl⟩
  | k + 1, n + 1, i, h1, h2, h3 => by
    have hz := (wp_sz hN hb).2
    have hi : i < sz N b := by omega
    have hr := (wp_rg hN hb hi).2
    rw [L_X0_isSilent_2, hC.1, if_neg (fun q => by have := (zle (by omega) (by omega)).mp q; omega), zck (by omega) (by omega), zcl (by omega), (hC.2.1 i hi).2.1, nI_s]
    by_cases c : rg N b i = 0
    · rw [if_pos (by rw [c]; rfl)]
      exact sil_l hN hb hC k n (i + 1) (by omega) (by omega) (fun j hj => by
        by_cases c2 : j = i
        · rw [c2]
          exact c
        · exact h3 j (by omega))
    · rw [if_neg (fun q => c ((nI_z (by omega)).mp q))]
      exact Or.inr ⟨⟨i, hi, by omega⟩, rfl⟩
theorem sil_c {N : Nt} (hN : WP N) {a b : Nat} {M : Mm} (hb : b < 12) (hC : Ch a M N b) : ((∀ j, j < sz N b → rg N b j = 0) ∧ f_X0_isSilent a M = some 1) ∨ f_X0_isSilent a M = some 0 := by
  have hz := (wp_sz hN hb).2
  unfold f_X0_isSilent
  rcases sil_l hN hb hC (sz N b) FU 0 (by omega) (by unfold FU; omega) (fun j hj => by omega) with ⟨h, e⟩ | ⟨h, e⟩
  · have e' : L_X0_isSilent_2 a M FU (0 : Int32) = some (.inl ()) := e
    rw [e']
    exact Or.inl ⟨h, rfl⟩
  · have e' : L_X0_isSilent_2 a M FU (0 : Int32) = some (.inr 0) := e
    rw [e']
    exact Or.inr rfl
theorem fill_l {N a : Nat} {v : Int32} (hN : N < 100000) : ∀ (k n i : Nat) (M : Mm), i + k = N → k < n → (∀ t, t < i → M a t = v) →
    ∃ M', L_J7_fill_53178_5 N a v (nI N) n (nI i) M = some M' ∧ (∀ t, t < N → M' a t = v) ∧ (∀ t, N ≤ t → M' a t = M a t) ∧ F1 a M M'
  | _, 0, _, _, _, h2, _ => by omega
  | 0, n + 1, i, M, h1, h2, h3 => by
    rw [L_J7_fill_53178_5, if_pos ((zle (by omega) (by omega)).mpr (by omega))]
    exact ⟨M, rfl, fun t ht => h3 t (by omega), fun _ _ => rfl, f1_r a M⟩
  | k + 1, n + 1, i, M, h1, h2, h3 => by
    rw [L_J7_fill_53178_5, if_neg (fun q => by have := (zle (by omega) (by omega)).mp q; omega), zck (by omega) (by omega), zcl (by omega), nm_d, nI_s]
    obtain ⟨M1, q1, q2, q3, q4⟩ := fill_l hN k n (i + 1) (mw M a i v) (by omega) (by omega) (fun t ht => by
      by_cases c : t = i
      · rw [c, mw_s]
      · rw [mw_o c]
        exact h3 t (by omega))
    refine ⟨M1, q1, q2, fun t ht => ?_, f1_t (fun c g => mw_c g) q4⟩
    rw [q3 t ht, mw_o (by omega)]
theorem fill_c {N a : Nat} {v : Int32} {M : Mm} (hN : N < 10000) : ∃ M', f_J7_fill_53178 N a v M = some M' ∧ (∀ t, t < N → M' a t = v) ∧ (∀ t, N ≤ t → M' a t = M a t) ∧ F1 a M M' := by
  obtain ⟨M1, q1, q2, q3, q4⟩ := fill_l (a := a) (v := v) (show N < 100000 by omega) N FU 0 M (by omega) (by unfold FU; omega) (fun t ht => by omega)
  have q1' : L_J7_fill_53178_5 N a v (nI N) FU (0 : Int32) M = some M1 := q1
  unfold f_J7_fill_53178
  rw [nm_d, q1', bd_s]
  exact ⟨M1, rfl, q2, q3, q4⟩
