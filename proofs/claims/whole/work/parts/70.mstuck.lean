/-! PURE: stuck of the model -/
theorem nar_y (p : Prop) : vp_nar .boolean (yes p) = yes p := by
  by_cases c : p
  · rw [yes_t c]
    exact nar_k.1
  · rw [yes_f c]
    exact nar_k.2
theorem or_y (p q : Prop) : yes p ||| yes q = yes (p ∨ q) := by
  by_cases c : p
  · by_cases c2 : q
    · rw [yes_t c, yes_t c2, yes_t (Or.inl c)]
      rfl
    · rw [yes_t c, yes_f c2, yes_t (Or.inl c)]
      rfl
  · by_cases c2 : q
    · rw [yes_f c, yes_t c2, yes_t (Or.inr c2)]
      rfl
    · rw [yes_f c, yes_f c2, yes_f (fun r => r.elim c c2)]
      rfl
/-- but for what stuck writes, M' is M -/
def Fk (M M' : Mm) : Prop := ∀ c j, c ≠ 220 → c ≠ 221 → c ≠ 223 → c ≠ 224 → ¬ (c = 212 ∧ j = 11) → M' c j = M c j
theorem fk_r (M : Mm) : Fk M M := fun _ _ _ _ _ _ _ => rfl
theorem fk_t {M M' M'' : Mm} (h : Fk M M') (h' : Fk M' M'') : Fk M M'' := fun c j g1 g2 g3 g4 g5 => (h' c j g1 g2 g3 g4 g5).trans (h c j g1 g2 g3 g4 g5)
theorem fk_213 {M M' : Mm} (h : Fk M M') : M' 213 = M 213 := funext (fun j => h 213 j (by decide) (by decide) (by decide) (by decide) (fun q => absurd q.1 (by decide)))
theorem fk_224 {M M' : Mm} {j : Nat} {v : Int32} (h : Fk M M') : Fk M (mw M' 224 j v) := fun c i g1 g2 g3 g4 g5 => by rw [mw_c g4]; exact h c i g1 g2 g3 g4 g5
theorem fk_223 {M M' : Mm} {j : Nat} {v : Int32} (h : Fk M M') : Fk M (mw M' 223 j v) := fun c i g1 g2 g3 g4 g5 => by rw [mw_c g3]; exact h c i g1 g2 g3 g4 g5
theorem stk_2 {N : Nt} (hN : WP N) : ∀ (k n d : Nat) (M : Mm), d + k = 2187 → k < n → M 213 = N → (∀ t, t < d → M 224 t = yes (A N 0 t < 63)) →
    ∃ M', L_X7_stuck_2 n (nI d) M = some M' ∧ (∀ t, t < 2187 → M' 224 t = yes (A N 0 t < 63)) ∧ Fk M M'
  | _, 0, _, _, _, h2, _, _ => by omega
  | 0, n + 1, d, M, h1, h2, h3, h4 => by
    rw [L_X7_stuck_2, if_pos ((zleD (by omega)).mpr (by omega))]
    exact ⟨M, rfl, fun t ht => h4 t (by omega), fk_r M⟩
  | k + 1, n + 1, d, M, h1, h2, h3, h4 => by
    have hd : d < 2187 := by omega
    have ha := ahead_m (M := M) (by rw [h3]; exact hN) hd
    rw [h3] at ha
    have hl := eC_l (ahd N d)
    have hb := ahd_b N d
    have e1 : (if (100000 : Int32) ≤ nI (eC (ahd N d)) then (0 : Int32) else (1 : Int32)) = yes (A N 0 d < 63) := by
      have eA : A N 0 d = ahd N d := rfl
      rw [eA]
      by_cases c : ahd N d < 63
      · rw [eC_f c, if_neg (fun q => by have := (zle5 (by omega)).mp q; omega), yes_t c]
      · rw [show ahd N d = 63 by omega, eC_t, if_pos ((zle5 (by omega)).mpr (Nat.le_refl _)), yes_f (by omega)]
    rw [L_X7_stuck_2, if_neg (fun q => by have := (zleD (by omega)).mp q; omega), ha, bd_s, e1, nm_d, zck hd (by omega), zcl (by omega), nar_y, nm_d, nI_s]
    obtain ⟨M', q1, q2, q3⟩ := stk_2 hN k n (d + 1) (mw M 224 d (yes (A N 0 d < 63))) (by omega) (by omega) (by rw [mw_c (by decide)]; exact h3) (fun t ht => by
      by_cases c : t = d
      · rw [c, mw_s]
      · rw [mw_o c]
        exact h4 t (by omega))
    exact ⟨M', q1, q2, fk_t (fk_224 (fk_r M)) q3⟩
def cmP (N : Nt) (b d : Nat) : Prop := A N b d < 63 ∧ does N b d
theorem stk_52 {N : Nt} (hN : WP N) {b : Nat} (hb : b < 12) : ∀ (k n d : Nat) (M : Mm), d + k = 2187 → k < n → M 213 = N → (∀ t, d ≤ t → t < 2187 → M 224 t = yes (A N b t < 63)) → (∀ t, t < d → M 224 t = 0 ∧ M 223 t = yes (cmP N b t)) →
    ∃ M', L_X7_stuck_52 (nI b) n (yes (∃ t, t < d ∧ cmP N b t)) (nI d) M = some (yes (∃ t, t < 2187 ∧ cmP N b t), M') ∧ (∀ t, t < 2187 → M' 224 t = 0 ∧ M' 223 t = yes (cmP N b t)) ∧ Fk M M'
  | _, 0, _, _, _, h2, _, _, _ => by omega
  | 0, n + 1, d, M, h1, h2, h3, h4, h5 => by
    rw [L_X7_stuck_52, if_pos ((zleD (by omega)).mpr (by omega)), show d = 2187 by omega]
    exact ⟨M, rfl, fun t ht => h5 t (by omega), fk_r M⟩
  | k + 1, n + 1, d, M, h1, h2, h3, h4, h5 => by
    have hd : d < 2187 := by omega
    have hdo := doesFor_m (M := M) (by rw [h3]; exact hN) hb hd
    rw [h3] at hdo
    have e1 : (if M 224 d = 0 then some (0 : Int32) else Option.bind (f_X7_doesFor (nI b) (nI d) M) (fun q_53 => if q_53 = 0 then some (0 : Int32) else some (1 : Int32))) = some (yes (cmP N b d)) := by
      rw [h4 d (Nat.le_refl d) hd, hdo, bd_s]
      by_cases c : A N b d < 63
      · rw [yes_t c, if_neg ne10]
        by_cases c2 : does N b d
        · rw [yes_t c2, if_neg ne10, yes_t ⟨c, c2⟩]
        · rw [yes_f c2, if_pos rfl, yes_f (fun q => c2 q.2)]
      · rw [yes_f c, if_pos rfl, yes_f (fun q => c q.1)]
    rw [L_X7_stuck_52, if_neg (fun q => by have := (zleD (by omega)).mp q; omega), zck hd (by omega), zcl (by omega), e1, bd_s, zck hd (by omega), nar_y, nm_d, zck hd (by omega), mw_s, or_y, nm_d, zck hd (by omega), nar_k.2, nm_d, nI_s]
    have e2 : yes ((∃ t, t < d ∧ cmP N b t) ∨ cmP N b d) = yes (∃ t, t < d + 1 ∧ cmP N b t) := yes_i (by
      constructor
      · intro g
        rcases g with ⟨t, g1, g2⟩ | g
        · exact ⟨t, by omega, g2⟩
        · exact ⟨d, by omega, g⟩
      · intro ⟨t, g1, g2⟩
        by_cases c : t = d
        · rw [c] at g2
          exact Or.inr g2
        · exact Or.inl ⟨t, by omega, g2⟩)
    rw [e2]
    obtain ⟨M', q1, q2, q3⟩ := stk_52 hN hb k n (d + 1) (mw (mw M 223 d (yes (cmP N b d))) 224 d 0) (by omega) (by omega) (by rw [mw_c (by decide), mw_c (by decide)]; exact h3) (fun t g1 g2 => by rw [mw_o (by omega), mw_c (by decide)]; exact h4 t (by omega) g2) (fun t ht => by
      by_cases c : t = d
      · rw [c, mw_s, mw_c (by decide), mw_s]
        exact ⟨rfl, rfl⟩
      · rw [mw_o c, mw_c (by decide), mw_c (by decide), mw_o c]
        exact h5 t (by omega))
    exact ⟨M', q1, q2, fk_t (fk_224 (fk_223 (fk_r M))) q3⟩
theorem stk_143 {l : List (Nat × Nat)} (hz : l.length ≤ 63) (ha : ∀ a ∈ l, a.1 < 2187) : ∀ (k n i : Nat) (M : Mm), i + k = l.length → k < n → Lst M l →
    ∃ M', L_X7_stuck_143 n (nI i) M = some M' ∧ (∀ e, M' 224 e = if ∃ a ∈ l.drop i, a.1 = e then 1 else M 224 e) ∧ ∀ c, c ≠ 224 → M' c = M c
  | _, 0, _, _, _, h2, _ => by omega
  | 0, n + 1, i, M, h1, h2, h3 => by
    rw [L_X7_stuck_143, h3.1, if_pos ((zle (by omega) (by omega)).mpr (by omega)), List.drop_eq_nil_of_le (by omega)]
    refine ⟨M, rfl, fun e => ?_, fun _ _ => rfl⟩
    rw [if_neg (fun ⟨a, q, _⟩ => by cases q)]
  | k + 1, n + 1, i, M, h1, h2, h3 => by
    have hi : i < l.length := by omega
    have hin := ha l[i] (List.getElem_mem hi)
    obtain ⟨g1, g2⟩ := h3.2 i hi
    rw [L_X7_stuck_143, h3.1, if_neg (fun q => by have := (zle (by omega) (by omega)).mp q; omega), zck (by omega) (by omega), zcl (show i < 2147483648 by omega), g1, zck hin (by omega), zcl (by omega), nar_k.1, nm_d, nI_s]
    obtain ⟨M', q1, q2, q3⟩ := stk_143 hz ha k n (i + 1) (mw M 224 l[i].1 1) (by omega) (by omega) ⟨by rw [mw_c (by decide)]; exact h3.1, fun j hj => by rw [mw_c (by decide), mw_c (by decide)]; exact h3.2 j hj⟩
    refine ⟨M', q1, fun e => ?_, fun c g => by rw [q3 c g, mw_c g]⟩
    rw [q2 e, List.drop_eq_getElem_cons hi]
    by_cases c : ∃ a ∈ l.drop (i + 1), a.1 = e
    · rw [if_pos c]
      obtain ⟨a, c1, c2⟩ := c
      rw [if_pos ⟨a, List.mem_cons_of_mem _ c1, c2⟩]
    · rw [if_neg c]
      by_cases c2 : e = l[i].1
      · rw [c2, mw_s, if_pos ⟨l[i], List.mem_cons_self, rfl⟩]
      · rw [mw_o c2, if_neg (fun ⟨a, d1, d2⟩ => by
          rcases List.mem_cons.mp d1 with d | d
          · rw [d] at d2
            exact c2 d2.symm
          · exact c ⟨a, d, d2⟩)]
/-- e is reached from one of the first d that come -/
def goP (N : Nt) (b d e : Nat) : Prop := ∃ t, t < d ∧ cmP N b t ∧ ∃ c, (e, c) ∈ ops (lk N b t) t
theorem stk_118 {N : Nt} (hN : WP N) {b : Nat} (hb : b < 12) : ∀ (k n d : Nat) (M : Mm), d + k = 2187 → k < n → M 213 = N → (∀ t, t < 2187 → M 223 t = yes (cmP N b t)) → (∀ e, e < 2187 → M 224 e = yes (goP N b d e)) →
    ∃ M', L_X7_stuck_118 (nI b) n (nI d) M = some M' ∧ (∀ e, e < 2187 → M' 224 e = yes (goP N b 2187 e)) ∧ Fk M M'
  | _, 0, _, _, _, h2, _, _, _ => by omega
  | 0, n + 1, d, M, h1, h2, h3, h4, h5 => by
    rw [L_X7_stuck_118, if_pos ((zleD (by omega)).mpr (by omega))]
    rw [show d = 2187 by omega] at h5
    exact ⟨M, rfl, h5, fk_r M⟩
  | k + 1, n + 1, d, M, h1, h2, h3, h4, h5 => by
    have hd : d < 2187 := by omega
    rw [L_X7_stuck_118, if_neg (fun q => by have := (zleD (by omega)).mp q; omega), zck hd (by omega), zcl (by omega), h4 d hd, nI_s]
    by_cases c : cmP N b d
    · rw [yes_t c, if_neg ne10]
      obtain ⟨M1, q1, q2, q3⟩ := tellNext_m (M := M) (by rw [h3]; exact hN) hb hd
      rw [h3] at q2
      obtain ⟨M2, r1, r2, r3⟩ := stk_143 ops_l (fun a ha => (ops_b hd ha).1) (ops (lk N b d) d).length FU 0 M1 (by omega) (by have := ops_l (L := lk N b d) (d := d); unfold FU; omega) q2
      rw [nI_00] at r1
      rw [q1, bd_s, r1, bd_s, bd_s]
      have hF : Fk M M2 := fun c j g1 g2 g3 g4 g5 => by rw [r3 c g4]; exact q3 c j g1 g2 g5
      obtain ⟨M3, s1, s2, s3⟩ := stk_118 hN hb k n (d + 1) M2 (by omega) (by omega) ((fk_213 hF).trans h3) (fun t ht => by rw [r3 223 (by decide), fr_c q3 (by decide) (by decide) (by decide)]; exact h4 t ht) (fun e he => by
        rw [r2 e, List.drop_zero, fr_c q3 (by decide) (by decide) (by decide), h5 e he]
        by_cases c2 : ∃ a ∈ ops (lk N b d) d, a.1 = e
        · rw [if_pos c2]
          obtain ⟨a, d1, d2⟩ := c2
          refine (yes_t ⟨d, by omega, c, a.2, ?_⟩).symm
          rw [← d2]
          exact d1
        · rw [if_neg c2]
          refine yes_i ⟨fun ⟨t, g1, g2⟩ => ⟨t, by omega, g2⟩, fun ⟨t, g1, g2, cc, g3⟩ => ?_⟩
          by_cases c3 : t = d
          · rw [c3] at g3
            exact absurd ⟨(e, cc), g3, rfl⟩ c2
          · exact ⟨t, by omega, g2, cc, g3⟩)
      exact ⟨M3, s1, s2, fk_t hF s3⟩
    · rw [yes_f c, if_pos rfl, bd_s]
      refine stk_118 hN hb k n (d + 1) M (by omega) (by omega) h3 h4 (fun e he => ?_)
      rw [h5 e he]
      refine yes_i ⟨fun ⟨t, g1, g2⟩ => ⟨t, by omega, g2⟩, fun ⟨t, g1, g2, g3⟩ => ?_⟩
      by_cases c3 : t = d
      · rw [c3] at g2
        exact absurd g2 c
      · exact ⟨t, by omega, g2, g3⟩
theorem go_A {N : Nt} {b e : Nat} (hb : b < 12) (he : e < 2187) : goP N b 2187 e ↔ A N (b + 1) e < 63 := by
  constructor
  · intro ⟨t, h1, ⟨h2, h3⟩, c, h4⟩
    have h5 := (A_M (N := N) (b := b) e he).2 (A N b t + c) (Or.inr ⟨t, c, h1, h3, h4, rfl⟩)
    have h6 : c ≤ 2 := (ops_b h1 h4).2
    rcases A_b (N := N) b t h1 with q | q <;> omega
  · intro h
    rcases (A_M (N := N) (b := b) e he).1 with q | ⟨d, c, h1, h2, h3, h4⟩
    · omega
    · exact ⟨d, h1, ⟨by omega, h2⟩, c, h3⟩
theorem cs_cm {N : Nt} {b : Nat} : cs N b ↔ ∃ t, t < 2187 ∧ cmP N b t := Iff.rfl
theorem stk_38 {N : Nt} (hN : WP N) : ∀ (k n b : Nat) (M : Mm), b + k = pl N → k < n → M 213 = N → (∀ t, t < 2187 → M 224 t = yes (A N b t < 63)) → (∀ t, t < b → cs N t) →
    ∃ M', ((((∀ t, t < pl N → cs N t) ∧ L_X7_stuck_38 n (nI b) M = some (.inl M')) ∨ ∃ s, s < pl N ∧ (∀ t, t < s → cs N t) ∧ ¬ cs N s ∧ L_X7_stuck_38 n (nI b) M = some (.inr (nI s, M')))) ∧ Fk M M'
  | _, 0, _, _, _, h2, _, _, _ => by omega
  | 0, n + 1, b, M, h1, h2, h3, h4, h5 => by
    obtain ⟨ep, p1, p2⟩ := wp_pl hN
    have e0 : M 213 (0 : Int32).toNatClampNeg = nI (pl N) := by rw [h3]; exact ep
    rw [L_X7_stuck_38, ck_t (by decide), e0, if_pos ((zle (by omega) (by omega)).mpr (by omega))]
    exact ⟨M, Or.inl ⟨fun t ht => h5 t (by omega), rfl⟩, fk_r M⟩
  | k + 1, n + 1, b, M, h1, h2, h3, h4, h5 => by
    obtain ⟨ep, p1, p2⟩ := wp_pl hN
    have hb : b < 12 := by omega
    have e0 : M 213 (0 : Int32).toNatClampNeg = nI (pl N) := by rw [h3]; exact ep
    rw [L_X7_stuck_38, ck_t (by decide), e0, if_neg (fun q => by have := (zle (by omega) (by omega)).mp q; omega)]
    obtain ⟨M1, q1, q2, q3⟩ := stk_52 hN hb 2187 FU 0 M (by omega) (by unfold FU; omega) h3 (fun t _ ht => h4 t ht) (fun t ht => by omega)
    rw [nI_00, yes_f (p := ∃ t, t < 0 ∧ cmP N b t) (fun ⟨t, g, _⟩ => by omega)] at q1
    rw [q1, bd_s]
    dsimp only
    by_cases c : cs N b
    · rw [yes_t (cs_cm.mp c), if_neg ne10]
      have e213 : M1 213 = N := (fk_213 q3).trans h3
      obtain ⟨M2, r1, r2, r3⟩ := stk_118 hN hb 2187 FU 0 M1 (by omega) (by unfold FU; omega) e213 (fun t ht => (q2 t ht).2) (fun e he => by
        rw [(q2 e he).1]
        exact (yes_f (fun ⟨t, g, _⟩ => by omega)).symm)
      rw [nI_00] at r1
      rw [r1, bd_s, nI_s]
      obtain ⟨M3, s1, s2⟩ := stk_38 hN k n (b + 1) M2 (by omega) (by omega) ((fk_213 r3).trans e213) (fun t ht => by rw [r2 t ht]; exact yes_i (go_A hb ht)) (fun t ht => by
        by_cases c2 : t = b
        · rw [c2]
          exact c
        · exact h5 t (by omega))
      exact ⟨M3, s1, fk_t (fk_t q3 r3) s2⟩
    · rw [yes_f (fun q => c (cs_cm.mpr q)), if_pos rfl]
      exact ⟨M1, Or.inr ⟨b, by omega, h5, c, rfl⟩, q3⟩
theorem f7_stuck {M : Mm} (h : WP (M 213)) : ∃ r M', f_X7_stuck M = some (r, M') ∧ Fk M M' ∧ ((BP (M 213)).1 < 63 → r = -1) ∧ (¬ (BP (M 213)).1 < 63 → ∃ s, r = nI s ∧ stkP (M 213) s) := by
  obtain ⟨ep, p1, p2⟩ := wp_pl h
  obtain ⟨M1, q1, q2, q3⟩ := stk_2 h 2187 FU 0 M (by omega) (by unfold FU; omega) rfl (fun t ht => by omega)
  rw [nI_00] at q1
  obtain ⟨M2, r1, r2⟩ := stk_38 h (pl (M 213)) FU 0 M1 (by omega) (by unfold FU; omega) (fk_213 q3) q2 (fun t ht => by omega)
  rw [nI_00] at r1
  unfold f_X7_stuck
  rw [q1, bd_s]
  rcases r1 with ⟨r1, e⟩ | ⟨s, g1, g2, g3, e⟩
  · rw [e]
    refine ⟨_, M2, rfl, fk_t q3 r2, fun _ => rfl, fun c => absurd (cs_2 h (r1 (pl (M 213) - 1) (by omega))) c⟩
  · rw [e]
    refine ⟨_, M2, rfl, fk_t q3 r2, fun c => absurd (cs_1 h c g1) g3, fun c => ⟨s, rfl, g1, g2, Or.inr g3⟩⟩
