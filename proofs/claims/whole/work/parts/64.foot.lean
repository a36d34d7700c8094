/-! PURE: the pedal that a foot moves, class and model -/
/-- pedal p moves to come to beat b by the way w -/
def dfP (N : Nt) (w : Nat → Nat) (b p : Nat) : Prop := (b = 0 ∧ off N (w 0) p = 1) ∨ (0 < b ∧ sd (w b) p ≠ sd (w (b - 1)) p)
/-- r tells the pedal of F that df holds of, -1: none -/
def ftA (F : List Nat) (D : Nat → Prop) (r : Int32) : Prop := (r = oI (-1) ∧ ∀ p, p ∈ F → ¬ D p) ∨ ∃ p, p ∈ F ∧ D p ∧ r = nI p
theorem ftA_u {F : List Nat} {D : Nat → Prop} {r r' : Int32} (hu : ∀ p q, p ∈ F → q ∈ F → D p → D q → p = q) (h : ftA F D r) (h' : ftA F D r') : r = r' := by
  rcases h with ⟨h1, h2⟩ | ⟨p, h1, h2, h3⟩ <;> rcases h' with ⟨g1, g2⟩ | ⟨q, g1, g2, g3⟩
  · rw [h1, g1]
  · exact absurd g2 (h2 q g1)
  · exact absurd h2 (g2 p h1)
  · rw [h3, g3, hu p q h1 g1 h2 g2]
theorem mto_l {x u : Int32} {F : List Nat} {D : Nat → Prop} (hx : ∀ p, p < 7 → (bi x p ↔ p ∈ F)) (hF : ∀ p, p ∈ F → p < 7) (hu : ∀ p, p < 7 → (f_X1_standIn u (nI p) = 0 ↔ ¬ D p)) : ∀ (k n p : Nat), p + k = 7 → k < n → (∀ q, q < p → q ∈ F → ¬ D q) →
    ((∀ q, q ∈ F → ¬ D q) ∧ L_X5_movedTo_50 x u n (nI p) = some (.inl ())) ∨ ∃ q, q ∈ F ∧ D q ∧ L_X5_movedTo_50 x u n (nI p) = some (.inr (nI q))
  | _, 0, _, _, h2, _ => by omega
  | 0, n + 1, p, h1, h2, h3 => by
    rw [L_X5_movedTo_50, if_pos ((zle7 (by omega)).mpr (by omega))]
    exact Or.inl ⟨fun q hq => h3 q (by have := hF q hq; omega) hq, rfl⟩
  | k + 1, n + 1, p, h1, h2, h3 => by
    have hp : p < 7 := by omega
    have hnext : (p ∈ F → ¬ D p) → ((∀ q, q ∈ F → ¬ D q) ∧ L_X5_movedTo_50 x u n (nI (p + 1)) = some (.inl ())) ∨ ∃ q, q ∈ F ∧ D q ∧ L_X5_movedTo_50 x u n (nI (p + 1)) = some (.inr (nI q)) := fun g => mto_l hx hF hu k n (p + 1) (by omega) (by omega) (fun q hq hqF => by
      by_cases c : q = p
      · rw [c] at hqF ⊢
        exact g hqF
      · exact h3 q (by omega) hqF)
    rw [L_X5_movedTo_50, if_neg (fun q => by have := (zle7 (by omega)).mp q; omega), nI_s]
    by_cases c : p ∈ F
    · rw [if_neg (fun q => (bit_0 hp).mp q ((hx p hp).mpr c))]
      by_cases c2 : D p
      · rw [if_neg (fun q => (hu p hp).mp q c2)]
        exact Or.inr ⟨p, c, c2, rfl⟩
      · rw [if_pos ((hu p hp).mpr c2)]
        exact hnext (fun _ => c2)
    · rw [if_pos ((bit_0 hp).mpr (fun q => c ((hx p hp).mp q)))]
      exact hnext (fun q => absurd q c)
theorem xor_sd {d e p : Nat} (hd : d < 2187) (he : e < 2187) (hp : p < 7) : f_X1_standIn (nI (sB d) ^^^ nI (sB e)) (nI p) = 0 ↔ sd d p = sd e p := by
  rw [sin_0 hp, bi_xor, bi_xor, sB_bi hd (by omega), sB_bi he (by omega), sB_bi hd (by omega), sB_bi he (by omega), show (2 * p) / 2 = p by omega, show (2 * p + 1) / 2 = p by omega, show (2 * p) % 2 = 0 by omega, show (2 * p + 1) % 2 = 1 by omega]
  have h5 := tb_k (sd d p) (sd_lt d p) (sd e p) (sd_lt e p)
  constructor
  · intro ⟨h1, h2⟩
    refine h5.mp (fun i hi => ?_)
    have h1' := Classical.not_not.mp h1
    have h2' := Classical.not_not.mp h2
    have h7 : i = 0 ∨ i = 1 := by omega
    rcases h7 with h7 | h7
    · rw [h7]
      exact ⟨fun q => (h1'.mp ⟨by omega, q⟩).2, fun q => (h1'.mpr ⟨by omega, q⟩).2⟩
    · rw [h7]
      exact ⟨fun q => (h2'.mp ⟨by omega, q⟩).2, fun q => (h2'.mpr ⟨by omega, q⟩).2⟩
  · intro h
    rw [h]
    exact ⟨fun q => q Iff.rfl, fun q => q Iff.rfl⟩
theorem moved_c {N : Nt} (hN : WP N) {M : Mm} {w : Nat → Nat} {b : Nat} {x : Int32} {F : List Nat} (hx : ∀ p, p < 7 → (bi x p ↔ p ∈ F)) (hF : ∀ p, p ∈ F → p < 7) (hP : RelP 3 M N) (hH : Hp M) (hb : b < pl N) (hw : ∀ i, i < pl N → M 203 i = nI (w i)) (hl : ∀ i, i < pl N → w i < 2187) : ∃ r, f_X5_movedTo (nI b) x M = some r ∧ ftA F (dfP N w b) r := by
  obtain ⟨ep, p1, p2⟩ := wp_pl hN
  have hwb := hl b hb
  have hmain : ∀ u : Int32, (∀ p, p < 7 → (f_X1_standIn u (nI p) = 0 ↔ ¬ dfP N w b p)) → ∃ r, Option.bind (L_X5_movedTo_50 x u FU (0 : Int32)) (fun q_19 => Sum.elim (fun w_26 => some (-1 : Int32)) (fun r => some r) q_19) = some r ∧ ftA F (dfP N w b) r := fun u hu => by
    have h := mto_l hx hF hu 7 FU 0 (by omega) (by unfold FU; omega) (fun q hq => by omega)
    rw [nI_00] at h
    rcases h with ⟨h1, e⟩ | ⟨q, h1, h2, e⟩
    · rw [e]
      exact ⟨_, rfl, Or.inl ⟨rfl, h1⟩⟩
    · rw [e]
      exact ⟨_, rfl, Or.inr ⟨q, h1, h2, rfl⟩⟩
  unfold f_X5_movedTo
  rw [zck (by omega) (by omega), zcl (show b < 2147483648 by omega), hw b hb, zck hwb (by omega), zcl (show w b < 2147483648 by omega), hH _ hwb, nm_d]
  by_cases c : b = 0
  · subst c
    obtain ⟨y, q1, q2⟩ := unlike_c hN hP hwb
    rw [if_pos (by decide), q1, bd_s, bd_s]
    refine hmain y (fun p hp => ?_)
    rw [q2 p hp]
    have := off_b N (w 0) p
    unfold dfP
    omega
  · have e1 : nI b - (1 : Int32) = nI (b - 1) := zsu (a := b) (b := 1) (by omega)
    have hwb' := hl (b - 1) (by omega)
    rw [if_neg (fun q => by have := (zle (b := 0) (by omega) (by omega)).mp q; omega), e1, zck (by omega) (by omega), zcl (show b - 1 < 2147483648 by omega), hw (b - 1) (by omega), zck hwb' (by omega), zcl (show w (b - 1) < 2147483648 by omega), hH _ hwb', bd_s]
    refine hmain _ (fun p hp => ?_)
    rw [xor_sd hwb hwb' hp]
    unfold dfP
    omega
/-- the way moves one pedal of a foot at most -/
theorem df_u {N : Nt} (hN : WP N) {w : Nat → Nat} (hW : isW N w) (hB : (BP N).1 < 63) {b : Nat} (hb : b < pl N) {F : List Nat} (hF : F = fL ∨ F = fR) : ∀ p q, p ∈ F → q ∈ F → dfP N w b p → dfP N w b q → p = q := by
  intro p q hp hq h1 h2
  by_cases c : b = 0
  · subst c
    have g1 : off N (w 0) p = 1 := by
      rcases h1 with h1 | h1
      · exact h1.2
      · omega
    have g2 : off N (w 0) q = 1 := by
      rcases h2 with h2 | h2
      · exact h2.2
      · omega
    have hd := isW_lt hW 0 hb
    have h3 := (first_e hN hB hd).mp hW.1.1.2
    have e3 : (tp N (w 0)).1 = (V N (pl N - 1) (pl N - 1) (w 0)).1 + ahd N (w 0) := rfl
    rw [e3] at h3
    have h4 : ahd N (w 0) < 63 := by omega
    have h5 : offL N (w 0) 7 ≤ 1 ∧ offR N (w 0) 7 ≤ 1 := by
      unfold ahd at h4
      by_cases c1 : 1 < offL N (w 0) 7
      · rw [if_pos c1] at h4
        omega
      · rw [if_neg c1] at h4
        by_cases c2 : offR N (w 0) 7 ≤ 1
        · omega
        · rw [if_neg c2] at h4
          omega
    have eL : offL N (w 0) 7 = off N (w 0) 0 + off N (w 0) 1 + off N (w 0) 6 := by
      simp [offL]
    have eR : offR N (w 0) 7 = off N (w 0) 2 + off N (w 0) 3 + off N (w 0) 4 + off N (w 0) 5 := by
      simp [offR]
    rcases hF with hF | hF
    · subst hF
      have hp' : p = 0 ∨ p = 1 ∨ p = 6 := by simpa [fL] using hp
      have hq' : q = 0 ∨ q = 1 ∨ q = 6 := by simpa [fL] using hq
      rcases hp' with h | h | h <;> subst h <;> rcases hq' with h | h | h <;> subst h <;> omega
    · subst hF
      have hp' : p = 2 ∨ p = 3 ∨ p = 4 ∨ p = 5 := by simpa [fR] using hp
      have hq' : q = 2 ∨ q = 3 ∨ q = 4 ∨ q = 5 := by simpa [fR] using hq
      rcases hp' with h | h | h | h <;> subst h <;> rcases hq' with h | h | h | h <;> subst h <;> omega
  · have g1 : sd (w b) p ≠ sd (w (b - 1)) p := by
      rcases h1 with h1 | h1
      · exact absurd h1.1 c
      · exact h1.2
    have g2 : sd (w b) q ≠ sd (w (b - 1)) q := by
      rcases h2 with h2 | h2
      · exact absurd h2.1 c
      · exact h2.2
    have h3 := (hW.2 (b - 1) (by omega)).1
    rw [show b - 1 + 1 = b by omega] at h3
    obtain ⟨a, i1, i2, i3⟩ := h3
    have i1' : (w b, a.2) ∈ ops (lk N (b - 1) (w (b - 1))) (w (b - 1)) := by
      rw [← i2]
      exact i1
    obtain ⟨x, c1, c2, j1, j2, j3⟩ := ops_in.mp i1'
    have one : ∀ (L : Nat → Prop) (G : List Nat) (d e c : Nat), (∀ p, p ∈ G → p < 7) → st L G d e c → ∃ t, ∀ r, r ≠ t → sd e r = sd d r := fun L G d e c hG h => by
      rcases h with ⟨_, h⟩ | ⟨_, h⟩
      · rw [h]
        exact ⟨0, fun _ _ => rfl⟩
      · obtain ⟨t, k, l1, l2, l3, l4⟩ := fl_in.mp h
        rw [l4]
        exact ⟨t, fun r hr => sd_mq (hG t l1) (Ne.symm hr)⟩
    have oth : ∀ (L : Nat → Prop) (G : List Nat) (d e c : Nat), (∀ p, p ∈ G → p < 7) → st L G d e c → ∀ r, r ∉ G → sd e r = sd d r := fun L G d e c hG h r hr => by
      rcases h with ⟨_, h⟩ | ⟨_, h⟩
      · rw [h]
      · obtain ⟨t, k, l1, l2, l3, l4⟩ := fl_in.mp h
        rw [l4]
        exact sd_mq (hG t l1) (fun q => hr (q ▸ l1))
    rcases hF with hF | hF
    · subst hF
      obtain ⟨t, ht⟩ := one _ _ _ _ _ fL_7 j1
      have h7 : ∀ r, r ∈ fL → r ≠ t → sd (w b) r = sd (w (b - 1)) r := fun r hr hrt => by
        rw [oth _ _ _ _ _ fR_7 j2 r (fun q => by
          have a1 : r = 0 ∨ r = 1 ∨ r = 6 := by simpa [fL] using hr
          have a2 : r = 2 ∨ r = 3 ∨ r = 4 ∨ r = 5 := by simpa [fR] using q
          omega), ht r hrt]
      have e1 : p = t := Classical.byContradiction (fun q => g1 (h7 p hp q))
      have e2 : q = t := Classical.byContradiction (fun r => g2 (h7 q hq r))
      rw [e1, e2]
    · subst hF
      obtain ⟨t, ht⟩ := one _ _ _ _ _ fR_7 j2
      have h7 : ∀ r, r ∈ fR → r ≠ t → sd (w b) r = sd (w (b - 1)) r := fun r hr hrt => by
        rw [ht r hrt, oth _ _ _ _ _ fL_7 j1 r (fun q => by
          have a1 : r = 0 ∨ r = 1 ∨ r = 6 := by simpa [fL] using q
          have a2 : r = 2 ∨ r = 3 ∨ r = 4 ∨ r = 5 := by simpa [fR] using hr
          omega)]
      have e1 : p = t := Classical.byContradiction (fun q => g1 (h7 p hp q))
      have e2 : q = t := Classical.byContradiction (fun r => g2 (h7 q hq r))
      rw [e1, e2]
theorem ftk_k : ∀ k : Nat, k < 7 → st_ 9 k = nI (ft k) := by decide +kernel
/-- the model's loop: pedals FEET[k] from k on below e -/
theorem foot_41 {N : Nt} (hN : WP N) {M : Mm} {w : Nat → Nat} {b e : Nat} {x : Int32} {v : Int32} {F : List Nat} (hM : M 213 = N) (he : (if x = 0 then (3 : Int32) else (7 : Int32)) = nI e) (he7 : e ≤ 7) (hb : b < pl N) (hw : ∀ i, i < pl N → M 222 i = nI (w i)) (hl : ∀ i, i < pl N → w i < 2187) {s : Nat} (hF : ∀ p, p ∈ F ↔ ∃ k, s ≤ k ∧ k < e ∧ p = ft k) : ∀ (u n k : Nat), k + u = e → s ≤ k → u < n → (∀ j, s ≤ j → j < k → ¬ dfP N w b (ft j)) →
    ((∀ q, q ∈ F → ¬ dfP N w b q) ∧ L_X7_foot_41 (nI b) x (v, M) n (nI k) = some (.inl ())) ∨ ∃ q, q ∈ F ∧ dfP N w b q ∧ L_X7_foot_41 (nI b) x (v, M) n (nI k) = some (.inr (nI q, M))
  | _, 0, _, _, _, h2, _ => by omega
  | 0, n + 1, k, h1, hs, h2, h3 => by
    rw [L_X7_foot_41, he, nm_d, if_pos ((zle (by omega) (by omega)).mpr (by omega))]
    refine Or.inl ⟨fun q hq => ?_, rfl⟩
    obtain ⟨j, g1, g2, g3⟩ := (hF q).mp hq
    rw [g3]
    exact h3 j g1 (by omega)
  | u + 1, n + 1, k, h1, hs, h2, h3 => by
    obtain ⟨ep, p1, p2⟩ := wp_pl hN
    have hk : k < 7 := by omega
    have hft := ft_k k hk
    have hwb := hl b hb
    have hsb := sd_lt (w b) (ft k)
    have hnext : ¬ dfP N w b (ft k) → ((∀ q, q ∈ F → ¬ dfP N w b q) ∧ L_X7_foot_41 (nI b) x (v, M) n (nI (k + 1)) = some (.inl ())) ∨ ∃ q, q ∈ F ∧ dfP N w b q ∧ L_X7_foot_41 (nI b) x (v, M) n (nI (k + 1)) = some (.inr (nI q, M)) := fun g => foot_41 hN hM he he7 hb hw hl hF u n (k + 1) (by omega) (by omega) (by omega) (fun j g1 g2 => by
      by_cases c : j = k
      · rw [c]
        exact g
      · exact h3 j g1 (by omega))
    have hyes : dfP N w b (ft k) → ((∀ q, q ∈ F → ¬ dfP N w b q) ∧ some (Sum.inr (nI (ft k), M)) = some (.inl ())) ∨ ∃ q, q ∈ F ∧ dfP N w b q ∧ (some (Sum.inr (nI (ft k), M)) : Option (Unit ⊕ (Int32 × Mm))) = some (.inr (nI q, M)) := fun g => Or.inr ⟨ft k, (hF _).mpr ⟨k, hs, by omega, rfl⟩, g, rfl⟩
    rw [L_X7_foot_41, he, nm_d, if_neg (fun q => by have := (zle (by omega) (by omega)).mp q; omega), zck hk (by omega), zcl (show k < 2147483648 by omega), ftk_k k hk, nm_d, nI_s]
    dsimp only
    by_cases c : b = 0
    · have e1 : (313 : Int32) + nI (ft k) = nI (313 + ft k) := zad 313 (ft k)
      have em : M 213 (313 + ft k) = oI (so N (ft k)) := by rw [hM]; exact (oI_x _).symm
      have hso := hN.2.2.2.2 (ft k) hft
      rw [if_pos (by rw [c]; rfl), e1, zck (by omega) (by omega), zcl (by omega), em, bd_s]
      have hdf : dfP N w b (ft k) ↔ (0 ≤ so N (ft k) ∧ so N (ft k) ≠ (sd (w b) (ft k) : Int)) := by
        unfold dfP off
        rw [c]
        constructor
        · intro g
          rcases g with ⟨_, g⟩ | g
          · by_cases c1 : so N (ft k) < 0
            · rw [if_pos c1] at g
              omega
            · rw [if_neg c1] at g
              by_cases c2 : so N (ft k) = (sd (w 0) (ft k) : Int)
              · rw [if_pos c2] at g
                omega
              · exact ⟨by omega, c2⟩
          · omega
        · intro ⟨g1, g2⟩
          left
          rw [if_neg (by omega), if_neg g2]
          exact ⟨rfl, rfl⟩
      by_cases c1 : so N (ft k) < 0
      · rw [if_pos (by rw [k0, oI_lt ⟨by omega, by omega⟩ ⟨by omega, by omega⟩]; exact c1)]
        exact hnext (fun g => by have := hdf.mp g; omega)
      · rw [if_neg (by rw [k0, oI_lt ⟨by omega, by omega⟩ ⟨by omega, by omega⟩]; exact c1), zck (show b < 12 by omega) (by omega), zcl (show b < 2147483648 by omega), hw b hb, standOf_eq hwb hft, bd_s]
        by_cases c2 : so N (ft k) = (sd (w b) (ft k) : Int)
        · rw [if_pos (by rw [oI_n, c2])]
          exact hnext (fun g => absurd c2 (hdf.mp g).2)
        · rw [if_neg (by rw [oI_n, oI_eq ⟨by omega, by omega⟩ ⟨by omega, by omega⟩]; exact c2)]
          exact hyes (hdf.mpr ⟨by omega, c2⟩)
    · have e1 : nI b - (1 : Int32) = nI (b - 1) := zsu (a := b) (b := 1) (by omega)
      have hwb' := hl (b - 1) (by omega)
      have hsb' := sd_lt (w (b - 1)) (ft k)
      have hdf : dfP N w b (ft k) ↔ sd (w (b - 1)) (ft k) ≠ sd (w b) (ft k) := by
        unfold dfP
        omega
      rw [if_neg (fun q => c ((nI_z (by omega)).mp q)), e1, zck (by omega) (by omega), zcl (by omega), hw (b - 1) (by omega), standOf_eq hwb' hft, bd_s, bd_s, if_neg (nI_nn (by omega)), zck (show b < 12 by omega) (by omega), zcl (show b < 2147483648 by omega), hw b hb, standOf_eq hwb hft, bd_s]
      by_cases c2 : sd (w (b - 1)) (ft k) = sd (w b) (ft k)
      · rw [if_pos (congrArg nI c2)]
        exact hnext (fun g => hdf.mp g c2)
      · rw [if_neg (fun q => c2 ((zeq (by omega) (by omega)).mp q))]
        exact hyes (hdf.mpr c2)
