/-! PURE: strings sorted, hands, splits: class and model -/
abbrev Ar : Type := Nat → Int32
def pt (A : Ar) (j : Nat) (v : Int32) : Ar := fun i => if i = j then v else A i
theorem pt_s {A : Ar} {j : Nat} {v : Int32} : pt A j v j = v := if_pos rfl
theorem pt_o {A : Ar} {i j : Nat} {v : Int32} (h : i ≠ j) : pt A j v i = A i := if_neg h
theorem mw_pt {M : Mm} {k j : Nat} {v : Int32} : mw M k j v k = pt (M k) j v := funext (fun i => by
  by_cases c : i = j
  · rw [c, mw_s, pt_s]
  · rw [mw_o c, pt_o c])
/-- shift up what is above q, from place k down -/
def sh20 (q : Int32) : Nat → Ar → Ar → Nat × Ar × Ar
  | 0, A, F => (0, A, F)
  | k + 1, A, F => if A k ≤ q then (k + 1, A, F) else sh20 q k (pt A (k + 1) (A k)) (pt F (k + 1) (F k))
theorem sh20_le {q : Int32} : ∀ (k : Nat) (A F : Ar), (sh20 q k A F).1 ≤ k
  | 0, _, _ => Nat.le_refl _
  | k + 1, A, F => by
    rw [sh20]
    split
    · exact Nat.le_refl _
    · have := sh20_le (q := q) k (pt A (k + 1) (A k)) (pt F (k + 1) (F k))
      omega
/-- two arrays agree at places below m other than j -/
def agr (m j : Nat) (A A' : Ar) : Prop := ∀ i, i < m → i ≠ j → A i = A' i
theorem sh20_c {q : Int32} {m : Nat} : ∀ (k : Nat) (A F A' F' : Ar), k < m → agr m k A A' → agr m k F F' → (sh20 q k A F).1 = (sh20 q k A' F').1 ∧ agr m (sh20 q k A F).1 (sh20 q k A F).2.1 (sh20 q k A' F').2.1 ∧ agr m (sh20 q k A F).1 (sh20 q k A F).2.2 (sh20 q k A' F').2.2
  | 0, A, F, A', F', h1, h2, h3 => ⟨rfl, h2, h3⟩
  | k + 1, A, F, A', F', h1, h2, h3 => by
    rw [sh20, sh20, ← h2 k (by omega) (by omega), ← h3 k (by omega) (by omega)]
    by_cases c : A k ≤ q
    · rw [if_pos c, if_pos c]
      exact ⟨rfl, h2, h3⟩
    · rw [if_neg c, if_neg c]
      refine sh20_c k _ _ _ _ (by omega) (fun i g1 g2 => ?_) (fun i g1 g2 => ?_)
      · by_cases c2 : i = k + 1
        · rw [c2, pt_s, pt_s]
        · rw [pt_o c2, pt_o c2, h2 i g1 c2]
      · by_cases c2 : i = k + 1
        · rw [c2, pt_s, pt_s]
        · rw [pt_o c2, pt_o c2, h3 i g1 c2]
/-- sort in u more, from place i on -/
def srt (q f : Ar) : Nat → Nat → Ar → Ar → Ar × Ar
  | 0, _, A, F => (A, F)
  | u + 1, i, A, F => srt q f u (i + 1) (pt (sh20 (q i) i A F).2.1 (sh20 (q i) i A F).1 (q i)) (pt (sh20 (q i) i A F).2.2 (sh20 (q i) i A F).1 (f i))
theorem srt_c {q f : Ar} : ∀ (u i : Nat) (A F A' F' : Ar), (∀ j, j < i → A j = A' j ∧ F j = F' j) → ∀ j, j < i + u → (srt q f u i A F).1 j = (srt q f u i A' F').1 j ∧ (srt q f u i A F).2 j = (srt q f u i A' F').2 j
  | 0, i, A, F, A', F', h, j, hj => h j (by omega)
  | u + 1, i, A, F, A', F', h, j, hj => by
    obtain ⟨e, g1, g2⟩ := sh20_c (q := q i) (m := i + 1) i A F A' F' (by omega) (fun k h1 h2 => (h k (by omega)).1) (fun k h1 h2 => (h k (by omega)).2)
    rw [srt, srt]
    refine srt_c u (i + 1) _ _ _ _ (fun k hk => ?_) j (by omega)
    by_cases c : k = (sh20 (q i) i A F).1
    · rw [← e, c, pt_s, pt_s, pt_s, pt_s]
      exact ⟨rfl, rfl⟩
    · rw [← e, pt_o c, pt_o c, pt_o c, pt_o c]
      exact ⟨g1 k hk c, g2 k hk c⟩
theorem s20 {a : Nat} {q : Int32} : ∀ (k n : Nat) (M : Mm), k < 6 → k < n → ∃ M', L_X0_sortStrings_20 a q n (nI k) M = some (nI (sh20 q k (M (a + 7)) (M (a + 8))).1, M') ∧ M' (a + 7) = (sh20 q k (M (a + 7)) (M (a + 8))).2.1 ∧ M' (a + 8) = (sh20 q k (M (a + 7)) (M (a + 8))).2.2 ∧ ∀ c, c ≠ a + 7 → c ≠ a + 8 → M' c = M c
  | _, 0, _, _, h2 => by omega
  | 0, n + 1, M, h1, h2 => by
    rw [L_X0_sortStrings_20, if_pos (by decide)]
    exact ⟨M, rfl, rfl, rfl, fun _ _ _ => rfl⟩
  | k + 1, n + 1, M, h1, h2 => by
    have e1 : nI (k + 1) - (1 : Int32) = nI k := zsu (a := k + 1) (b := 1) (by omega)
    have e2 : nI (k + 1) + (-1) = nI k := by
      rw [oI_n, km1, oI_add, oI_n]
      congr 1
      omega
    rw [L_X0_sortStrings_20, if_neg (fun q => by have := (zle (b := 0) (by omega) (by omega)).mp q; omega), e1, zck (by omega) (by omega), zcl (show k < 2147483648 by omega), sh20]
    by_cases c : M (a + 7) k ≤ q
    · rw [if_pos c, if_pos c]
      exact ⟨M, rfl, rfl, rfl, fun _ _ _ => rfl⟩
    · rw [if_neg c, if_neg c, zck (by omega) (by omega), zck (by omega) (by omega), nm_d, zck (by omega) (by omega), zck (by omega) (by omega), nm_d, zcl (show k + 1 < 2147483648 by omega), e2, mw_c (show a + 8 ≠ a + 7 by omega)]
      obtain ⟨M', q1, q2, q3, q4⟩ := s20 (a := a) (q := q) k n (mw (mw M (a + 7) (k + 1) (M (a + 7) k)) (a + 8) (k + 1) (M (a + 8) k)) (by omega) (by omega)
      have f7 : mw (mw M (a + 7) (k + 1) (M (a + 7) k)) (a + 8) (k + 1) (M (a + 8) k) (a + 7) = pt (M (a + 7)) (k + 1) (M (a + 7) k) := by rw [mw_c (by omega), mw_pt]
      have f8 : mw (mw M (a + 7) (k + 1) (M (a + 7) k)) (a + 8) (k + 1) (M (a + 8) k) (a + 8) = pt (M (a + 8)) (k + 1) (M (a + 8) k) := by rw [mw_pt, mw_c (by omega)]
      rw [f7, f8] at q1 q2 q3
      exact ⟨M', q1, q2, q3, fun c g1 g2 => by rw [q4 c g1 g2, mw_c g2, mw_c g1]⟩
theorem s63 {q : Int32} : ∀ (n : Nat) (x : Int32) (M : Mm), L_X7_splitOf_63 q n x M = L_X0_sortStrings_20 218 q n x M
  | 0, _, _ => rfl
  | n + 1, x, M => by
    rw [L_X7_splitOf_63, L_X0_sortStrings_20]
    simp only [s63 n]
/-- the class's sort -/
theorem sort_l {N : Nt} (hN : WP N) {b d : Nat} (hb : b < 12) (hd : d < 2187) : ∀ (u n i : Nat) (M : Mm), i + u = sz N b → u < n → M 152 0 = nI (sz N b) → (∀ j, j < sz N b → ChN 152 M N b j) →
    ∃ M', L_X0_sortStrings_2 152 (nI (sB d)) n (nI i) M = some M' ∧ (M' 159, M' 160) = srt (fun i => oI (str N b i d)) (fun i => nI (fg (kd N b i))) u i (M 159) (M 160) ∧ ∀ c, c ≠ 159 → c ≠ 160 → M' c = M c
  | _, 0, _, _, _, h2, _, _ => by omega
  | 0, n + 1, i, M, h1, h2, h3, h4 => by
    have hz := (wp_sz hN hb).2
    rw [L_X0_sortStrings_2, h3, if_pos ((zle (by omega) (by omega)).mpr (by omega))]
    exact ⟨M, rfl, rfl, fun _ _ _ => rfl⟩
  | u + 1, n + 1, i, M, h1, h2, h3, h4 => by
    have hz := (wp_sz hN hb).2
    have hi : i < sz N b := by omega
    obtain ⟨M1, q1, q2, q3, q4⟩ := s20 (a := 152) (q := oI (str N b i d)) i FU M (by omega) (by unfold FU; omega)
    have hj := sh20_le (q := oI (str N b i d)) i (M 159) (M 160)
    have q1' : L_X0_sortStrings_20 152 (oI (str N b i d)) FU (nI i) M = some (nI (sh20 (oI (str N b i d)) i (M 159) (M 160)).1, M1) := q1
    have q2' : M1 159 = (sh20 (oI (str N b i d)) i (M 159) (M 160)).2.1 := q2
    have q3' : M1 160 = (sh20 (oI (str N b i d)) i (M 159) (M 160)).2.2 := q3
    rw [L_X0_sortStrings_2, h3, if_neg (fun q => by have := (zle (by omega) (by omega)).mp q; omega), stringOf_c hN hb hi hd (h4 i hi), bd_s, q1', bd_s]
    dsimp only
    rw [zck (by omega) (by omega), nm_d, zck (by omega) (by omega), zck (by omega) (by omega), nm_d, zcl (show (sh20 (oI (str N b i d)) i (M 159) (M 160)).1 < 2147483648 by omega), zcl (show i < 2147483648 by omega), nI_s]
    have ef : mw M1 (152 + 7) (sh20 (oI (str N b i d)) i (M 159) (M 160)).1 (oI (str N b i d)) (152 + 1) i = nI (fg (kd N b i)) := by
      rw [mw_c (by omega), q4 (152 + 1) (by omega) (by omega)]
      exact (h4 i hi).1
    rw [ef, srt, ← q2', ← q3']
    obtain ⟨M2, r1, r2, r3⟩ := sort_l hN hb hd u n (i + 1) (mw (mw M1 (152 + 7) (sh20 (oI (str N b i d)) i (M 159) (M 160)).1 (oI (str N b i d))) (152 + 8) (sh20 (oI (str N b i d)) i (M 159) (M 160)).1 (nI (fg (kd N b i)))) (by omega) (by omega) (by rw [mw_c (by omega), mw_c (by omega), q4 152 (by omega) (by omega)]; exact h3) (fun j hj => chn_f (h4 j hj) (fun c g1 g2 => by rw [mw_c (by omega), mw_c (by omega), q4 c (by omega) (by omega)]))
    have f7 : mw (mw M1 (152 + 7) (sh20 (oI (str N b i d)) i (M 159) (M 160)).1 (oI (str N b i d))) (152 + 8) (sh20 (oI (str N b i d)) i (M 159) (M 160)).1 (nI (fg (kd N b i))) 159 = pt (M1 159) (sh20 (oI (str N b i d)) i (M 159) (M 160)).1 (oI (str N b i d)) := by rw [mw_c (by decide), mw_pt]
    have f8 : mw (mw M1 (152 + 7) (sh20 (oI (str N b i d)) i (M 159) (M 160)).1 (oI (str N b i d))) (152 + 8) (sh20 (oI (str N b i d)) i (M 159) (M 160)).1 (nI (fg (kd N b i))) 160 = pt (M1 160) (sh20 (oI (str N b i d)) i (M 159) (M 160)).1 (nI (fg (kd N b i))) := by rw [mw_pt, mw_c (by decide)]
    rw [f7, f8] at r2
    exact ⟨M2, r1, r2, fun c g1 g2 => by rw [r3 c g1 g2, mw_c g2, mw_c g1, q4 c g1 g2]⟩
theorem fin_k : ∀ k : Nat, k < 4 → (if nI k = (1 : Int32) then some (2 : Int32) else (if nI k = (3 : Int32) then some (2 : Int32) else some (1 : Int32))) = some (nI (fg k)) := by decide +kernel
/-- the model's sort -/
theorem sort_m {N : Nt} (hN : WP N) {b d : Nat} (hb : b < 12) (hd : d < 2187) : ∀ (u n i : Nat) (M : Mm), i + u = sz N b → u < n → M 213 = N →
    ∃ M', L_X7_splitOf_12 (nI b) (nI d) (nI (sz N b)) n (nI i) M = some M' ∧ (M' 225, M' 226) = srt (fun i => oI (str N b i d)) (fun i => nI (fg (kd N b i))) u i (M 225) (M 226) ∧ ∀ c, c ≠ 225 → c ≠ 226 → M' c = M c
  | _, 0, _, _, _, h2, _ => by omega
  | 0, n + 1, i, M, h1, h2, h3 => by
    have hz := (wp_sz hN hb).2
    rw [L_X7_splitOf_12, if_pos ((zle (by omega) (by omega)).mpr (by omega))]
    exact ⟨M, rfl, rfl, fun _ _ _ => rfl⟩
  | u + 1, n + 1, i, M, h1, h2, h3 => by
    have hz := (wp_sz hN hb).2
    have hi : i < sz N b := by omega
    obtain ⟨ek, hk⟩ := wp_kd hN hb hi
    have h213 : WP (M 213) := by rw [h3]; exact hN
    have es : f_X7_stringOf (nI b) (nI i) (nI d) M = some (oI (str N b i d)) := by
      have h := stringOf_m (M := M) h213 hb (n := i) (d := d) (by rw [h3]; exact hi) hd
      rw [h3] at h
      exact h
    have en : f_X7_note (nI b) (nI i) 0 M = some (nI (kd N b i)) := by
      rw [note_0 hb (by omega), h3, ek]
    obtain ⟨M1, q1, q2, q3, q4⟩ := s20 (a := 218) (q := oI (str N b i d)) i FU M (by omega) (by unfold FU; omega)
    have hj := sh20_le (q := oI (str N b i d)) i (M 225) (M 226)
    have q1' : L_X0_sortStrings_20 218 (oI (str N b i d)) FU (nI i) M = some (nI (sh20 (oI (str N b i d)) i (M 225) (M 226)).1, M1) := q1
    have q2' : M1 225 = (sh20 (oI (str N b i d)) i (M 225) (M 226)).2.1 := q2
    have q3' : M1 226 = (sh20 (oI (str N b i d)) i (M 225) (M 226)).2.2 := q3
    rw [L_X7_splitOf_12, if_neg (fun q => by have := (zle (by omega) (by omega)).mp q; omega), es, bd_s, en, bd_s, bd_s, fin_k _ (by omega), bd_s, s63, q1', bd_s]
    dsimp only
    rw [zck (by omega) (by omega), nm_d, zck (by omega) (by omega), nm_d, zcl (show (sh20 (oI (str N b i d)) i (M 225) (M 226)).1 < 2147483648 by omega), nI_s, srt, ← q2', ← q3']
    obtain ⟨M2, r1, r2, r3⟩ := sort_m hN hb hd u n (i + 1) (mw (mw M1 225 (sh20 (oI (str N b i d)) i (M 225) (M 226)).1 (oI (str N b i d))) 226 (sh20 (oI (str N b i d)) i (M 225) (M 226)).1 (nI (fg (kd N b i)))) (by omega) (by omega) (by rw [mw_c (by decide), mw_c (by decide), q4 213 (by omega) (by omega)]; exact h3)
    have f7 : mw (mw M1 225 (sh20 (oI (str N b i d)) i (M 225) (M 226)).1 (oI (str N b i d))) 226 (sh20 (oI (str N b i d)) i (M 225) (M 226)).1 (nI (fg (kd N b i))) 225 = pt (M1 225) (sh20 (oI (str N b i d)) i (M 225) (M 226)).1 (oI (str N b i d)) := by rw [mw_c (by decide), mw_pt]
    have f8 : mw (mw M1 225 (sh20 (oI (str N b i d)) i (M 225) (M 226)).1 (oI (str N b i d))) 226 (sh20 (oI (str N b i d)) i (M 225) (M 226)).1 (nI (fg (kd N b i))) 226 = pt (M1 226) (sh20 (oI (str N b i d)) i (M 225) (M 226)).1 (nI (fg (kd N b i))) := by rw [mw_pt, mw_c (by decide)]
    rw [f7, f8] at r2
    exact ⟨M2, r1, r2, fun c g1 g2 => by rw [r3 c g1 g2, mw_c g2, mw_c g1, q4 c g1 g2]⟩
