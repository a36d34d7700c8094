/-! PURE: whether a diagram does for a beat -/
/-- the marks up to pedal m fit -/
def fitM (N : Nt) (b d m : Nat) : Prop := ∀ p, p < m → mk N b p < 0 ∨ mk N b p = (sd d p : Int)
/-- the strings of the notes before m are there, each another -/
def fitS (N : Nt) (b d m : Nat) : Prop := (∀ n, n < m → 0 ≤ str N b n d) ∧ ∀ n n', n' < n → n < m → str N b n d ≠ str N b n' d
def does (N : Nt) (b d : Nat) : Prop := fitM N b d 7 ∧ fitS N b d (sz N b)
/-- 1 where p holds -/
noncomputable def yes (p : Prop) : Int32 := haveI := Classical.propDecidable p; if p then 1 else 0
theorem yes_t {p : Prop} (h : p) : yes p = 1 := if_pos h
theorem yes_f {p : Prop} (h : ¬ p) : yes p = 0 := if_neg h
theorem yes_i {p q : Prop} (h : p ↔ q) : yes p = yes q := by rw [propext h]
theorem yes_0 {p : Prop} : yes p = 0 ↔ ¬ p := by
  constructor
  · intro h q
    rw [yes_t q] at h
    exact absurd h (by decide)
  · exact yes_f
theorem str_b {N : Nt} (h : WP N) {b n d : Nat} (hb : b < 12) (hn : n < sz N b) (hd : d < 2187) : -1 ≤ str N b n d ∧ str N b n d < 42 := by
  have ht := tg_b h hb hn
  exact strI_b (by omega) (by omega) hd
theorem mark_at {M : Mm} {b p : Nat} (hb : b < 12) (hp : p < 7) : (((229 : Int32) + ((7 : Int32) * nI b)) + nI p) = oI ((229 + 7 * b + p : Nat) : Int) := by
  rw [show (229 : Int32) = oI 229 from rfl, k7, oI_n b, oI_n p, oI_mul, oI_add, oI_add]
  congr 1
theorem doesM {M : Mm} (h : WP (M 213)) {b d : Nat} (hb : b < 12) (hd : d < 2187) : ∀ n m : Nat, m ≤ 7 → 7 < n + m → fitM (M 213) b d m →
    (fitM (M 213) b d 7 ∧ L_X7_doesFor_2 (nI b) (nI d) M n (nI m) = some (.inl ())) ∨ (¬ fitM (M 213) b d 7 ∧ L_X7_doesFor_2 (nI b) (nI d) M n (nI m) = some (.inr 0))
  | 0, m, h1, h2, _ => by omega
  | n + 1, m, h1, h2, h3 => by
    rw [L_X7_doesFor_2]
    by_cases c : m = 7
    · subst c
      left
      rw [if_pos (by rw [k7, oI_n, oI_le ⟨by omega, by omega⟩ ⟨by omega, by omega⟩]; omega)]
      exact ⟨h3, rfl⟩
    · rw [if_neg (by rw [k7, oI_n, oI_le ⟨by omega, by omega⟩ ⟨by omega, by omega⟩]; omega), mark_at (M := M) hb (by omega), ck_t ((oI_ib ⟨by omega, by omega⟩).mpr (by omega)), oI_cl ⟨by omega, by omega⟩, nm_d, Int.toNat_natCast]
      have hm := h.2.2.2.1 b m hb (by omega)
      have em : M 213 (229 + 7 * b + m) = oI (mk (M 213) b m) := (oI_x _).symm
      have es : nI m + 1 = nI (m + 1) := by rw [oI_n, oI_n, k1, oI_add]; congr 1
      have hsd := sd_lt d m
      rw [em, standOf_eq hd (by omega), bd_s, es]
      by_cases c1 : mk (M 213) b m < 0
      · rw [if_pos (by rw [k0, oI_lt ⟨by omega, by omega⟩ ⟨by omega, by omega⟩]; omega)]
        refine doesM h hb hd n (m + 1) (by omega) (by omega) ?_
        intro p hp
        by_cases e : p = m
        · subst e
          exact Or.inl c1
        · exact h3 p (by omega)
      · rw [if_neg (by rw [k0, oI_lt ⟨by omega, by omega⟩ ⟨by omega, by omega⟩]; omega)]
        by_cases c2 : mk (M 213) b m = (sd d m : Int)
        · rw [if_pos (by rw [oI_n, oI_eq ⟨by omega, by omega⟩ ⟨by omega, by omega⟩]; exact c2)]
          refine doesM h hb hd n (m + 1) (by omega) (by omega) ?_
          intro p hp
          by_cases e : p = m
          · subst e
            exact Or.inr c2
          · exact h3 p (by omega)
        · rw [if_neg (by rw [oI_n, oI_eq ⟨by omega, by omega⟩ ⟨by omega, by omega⟩]; exact c2)]
          right
          refine ⟨?_, rfl⟩
          intro q
          rcases q m (by omega) with q | q
          · exact c1 q
          · exact c2 q
theorem doesS {M : Mm} (h : WP (M 213)) {b d : Nat} (hb : b < 12) (hd : d < 2187) : ∀ (n m : Nat) (x : Int64), m ≤ sz (M 213) b → sz (M 213) b < n + m → fitS (M 213) b d m → (∀ s, s < 42 → (bt_ x s ↔ ∃ i, i < m ∧ str (M 213) b i d = (s : Int))) →
    (fitS (M 213) b d (sz (M 213) b) ∧ L_X7_doesFor_53 (nI b) (nI d) M n x (nI m) = some (.inl ())) ∨ (¬ fitS (M 213) b d (sz (M 213) b) ∧ L_X7_doesFor_53 (nI b) (nI d) M n x (nI m) = some (.inr 0))
  | 0, m, x, h1, h2, _, _ => by omega
  | n + 1, m, x, h1, h2, h3, hx => by
    obtain ⟨ez, hz⟩ := wp_sz h hb
    rw [L_X7_doesFor_53]
    have e1 : (1 : Int32) + nI b = oI ((1 + b : Nat) : Int) := by rw [k1, oI_n, oI_add]; congr 1
    rw [e1, ck_t ((oI_ib ⟨by omega, by omega⟩).mpr (by omega)), oI_cl ⟨by omega, by omega⟩, Int.toNat_natCast, ez]
    by_cases c : m = sz (M 213) b
    · left
      rw [if_pos (by rw [oI_n, oI_n, oI_le ⟨by omega, by omega⟩ ⟨by omega, by omega⟩]; omega)]
      exact ⟨c ▸ h3, rfl⟩
    · rw [if_neg (by rw [oI_n, oI_n, oI_le ⟨by omega, by omega⟩ ⟨by omega, by omega⟩]; omega), stringOf_m h hb (by omega) hd, bd_s]
      have hs := str_b h hb (show m < sz (M 213) b by omega) hd
      have es : nI m + 1 = nI (m + 1) := by rw [oI_n, oI_n, k1, oI_add]; congr 1
      show (_ ∧ (if oI (str (M 213) b m d) < 0 then _ else _) = _) ∨ (_ ∧ (if oI (str (M 213) b m d) < 0 then _ else _) = _)
      by_cases c1 : str (M 213) b m d < 0
      · right
        rw [if_pos (by rw [k0, oI_lt ⟨by omega, by omega⟩ ⟨by omega, by omega⟩]; omega)]
        refine ⟨?_, rfl⟩
        intro q
        have := q.1 m (by omega)
        omega
      · rw [if_neg (by rw [k0, oI_lt ⟨by omega, by omega⟩ ⟨by omega, by omega⟩]; omega)]
        obtain ⟨s, es'⟩ := Int.eq_ofNat_of_zero_le (show 0 ≤ str (M 213) b m d by omega)
        have hs42 : s < 42 := by omega
        show (_ ∧ (if lg_cmp ((x >>> ((oI (str (M 213) b m d)).toInt64 &&& 63)) &&& (1 : Int64)) (1 : Int64) = 0 then _ else nm (x ||| ((1 : Int64) <<< ((oI (str (M 213) b m d)).toInt64 &&& 63))) _) = _) ∨ (_ ∧ (if lg_cmp ((x >>> ((oI (str (M 213) b m d)).toInt64 &&& 63)) &&& (1 : Int64)) (1 : Int64) = 0 then _ else nm (x ||| ((1 : Int64) <<< ((oI (str (M 213) b m d)).toInt64 &&& 63))) _) = _)
        rw [es', ← oI_n s]
        by_cases c2 : bt_ x s
        · right
          rw [if_pos ((low_1 hs42).mpr c2)]
          refine ⟨?_, rfl⟩
          intro q
          obtain ⟨i, hi, ei⟩ := (hx s hs42).mp c2
          exact q.2 m i hi (by omega) (es'.trans ei.symm)
        · rw [if_neg (fun q => c2 ((low_1 hs42).mp q)), nm_d, es]
          refine doesS h hb hd n (m + 1) _ (by omega) (by omega) ?_ ?_
          · refine ⟨?_, ?_⟩
            · intro i hi
              by_cases e : i = m
              · subst e
                omega
              · exact h3.1 i (by omega)
            · intro i i' h4 h5
              by_cases e : i = m
              · subst e
                intro q
                exact c2 ((hx s hs42).mpr ⟨i', h4, q.symm.trans es'⟩)
              · exact h3.2 i i' h4 (by omega)
          · intro t ht
            rw [bt_put hs42 ht, hx t ht]
            constructor
            · intro q
              rcases q with ⟨i, hi, ei⟩ | q
              · exact ⟨i, by omega, ei⟩
              · subst q
                exact ⟨m, by omega, es'⟩
            · intro q
              obtain ⟨i, hi, ei⟩ := q
              by_cases e : i = m
              · subst e
                right
                omega
              · exact Or.inl ⟨i, by omega, ei⟩
theorem doesFor_m {M : Mm} (h : WP (M 213)) {b d : Nat} (hb : b < 12) (hd : d < 2187) : f_X7_doesFor (nI b) (nI d) M = some (yes (does (M 213) b d)) := by
  unfold f_X7_doesFor
  have hz := (wp_sz h hb).2
  rcases doesM h hb hd FU 0 (by omega) (by unfold FU; omega) (fun p hp => by omega) with ⟨h1, e1⟩ | ⟨h1, e1⟩
  · rw [show (0 : Int32) = nI 0 from rfl, e1, bd_s]
    rcases doesS h hb hd FU 0 0 (by omega) (by unfold FU; omega) ⟨fun p hp => by omega, fun p q _ hp => by omega⟩ (fun s _ => ⟨fun q => absurd q bt_0, fun ⟨i, hi, _⟩ => by omega⟩) with ⟨h2, e2⟩ | ⟨h2, e2⟩
    · show Option.bind (L_X7_doesFor_53 (nI b) (nI d) M FU 0 (nI 0)) _ = _
      rw [e2, bd_s, yes_t ⟨h1, h2⟩]
      rfl
    · show Option.bind (L_X7_doesFor_53 (nI b) (nI d) M FU 0 (nI 0)) _ = _
      rw [e2, bd_s, yes_f (fun q => h2 q.2)]
      rfl
  · rw [show (0 : Int32) = nI 0 from rfl, e1, bd_s, yes_f (fun q => h1 q.1)]
    rfl
