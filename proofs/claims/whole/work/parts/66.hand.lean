/-! PURE: hands and splits -/
def sumF (F : Ar) : Nat → Nat → Int32 → Int32
  | 0, _, s => s
  | k + 1, i, s => sumF F k (i + 1) (s + F i)
theorem sumF_c {F F' : Ar} : ∀ (k i : Nat) (s : Int32), (∀ j, i ≤ j → j < i + k → F j = F' j) → sumF F k i s = sumF F' k i s
  | 0, _, _, _ => rfl
  | k + 1, i, s, h => by
    rw [sumF, sumF, h i (Nat.le_refl i) (by omega)]
    exact sumF_c k (i + 1) _ (fun j g1 g2 => h j (by omega) (by omega))
/-- whether a hand can from place i up to place j -/
def hr (A F : Ar) (i j : Nat) : Int32 := if i < j then (if (4 : Int32) < sumF F (j - i) i 0 then 0 else if (9 : Int32) < A (j - 1) - A i then 0 else 1) else 1
theorem hr_c {A F A' F' : Ar} {i j s : Nat} (hj : j ≤ s) (h : ∀ k, k < s → A k = A' k ∧ F k = F' k) : hr A F i j = hr A' F' i j := by
  unfold hr
  by_cases c : i < j
  · rw [if_pos c, if_pos c, sumF_c (F := F) (F' := F') (j - i) i 0 (fun k g1 g2 => (h k (by omega)).2), (h (j - 1) (by omega)).1, (h i (by omega)).1]
  · rw [if_neg c, if_neg c]
theorem hc_12 {a j : Nat} {M : Mm} (hj : j ≤ 6) : ∀ (k n i : Nat) (s : Int32), i + k = j → k < n → L_X0_handCan_12 a (nI j) M n s (nI i) = some (sumF (M (a + 8)) k i s)
  | _, 0, _, _, _, h2 => by omega
  | 0, n + 1, i, s, h1, h2 => by
    rw [L_X0_handCan_12, if_pos ((zle (by omega) (by omega)).mpr (by omega))]
    rfl
  | k + 1, n + 1, i, s, h1, h2 => by
    rw [L_X0_handCan_12, if_neg (fun q => by have := (zle (by omega) (by omega)).mp q; omega), zck (by omega) (by omega), nm_d, zcl (show i < 2147483648 by omega), nI_s, hc_12 hj k n (i + 1) _ (by omega) (by omega), sumF]
theorem hm_5 {j : Nat} {M : Mm} (hj : j ≤ 6) : ∀ (k n i : Nat) (s : Int32), i + k = j → k < n → L_X7_canHand_5 (nI j) M n s (nI i) = some (sumF (M 226) k i s)
  | _, 0, _, _, _, h2 => by omega
  | 0, n + 1, i, s, h1, h2 => by
    rw [L_X7_canHand_5, if_pos ((zle (by omega) (by omega)).mpr (by omega))]
    rfl
  | k + 1, n + 1, i, s, h1, h2 => by
    rw [L_X7_canHand_5, if_neg (fun q => by have := (zle (by omega) (by omega)).mp q; omega), zck (by omega) (by omega), nm_d, zcl (show i < 2147483648 by omega), nI_s, hm_5 hj k n (i + 1) _ (by omega) (by omega), sumF]
theorem hand_c {a i j : Nat} {M : Mm} (hi : i ≤ j) (hj : j ≤ 6) : f_X0_handCan a (nI i) (nI j) M = some (hr (M (a + 7)) (M (a + 8)) i j) := by
  unfold f_X0_handCan hr
  by_cases c : i < j
  · have e1 : nI j - (1 : Int32) = nI (j - 1) := zsu (a := j) (b := 1) (by omega)
    rw [if_pos ((zlt (by omega) (by omega)).mpr c), if_pos c, hc_12 hj (j - i) FU i 0 (by omega) (by unfold FU; omega), bd_s, e1, zck (by omega) (by omega), zck (by omega) (by omega), zcl (show j - 1 < 2147483648 by omega), zcl (show i < 2147483648 by omega)]
    split
    · rfl
    · split <;> rfl
  · rw [if_neg (fun q => c ((zlt (by omega) (by omega)).mp q)), if_neg c]
theorem hand_m {i j : Nat} {M : Mm} (hi : i ≤ j) (hj : j ≤ 6) : f_X7_canHand (nI i) (nI j) M = some (hr (M 225) (M 226) i j) := by
  unfold f_X7_canHand hr
  rw [hm_5 hj (j - i) FU i 0 (by omega) (by unfold FU; omega), bd_s]
  by_cases c : i < j
  · have e1 : nI j - (1 : Int32) = nI (j - 1) := zsu (a := j) (b := 1) (by omega)
    rw [if_neg (fun q => by have := (zeq (by omega) (by omega)).mp q; omega), if_pos c, e1, zck (by omega) (by omega), zck (by omega) (by omega), zcl (show j - 1 < 2147483648 by omega), zcl (show i < 2147483648 by omega)]
    split
    · rfl
    · split <;> rfl
  · rw [if_pos (congrArg nI (show i = j by omega)), if_neg c]
/-- the least split from k on -/
def lsp (A F : Ar) (s : Nat) : Nat → Nat → Int32
  | 0, _ => -1
  | u + 1, k => if hr A F 0 k = 0 then lsp A F s u (k + 1) else if hr A F k s = 0 then lsp A F s u (k + 1) else nI k
theorem lsp_c {A F A' F' : Ar} {s : Nat} (h : ∀ k, k < s → A k = A' k ∧ F k = F' k) : ∀ u k, k + u = s + 1 → lsp A F s u k = lsp A' F' s u k
  | 0, _, _ => rfl
  | u + 1, k, hk => by
    rw [lsp, lsp, hr_c (show k ≤ s by omega) h, hr_c (Nat.le_refl s) h, lsp_c h u (k + 1) (by omega)]
theorem left_l {a s : Nat} {M : Mm} (hs : s ≤ 6) (h0 : M a 0 = nI s) : ∀ (u n k : Nat), k + u = s + 1 → u < n → Option.bind (L_X0_leastForLeft_7 a M n (nI k)) (fun q_4 => Sum.elim (fun w_11 => some ((-1 : Int32), M)) (fun r => some r) q_4) = some (lsp (M (a + 7)) (M (a + 8)) s u k, M)
  | _, 0, _, _, h2 => by omega
  | 0, n + 1, k, h1, h2 => by
    rw [L_X0_leastForLeft_7, h0, if_pos ((zlt (by omega) (by omega)).mpr (by omega))]
    rfl
  | u + 1, n + 1, k, h1, h2 => by
    have e0 : f_X0_handCan a (0 : Int32) (nI k) M = some (hr (M (a + 7)) (M (a + 8)) 0 k) := hand_c (i := 0) (Nat.zero_le _) (by omega)
    rw [L_X0_leastForLeft_7, h0, if_neg (fun q => by have := (zlt (by omega) (by omega)).mp q; omega), e0, bd_s, nI_s, lsp]
    have ih := left_l hs h0 u n (k + 1) (by omega) (by omega)
    by_cases c : hr (M (a + 7)) (M (a + 8)) 0 k = 0
    · rw [if_pos c, if_pos c]
      exact ih
    · rw [if_neg c, if_neg c, hand_c (show k ≤ s by omega) hs, bd_s]
      by_cases c2 : hr (M (a + 7)) (M (a + 8)) k s = 0
      · rw [if_pos c2, if_pos c2]
        exact ih
      · rw [if_neg c2, if_neg c2]
        rfl
theorem left_m {s : Nat} {M : Mm} (hs : s ≤ 6) : ∀ (u n k : Nat), k + u = s + 1 → u < n → Option.bind (L_X7_splitOf_147 (nI s) M n (nI k)) (fun q_4 => Sum.elim (fun w_11 => some ((-1 : Int32), M)) (fun r => some r) q_4) = some (lsp (M 225) (M 226) s u k, M)
  | _, 0, _, _, h2 => by omega
  | 0, n + 1, k, h1, h2 => by
    rw [L_X7_splitOf_147, if_pos ((zlt (by omega) (by omega)).mpr (by omega))]
    rfl
  | u + 1, n + 1, k, h1, h2 => by
    have e0 : f_X7_canHand (0 : Int32) (nI k) M = some (hr (M 225) (M 226) 0 k) := hand_m (i := 0) (Nat.zero_le _) (by omega)
    rw [L_X7_splitOf_147, if_neg (fun q => by have := (zlt (by omega) (by omega)).mp q; omega), e0, bd_s, nI_s, lsp]
    have ih := left_m (M := M) hs u n (k + 1) (by omega) (by omega)
    by_cases c : hr (M 225) (M 226) 0 k = 0
    · rw [if_pos c, if_pos c]
      exact ih
    · rw [if_neg c, if_neg c, hand_m (show k ≤ s by omega) hs, bd_s]
      by_cases c2 : hr (M 225) (M 226) k s = 0
      · rw [if_pos c2, if_pos c2]
        exact ih
      · rw [if_neg c2, if_neg c2]
        rfl
/-- the split of beat b by d; -1: none -/
noncomputable def spl (N : Nt) (b d : Nat) : Int32 := lsp (srt (fun i => oI (str N b i d)) (fun i => nI (fg (kd N b i))) (sz N b) 0 (fun _ => 0) (fun _ => 0)).1 (srt (fun i => oI (str N b i d)) (fun i => nI (fg (kd N b i))) (sz N b) 0 (fun _ => 0) (fun _ => 0)).2 (sz N b) (sz N b + 1) 0
theorem spl_e {N : Nt} {b d : Nat} {A F A0 F0 : Ar} (h : (A, F) = srt (fun i => oI (str N b i d)) (fun i => nI (fg (kd N b i))) (sz N b) 0 A0 F0) : lsp A F (sz N b) (sz N b + 1) 0 = spl N b d := by
  unfold spl
  refine lsp_c (fun k hk => ?_) (sz N b + 1) 0 (by omega)
  have h1 := srt_c (q := fun i => oI (str N b i d)) (f := fun i => nI (fg (kd N b i))) (sz N b) 0 A0 F0 (fun _ => 0) (fun _ => 0) (fun j hj => by omega) k (by omega)
  rw [← h] at h1
  exact h1
theorem split_c {N : Nt} (hN : WP N) {b d : Nat} {M : Mm} (hb : b < 12) (hd : d < 2187) (hC : Ch 152 M N b) : ∃ M', f_X0_leastForLeft 152 (nI (sB d)) M = some (spl N b d, M') ∧ ∀ c, c ≠ 159 → c ≠ 160 → M' c = M c := by
  have hz := (wp_sz hN hb).2
  obtain ⟨M1, q1, q2, q3⟩ := sort_l hN hb hd (sz N b) FU 0 M (by omega) (by unfold FU; omega) hC.1 hC.2.1
  rw [nI_00] at q1
  have h0 : M1 152 0 = nI (sz N b) := by rw [q3 152 (by omega) (by omega)]; exact hC.1
  have h := left_l hz h0 (sz N b + 1) FU 0 (by omega) (by unfold FU; omega)
  rw [nI_00, spl_e q2] at h
  unfold f_X0_leastForLeft f_X0_sortStrings
  rw [q1, bd_s, bd_s, h]
  exact ⟨M1, rfl, q3⟩
theorem split_m {N : Nt} (hN : WP N) {b d : Nat} {M : Mm} (hb : b < 12) (hd : d < 2187) (hM : M 213 = N) : ∃ M', f_X7_splitOf (nI b) (nI d) M = some (spl N b d, M') ∧ ∀ c, c ≠ 225 → c ≠ 226 → M' c = M c := by
  obtain ⟨ez, hz⟩ := wp_sz hN hb
  obtain ⟨M1, q1, q2, q3⟩ := sort_m hN hb hd (sz N b) FU 0 M (by omega) (by unfold FU; omega) hM
  rw [nI_00] at q1
  have h := left_m (M := M1) hz (sz N b + 1) FU 0 (by omega) (by unfold FU; omega)
  rw [nI_00, spl_e q2] at h
  have e1 : (1 : Int32) + nI b = nI (1 + b) := zad 1 b
  unfold f_X7_splitOf
  rw [e1, zck (by omega) (by omega), zcl (by omega), hM, ez, nm_d, q1, bd_s, h]
  exact ⟨M1, rfl, q3⟩
