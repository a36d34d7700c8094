/-! PURE: the best price is the same at every beat -/
theorem bsn_le (g : Nat → Pr) : ∀ k d, d < k → (bsn g k).1 ≤ (g d).1
  | 0, d, h => by omega
  | k + 1, d, h => by
    rw [bsn, bt_1]
    by_cases c : d = k
    · rw [c]
      omega
    · have := bsn_le g k d (by omega)
      omega
/-- the moves of the best way, told at beat b -/
noncomputable def MB (N : Nt) (b : Nat) : Pr := bsn (bsf (A N b) (VB N b)) 2187
theorem mB_d {N : Nt} {b : Nat} : MB N b = bsn (bsf (A N b) (VB N b)) 2187 := by
  unfold MB
  rfl
theorem mB_63 {N : Nt} {b : Nat} : (MB N b).1 ≤ 63 := by
  rw [mB_d]
  exact bsn_1 _ _
theorem mB_le {N : Nt} {b d : Nat} (hd : d < 2187) : (MB N b).1 ≤ A N b d + (VB N b d).1 := by
  have h := bsn_le (bsf (A N b) (VB N b)) 2187 d hd
  have e : (bsf (A N b) (VB N b) d).1 = (VB N b d).1 + A N b d := rfl
  rw [e] at h
  rw [mB_d]
  omega
theorem mB_at {N : Nt} {b : Nat} (h : (MB N b).1 < 63) : ∃ d, d < 2187 ∧ A N b d + (VB N b d).1 = (MB N b).1 := by
  rw [mB_d] at h
  obtain ⟨d, h1, h2⟩ := bsn_at (bsf (A N b) (VB N b)) 2187 h
  have e : (bsf (A N b) (VB N b) d).1 = (VB N b d).1 + A N b d := rfl
  rw [e] at h2
  refine ⟨d, h1, ?_⟩
  rw [mB_d]
  omega
theorem BP_mB {N : Nt} : (BP N).1 = (MB N 0).1 := by
  rw [BP_f, mB_d]
theorem VB_le {N : Nt} {b d e c : Nat} (hb : b + 1 < pl N) (hdo : does N b d) (h : (e, c) ∈ ops (lk N b d) d) : (VB N b d).1 ≤ c + (VB N (b + 1) e).1 := by
  rw [VB_s hb, wv_n hdo (by omega)]
  have h1 := (bs_le (p := top) ((ops (lk N b d) d).map (op (VB N (b + 1))))).2 (op (VB N (b + 1)) (e, c)) (List.mem_map.mpr ⟨(e, c), h, rfl⟩)
  have e1 : (op (VB N (b + 1)) (e, c)).1 = (VB N (b + 1) e).1 + c := rfl
  rw [e1] at h1
  omega
theorem cut_1 {N : Nt} (hN : WP N) {b : Nat} (hb : b + 1 < pl N) : (MB N (b + 1)).1 = (MB N b).1 := by
  obtain ⟨ep, p1, p2⟩ := wp_pl hN
  have k1 : (MB N (b + 1)).1 ≤ (MB N b).1 := by
    by_cases c : (MB N b).1 < 63
    · obtain ⟨d, h1, h2⟩ := mB_at c
      have h3 : (VB N b d).1 < 63 := by omega
      have hdo := V_does (show b < pl N by omega) h3
      have hfin : co N b d < 100000 := by
        rw [co_VB, eC_f h3]
        omega
      obtain ⟨e0, hst⟩ := step_e hb p2 h1 hfin
      obtain ⟨c0, g1, g2⟩ := (step_c hN h1 h3).mp hst
      have he : e0 < 2187 := (ops_b h1 g1).1
      have h4 := (A_M (N := N) (b := b) e0 he).2 (A N b d + c0) (Or.inr ⟨d, c0, h1, hdo, g1, rfl⟩)
      have h5 := mB_le (N := N) (b := b + 1) he
      omega
    · have := mB_63 (N := N) (b := b + 1)
      omega
  have k2 : (MB N b).1 ≤ (MB N (b + 1)).1 := by
    by_cases c : (MB N (b + 1)).1 < 63
    · obtain ⟨e, h1, h2⟩ := mB_at c
      rcases (A_M (N := N) (b := b) e h1).1 with q | ⟨d, c0, i1, i2, i3, i4⟩
      · omega
      · have h5 := VB_le hb i2 i3
        have h6 := mB_le (N := N) (b := b) i1
        omega
    · have := mB_63 (N := N) (b := b)
      omega
  omega
theorem cut {N : Nt} (hN : WP N) : ∀ b, b < pl N → (MB N b).1 = (BP N).1
  | 0, _ => BP_mB.symm
  | b + 1, h => (cut_1 hN h).trans (cut hN b (by omega))
/-- where there is a way, one can stand at each beat; and only there -/
theorem cs_1 {N : Nt} (hN : WP N) (h : (BP N).1 < 63) {b : Nat} (hb : b < pl N) : cs N b := by
  rw [← cut hN b hb] at h
  obtain ⟨d, h1, h2⟩ := mB_at h
  exact ⟨d, h1, by omega, V_does hb (by omega)⟩
theorem cs_2 {N : Nt} (hN : WP N) (h : cs N (pl N - 1)) : (BP N).1 < 63 := by
  obtain ⟨ep, p1, p2⟩ := wp_pl hN
  obtain ⟨d, h1, h2, h3⟩ := h
  rw [← cut hN (pl N - 1) (by omega)]
  have h4 := mB_le (N := N) (b := pl N - 1) h1
  have e : (VB N (pl N - 1) d).1 = 0 := by
    rw [VB_e (by omega), wv_e h3 rfl]
  rw [e] at h4
  omega
theorem cs_dn {N : Nt} {b : Nat} (h : cs N (b + 1)) : cs N b := by
  obtain ⟨e, h1, h2, h3⟩ := h
  rcases (A_M (N := N) (b := b) e h1).1 with q | ⟨d, c0, i1, i2, i3, i4⟩
  · omega
  · exact ⟨d, i1, by omega, i2⟩
theorem stk_u {N : Nt} (hN : WP N) {s t : Nat} (hn : ¬ (BP N).1 < 63) (h : stkP N s) (h' : stkP N t) : s = t := by
  have key : ∀ s, stkP N s → ¬ cs N s := fun s h => by
    rcases h.2.2 with q | q
    · intro r
      exact hn (cs_2 hN (by rw [← q]; exact r))
    · exact q
  have k1 := key s h
  have k2 := key t h'
  by_cases c : s < t
  · exact absurd (h'.2.1 s c) k1
  · by_cases c2 : t < s
    · exact absurd (h.2.1 t c2) k2
    · omega
/-! PURE: what does not change -/
/-- beat b is the same in both -/
def eqB (N N' : Nt) (b : Nat) : Prop := sz N b = sz N' b ∧ (∀ n, n < sz N b → kd N b n = kd N' b n ∧ pc_ N b n = pc_ N' b n ∧ rg N b n = rg N' b n) ∧ ∀ p, p < 7 → mk N b p = mk N' b p
theorem str_e {N N' : Nt} {b n d : Nat} (h : eqB N N' b) (hn : n < sz N b) : str N b n d = str N' b n d := by
  obtain ⟨h1, h2, h3⟩ := h.2.1 n hn
  unfold str tg
  rw [h1, h2]
theorem does_e {N N' : Nt} {b d : Nat} (h : eqB N N' b) : does N b d ↔ does N' b d := by
  unfold does fitM fitS
  rw [← h.1]
  constructor
  · intro ⟨g1, g2, g3⟩
    refine ⟨fun p hp => by rw [← h.2.2 p hp]; exact g1 p hp, fun n hn => by rw [← str_e h hn]; exact g2 n hn, fun n n' h1 h2 => ?_⟩
    rw [← str_e h h2, ← str_e h (by omega)]
    exact g3 n n' h1 h2
  · intro ⟨g1, g2, g3⟩
    refine ⟨fun p hp => by rw [h.2.2 p hp]; exact g1 p hp, fun n hn => by rw [str_e h hn]; exact g2 n hn, fun n n' h1 h2 => ?_⟩
    rw [str_e h h2, str_e h (by omega)]
    exact g3 n n' h1 h2
theorem lk_e {N N' : Nt} {b d : Nat} (h : eqB N N' b) : lk N b d = lk N' b d := funext (fun p => propext (by
  unfold lk lkm
  rw [← h.1]
  constructor
  · intro ⟨n, g1, g2, g3⟩
    exact ⟨n, g1, by rw [← (h.2.1 n g1).2.2]; exact g2, by rw [← str_e h g1]; exact g3⟩
  · intro ⟨n, g1, g2, g3⟩
    exact ⟨n, g1, by rw [(h.2.1 n g1).2.2]; exact g2, by rw [str_e h g1]; exact g3⟩))
theorem wv_eq {N N' : Nt} {e b : Nat} {f : Nat → Pr} (h : eqB N N' b) : Wv N e b f = Wv N' e b f := funext (fun d => by
  by_cases c : does N b d
  · have c' := (does_e h).mp c
    by_cases c2 : b = e
    · rw [wv_e c c2, wv_e c' c2]
    · rw [wv_n c c2, wv_n c' c2, lk_e h]
  · rw [wv_f c, wv_f (fun q => c ((does_e h).mpr q))])
theorem VB_eq {N N' : Nt} (hp : pl N = pl N') : ∀ k b : Nat, b + k + 1 = pl N → (∀ t, b ≤ t → t < pl N → eqB N N' t) → VB N b = VB N' b
  | 0, b, h1, h2 => by
    rw [VB_e (N := N) (by omega), VB_e (N := N') (by omega), hp, wv_eq (h2 b (Nat.le_refl b) (by omega))]
  | k + 1, b, h1, h2 => by
    rw [VB_s (N := N) (by omega), VB_s (N := N') (by omega), VB_eq hp k (b + 1) (by omega) (fun t g1 g2 => h2 t (by omega) g2), hp, wv_eq (h2 b (Nat.le_refl b) (by omega))]
theorem ahd_eq {N N' : Nt} (hs : ∀ p, p < 7 → so N p = so N' p) {d : Nat} : ahd N d = ahd N' d := by
  have ho : ∀ p, p < 7 → off N d p = off N' d p := fun p hp => by
    unfold off
    rw [hs p hp]
  have h : ∀ p, p ≤ 7 → offL N d p = offL N' d p ∧ offR N d p = offR N' d p := fun p => by
    induction p with
    | zero => exact fun _ => ⟨rfl, rfl⟩
    | succ p ih =>
      intro hp
      obtain ⟨g1, g2⟩ := ih (by omega)
      rw [offL, offR, offL, offR, g1, g2, ho p (by omega)]
      exact ⟨rfl, rfl⟩
  unfold ahd
  rw [(h 7 (Nat.le_refl 7)).1, (h 7 (Nat.le_refl 7)).2]
theorem A_eq {N N' : Nt} (hs : ∀ p, p < 7 → so N p = so N' p) : ∀ b : Nat, (∀ t, t < b → eqB N N' t) → A N b = A N' b
  | 0, _ => funext (fun d => ahd_eq hs)
  | b + 1, h => funext (fun e => by
    have ih := A_eq hs b (fun t ht => h t (by omega))
    have hb := h b (by omega)
    rw [A, A, ih]
    congr 1
    funext v
    refine propext ⟨fun q => ?_, fun q => ?_⟩
    · rcases q with q | ⟨d, c, i1, i2, i3, i4⟩
      · exact Or.inl q
      · exact Or.inr ⟨d, c, i1, (does_e hb).mp i2, by rw [← lk_e hb]; exact i3, i4⟩
    · rcases q with q | ⟨d, c, i1, i2, i3, i4⟩
      · exact Or.inl q
      · exact Or.inr ⟨d, c, i1, (does_e hb).mpr i2, by rw [lk_e hb]; exact i3, i4⟩)
