/-! PURE: reach, bestByFoot, bestByBoth of the class -/
/-- both moves of pedal p, as the class lists them -/
def tw (d p : Nat) : List Nat := if sd d p = 2 then [mv d p 2, mv d p 1] else [mv d p 1, mv d p 2]
noncomputable def rl (P : Nat → Prop) (d : Nat) : Nat → Nat → List Nat
  | 0, _ => []
  | k + 1, p => haveI := Classical.propDecidable (P p); if P p then tw d p ++ rl P d k (p + 1) else rl P d k (p + 1)
theorem rl_p {P : Nat → Prop} {d k p : Nat} (h : P p) : rl P d (k + 1) p = tw d p ++ rl P d k (p + 1) := by rw [rl, if_pos h]
theorem rl_n {P : Nat → Prop} {d k p : Nat} (h : ¬ P p) : rl P d (k + 1) p = rl P d k (p + 1) := by rw [rl, if_neg h]
theorem tw_perm (d p : Nat) : (tw d p).Perm [mv d p 1, mv d p 2] := by
  unfold tw
  split
  · exact List.Perm.swap _ _ _
  · exact List.Perm.refl _
theorem rl_perm {P : Nat → Prop} {d : Nat} : ∀ k p, (rl P d k p).Perm (fl nL d (fr P k p))
  | 0, _ => List.Perm.refl _
  | k + 1, p => by
    by_cases c : P p
    · rw [rl_p c, fr_p c, fl_f (L := nL) (fun h => h)]
      exact (tw_perm d p).append (rl_perm k (p + 1))
    · rw [rl_n c, fr_n c]
      exact rl_perm k (p + 1)
theorem tw_lt {d p e : Nat} (hd : d < 2187) (hp : p < 7) (h : e ∈ tw d p) : e < 2187 := by
  have h1 := (tw_perm d p).mem_iff.mp h
  rcases List.mem_cons.mp h1 with h2 | h2
  · rw [h2]
    exact mv_lt hd hp
  · rw [List.mem_singleton.mp h2]
    exact mv_lt hd hp
theorem rl_lt {P : Nat → Prop} {d e : Nat} (hd : d < 2187) : ∀ k p, p + k ≤ 7 → e ∈ rl P d k p → e < 2187
  | 0, _, _, h => by cases h
  | k + 1, p, hp, h => by
    by_cases c : P p
    · rw [rl_p c, List.mem_append] at h
      rcases h with h | h
      · exact tw_lt hd (by omega) h
      · exact rl_lt hd k (p + 1) (by omega) h
    · rw [rl_n c] at h
      exact rl_lt hd k (p + 1) (by omega) h
theorem tw_l (d p : Nat) : (tw d p).length = 2 := by
  unfold tw
  split <;> rfl
theorem rl_l {P : Nat → Prop} {d : Nat} : ∀ k p, (rl P d k p).length ≤ 2 * k
  | 0, _ => Nat.le_refl _
  | k + 1, p => by
    have h := rl_l (P := P) (d := d) k (p + 1)
    by_cases c : P p
    · rw [rl_p c, List.length_append, tw_l]
      omega
    · rw [rl_n c]
      omega
/-- row a begins with l -/
def Ls (a : Nat) (M : Mm) (l : List Nat) : Prop := ∀ i, (h : i < l.length) → M a i = nI l[i]
theorem to_k : ∀ s : Nat, s < 3 → st_ 5 s = oI (if s = 2 then -1 else 1) ∧ st_ 6 s = oI (if s = 2 then -2 else if s = 1 then -1 else 2) := by decide +kernel
theorem to_1 {d p : Nat} (hp : p < 7) : nI d + st_ 5 (sd d p) * nI (3 ^ p) = nI (if sd d p = 2 then mv d p 2 else mv d p 1) := by
  have hs := sd_lt d p
  have h1 := mv_i (d := d) (k := 1) hp
  have h2 := mv_i (d := d) (k := 2) hp
  rw [(to_k _ hs).1, oI_n d, oI_n (3 ^ p), oI_mul, oI_add, oI_n]
  congr 1
  have h5 : sd d p = 0 ∨ sd d p = 1 ∨ sd d p = 2 := by omega
  rcases h5 with h5 | h5 | h5 <;> rw [h5] at h1 h2 ⊢ <;> simp at h1 h2 ⊢ <;> omega
theorem to_2 {d p : Nat} (hp : p < 7) : nI d + st_ 6 (sd d p) * nI (3 ^ p) = nI (if sd d p = 2 then mv d p 1 else mv d p 2) := by
  have hs := sd_lt d p
  have h1 := mv_i (d := d) (k := 1) hp
  have h2 := mv_i (d := d) (k := 2) hp
  rw [(to_k _ hs).2, oI_n d, oI_n (3 ^ p), oI_mul, oI_add, oI_n]
  congr 1
  have h5 : sd d p = 0 ∨ sd d p = 1 ∨ sd d p = 2 := by omega
  rcases h5 with h5 | h5 | h5 <;> rw [h5] at h1 h2 ⊢ <;> simp at h1 h2 ⊢ <;> omega
theorem bit_0 {x : Int32} {p : Nat} (hp : p < 7) : ((x >>> (nI p &&& 31)) &&& (1 : Int32)) = 0 ↔ ¬ bi x p := by
  rw [← bi_1 hp]
  constructor
  · intro q r
    rw [q] at r
    exact absurd r (by decide)
  · intro q
    refine Int32.toBitVec_inj.mp (BitVec.eq_of_getLsbD_eq ?_)
    intro i _
    rw [low_i x hp i]
    have e : (0 : Int32).toBitVec = 0#32 := rfl
    rw [e, BitVec.getLsbD_zero]
    by_cases c : i = 0
    · subst c
      have q' := fun r => q ((bi_1 hp).mpr r)
      unfold bi at q'
      simpa using q'
    · simp [c]
theorem ls_put {a : Nat} {M : Mm} {l : List Nat} (h : Ls a M l) (e : Nat) : Ls a (mw M a l.length (nI e)) (l ++ [e]) := by
  intro i hi
  rw [List.length_append] at hi
  have hi' : i < l.length + 1 := hi
  by_cases c1 : i = l.length
  · subst c1
    rw [mw_s, List.getElem_append_right (Nat.le_refl _)]
    simp
  · rw [mw_o c1, List.getElem_append_left (by omega)]
    exact h i (by omega)
theorem tw_e (d p : Nat) : tw d p = [if sd d p = 2 then mv d p 2 else mv d p 1, if sd d p = 2 then mv d p 1 else mv d p 2] := by
  unfold tw
  split <;> rfl
theorem reach_l {a d : Nat} {x : Int32} {P : Nat → Prop} (hx : ∀ p, p < 7 → (bi x p ↔ P p)) (hd : d < 2187) : ∀ (k n p : Nat) (M : Mm) (l : List Nat), p + k = 7 → k < n → l.length + 2 * k ≤ 21 → Ls a M l →
    ∃ M', L_X5_reach_21 (nI d) x a (nI (sB d)) n (nI l.length) (nI p) M = some (nI (l ++ rl P d k p).length, M') ∧ Ls a M' (l ++ rl P d k p) ∧ F1 a M M'
  | _, 0, _, _, _, _, h2, _, _ => by omega
  | 0, n + 1, p, M, l, h1, h2, h3, h4 => by
    rw [L_X5_reach_21, if_pos ((zle7 (by omega)).mpr (by omega)), rl, List.append_nil]
    exact ⟨M, rfl, h4, f1_r a M⟩
  | k + 1, n + 1, p, M, l, h1, h2, h3, h4 => by
    have hp : p < 7 := by omega
    rw [L_X5_reach_21, if_neg (fun q => by have := (zle7 (by omega)).mp q; omega)]
    by_cases c : P p
    · have hs := sd_lt d p
      obtain ⟨w1, w2, w3⟩ := w_k hp
      have es : ((nI (sB d) >>> (((2 : Int32) * nI p) &&& 31)) &&& (3 : Int32)) = nI (sd d p) := standIn_eq hd hp
      have ez : nI l.length + (1 : Int32) = nI (l.length + 1) := nI_s _
      have ez2 : nI l.length + (2 : Int32) = nI (l.length + 1 + 1) := zad l.length 2
      rw [if_neg (fun q => (bit_0 hp).mp q ((hx p hp).mpr c)), es, ez, ez2, nm_d, zck hs (by omega), zck hp (by omega), zck (by omega) (by omega), nm_d, zck hs (by omega), zck hp (by omega), zck (by omega) (by omega), nm_d, bd_s, zcl (show sd d p < 2147483648 by omega), zcl (show p < 2147483648 by omega), zcl (show l.length < 2147483648 by omega), zcl (show l.length + 1 < 2147483648 by omega), w3, to_1 hp, to_2 hp]
      dsimp only
      rw [nI_s p]
      have hl1 := ls_put h4 (if sd d p = 2 then mv d p 2 else mv d p 1)
      have hl2 := ls_put hl1 (if sd d p = 2 then mv d p 1 else mv d p 2)
      rw [List.length_append] at hl2
      have e1 : (l ++ [if sd d p = 2 then mv d p 2 else mv d p 1] ++ [if sd d p = 2 then mv d p 1 else mv d p 2]) = l ++ tw d p := by
        rw [tw_e, List.append_assoc]
        rfl
      rw [e1] at hl2
      obtain ⟨M', q1, q2, q3⟩ := reach_l hx hd k n (p + 1) _ (l ++ tw d p) (by omega) (by omega) (by rw [List.length_append, tw_l]; omega) hl2
      rw [rl_p c, ← List.append_assoc]
      have e2 : (l ++ tw d p).length = l.length + 1 + 1 := by rw [List.length_append, tw_l]
      rw [e2] at q1
      refine ⟨M', q1, q2, f1_t ?_ q3⟩
      intro b hb
      rw [mw_c hb, mw_c hb]
    · rw [if_pos ((bit_0 hp).mpr (fun q => c ((hx p hp).mp q))), bd_s, rl_n c]
      dsimp only
      rw [nI_s p]
      exact reach_l hx hd k n (p + 1) M l (by omega) (by omega) (by omega) h4
theorem reach_c {a d : Nat} {x : Int32} {P : Nat → Prop} {M : Mm} (hH : Hp M) (ha : a ≠ 2) (hx : ∀ p, p < 7 → (bi x p ↔ P p)) (hd : d < 2187) : ∃ M', f_X5_reach (nI d) x a M = some (nI (d :: rl P d 7 0).length, M') ∧ Ls a M' (d :: rl P d 7 0) ∧ F1 a M M' := by
  unfold f_X5_reach
  rw [zck hd (by omega), zcl (by omega), hH d hd, nm_d, ck_t (by decide), nm_d]
  have h0 : Ls a (mw M a 0 (nI d)) [d] := by
    intro i hi
    have hi' : i < 1 := hi
    have e : i = 0 := by omega
    subst e
    rw [mw_s]
    rfl
  obtain ⟨M', q1, q2, q3⟩ := reach_l hx hd 7 FU 0 (mw M a 0 (nI d)) [d] (by omega) (by unfold FU; omega) (by show 1 + 14 ≤ 21; omega) h0
  have q1' : L_X5_reach_21 (nI d) x a (nI (sB d)) FU (1 : Int32) (0 : Int32) (mw M a (0 : Int32).toNatClampNeg (nI d)) = some (nI (d :: rl P d 7 0).length, M') := q1
  rw [q1', bd_s]
  refine ⟨M', rfl, q2, f1_t ?_ q3⟩
  intro b hb
  rw [mw_c hb]
theorem okE_bs {p : Pr} (hp : okE p) : ∀ l : List Pr, (∀ x ∈ l, okE x) → okE (bs p l)
  | [], _ => hp
  | x :: l, h => okE_bt (h x List.mem_cons_self) (okE_bs hp l (fun y hy => h y (List.mem_cons_of_mem _ hy)))
theorem foot_l {a1 : Nat} {M : Mm} {f : Nat → Pr} (hR : Row a1 M f) (hf : ∀ e, e < 2187 → okE (sh 1 (f e))) {l : List Nat} (hl : Ls 202 M l) (hz : l.length ≤ 21) (hb : ∀ e ∈ l, e < 2187) : ∀ (k n i : Nat) (p : Pr), i + k = l.length → k < n → okE p →
    L_X5_bestByFoot_20 a1 (nI l.length, M) n (enc p) (nI i) = some (enc (bs p ((l.drop i).map (fun e => sh 1 (f e)))))
  | _, 0, _, _, _, h2, _ => by omega
  | 0, n + 1, i, p, h1, h2, h3 => by
    rw [L_X5_bestByFoot_20]
    dsimp only
    rw [if_pos ((zle (by omega) (by omega)).mpr (by omega)), List.drop_eq_nil_of_le (by omega)]
    rfl
  | k + 1, n + 1, i, p, h1, h2, h3 => by
    have hi : i < l.length := by omega
    have he := hb l[i] (List.getElem_mem hi)
    rw [L_X5_bestByFoot_20, show ((nI l.length, M) : Int32 × Mm).1 = nI l.length from rfl, show ((nI l.length, M) : Int32 × Mm).2 = M from rfl]
    rw [if_neg (fun q => by have := (zle (by omega) (by omega)).mp q; omega), zck (by omega) (by omega), zcl (show i < 2147483648 by omega), hl i hi, zck he (by omega), nm_d, zcl (show l[i] < 2147483648 by omega), hR _ he, enc_mv, better_e h3 (hf _ he), nI_s, foot_l hR hf hl hz hb k n (i + 1) (bt p (sh 1 (f l[i]))) (by omega) (by omega) (okE_bt h3 (hf _ he)), List.drop_eq_getElem_cons hi, List.map_cons]
    have e4 : bs p (sh 1 (f l[i]) :: (l.drop (i + 1)).map (fun e => sh 1 (f e))) = bs (bt p (sh 1 (f l[i]))) ((l.drop (i + 1)).map (fun e => sh 1 (f e))) := by
      rw [bs_out, bt_comm]
      rfl
    rw [e4]
theorem bestByFoot_c {a1 d : Nat} {x : Int32} {P : Nat → Prop} {M : Mm} {f : Nat → Pr} (hH : Hp M) (ha : a1 ≠ 202) (hx : ∀ p, p < 7 → (bi x p ↔ P p)) (hd : d < 2187) (hR : Row a1 M f) (hfE : ∀ e, e < 2187 → okE (f e) ∧ okE (sh 1 (f e))) : ∃ M', f_X5_bestByFoot a1 (nI d) x M = some (enc (sg nL (fr P 7 0) f f d), M') ∧ F1 202 M M' := by
  obtain ⟨M1, q1, q2, q3⟩ := reach_c (a := 202) hH (by decide) hx hd
  unfold f_X5_bestByFoot
  have hR1 : Row a1 M1 f := fun e he => by rw [q3 a1 ha]; exact hR e he
  have hl := rl_l (P := P) (d := d) 7 0
  rw [q1, bd_s, zck hd (by omega), zcl (by omega)]
  dsimp only
  rw [hR1 d hd, nm_d]
  have h9 := foot_l hR1 (fun e he => (hfE e he).2) q2 (by show (rl P d 7 0).length + 1 ≤ 21; omega) (fun e he => by
    rcases List.mem_cons.mp he with h | h
    · rw [h]
      exact hd
    · exact rl_lt hd 7 0 (by omega) h) (rl P d 7 0).length FU 1 (f d) (by show 1 + (rl P d 7 0).length = (rl P d 7 0).length + 1; omega) (by unfold FU; omega) (hfE d hd).1
  have h9' : L_X5_bestByFoot_20 a1 (nI (d :: rl P d 7 0).length, M1) FU (enc (f d)) (1 : Int32) = some (enc (bs (f d) ((rl P d 7 0).map (fun e => sh 1 (f e))))) := h9
  rw [h9', bd_s]
  have e5 : bs (f d) ((rl P d 7 0).map (fun e => sh 1 (f e))) = sg nL (fr P 7 0) f f d := bs_perm ((rl_perm 7 0).map _)
  rw [e5]
  exact ⟨M1, rfl, q3⟩
