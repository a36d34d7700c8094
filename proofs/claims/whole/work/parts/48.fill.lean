/-! PURE: the class's rows of ways on: bestByBoth, fillLockedOnward -/
theorem fl_lt {L : Nat → Prop} {d e : Nat} (hd : d < 2187) : ∀ F, (∀ p, p ∈ F → p < 7) → e ∈ fl L d F → e < 2187
  | [], _, h => by cases h
  | p :: F, hF, h => by
    by_cases c : L p
    · rw [fl_t c] at h
      exact fl_lt hd F (fun q hq => hF q (List.mem_cons_of_mem _ hq)) h
    · rw [fl_f c] at h
      rcases List.mem_cons.mp h with h | h
      · rw [h]
        exact mv_lt hd (hF p List.mem_cons_self)
      · rcases List.mem_cons.mp h with h | h
        · rw [h]
          exact mv_lt hd (hF p List.mem_cons_self)
        · exact fl_lt hd F (fun q hq => hF q (List.mem_cons_of_mem _ hq)) h
theorem fL_7 : ∀ p, p ∈ fL → p < 7 := by decide
theorem fR_7 : ∀ p, p ∈ fR → p < 7 := by decide
theorem sf_ok {L : Nat → Prop} {F : List Nat} (hF : ∀ p, p ∈ F → p < 7) {m : Nat} (hm : m ≤ 40) {f : Nat → Pr} (hf : okR m f) : okR (m + 2) (sf L F f) := by
  intro d hd
  have h := okP_bs hm hf (okP_w (hf d hd) (show m ≤ m + 2 by omega)) ((fl L d F).map (fun e => (e, 1))) (fun a ha => by
    obtain ⟨e, he, q⟩ := List.mem_map.mp ha
    subst q
    exact ⟨fl_lt hd F hF he, by show 1 ≤ 2; omega⟩)
  rw [List.map_map] at h
  exact h
theorem okR_E {m : Nat} (hm : m ≤ 40) {f : Nat → Pr} (hf : okR m f) : ∀ e, e < 2187 → okE (f e) ∧ okE (sh 1 (f e)) := fun e he => ⟨okP_E hm (hf e he), okP_s hm (hf e he)⟩
theorem both_l {a1 : Nat} {x y : Int32} {L : Nat → Prop} {M0 : Mm} {f : Nat → Pr} (hH : Hp M0) (ha : a1 ≠ 202) (hy : (60 : Int32) &&& (y ^^^ (-1 : Int32)) = x) (hx : ∀ p, p < 7 → (bi x p ↔ PR L p)) {m : Nat} (hm : m + 2 ≤ 40) (hf : okR m f) (hR : Row a1 M0 f) {l : List Nat} (hl : Ls 201 M0 l) (hz : l.length ≤ 21) (hb : ∀ e ∈ l, e < 2187) {q : Int32 × Mm} (hq : q.1 = nI l.length) : ∀ (k n i : Nat) (p : Pr) (M : Mm), i + k = l.length → k < n → okE p → F1 202 M0 M →
    ∃ M', L_X5_bestByBoth_34 a1 y q n (enc p) (nI i) M = some (enc (bs p ((l.drop i).map (fun e => sh 1 (sf L fR f e)))), M') ∧ F1 202 M0 M'
  | _, 0, _, _, _, _, h2, _, _ => by omega
  | 0, n + 1, i, p, M, h1, h2, h3, h4 => by
    rw [L_X5_bestByBoth_34, hq, if_pos ((zle (by omega) (by omega)).mpr (by omega)), List.drop_eq_nil_of_le (by omega)]
    exact ⟨M, rfl, h4⟩
  | k + 1, n + 1, i, p, M, h1, h2, h3, h4 => by
    have hi : i < l.length := by omega
    have he := hb l[i] (List.getElem_mem hi)
    have hH' : Hp M := fun d hd => by rw [h4 2 (by decide)]; exact hH d hd
    have hR' : Row a1 M f := fun d hd => by rw [h4 a1 ha]; exact hR d hd
    have el : M 201 i = nI l[i] := by rw [h4 201 (by decide)]; exact hl i hi
    obtain ⟨M1, q1, q2⟩ := bestByFoot_c hH' ha hx he hR' (okR_E (by omega) hf)
    have oG := sf_ok (L := L) fR_7 (show m ≤ 40 by omega) hf _ he
    rw [L_X5_bestByBoth_34, hq, if_neg (fun q => by have := (zle (by omega) (by omega)).mp q; omega), zck (by omega) (by omega), zcl (show i < 2147483648 by omega), el, hy, q1, bd_s]
    dsimp only
    rw [sg_R, enc_mv, better_e h3 (okP_s (by omega) oG), nm_d, nI_s]
    obtain ⟨M2, r1, r2⟩ := both_l hH ha hy hx hm hf hR hl hz hb hq k n (i + 1) (bt p (sh 1 (sf L fR f l[i]))) M1 (by omega) (by omega) (okE_bt h3 (okP_s (by omega) oG)) (f1_t h4 q2)
    refine ⟨M2, ?_, r2⟩
    rw [r1, List.drop_eq_getElem_cons hi, List.map_cons]
    have e4 : bs p (sh 1 (sf L fR f l[i]) :: (l.drop (i + 1)).map (fun e => sh 1 (sf L fR f e))) = bs (bt p (sh 1 (sf L fR f l[i]))) ((l.drop (i + 1)).map (fun e => sh 1 (sf L fR f e))) := by
      rw [bs_out, bt_comm]
      rfl
    rw [e4]
/-- but for a and the rows of one beat's reckoning, M' is M -/
def Fb (M M' : Mm) : Prop := ∀ c, c ≠ 201 → c ≠ 202 → M' c = M c
theorem bestByBoth_c {a1 d m : Nat} {y : Int32} {L : Nat → Prop} {M : Mm} {f : Nat → Pr} (hH : Hp M) (ha : a1 ≠ 202) (ha' : a1 ≠ 201) (hl : ∀ p, p < 7 → (bi ((67 : Int32) &&& (y ^^^ (-1 : Int32))) p ↔ PL L p)) (hr : ∀ p, p < 7 → (bi ((60 : Int32) &&& (y ^^^ (-1 : Int32))) p ↔ PR L p)) (hd : d < 2187) (hm : m + 2 ≤ 40) (hf : okR m f) (hR : Row a1 M f) : ∃ M', f_X5_bestByBoth a1 (nI d) y M = some (enc (sf L fL (sf L fR f) d), M') ∧ Fb M M' := by
  obtain ⟨M1, q1, q2, q3⟩ := reach_c (a := 201) hH (by decide) hl hd
  have hH1 : Hp M1 := fun d hd => by rw [q3 2 (by decide)]; exact hH d hd
  have hR1 : Row a1 M1 f := fun d hd => by rw [q3 a1 ha']; exact hR d hd
  obtain ⟨M2, r1, r2⟩ := bestByFoot_c hH1 ha hr hd hR1 (okR_E (by omega) hf)
  have hH2 : Hp M2 := fun d hd => by rw [r2 2 (by decide)]; exact hH1 d hd
  have hR2 : Row a1 M2 f := fun d hd => by rw [r2 a1 ha]; exact hR1 d hd
  have hl2 : Ls 201 M2 (d :: rl (PL L) d 7 0) := fun i hi => by rw [r2 201 (by decide)]; exact q2 i hi
  have hz := rl_l (P := PL L) (d := d) 7 0
  have oG := sf_ok (L := L) fR_7 (show m ≤ 40 by omega) hf _ hd
  unfold f_X5_bestByBoth
  rw [q1, bd_s]
  dsimp only
  rw [r1, bd_s]
  dsimp only
  rw [sg_R]
  obtain ⟨M3, s1, s2⟩ := both_l (L := L) hH2 ha rfl hr hm hf hR2 hl2 (by show (rl (PL L) d 7 0).length + 1 ≤ 21; omega) (fun e he => by
    rcases List.mem_cons.mp he with h | h
    · rw [h]
      exact hd
    · exact rl_lt hd 7 0 (by omega) h) (q := (nI (d :: rl (PL L) d 7 0).length, M1)) rfl (rl (PL L) d 7 0).length FU 1 (sf L fR f d) M2 (by show 1 + (rl (PL L) d 7 0).length = (rl (PL L) d 7 0).length + 1; omega) (by unfold FU; omega) (okP_E (by omega) oG) (f1_r 202 M2)
  have s1' : L_X5_bestByBoth_34 a1 y (nI (d :: rl (PL L) d 7 0).length, M1) FU (enc (sf L fR f d)) (1 : Int32) M2 = some (enc (bs (sf L fR f d) ((rl (PL L) d 7 0).map (fun e => sh 1 (sf L fR f e)))), M3) := s1
  rw [s1', bd_s]
  have e5 : bs (sf L fR f d) ((rl (PL L) d 7 0).map (fun e => sh 1 (sf L fR f e))) = sf L fL (sf L fR f) d := (bs_perm ((rl_perm 7 0).map _)).trans sg_L
  rw [e5]
  exact ⟨M3, rfl, fun c h1 h2 => by rw [s2 c h2, r2 c h2, q3 c h1]⟩
theorem neg_bit {x : Int32} {p : Nat} (hp : p < 32) : bi (x ^^^ (-1 : Int32)) p ↔ ¬ bi x p := by
  unfold bi
  have e : (-1 : Int32).toBitVec = BitVec.allOnes 32 := by decide +kernel
  rw [Int32.toBitVec_xor, BitVec.getLsbD_xor, e, BitVec.getLsbD_allOnes]
  simp [hp]
theorem b67 : ∀ p : Nat, p < 7 → ((67 : Int32).toBitVec.getLsbD p = true ↔ p ∈ fL) := by decide +kernel
theorem b60 : ∀ p : Nat, p < 7 → ((60 : Int32).toBitVec.getLsbD p = true ↔ p ∈ fR) := by decide +kernel
theorem bits_L {y : Int32} {L : Nat → Prop} (h : ∀ p, p < 7 → (bi y p ↔ L p)) : ∀ p, p < 7 → (bi ((67 : Int32) &&& (y ^^^ (-1 : Int32))) p ↔ PL L p) := fun p hp => by
  have e : bi (67 : Int32) p ↔ p ∈ fL := b67 p hp
  rw [bi_and, neg_bit (by omega), h p hp, e]
  exact Iff.rfl
theorem bits_R {y : Int32} {L : Nat → Prop} (h : ∀ p, p < 7 → (bi y p ↔ L p)) : ∀ p, p < 7 → (bi ((60 : Int32) &&& (y ^^^ (-1 : Int32))) p ↔ PR L p) := fun p hp => by
  have e : bi (60 : Int32) p ↔ p ∈ fR := b60 p hp
  rw [bi_and, neg_bit (by omega), h p hp, e]
  exact Iff.rfl
theorem bits_L0 : ∀ p, p < 7 → (bi (67 : Int32) p ↔ PL nL p) := fun p hp => by
  have e : bi (67 : Int32) p ↔ p ∈ fL := b67 p hp
  rw [e]
  exact ⟨fun h => ⟨h, fun q => q⟩, fun h => h.1⟩
theorem bits_R0 : ∀ p, p < 7 → (bi (60 : Int32) p ↔ PR nL p) := fun p hp => by
  have e : bi (60 : Int32) p ↔ p ∈ fR := b60 p hp
  rw [e]
  exact ⟨fun h => ⟨h, fun q => q⟩, fun h => h.1⟩
theorem znn {a : Nat} (ha : a < 2147483648) : (0 : Int32) ≤ nI a := (zle (a := 0) (by omega) ha).mpr (Nat.zero_le _)
theorem free_k : ∀ y : Nat, y < 128 → ((nI y &&& (60 : Int32) = 0 ↔ ∀ p, p ∈ fR → ¬ (nI y).toBitVec.getLsbD p = true) ∧ (nI y &&& (67 : Int32) = 0 ↔ ∀ p, p ∈ fL → ¬ (nI y).toBitVec.getLsbD p = true)) := by decide +kernel
/-- where the beat goes on, in the class's words -/
noncomputable def tv (N : Nt) (b : Nat) (f : Nat → Pr) (d : Nat) : Pr := sf (lk N b d) fL (sf (lk N b d) fR f) d
/-- a chord, in another memory -/
theorem ch_f {a b : Nat} {N : Nt} {M M' : Mm} (h : Ch a M N b) (e : ∀ c, a ≤ c → c ≤ a + 8 → M' c = M c) : Ch a M' N b := by
  refine ⟨?_, fun i hi => chn_f (h.2.1 i hi) (fun c h1 h2 => by rw [e c (by omega) (by omega)]), ?_, ?_⟩
  · rw [e a (by omega) (by omega)]
    exact h.1
  · rw [e a (by omega) (by omega)]
    exact h.2.2.1
  · rw [e a (by omega) (by omega)]
    exact h.2.2.2
/-- what is kept while a row is filled -/
def Kf (N : Nt) (b a1 : Nat) (f : Nat → Pr) (M : Mm) : Prop := Hp M ∧ Ch 162 M N b ∧ Row a1 M f ∧ Row 199 M (sf nL fL f) ∧ Row 200 M (sf nL fR f)
theorem fillL_st {N : Nt} (hN : WP N) {b a1 a2 m : Nat} (hb : b < 12) (h12 : a1 ≠ a2) (ha1 : 171 < a1 ∧ a1 < 199) (ha2 : 171 < a2 ∧ a2 < 199) (hm : m + 4 ≤ 40) {f : Nat → Pr} (hf : okR m f) {n d : Nat} (hd : d < 2187) {M : Mm} (hK : Kf N b a1 f M) :
    ∃ M' v, L_X5_fillLockedOnward_22 a1 a2 (n + 1) (nI d) M = L_X5_fillLockedOnward_22 a1 a2 n (nI (d + 1)) M' ∧ (does N b d → v = tv N b f d) ∧ (¬ does N b d → v = top) ∧ M' a2 d = enc v ∧ (∀ j, j ≠ d → M' a2 j = M a2 j) ∧ ∀ c, c ≠ a2 → c ≠ 201 → c ≠ 202 → M' c = M c := by
  obtain ⟨hH, hC, hR, hRl, hRr⟩ := hK
  rw [L_X5_fillLockedOnward_22, if_neg (fun q => by have := (zleD (by omega)).mp q; omega), zck hd (by omega), zcl (by omega), hH d hd, nI_s]
  rcases locksBy_c hN hb hd hC with ⟨hdo, y, hy, e⟩ | ⟨hdo, e⟩
  · have hL : ∀ p, p < 7 → (bi (nI y) p ↔ lk N b d p) := hy.2
    obtain ⟨f1, f2⟩ := free_k y hy.1
    rw [e, bd_s, if_pos (znn (show y < 2147483648 by have := hy.1; omega))]
    by_cases c1 : nI y &&& (60 : Int32) = 0
    · rw [if_pos c1]
      have hn : sf nL fR f = sf (lk N b d) fR f := funext (fun t => sf_c (fun p hp => ⟨fun q => q.elim, fun q => f1.mp c1 p hp ((hL p (fR_7 p hp)).mpr q)⟩))
      rw [hn] at hRr
      have o1 := sf_ok (L := lk N b d) fR_7 (show m ≤ 40 by omega) hf
      obtain ⟨M1, q1, q2⟩ := bestByFoot_c (a1 := 200) hH (by decide) (bits_L hL) hd hRr (okR_E (by omega) o1)
      rw [q1, bd_s, zck hd (by omega), nm_d, bd_s]
      dsimp only
      rw [sg_L]
      refine ⟨_, tv N b f d, rfl, fun _ => rfl, fun q => absurd hdo q, mw_s, fun j hj => ?_, fun c g1 g2 g3 => ?_⟩
      · rw [mw_o hj, q2 a2 (by omega)]
      · rw [mw_c g1, q2 c g3]
    · rw [if_neg c1]
      by_cases c2 : nI y &&& (67 : Int32) = 0
      · rw [if_pos c2]
        have hn : sf nL fL f = sf (lk N b d) fL f := funext (fun t => sf_c (fun p hp => ⟨fun q => q.elim, fun q => f2.mp c2 p hp ((hL p (fL_7 p hp)).mpr q)⟩))
        rw [hn] at hRl
        have o1 := sf_ok (L := lk N b d) fL_7 (show m ≤ 40 by omega) hf
        obtain ⟨M1, q1, q2⟩ := bestByFoot_c (a1 := 199) hH (by decide) (bits_R hL) hd hRl (okR_E (by omega) o1)
        rw [q1, bd_s, zck hd (by omega), nm_d, bd_s]
        dsimp only
        rw [sg_R, sf_swap]
        refine ⟨_, tv N b f d, rfl, fun _ => rfl, fun q => absurd hdo q, mw_s, fun j hj => ?_, fun c g1 g2 g3 => ?_⟩
        · rw [mw_o hj, q2 a2 (by omega)]
        · rw [mw_c g1, q2 c g3]
      · rw [if_neg c2]
        obtain ⟨M1, q1, q2⟩ := bestByBoth_c (y := nI y) hH (show a1 ≠ 202 by omega) (by omega) (bits_L hL) (bits_R hL) hd (by omega) hf hR
        rw [q1, bd_s, zck hd (by omega), nm_d, bd_s]
        dsimp only
        refine ⟨_, tv N b f d, rfl, fun _ => rfl, fun q => absurd hdo q, mw_s, fun j hj => ?_, fun c g1 g2 g3 => ?_⟩
        · rw [mw_o hj, q2 a2 (by omega) (by omega)]
        · rw [mw_c g1, q2 c g2 g3]
  · rw [e, bd_s, if_neg (by decide), zck hd (by omega), nm_d, bd_s]
    refine ⟨_, top, rfl, fun q => absurd q hdo, fun _ => rfl, ?_, fun j hj => ?_, fun c g1 g2 g3 => ?_⟩
    · rw [mw_s, enc_top]
    · rw [mw_o hj]
    · rw [mw_c g1]
