/-! PURE: one beat's arrival -/
theorem arr_l {N : Nt} (hN : WP N) {b a2 : Nat} (hb : b < 12) (ha2 : 185 < a2 ∧ a2 < 198) {f : Nat → Nat} (hf : ∀ e, e < 2187 → f e ≤ 63) : ∀ (k n d : Nat) (M : Mm), d + k = 2187 → k < n → KA N b f a2 d M →
    ∃ M', L_X5_fillLockedArrival_26 198 a2 n (nI d) M = some M' ∧ KA N b f a2 2187 M' ∧ Fa a2 M M'
  | _, 0, _, _, _, h2, _ => by omega
  | 0, n + 1, d, M, h1, h2, h3 => by
    rw [L_X5_fillLockedArrival_26, if_pos ((zleD (by omega)).mpr (by omega))]
    have e : d = 2187 := by omega
    rw [e] at h3
    exact ⟨M, rfl, h3, fun _ _ _ _ _ _ _ => rfl⟩
  | k + 1, n + 1, d, M, h1, h2, h3 => by
    obtain ⟨M1, q1, q2, q3⟩ := arr_st (n := n) hN hb ha2 hf (show d < 2187 by omega) h3
    obtain ⟨M2, r1, r2, r3⟩ := arr_l hN hb ha2 hf k n (d + 1) M1 (by omega) (by omega) q2
    exact ⟨M2, q1.trans r1, r2, fa_t q3 r3⟩
theorem isM_ok {S : Nat → Nat → Prop} {g : Nat → Nat} {m : Nat} (h : isM S g) (hS : ∀ e u, e < 2187 → S e u → u ≤ m) : okR m (zr g) := fun e he => by
  rcases (h e he).1 with q | q
  · left
    show (g e, 0) = top
    rw [q]
    rfl
  · exact Or.inr ⟨hS e _ he q, Nat.zero_le _⟩
theorem row_z {a : Nat} {M : Mm} {v : Int32} (h : ∀ t, t < 2187 → M a t = v) (hv : v = 66060288) : Row a M (zr (fun _ => 63)) := fun t ht => by
  rw [h t ht, hv]
  exact enc_top.symm
/-- what A's next row is the least of -/
def SA (N : Nt) (b : Nat) (f : Nat → Nat) (e v : Nat) : Prop := ∃ d c, d < 2187 ∧ does N b d ∧ (e, c) ∈ ops (lk N b d) d ∧ v = f d + c
theorem S_all {N : Nt} {b : Nat} {f : Nat → Nat} {e u : Nat} (hu : u < 63) : ((SB N b f 2187 e u ∨ ∃ x c v', x < 2187 ∧ st nL fR x e c ∧ SL N b f 2187 x v' ∧ u = v' + c) ∨ ∃ x c v', x < 2187 ∧ st nL fL x e c ∧ SR N b f 2187 x v' ∧ u = v' + c) ↔ SA N b f e u := by
  constructor
  · intro h
    rcases h with (⟨t, c, h1, h2, h3, h4, h5, h6, h7⟩ | ⟨x, c, v', h1, h2, ⟨t, c1, h3, h4, h5, h6, h7, h8⟩, h9⟩) | ⟨x, c, v', h1, h2, ⟨t, c1, h3, h4, h5, h6, h7, h8, h8'⟩, h9⟩
    · exact ⟨t, c, h1, h2, h6, h7⟩
    · have h2' : st (lk N b t) fR x e c := (st_c (fun p hp => ⟨fun q => q.elim, fun q => h6 p hp q⟩)).mp h2
      exact ⟨t, c1 + c, h3, h4, ops_in.mpr ⟨x, c1, c, h7, h2', rfl⟩, by omega⟩
    · have h2' : st (lk N b t) fL x e c := (st_c (fun p hp => ⟨fun q => q.elim, fun q => h7 p hp q⟩)).mp h2
      obtain ⟨y, g1, g2⟩ := st_cm h8 h2'
      exact ⟨t, c + c1, h3, h4, ops_in.mpr ⟨y, c, c1, g1, g2, rfl⟩, by omega⟩
  · intro ⟨t, c, h1, h2, h3, h4⟩
    have h5 : f t < 63 := by omega
    by_cases c1 : rf N b t
    · obtain ⟨x, d1, d2, g1, g2, g3⟩ := ops_in.mp h3
      have g2' : st nL fR x e d2 := (st_c (fun p hp => ⟨fun q => q.elim, fun q => c1 p hp q⟩)).mpr g2
      exact Or.inl (Or.inr ⟨x, d2, f t + d1, (st_lt fL_7 h1 g1).1, g2', ⟨t, d1, h1, h2, h5, c1, g1, rfl⟩, by omega⟩)
    · by_cases c2 : lf N b t
      · obtain ⟨x, d1, d2, g1, g2, g3⟩ := ops_in.mp h3
        obtain ⟨y, i1, i2⟩ := st_cm' g1 g2
        have i2' : st nL fL y e d1 := (st_c (fun p hp => ⟨fun q => q.elim, fun q => c2 p hp q⟩)).mpr i2
        exact Or.inr ⟨y, d1, f t + d2, (st_lt fR_7 h1 i1).1, i2', ⟨t, d2, h1, h2, h5, c1, c2, i1, rfl⟩, by omega⟩
      · exact Or.inl (Or.inl ⟨t, c, h1, h2, h5, c1, c2, h3, h4⟩)
theorem lockedA_c {N : Nt} (hN : WP N) {b a2 m : Nat} {M : Mm} (hb : b < 12) (ha2 : 185 < a2 ∧ a2 < 198) (hm : m + 4 ≤ 40) {f : Nat → Nat} (hf : ∀ e, e < 2187 → f e = 63 ∨ f e ≤ m) (hH : Hp M) (hC : Ch 162 M N b) (hR : Row 198 M (ifD N b (zr f))) :
    ∃ M' g, f_X5_fillLockedArrival 198 a2 M = some M' ∧ Row a2 M' (zr g) ∧ isM (SA N b f) g ∧ Fa a2 M M' := by
  have hf' : ∀ e, e < 2187 → f e ≤ 63 := fun e he => by have := hf e he; omega
  obtain ⟨M1, q1, q2, -, q3⟩ := fill_c (N := 2187) (a := a2) (v := 66060288) (M := M) (by omega)
  obtain ⟨M2, r1, r2, -, r3⟩ := fill_c (N := 2187) (a := 199) (v := 66060288) (M := M1) (by omega)
  obtain ⟨M3, s1, s2, -, s3⟩ := fill_c (N := 2187) (a := 200) (v := 66060288) (M := M2) (by omega)
  have hF : Fa a2 M M3 := fun c h1 h2 h3 h4 h5 h6 => by rw [s3 c h4, r3 c h3, q3 c h1]
  have hK : KA N b f a2 0 M3 := by
    refine ⟨fun t ht => ?_, ch_f hC (fun c h1 h2 => hF c (by omega) (by omega) (by omega) (by omega) (by omega) (by omega)), fun t ht => ?_, ⟨_, row_z (fun t ht => ?_) rfl, isM_c isM_0 (fun e v _ _ => ⟨False.elim, fun ⟨t, c, h, _⟩ => by omega⟩)⟩, ⟨_, row_z s2 rfl, isM_c isM_0 (fun e v _ _ => ⟨False.elim, fun ⟨t, c, h, _⟩ => by omega⟩)⟩, _, row_z (fun t ht => ?_) rfl, isM_c isM_0 (fun e v _ _ => ⟨False.elim, fun ⟨t, c, h, _⟩ => by omega⟩)⟩
    · rw [hF 2 (by omega) (by omega) (by omega) (by omega) (by omega) (by omega)]
      exact hH t ht
    · rw [s3 198 (by omega), r3 198 (by omega), q3 198 (by omega)]
      exact hR t ht
    · rw [s3 199 (by omega)]
      exact r2 t ht
    · rw [s3 a2 (by omega), r3 a2 (by omega)]
      exact q2 t ht
  obtain ⟨M4, t1, t2, t3⟩ := arr_l hN hb ha2 hf' 2187 FU 0 M3 (by omega) (by unfold FU; omega) hK
  obtain ⟨-, -, -, ⟨gL, hL1, hL2⟩, ⟨gR, hR1, hR2⟩, gB, hB1, hB2⟩ := t2
  have t1' : L_X5_fillLockedArrival_26 198 a2 FU (0 : Int32) M3 = some M4 := t1
  have oL : okR (m + 1) (zr gL) := isM_ok hL2 (fun e u he ⟨t, c, h1, h2, h3, h4, h5, h6⟩ => by
    have := hf t h1
    have := (st_lt fL_7 h1 h5).2
    omega)
  have oR : okR (m + 1) (zr gR) := isM_ok hR2 (fun e u he ⟨t, c, h1, h2, h3, h4, h5, h6, h7⟩ => by
    have := hf t h1
    have := (st_lt fR_7 h1 h6).2
    omega)
  obtain ⟨M5, u1, u2, u3⟩ := spread_c (a0 := 199) (a2 := 198) bits_R0 (by decide) (show m + 1 ≤ 40 by omega) oL hL1
  rw [sg_0R, sf_zr] at u2
  have mL := sm1_M fR_7 hL2
  obtain ⟨M6, v1, v2, v3⟩ := lessen_c (a0 := a2) (a1 := 198) (M := M5) (by omega) (g0 := gB) (g1 := sm1 fR gL) (fun e he => by have := isM_63 hB2 he; omega) (fun e he => by have := isM_63 mL he; omega) (fun t ht => by rw [u3 a2 (by omega)]; exact hB1 t ht) u2
  obtain ⟨M7, w1, w2, w3⟩ := spread_c (a0 := 200) (a2 := 198) (M := M6) bits_L0 (by decide) (show m + 1 ≤ 40 by omega) oR (fun t ht => by rw [v3 200 (by omega), u3 200 (by omega)]; exact hR1 t ht)
  rw [sg_0L, sf_zr] at w2
  have mR := sm1_M fL_7 hR2
  have mBL := isM_or hB2 mL
  obtain ⟨M8, x1, x2, x3⟩ := lessen_c (a0 := a2) (a1 := 198) (M := M7) (by omega) (g0 := fun e => min (gB e) (sm1 fR gL e)) (g1 := sm1 fL gR) (fun e he => by have h9 : min (gB e) (sm1 fR gL e) ≤ 63 := isM_63 mBL he; show min (gB e) (sm1 fR gL e) ≤ 1000; omega) (fun e he => by have := isM_63 mR he; omega) (fun t ht => by rw [w3 a2 (by omega)]; exact v2 t ht) w2
  unfold f_X5_fillLockedArrival
  rw [q1, bd_s, r1, bd_s, s1, bd_s, t1', bd_s, u1, bd_s, v1, bd_s, w1, bd_s, x1, bd_s]
  refine ⟨M8, _, rfl, x2, isM_c (isM_or mBL mR) (fun e u he hu => S_all hu), fun c h1 h2 h3 h4 h5 h6 => ?_⟩
  rw [x3 c h1, w3 c h2, v3 c h1, u3 c h2, t3 c h1 h2 h3 h4 h5 h6, hF c h1 h2 h3 h4 h5 h6]
theorem ifD_zr {N : Nt} {b : Nat} {f : Nat → Nat} {m : Nat} (hm : m ≤ 63) (hf : ∀ e, e < 2187 → f e = 63 ∨ f e ≤ m) : ∃ g, ifD N b (zr f) = zr g ∧ okR m (zr g) ∧ isM (fun e v => does N b e ∧ v = f e) g := by
  refine ⟨fun e => (ifD N b (zr f) e).1, funext (fun e => ?_), fun e he => ?_, fun e he => ?_⟩
  · show ifD N b (zr f) e = ((ifD N b (zr f) e).1, 0)
    by_cases c : does N b e
    · rw [ifD_t c]
      rfl
    · rw [ifD_f c]
      rfl
  · by_cases c : does N b e
    · have e1 : zr (fun e => (ifD N b (zr f) e).1) e = (f e, 0) := by
        show ((ifD N b (zr f) e).1, 0) = (f e, 0)
        rw [ifD_t c]
        rfl
      rw [e1]
      rcases hf e he with q | q
      · left
        rw [q]
        rfl
      · exact Or.inr ⟨q, Nat.zero_le _⟩
    · left
      show ((ifD N b (zr f) e).1, 0) = top
      rw [ifD_f c]
      rfl
  · have h1 := hf e he
    by_cases c : does N b e
    · have e1 : (ifD N b (zr f) e).1 = f e := by
        rw [ifD_t c]
        rfl
      dsimp only
      rw [e1]
      refine ⟨Or.inr ⟨c, rfl⟩, fun v hv => ?_⟩
      rcases hv with q | q
      · omega
      · omega
    · have e1 : (ifD N b (zr f) e).1 = 63 := by
        rw [ifD_f c]
        rfl
      dsimp only
      rw [e1]
      refine ⟨Or.inl rfl, fun v hv => ?_⟩
      rcases hv with q | q
      · omega
      · exact absurd q.1 c

/-- but for what arrival's reckoning writes, M' is M -/
def Fvv (a : Nat) (M M' : Mm) : Prop := ∀ c, ¬ (162 ≤ c ∧ c ≤ 170) → c ≠ a → c ≠ 198 → c ≠ 199 → c ≠ 200 → c ≠ 201 → c ≠ 202 → M' c = M c
theorem fv_t {a : Nat} {M M' M'' : Mm} (h : Fvv a M M') (h' : Fvv a M' M'') : Fvv a M M'' := fun c g g1 g2 g3 g4 g5 g6 => (h' c g g1 g2 g3 g4 g5 g6).trans (h c g g1 g2 g3 g4 g5 g6)
/-- one more row of arrival -/
theorem arr_1 {N : Nt} (hN : WP N) {b : Nat} {M : Mm} (hb : b + 1 < 12) (hH : Hp M) (hP : RelP 3 M N) (hR : Row (186 + b) M (zr (A N b))) :
    ∃ M', (Option.bind (f_X0_read 162 3 (nI (b + 1) - (1 : Int32)) M) (fun q_39 =>
     ck (ib (nI (b + 1) - (1 : Int32)) 12) (
     ck (cpo (0 : Int32) (0 : Int32) (2187 : Int32) 2187 2187) (
     nm (mu q_39 198 (cpy (q_39 (186 + (nI (b + 1) - (1 : Int32)).toNatClampNeg)) (q_39 198) (0 : Int32) (0 : Int32) (2187 : Int32))) (fun M_43 =>
     Option.bind (f_X5_dropUnfit 198 M_43) (fun q_45 =>
     Option.bind (f_X0_isSilent 162 q_45) (fun q_47 =>
     if q_47 = 0 then (
     ck (ib (nI (b + 1)) 12) (
     Option.bind (f_X5_fillLockedArrival 198 (186 + (nI (b + 1)).toNatClampNeg) q_45) (fun q_51 =>
     some q_51)))
    else (
     Option.bind (f_X5_spread 198 (60 : Int32) 200 q_45) (fun q_53 =>
     ck (ib (nI (b + 1)) 12) (
     Option.bind (f_X5_spread 200 (67 : Int32) (186 + (nI (b + 1)).toNatClampNeg) q_53) (fun q_56 =>
     some q_56))))))))))) = some M' ∧ Row (186 + (b + 1)) M' (zr (A N (b + 1))) ∧ Fvv (186 + (b + 1)) M M' := by
  have e1 : nI (b + 1) - (1 : Int32) = nI b := zsu (a := b + 1) (b := 1) (by omega)
  have hA : ∀ e, e < 2187 → A N b e = 63 ∨ A N b e ≤ 2 * b + 2 := fun e he => A_b b e he
  have hAm : okR (2 * b + 2) (zr (A N b)) := fun e he => by
    rcases hA e he with q | q
    · left
      show (A N b e, 0) = top
      rw [q]
      rfl
    · exact Or.inr ⟨q, Nat.zero_le _⟩
  obtain ⟨M1, q1, q2, q3⟩ := read_c (a := 162) (a1 := 3) hN (by omega) (show b < 12 by omega) hP
  rw [e1, q1, bd_s, zck (by omega) (by omega), ck_t (by decide), zcl (show b < 2147483648 by omega), zcl (show b + 1 < 2147483648 by omega), nm_d]
  have hR1 : Row 198 (mu M1 198 (cpy (M1 (186 + b)) (M1 198) (0 : Int32) (0 : Int32) (2187 : Int32))) (zr (A N b)) := fun d hd => by
    rw [mu_s, show (2187 : Int32) = nI 2187 from rfl, cpy_a (by omega) hd, fc_c q3 (by omega)]
    exact hR d hd
  have hF1 : F1 198 M1 (mu M1 198 (cpy (M1 (186 + b)) (M1 198) (0 : Int32) (0 : Int32) (2187 : Int32))) := fun c g => mu_n g
  generalize (mu M1 198 (cpy (M1 (186 + b)) (M1 198) (0 : Int32) (0 : Int32) (2187 : Int32))) = M2 at hR1 hF1 ⊢
  have hH2 : Hp M2 := fun t ht => by rw [hF1 2 (by omega), fc_c q3 (by omega)]; exact hH t ht
  have hC2 : Ch 162 M2 N b := ch_f q2 (fun c h1 h2 => hF1 c (by omega))
  obtain ⟨M3, r1, r2, r3⟩ := drop_c hN (show b < 12 by omega) (show 171 < 198 by omega) (show 2 * b + 2 ≤ 40 by omega) hAm hH2 hC2 hR1
  have hH3 : Hp M3 := fun t ht => by rw [r3 2 (by omega)]; exact hH2 t ht
  have hC3 : Ch 162 M3 N b := ch_f hC2 (fun c h1 h2 => r3 c (by omega))
  have hF3 : ∀ c, ¬ (162 ≤ c ∧ c ≤ 170) → c ≠ 198 → M3 c = M c := fun c h1 h2 => by rw [r3 c h2, hF1 c h2, fc_c q3 (by omega)]
  rw [r1, bd_s]
  rcases sil_c hN (show b < 12 by omega) hC3 with ⟨hs, es⟩ | es
  · rw [es, bd_s, if_neg (by decide)]
    obtain ⟨g, g1, g2, g3⟩ := ifD_zr (N := N) (b := b) (f := A N b) (m := 2 * b + 2) (by omega) hA
    rw [g1] at r2
    obtain ⟨M4, s1, s2, s3⟩ := spread_c (a0 := 198) (a2 := 200) bits_R0 (by decide) (show 2 * b + 2 ≤ 40 by omega) g2 r2
    rw [sg_0R] at s2
    have o1 := sf_ok (L := nL) fR_7 (show 2 * b + 2 ≤ 40 by omega) g2
    obtain ⟨M5, t1, t2, t3⟩ := spread_c (a0 := 200) (a2 := 186 + (b + 1)) bits_L0 (by omega) (show 2 * b + 2 + 2 ≤ 40 by omega) o1 s2
    rw [sg_0L, sf_zr, sf_zr] at t2
    rw [s1, bd_s, zck (by omega) (by omega), t1, bd_s]
    refine ⟨M5, rfl, ?_, fun c h0 h1 h2 h3 h4 h5 h6 => ?_⟩
    · have m2 := sm1_M fL_7 (sm1_M fR_7 g3)
      have m3 : isM (SA N b (A N b)) (sm1 fL (sm1 fR g)) := isM_c m2 (fun e v he hv => by
        constructor
        · intro ⟨x, c, v', h1, h2, ⟨y, c1, v1, h3, h4, ⟨h5, h6⟩, h7⟩, h8⟩
          obtain ⟨w, i1, i2⟩ := st_cm h4 h2
          have i1' : st (lk N b y) fL y w c := (st_c (fun p _ => ⟨fun q => q.elim, fun q => lk_sil hs q⟩)).mp i1
          have i2' : st (lk N b y) fR w e c1 := (st_c (fun p _ => ⟨fun q => q.elim, fun q => lk_sil hs q⟩)).mp i2
          exact ⟨y, c + c1, h3, h5, ops_in.mpr ⟨w, c, c1, i1', i2', rfl⟩, by omega⟩
        · intro ⟨d, c, h1, h2, h3, h4⟩
          obtain ⟨x, c1, c2, i1, i2, i3⟩ := ops_in.mp h3
          have i1' : st nL fL d x c1 := (st_c (fun p _ => ⟨fun q => q.elim, fun q => lk_sil hs q⟩)).mpr i1
          have i2' : st nL fR x e c2 := (st_c (fun p _ => ⟨fun q => q.elim, fun q => lk_sil hs q⟩)).mpr i2
          obtain ⟨y, j1, j2⟩ := st_cm' i1' i2'
          exact ⟨y, c1, A N b d + c2, (st_lt fR_7 h1 j1).1, j2, ⟨d, c2, A N b d, h1, j1, ⟨h2, rfl⟩, rfl⟩, by omega⟩)
      intro e he
      rw [t2 e he]
      show enc (sm1 fL (sm1 fR g) e, 0) = enc (A N (b + 1) e, 0)
      rw [isM_u m3 A_M he]
    · rw [t3 c h1, s3 c h4, hF3 c h0 h2]
  · rw [es, bd_s, if_pos rfl, zck (by omega) (by omega)]
    obtain ⟨M4, g, s1, s2, s3, s4⟩ := lockedA_c hN (show b < 12 by omega) (a2 := 186 + (b + 1)) (by omega) (show 2 * b + 2 + 4 ≤ 40 by omega) hA hH3 hC3 r2
    rw [s1, bd_s]
    refine ⟨M4, rfl, fun e he => ?_, fun c h0 h1 h2 h3 h4 h5 h6 => ?_⟩
    · rw [s2 e he]
      show enc (g e, 0) = enc (A N (b + 1) e, 0)
      rw [isM_u s3 A_M he]
    · rw [s4 c h1 h2 h3 h4 h5 h6, hF3 c h0 h2]
