theorem n_swap {G : Gm} {X : Xm} {Q : State → Prop} {M : Mm} {pc n a b : Nat} {e f : va_E} {lv : List (Option Value)} {st : List Value} {op : List (Nat × va_E)} (h : a ≠ b) (kk : WR G X Q (RN G n ((b, f) :: (a, e) :: op) M) pc lv st) : WR G X Q (RN G n ((a, e) :: (b, f) :: op) M) pc lv st := by
  refine n_conv (fun k _ => ?_) kk
  by_cases h1 : k = a
  · subst h1
    rw [oE_hd, oE_tl h, oE_hd]
  · rw [oE_tl h1]
    by_cases h2 : k = b
    · subst h2
      rw [oE_hd, oE_hd]
    · rw [oE_tl h2, oE_tl h2, oE_tl h1]
/-- what stays along a constructor's walk -/
def xk (G : Gm) (X X0 : Xm) (cc : ByteArray) (nL : Nat) (own : String) (d mc ms : Nat) : Prop := x10 X = x10 X0 ∧ xc G X cc nL own d ∧ gM G (xs X) ∧ (xh X).sig.returnType = none ∧ (xh X).name = "<init>" ∧ (xR X).cells = mc ∧ (xR X).slots = ms
theorem xk_p {G : Gm} {X X0 : Xm} {cc : ByteArray} {nL : Nat} {own : String} {d mc ms k n : Nat} (h : xk G X X0 cc nL own d mc ms) (hc : xc G (xp X k n) cc nL own d) : xk G (xp X k n) X0 cc nL own d mc ms := by
  obtain ⟨h1, -, h3, h4, h5, h6, h7⟩ := h
  exact ⟨x10_p.trans h1, hc, h3, h4, h5, h6, h7⟩
theorem n_gen {G : Gm} {X X0 : Xm} {Q : State → Prop} {P : Heap → Prop} {pc nL d mc ms c s : Nat} {lv : List (Option Value)} {st : List Value} {cc : ByteArray} {own : String} (hx : xk G X X0 cc nL own d mc ms) (h1 : xC X = c) (h2 : xS X = s) (kk : ∀ Y : Xm, xk G Y X0 cc nL own d mc ms → xC Y = c → xS Y = s → WR G Y Q P pc lv st) : WR G X Q P pc lv st := kk X hx h1 h2
theorem iP_out {M : Mm} {a k : Nat} (h : k < a ∨ a + 7 ≤ k) : iP M a k = M k := by
  unfold iP
  rw [mu_n (by omega), mu_n (by omega), mu_n (by omega)]
/-- the memory behind i parts of the history -/
def hM (M : Mm) : Nat → Mm
  | 0 => M
  | i + 1 => iP (hM M i) (12 + 7 * i)
theorem hM_out {M : Mm} {k : Nat} : ∀ i : Nat, (k < 12 ∨ 12 + 7 * i ≤ k) → hM M i k = M k
  | 0, _ => rfl
  | i + 1, h => by
    show iP (hM M i) (12 + 7 * i) k = _
    rw [iP_out (by omega)]
    exact hM_out i (by omega)
def hR (G : Gm) (i : Nat) : Nat → Option Nat := fun j => if j < i then some (gR G (12 + 7 * j)) else none
theorem hR_0 {G : Gm} : hR G 0 = fun _ => none := by
  funext j
  unfold hR
  rw [if_neg (by omega)]
theorem hR_s {G : Gm} {i : Nat} : va_up (hR G i) i (some (gR G (12 + 7 * i))) = hR G (i + 1) := by
  funext j
  unfold va_up hR
  by_cases h : j = i
  · subst h
    rw [if_pos rfl, if_pos (by omega)]
  · rw [if_neg h]
    by_cases h2 : j < i
    · rw [if_pos h2, if_pos (by omega)]
    · rw [if_neg h2, if_neg (by omega)]
theorem hR_20 {G : Gm} : hR G 20 = fun j => ((ly 11).2.2.getD j none).map (gR G) := by
  funext j
  unfold hR
  by_cases h : j < 20
  · rw [if_pos h, tRi_d j h]
    rfl
  · have e : (ly 11).2.2.length = 20 := by decide +kernel
    rw [if_neg h, List.getD_eq_getElem?_getD, List.getElem?_eq_none (by omega)]
    rfl
abbrev rA (G : Gm) (f : Nat → Option Nat) : Nat × va_E := (11, .inl (G.2.2.2.1.2.2.2, 20, .inr (.inr (.inr (.inr f)))))
abbrev hO (G : Gm) : Nat × va_E := (10, .inr (2, [.ref (gR G 11), .int 0, .int 0]))
set_option maxRecDepth 100000 in
set_option maxHeartbeats 4000000 in
theorem hist_loop {G : Gm} {X0 : Xm} {d : Nat} {M : Mm} {op : List (Nat × va_E)} {Q : State → Prop} (hG : gB G) (hk : kb op 10) (hz : ∀ k, 12 ≤ k → M k = fun _ => 0)
    (kk : ∀ X : Xm, xk G X X0 cX2_init 2 RX2 (d + 2) 141 6540 → xC X = 141 → xS X = 6540 → WR G X Q (RN G 152 (rA G (hR G 20) :: hO G :: op) (hM M 20)) 40 [some (.ref (gR G 10)), none] []) :
    ∀ (k i : Nat) (X : Xm), i ≤ 20 → 20 < k + i → xk G X X0 cX2_init 2 RX2 (d + 2) 141 6540 → xC X = 1 + 7 * i → xS X = 20 + 326 * i → WR G X Q (RN G (12 + 7 * i) (rA G (hR G i) :: hO G :: op) (hM M i)) 15 [some (.ref (gR G 10)), some (.int (nI i))] []
  | 0, i, X, h1, h2, _, _, _ => absurd h2 (by omega)
  | k + 1, i, X, h1, h2, hx, hC, hS => by
    obtain ⟨-, hc, hgm, -, -, hRc, hRs⟩ := id hx
    refine m_iload_n hc dX2_init_15 rfl ?_
    refine m_bipush hc (v := 20) dX2_init_16 (by decide) ?_
    refine m_icge hc (tgt := 40) dX2_init_18 (by decide) (fun b => ?_) (fun b => ?_)
    · have e : i = 20 := by
        have h3 : nI 20 ≤ nI i := b
        rw [nI_leI (by decide) (by omega)] at h3
        omega
      subst e
      exact m_fg [1] rfl (kk X hx (by omega) (by omega))
    · have hlt : i < 20 := by
        have h3 : ¬ nI 20 ≤ nI i := b
        rw [nI_leI (by decide) (by omega)] at h3
        omega
      have hib : ib (nI i) 20 := by
        have e := nI_toInt (show i < 2 ^ 31 by omega)
        exact ⟨by rw [e]; omega, by rw [e]; omega⟩
      have hkb : kb (rA G (hR G i) :: hO G :: op) (12 + 7 * i) := kb_cons (kb_cons (kb_mono hk (by omega)) (by omega)) (by omega)
      have hkp : kP (12 + 7 * i) := kP_ring hlt
      refine m_aload_n hc dX2_init_21 rfl ?_
      refine n_get (n := 12 + 7 * i) (a := 10) hc (by omega) ((oE_tl (by decide)).trans oE_hd) rfl tbX2 0 (by decide) wf_X2_11 rfl dX2_init_22 ?_
      refine m_iload_n hc dX2_init_25 rfl ?_
      refine n_new (n := 12 + 7 * i) hc hG (ci := 3) rfl tbX3 tyX3 tyX3_ok wl_X2_9 wq_X3 wn_X3 (fs := [.int 0, .null, .null, .null, .null, .null, .null]) (by decide +kernel) (by omega) (by omega) dX2_init_26 (fun hc => ?_)
      have hx1 := xk_p hx hc
      refine m_dup hc dX2_init_29 rfl ?_
      refine n_init (n := 12 + 7 * i + 1) hc hgm (n_X3_init d hG hkp hkb (fun q hq => by rw [hM_out i (by omega)]; exact hz q (by omega))) (by omega) (by decide) wm_X2_15 wi_X3_init wv_X3_init wc_X3_init rfl wz_X3_init rfl (st := [.ref (gR G (12 + 7 * i)), .int (nI i), .ref (gR G 11)]) rfl rfl (Nat.le_of_ble_eq_true rfl) (by show xC X + 1 + 6 ≤ (xR X).cells; omega) (by show xS X + 7 + 319 ≤ (xR X).slots; omega) dX2_init_30 (fun hc => ?_)
      have hx2 := xk_p hx1 hc
      refine n_aast (n := 12 + 7 * i + 7) (a := 11) (b := 12 + 7 * i) (ci := 0) (nf := 0) hc hG (by omega) (by omega) (by omega) ((oE_kb (kb_cons (kb_mono hk (by omega)) (by omega) : kb (hO G :: op) 11) (by omega)).trans (en_O (kP_o hkp))) hib dX2_init_33 ?_
      rw [nI_clamp (show i < 2 ^ 31 by omega), hR_s]
      refine m_iinc hc (v := nI (i + 1)) (lv' := [some (.ref (gR G 10)), some (.int (nI (i + 1)))]) dX2_init_34 rfl (nI_1 i) rfl rfl ?_
      refine m_goto hc (tgt := 15) dX2_init_37 (by decide) ?_
      exact hist_loop hG hk hz kk k (i + 1) _ (by omega) (by omega) hx2 (by show xC X + 1 + 6 = _; omega) (by show xS X + 7 + 319 = _; omega)
def iHi (M : Mm) : Mm := mu (hM M 20) 10 (fun _ => 0)
set_option maxRecDepth 100000 in
set_option maxHeartbeats 4000000 in
theorem n_X2_init {G : Gm} {l : Launch} (d : Nat) {M : Mm} {op : List (Nat × va_E)} (hG : gB G) (hk : kb op 10) (hz : ∀ k, 11 ≤ k → M k = fun _ => 0) : Cn G l (d + 2) yX2_init cX2_init 2 [.ref (gR G 10)] 11 ((10, .inr (2, [.null, .int 0, .int 0])) :: op) M 152 op (iHi M) 141 6540 := by
  refine n_met (lv := [some (.ref (gR G 10)), none]) (own := RX2) (by decide +kernel) rfl rfl (Nat.le_of_ble_eq_true rfl) rfl ?_
  intro X hX hc hr hin2 hgm hC0 hS0 hRc hRs
  subst hX
  have hx : xk G X X cX2_init 2 RX2 (d + 2) 141 6540 := ⟨rfl, hc, hgm, hr, hin2, hRc, hRs⟩
  refine m_aload_n hc dX2_init_0 rfl ?_
  refine n_obj hc (by omega) nm_X2_1 no_i no_c rfl (st := []) (Nat.le_of_ble_eq_true rfl) dX2_init_1 ?_
  refine m_aload_n hc dX2_init_4 rfl ?_
  refine m_bipush hc (v := 20) dX2_init_5 (by decide) ?_
  refine n_anew (n := 11) hc hG hgm.1 (len := 20) (by decide) (by decide) (by decide) wl_X2_9 (by omega) (by omega) dX2_init_7 (fun hc => ?_)
  have hx1 := xk_p hx hc
  refine n_swap (by decide) ?_
  refine n_putF (n := 12) (a := 10) (fs := [.null, .int 0, .int 0]) hc hG hin2 (by omega) rfl tbX2 tyX2 tyX2_ok nmX2 0 (by decide) wf_X2_11 rfl rfl rfl rfl (Nat.le_of_ble_eq_true rfl) dX2_init_10 ?_
  refine n_swap (by decide) ?_
  rw [← hR_0 (G := G)]
  refine m_iconst hc (v := 0) dX2_init_13 (by decide) ?_
  refine m_istore_n hc (lv' := [some (.ref (gR G 10)), some (.int (nI 0))]) dX2_init_14 (Nat.le_of_ble_eq_true rfl) rfl rfl ?_
  refine hist_loop (X0 := X) hG hk (fun k h => hz k (by omega)) ?_ 21 0 _ (by omega) (by omega) hx1 (by show xC X + 1 = _; omega) (by show xS X + 20 = _; omega)
  intro Y hy hYC hYS
  obtain ⟨y1, hc, hgm, hr, hin2, -, -⟩ := hy
  refine n_conv (op' := hO G :: op) (N := hM M 20) (fun k _ => ?_) ?_
  · by_cases h : k = 11
    · subst h
      rw [oE_hd, oE_tl (by decide), oE_kb hk (by decide), en_P yP_11, hR_20, yP_11.2]
    · rw [oE_tl h]
  refine m_aload_n hc dX2_init_40 rfl ?_
  refine m_iconst hc (v := 0) dX2_init_41 (by decide) ?_
  refine n_put (n := 152) (a := 10) (fs := [.ref (gR G 11), .int 0, .int 0]) hc hG (by omega) rfl tbX2 tyX2 tyX2_ok nmX2 1 (by decide) wf_X2_16 rfl rfl rfl (Nat.le_of_ble_eq_true rfl) dX2_init_42 ?_
  refine m_aload_n hc dX2_init_45 rfl ?_
  refine m_iconst hc (v := 0) dX2_init_46 (by decide) ?_
  refine n_put (n := 152) (a := 10) (fs := [.ref (gR G 11), .int 0, .int 0]) hc hG (by omega) rfl tbX2 tyX2 tyX2_ok nmX2 2 (by decide) wf_X2_20 rfl rfl rfl (Nat.le_of_ble_eq_true rfl) dX2_init_47 ?_
  refine n_close (fun _ => 0) yO_10 hk rfl ?_
  exact n_vret hc hr y1 (by omega) (by omega) dX2_init_50
