theorem iH_out {M : Mm} {k : Nat} (h : 3 ≤ k) : iH M k = M k := by
  unfold iH
  rw [mu_n (by omega), mu_n (by omega)]
theorem iHi_out {M : Mm} {k : Nat} (h : 152 ≤ k) : iHi M k = M k := by
  unfold iHi
  rw [mu_n (by omega), hM_out 20 (by omega)]
theorem iW_out {M : Mm} {k : Nat} (h : 163 ≤ k) : iW M k = M k := by
  unfold iW
  rw [mu_n (by omega), iC_out (by omega)]
def iX (M : Mm) : Mm := mu (mu (iW (iC (iHi (iP (iH M) 3)) 152)) 204 (fun _ => 0)) 0 (fun _ => 0)
set_option maxRecDepth 100000 in
set_option maxHeartbeats 8000000 in
theorem n_X6_init {G : Gm} {l : Launch} (d : Nat) {M : Mm} (hG : gB G) (hz : ∀ k, 1 ≤ k → M k = fun _ => 0) : Cn G l (d + 3) yX6_init cX6_init 1 [.ref (gR G 0)] 1 [(0, .inr (6, [.null, .null, .null, .null, .null, .null, .int 0]))] M 212 [] (iX M) 211 68467 := by
  have z1 : ∀ k, 3 + 1 ≤ k → iH M k = fun _ => 0 := fun k h => by rw [iH_out (by omega)]; exact hz k (by omega)
  have z2 : ∀ k, 11 ≤ k → iP (iH M) 3 k = fun _ => 0 := fun k h => by rw [iP_out (by omega)]; exact z1 k (by omega)
  have z3 : ∀ k, 152 + 1 ≤ k → iHi (iP (iH M) 3) k = fun _ => 0 := fun k h => by rw [iHi_out (by omega)]; exact z2 k (by omega)
  have z4 : ∀ k, 162 ≤ k → iC (iHi (iP (iH M) 3)) 152 k = fun _ => 0 := fun k h => by rw [iC_out (by omega)]; exact z3 k (by omega)
  have z5 : ∀ k, 205 ≤ k → iW (iC (iHi (iP (iH M) 3)) 152) k = fun _ => 0 := fun k h => by rw [iW_out (by omega)]; exact z4 k (by omega)
  refine n_met (lv := [some (.ref (gR G 0))]) (own := RX6) (by decide +kernel) rfl rfl (Nat.le_of_ble_eq_true rfl) rfl ?_
  intro X hX hc hr hin2 hgm hC0 hS0 hRc hRs
  subst hX
  have hx : xk G X X cX6_init 1 RX6 (d + 3) 211 68467 := ⟨rfl, hc, hgm, hr, hin2, hRc, hRs⟩
  refine m_aload_n hc dX6_init_0 rfl ?_
  refine n_obj hc (by omega) nm_X6_1 no_i no_c rfl (st := []) (Nat.le_of_ble_eq_true rfl) dX6_init_1 ?_
  refine m_aload_n hc dX6_init_4 rfl ?_
  refine n_new (n := 1) hc hG (ci := 1) rfl tbX1 tyX1 tyX1_ok wl_X6_7 wq_X1 wn_X1 (fs := [.null]) (by decide +kernel) (by show xC X + 1 ≤ (xR X).cells; omega) (by show xS X + 1 ≤ (xR X).slots; omega) dX6_init_5 (fun hc => ?_)
  have hx := xk_p hx hc
  refine n_gen hx (c := 1) (s := 1) (by show xC X + 1 = _; omega) (by show xS X + 1 = _; omega) ?_
  clear hx hc hgm hr hin2 hRc hRs hC0 hS0
  intro X hx hC0 hS0
  obtain ⟨-, hc, hgm, hr, hin2, hRc, hRs⟩ := id hx
  refine m_dup hc dX6_init_8 rfl ?_
  refine n_init (n := 2) hc hgm (n_X1_init (d + 1) hG (kb_cons kb_nil (by omega)) (fun k h => hz k (by omega))) (by omega) (by decide) wm_X6_9 wi_X1_init wv_X1_init wc_X1_init rfl wz_X1_init rfl (st := [.ref (gR G (1)), .ref (gR G (0))]) rfl rfl (Nat.le_of_ble_eq_true rfl) (by show xC X + 1 ≤ (xR X).cells; omega) (by show xS X + 2187 ≤ (xR X).slots; omega) dX6_init_9 (fun hc => ?_)
  have hx := xk_p hx hc
  refine n_gen hx (c := 2) (s := 2188) (by show xC X + 1 = _; omega) (by show xS X + 2187 = _; omega) ?_
  clear hx hc hgm hr hin2 hRc hRs hC0 hS0
  intro X hx hC0 hS0
  obtain ⟨-, hc, hgm, hr, hin2, hRc, hRs⟩ := id hx
  refine n_putF (n := 3) (a := 0) (fs := [.null, .null, .null, .null, .null, .null, .int 0]) hc hG hin2 (by omega) rfl tbX6 tyX6 tyX6_ok nmX6 0 (by decide) wf_X6_10 rfl rfl rfl rfl (Nat.le_of_ble_eq_true rfl) dX6_init_12 ?_
  refine m_aload_n hc dX6_init_15 rfl ?_
  refine n_new (n := 3) hc hG (ci := 3) rfl tbX3 tyX3 tyX3_ok wl_X6_16 wq_X3 wn_X3 (fs := [.int 0, .null, .null, .null, .null, .null, .null]) (by decide +kernel) (by show xC X + 1 ≤ (xR X).cells; omega) (by show xS X + 7 ≤ (xR X).slots; omega) dX6_init_16 (fun hc => ?_)
  have hx := xk_p hx hc
  refine n_gen hx (c := 3) (s := 2195) (by show xC X + 1 = _; omega) (by show xS X + 7 = _; omega) ?_
  clear hx hc hgm hr hin2 hRc hRs hC0 hS0
  intro X hx hC0 hS0
  obtain ⟨-, hc, hgm, hr, hin2, hRc, hRs⟩ := id hx
  refine m_dup hc dX6_init_19 rfl ?_
  refine n_init (n := 4) hc hgm (n_X3_init (d + 1) hG kP_3lit (kb_cons kb_nil (by omega)) z1) (by omega) (by decide) wm_X6_18 wi_X3_init wv_X3_init wc_X3_init rfl wz_X3_init rfl (st := [.ref (gR G (3)), .ref (gR G (0))]) rfl rfl (Nat.le_of_ble_eq_true rfl) (by show xC X + 6 ≤ (xR X).cells; omega) (by show xS X + 319 ≤ (xR X).slots; omega) dX6_init_20 (fun hc => ?_)
  have hx := xk_p hx hc
  refine n_gen hx (c := 9) (s := 2514) (by show xC X + 6 = _; omega) (by show xS X + 319 = _; omega) ?_
  clear hx hc hgm hr hin2 hRc hRs hC0 hS0
  intro X hx hC0 hS0
  obtain ⟨-, hc, hgm, hr, hin2, hRc, hRs⟩ := id hx
  refine n_putF (n := 10) (a := 0) (fs := [.ref (gR G (1)), .null, .null, .null, .null, .null, .int 0]) hc hG hin2 (by omega) rfl tbX6 tyX6 tyX6_ok nmX6 1 (by decide) wf_X6_19 rfl rfl rfl rfl (Nat.le_of_ble_eq_true rfl) dX6_init_23 ?_
  refine m_aload_n hc dX6_init_26 rfl ?_
  refine n_new (n := 10) hc hG (ci := 2) rfl tbX2 tyX2 tyX2_ok wl_X6_23 wq_X2 wn_X2 (fs := [.null, .int 0, .int 0]) (by decide +kernel) (by show xC X + 1 ≤ (xR X).cells; omega) (by show xS X + 3 ≤ (xR X).slots; omega) dX6_init_27 (fun hc => ?_)
  have hx := xk_p hx hc
  refine n_gen hx (c := 10) (s := 2517) (by show xC X + 1 = _; omega) (by show xS X + 3 = _; omega) ?_
  clear hx hc hgm hr hin2 hRc hRs hC0 hS0
  intro X hx hC0 hS0
  obtain ⟨-, hc, hgm, hr, hin2, hRc, hRs⟩ := id hx
  refine m_dup hc dX6_init_30 rfl ?_
  refine n_init (n := 11) hc hgm (n_X2_init d hG (kb_cons kb_nil (by omega)) z2) (by omega) (by decide) wm_X6_25 wi_X2_init wv_X2_init wc_X2_init rfl wz_X2_init rfl (st := [.ref (gR G (10)), .ref (gR G (0))]) rfl rfl (Nat.le_of_ble_eq_true rfl) (by show xC X + 141 ≤ (xR X).cells; omega) (by show xS X + 6540 ≤ (xR X).slots; omega) dX6_init_31 (fun hc => ?_)
  have hx := xk_p hx hc
  refine n_gen hx (c := 151) (s := 9057) (by show xC X + 141 = _; omega) (by show xS X + 6540 = _; omega) ?_
  clear hx hc hgm hr hin2 hRc hRs hC0 hS0
  intro X hx hC0 hS0
  obtain ⟨-, hc, hgm, hr, hin2, hRc, hRs⟩ := id hx
  refine n_putF (n := 152) (a := 0) (fs := [.ref (gR G (1)), .ref (gR G (3)), .null, .null, .null, .null, .int 0]) hc hG hin2 (by omega) rfl tbX6 tyX6 tyX6_ok nmX6 2 (by decide) wf_X6_26 rfl rfl rfl rfl (Nat.le_of_ble_eq_true rfl) dX6_init_34 ?_
  refine m_aload_n hc dX6_init_37 rfl ?_
  refine n_new (n := 152) hc hG (ci := 0) rfl tbX0 tyX0 tyX0_ok wl_X6_30 wq_X0 wn_X0 (fs := [.int 0, .null, .null, .null, .null, .null, .null, .int 0, .int 0, .null, .null]) (by decide +kernel) (by show xC X + 1 ≤ (xR X).cells; omega) (by show xS X + 11 ≤ (xR X).slots; omega) dX6_init_38 (fun hc => ?_)
  have hx := xk_p hx hc
  refine n_gen hx (c := 152) (s := 9068) (by show xC X + 1 = _; omega) (by show xS X + 11 = _; omega) ?_
  clear hx hc hgm hr hin2 hRc hRs hC0 hS0
  intro X hx hC0 hS0
  obtain ⟨-, hc, hgm, hr, hin2, hRc, hRs⟩ := id hx
  refine m_dup hc dX6_init_41 rfl ?_
  refine n_init (n := 153) hc hgm (n_X0_init (d + 1) hG kC_152 (kb_cons kb_nil (by omega)) z3) (by omega) (by decide) wm_X6_32 wi_X0_init wv_X0_init wc_X0_init rfl wz_X0_init rfl (st := [.ref (gR G (152)), .ref (gR G (0))]) rfl rfl (Nat.le_of_ble_eq_true rfl) (by show xC X + 8 ≤ (xR X).cells; omega) (by show xS X + 48 ≤ (xR X).slots; omega) dX6_init_42 (fun hc => ?_)
  have hx := xk_p hx hc
  refine n_gen hx (c := 160) (s := 9116) (by show xC X + 8 = _; omega) (by show xS X + 48 = _; omega) ?_
  clear hx hc hgm hr hin2 hRc hRs hC0 hS0
  intro X hx hC0 hS0
  obtain ⟨-, hc, hgm, hr, hin2, hRc, hRs⟩ := id hx
  refine n_putF (n := 161) (a := 0) (fs := [.ref (gR G (1)), .ref (gR G (3)), .ref (gR G (10)), .null, .null, .null, .int 0]) hc hG hin2 (by omega) rfl tbX6 tyX6 tyX6_ok nmX6 3 (by decide) wf_X6_33 rfl rfl rfl rfl (Nat.le_of_ble_eq_true rfl) dX6_init_45 ?_
  refine m_aload_n hc dX6_init_48 rfl ?_
  refine n_new (n := 161) hc hG (ci := 5) rfl tbX5 tyX5 tyX5_ok wl_X6_37 wq_X5 wn_X5 (fs := [.null, .null, .null, .null, .null, .null, .null, .null, .null, .null, .null, .null, .int 0, .int 0, .int 0, .int 0, .int 0, .int 0]) (by decide +kernel) (by show xC X + 1 ≤ (xR X).cells; omega) (by show xS X + 18 ≤ (xR X).slots; omega) dX6_init_49 (fun hc => ?_)
  have hx := xk_p hx hc
  refine n_gen hx (c := 161) (s := 9134) (by show xC X + 1 = _; omega) (by show xS X + 18 = _; omega) ?_
  clear hx hc hgm hr hin2 hRc hRs hC0 hS0
  intro X hx hC0 hS0
  obtain ⟨-, hc, hgm, hr, hin2, hRc, hRs⟩ := id hx
  refine m_dup hc dX6_init_52 rfl ?_
  refine m_aload_n hc dX6_init_53 rfl ?_
  refine n_get (n := 162) (a := 0) hc (by omega) ((oE_tl (by decide)).trans oE_hd) rfl tbX6 0 (by decide) wf_X6_10 rfl dX6_init_54 ?_
  refine m_aload_n hc dX6_init_57 rfl ?_
  refine n_get (n := 162) (a := 0) hc (by omega) ((oE_tl (by decide)).trans oE_hd) rfl tbX6 1 (by decide) wf_X6_19 rfl dX6_init_58 ?_
  refine n_init (n := 162) hc hgm (n_X5_init d hG (kb_cons kb_nil (by omega)) z4) (by omega) (by decide) wm_X6_39 wi_X5_init wv_X5_init wc_X5_init rfl wz_X5_init rfl (st := [.ref (gR G (161)), .ref (gR G (0))]) rfl rfl (Nat.le_of_ble_eq_true rfl) (by show xC X + 42 ≤ (xR X).cells; omega) (by show xS X + 59198 ≤ (xR X).slots; omega) dX6_init_61 (fun hc => ?_)
  have hx := xk_p hx hc
  refine n_gen hx (c := 203) (s := 68332) (by show xC X + 42 = _; omega) (by show xS X + 59198 = _; omega) ?_
  clear hx hc hgm hr hin2 hRc hRs hC0 hS0
  intro X hx hC0 hS0
  obtain ⟨-, hc, hgm, hr, hin2, hRc, hRs⟩ := id hx
  refine n_putF (n := 204) (a := 0) (fs := [.ref (gR G (1)), .ref (gR G (3)), .ref (gR G (10)), .ref (gR G (152)), .null, .null, .int 0]) hc hG hin2 (by omega) rfl tbX6 tyX6 tyX6_ok nmX6 4 (by decide) wf_X6_42 rfl rfl rfl rfl (Nat.le_of_ble_eq_true rfl) dX6_init_64 ?_
  refine m_aload_n hc dX6_init_67 rfl ?_
  refine n_new (n := 204) hc hG (ci := 4) rfl tbX4 tyX4 tyX4_ok wl_X6_46 wq_X4 wn_X4 (fs := [.null, .null, .null]) (by decide +kernel) (by show xC X + 1 ≤ (xR X).cells; omega) (by show xS X + 3 ≤ (xR X).slots; omega) dX6_init_68 (fun hc => ?_)
  have hx := xk_p hx hc
  refine n_gen hx (c := 204) (s := 68335) (by show xC X + 1 = _; omega) (by show xS X + 3 = _; omega) ?_
  clear hx hc hgm hr hin2 hRc hRs hC0 hS0
  intro X hx hC0 hS0
  obtain ⟨-, hc, hgm, hr, hin2, hRc, hRs⟩ := id hx
  refine m_dup hc dX6_init_71 rfl ?_
  refine n_init (n := 205) hc hgm (n_X4_init (d + 1) hG (kb_cons kb_nil (by omega)) z5) (by omega) (by decide) wm_X6_48 wi_X4_init wv_X4_init wc_X4_init rfl wz_X4_init rfl (st := [.ref (gR G (204)), .ref (gR G (0))]) rfl rfl (Nat.le_of_ble_eq_true rfl) (by show xC X + 7 ≤ (xR X).cells; omega) (by show xS X + 132 ≤ (xR X).slots; omega) dX6_init_72 (fun hc => ?_)
  have hx := xk_p hx hc
  refine n_gen hx (c := 211) (s := 68467) (by show xC X + 7 = _; omega) (by show xS X + 132 = _; omega) ?_
  clear hx hc hgm hr hin2 hRc hRs hC0 hS0
  intro X hx hC0 hS0
  obtain ⟨-, hc, hgm, hr, hin2, hRc, hRs⟩ := id hx
  refine n_putF (n := 212) (a := 0) (fs := [.ref (gR G (1)), .ref (gR G (3)), .ref (gR G (10)), .ref (gR G (152)), .ref (gR G (161)), .null, .int 0]) hc hG hin2 (by omega) rfl tbX6 tyX6 tyX6_ok nmX6 5 (by decide) wf_X6_49 rfl rfl rfl rfl (Nat.le_of_ble_eq_true rfl) dX6_init_75 ?_
  refine m_aload_n hc dX6_init_78 rfl ?_
  refine m_iconst hc (v := 0) dX6_init_79 (by decide) ?_
  refine n_put (n := 212) (a := 0) (fs := [.ref (gR G (1)), .ref (gR G (3)), .ref (gR G (10)), .ref (gR G (152)), .ref (gR G (161)), .ref (gR G (204)), .int 0]) hc hG (by omega) rfl tbX6 tyX6 tyX6_ok nmX6 6 (by decide) wf_X6_53 rfl rfl rfl (Nat.le_of_ble_eq_true rfl) dX6_init_80 ?_
  refine n_close (fun _ => 0) yO_0 kb_nil rfl ?_
  exact n_vret hc hr hx.1 (by omega) (by omega) dX6_init_83
