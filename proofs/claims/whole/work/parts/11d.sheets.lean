set_option maxRecDepth 100000 in
set_option maxHeartbeats 4000000 in
theorem n_X4_init {G : Gm} {l : Launch} (d : Nat) {M : Mm} {op : List (Nat × va_E)} (hG : gB G) (hk : kb op 204) (hz : ∀ k, 205 ≤ k → M k = fun _ => 0) : Cn G l (d + 1) yX4_init cX4_init 1 [.ref (gR G 204)] 205 ((204, .inr (4, [.null, .null, .null])) :: op) M 212 op (mu M 204 (fun _ => 0)) 7 132 := by
  refine n_met (lv := [some (.ref (gR G 204))]) (own := RX4) (by decide +kernel) rfl rfl (Nat.le_of_ble_eq_true rfl) rfl ?_
  intro X hX hc hr hin2 hgm hC0 hS0 hRc hRs
  subst hX
  refine m_aload_n hc dX4_init_0 rfl ?_
  refine n_obj hc (by omega) nm_X4_1 no_i no_c rfl (st := []) (Nat.le_of_ble_eq_true rfl) dX4_init_1 ?_
  refine m_aload_n hc dX4_init_4 rfl ?_
  refine m_iconst hc (v := 4) dX4_init_5 (by decide) ?_
  refine n_newI (n := 205) hc hG (len := 4) yA_205 (hz _ (by omega)) (kb_cons (kb_mono hk (by omega)) (by omega)) (by decide) (by decide) (by decide) wac_I (by show xC X + 1 ≤ (xR X).cells; omega) (by show xS X + 4 ≤ (xR X).slots; omega) dX4_init_6 (fun hc => ?_)
  refine n_putF (n := 206) (a := 204) (fs := [.null, .null, .null]) hc hG hin2 (by omega) rfl tbX4 tyX4 tyX4_ok nmX4 0 (by decide) wf_X4_9 rfl rfl rfl rfl (Nat.le_of_ble_eq_true rfl) dX4_init_8 ?_
  refine m_aload_n hc dX4_init_11 rfl ?_
  refine m_iconst hc (v := 4) dX4_init_12 (by decide) ?_
  refine n_newI (n := 206) hc hG (len := 4) yA_206 (hz _ (by omega)) (kb_cons (kb_mono hk (by omega)) (by omega)) (by decide) (by decide) (by decide) wac_I (by show xC X + 1 + 1 ≤ (xR X).cells; omega) (by show xS X + 4 + 4 ≤ (xR X).slots; omega) dX4_init_13 (fun hc => ?_)
  refine n_putF (n := 207) (a := 204) (fs := [.ref (gR G (205)), .null, .null]) hc hG hin2 (by omega) rfl tbX4 tyX4 tyX4_ok nmX4 1 (by decide) wf_X4_13 rfl rfl rfl rfl (Nat.le_of_ble_eq_true rfl) dX4_init_15 ?_
  refine m_aload_n hc dX4_init_18 rfl ?_
  refine m_iconst hc (v := 4) dX4_init_19 (by decide) ?_
  refine m_bipush hc (v := 30) dX4_init_20 (by decide) ?_
  refine n_mna (n := 207) (N := 4) (K := 30) hc hG hgm yJ_207 (by decide +kernel) (by decide +kernel) (fun j _ => hz _ (by omega)) (kb_cons (kb_mono hk (by omega)) (by omega)) (by decide) (by decide) (by decide) (by decide) (by decide) (by decide) wl_X4_16 (by show xC X + 1 + 1 + (1 + 4) ≤ (xR X).cells; omega) (by show xS X + 4 + 4 + (4 + 4 * 30) ≤ (xR X).slots; omega) dX4_init_22 (fun hc => ?_)
  refine n_putF (n := 212) (a := 204) (fs := [.ref (gR G (205)), .ref (gR G (206)), .null]) hc hG hin2 (by omega) rfl tbX4 tyX4 tyX4_ok nmX4 2 (by decide) wf_X4_18 rfl rfl rfl rfl (Nat.le_of_ble_eq_true rfl) dX4_init_26 ?_
  change WR G _ _ (RN G 212 ((204, .inr (4, [.ref (gR G (205)), .ref (gR G (206)), .ref (gR G (207))])) :: op) M) _ _ _
  refine n_close (fun _ => 0) yO_204 hk rfl ?_
  exact n_vret hc hr (by simp only [x10_p]) (by show xC X + 1 + 1 + 1 + 4 ≤ 7; omega) (by show xS X + 4 + 4 + 4 + 4 * 30 ≤ 132; omega) dX4_init_29
