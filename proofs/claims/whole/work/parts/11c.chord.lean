def iC (M : Mm) (a : Nat) : Mm := mu M a (fun _ => 0)
set_option maxRecDepth 100000 in
set_option maxHeartbeats 4000000 in
theorem n_X0_init {G : Gm} {l : Launch} (d : Nat) {a0 : Nat} {M : Mm} {op : List (Nat × va_E)} (hG : gB G) (h0 : kC a0) (hk : kb op a0) (hz : ∀ k, a0 + 1 ≤ k → M k = fun _ => 0) : Cn G l (d + 1) yX0_init cX0_init 1 [.ref (gR G a0)] (a0 + 1) ((a0, .inr (0, [.int 0, .null, .null, .null, .null, .null, .null, .int 0, .int 0, .null, .null])) :: op) M (a0 + 9) op (iC M a0) 8 48 := by
  refine n_met (lv := [some (.ref (gR G a0))]) (own := RX0) (by decide +kernel) rfl rfl (Nat.le_of_ble_eq_true rfl) rfl ?_
  intro X hX hc hr hin2 hgm hC0 hS0 hRc hRs
  subst hX
  refine m_aload_n hc dX0_init_0 rfl ?_
  refine n_obj hc (by omega) nm_X0_3 no_i no_c rfl (st := []) (Nat.le_of_ble_eq_true rfl) dX0_init_1 ?_
  refine m_aload_n hc dX0_init_4 rfl ?_
  refine m_iconst hc (v := 0) dX0_init_5 (by decide) ?_
  refine n_put (n := a0 + 1) (a := a0) (fs := [.int 0, .null, .null, .null, .null, .null, .null, .int 0, .int 0, .null, .null]) hc hG (by omega) rfl tbX0 tyX0 tyX0_ok nmX0 0 (by decide) wf_X0_9 rfl rfl rfl (Nat.le_of_ble_eq_true rfl) dX0_init_6 ?_
  refine m_aload_n hc dX0_init_9 rfl ?_
  refine m_bipush hc (v := 6) dX0_init_10 (by decide) ?_
  refine n_newI (n := a0 + 1) hc hG (len := 6) (kC_1 h0) (hz _ (by omega)) (kb_cons (kb_mono hk (by omega)) (by omega)) (by decide) (by decide) (by decide) wac_I (by show xC X + 1 ≤ (xR X).cells; omega) (by show xS X + 6 ≤ (xR X).slots; omega) dX0_init_12 (fun hc => ?_)
  refine n_putF (n := a0 + 2) (a := a0) (fs := [.int 0, .null, .null, .null, .null, .null, .null, .int 0, .int 0, .null, .null]) hc hG hin2 (by omega) rfl tbX0 tyX0 tyX0_ok nmX0 1 (by decide) wf_X0_15 rfl rfl rfl rfl (Nat.le_of_ble_eq_true rfl) dX0_init_14 ?_
  refine m_aload_n hc dX0_init_17 rfl ?_
  refine m_bipush hc (v := 6) dX0_init_18 (by decide) ?_
  refine n_newI (n := a0 + 2) hc hG (len := 6) (kC_2 h0) (hz _ (by omega)) (kb_cons (kb_mono hk (by omega)) (by omega)) (by decide) (by decide) (by decide) wac_I (by show xC X + 1 + 1 ≤ (xR X).cells; omega) (by show xS X + 6 + 6 ≤ (xR X).slots; omega) dX0_init_20 (fun hc => ?_)
  refine n_putF (n := a0 + 3) (a := a0) (fs := [.int 0, .ref (gR G (a0 + 1)), .null, .null, .null, .null, .null, .int 0, .int 0, .null, .null]) hc hG hin2 (by omega) rfl tbX0 tyX0 tyX0_ok nmX0 2 (by decide) wf_X0_19 rfl rfl rfl rfl (Nat.le_of_ble_eq_true rfl) dX0_init_22 ?_
  refine m_aload_n hc dX0_init_25 rfl ?_
  refine m_bipush hc (v := 6) dX0_init_26 (by decide) ?_
  refine n_newI (n := a0 + 3) hc hG (len := 6) (kC_3 h0) (hz _ (by omega)) (kb_cons (kb_mono hk (by omega)) (by omega)) (by decide) (by decide) (by decide) wac_I (by show xC X + 1 + 1 + 1 ≤ (xR X).cells; omega) (by show xS X + 6 + 6 + 6 ≤ (xR X).slots; omega) dX0_init_28 (fun hc => ?_)
  refine n_putF (n := a0 + 4) (a := a0) (fs := [.int 0, .ref (gR G (a0 + 1)), .ref (gR G (a0 + 2)), .null, .null, .null, .null, .int 0, .int 0, .null, .null]) hc hG hin2 (by omega) rfl tbX0 tyX0 tyX0_ok nmX0 3 (by decide) wf_X0_22 rfl rfl rfl rfl (Nat.le_of_ble_eq_true rfl) dX0_init_30 ?_
  refine m_aload_n hc dX0_init_33 rfl ?_
  refine m_bipush hc (v := 6) dX0_init_34 (by decide) ?_
  refine n_newI (n := a0 + 4) hc hG (len := 6) (kC_4 h0) (hz _ (by omega)) (kb_cons (kb_mono hk (by omega)) (by omega)) (by decide) (by decide) (by decide) wac_I (by show xC X + 1 + 1 + 1 + 1 ≤ (xR X).cells; omega) (by show xS X + 6 + 6 + 6 + 6 ≤ (xR X).slots; omega) dX0_init_36 (fun hc => ?_)
  refine n_putF (n := a0 + 5) (a := a0) (fs := [.int 0, .ref (gR G (a0 + 1)), .ref (gR G (a0 + 2)), .ref (gR G (a0 + 3)), .null, .null, .null, .int 0, .int 0, .null, .null]) hc hG hin2 (by omega) rfl tbX0 tyX0 tyX0_ok nmX0 4 (by decide) wf_X0_25 rfl rfl rfl rfl (Nat.le_of_ble_eq_true rfl) dX0_init_38 ?_
  refine m_aload_n hc dX0_init_41 rfl ?_
  refine m_bipush hc (v := 6) dX0_init_42 (by decide) ?_
  refine n_newI (n := a0 + 5) hc hG (len := 6) (kC_5 h0) (hz _ (by omega)) (kb_cons (kb_mono hk (by omega)) (by omega)) (by decide) (by decide) (by decide) wac_I (by show xC X + 1 + 1 + 1 + 1 + 1 ≤ (xR X).cells; omega) (by show xS X + 6 + 6 + 6 + 6 + 6 ≤ (xR X).slots; omega) dX0_init_44 (fun hc => ?_)
  refine n_putF (n := a0 + 6) (a := a0) (fs := [.int 0, .ref (gR G (a0 + 1)), .ref (gR G (a0 + 2)), .ref (gR G (a0 + 3)), .ref (gR G (a0 + 4)), .null, .null, .int 0, .int 0, .null, .null]) hc hG hin2 (by omega) rfl tbX0 tyX0 tyX0_ok nmX0 5 (by decide) wf_X0_28 rfl rfl rfl rfl (Nat.le_of_ble_eq_true rfl) dX0_init_46 ?_
  refine m_aload_n hc dX0_init_49 rfl ?_
  refine m_bipush hc (v := 6) dX0_init_50 (by decide) ?_
  refine n_newI (n := a0 + 6) hc hG (len := 6) (kC_6 h0) (hz _ (by omega)) (kb_cons (kb_mono hk (by omega)) (by omega)) (by decide) (by decide) (by decide) wac_I (by show xC X + 1 + 1 + 1 + 1 + 1 + 1 ≤ (xR X).cells; omega) (by show xS X + 6 + 6 + 6 + 6 + 6 + 6 ≤ (xR X).slots; omega) dX0_init_52 (fun hc => ?_)
  refine n_putF (n := a0 + 7) (a := a0) (fs := [.int 0, .ref (gR G (a0 + 1)), .ref (gR G (a0 + 2)), .ref (gR G (a0 + 3)), .ref (gR G (a0 + 4)), .ref (gR G (a0 + 5)), .null, .int 0, .int 0, .null, .null]) hc hG hin2 (by omega) rfl tbX0 tyX0 tyX0_ok nmX0 6 (by decide) wf_X0_31 rfl rfl rfl rfl (Nat.le_of_ble_eq_true rfl) dX0_init_54 ?_
  refine m_aload_n hc dX0_init_57 rfl ?_
  refine m_iconst hc (v := 0) dX0_init_58 (by decide) ?_
  refine n_put (n := a0 + 7) (a := a0) (fs := [.int 0, .ref (gR G (a0 + 1)), .ref (gR G (a0 + 2)), .ref (gR G (a0 + 3)), .ref (gR G (a0 + 4)), .ref (gR G (a0 + 5)), .ref (gR G (a0 + 6)), .int 0, .int 0, .null, .null]) hc hG (by omega) rfl tbX0 tyX0 tyX0_ok nmX0 7 (by decide) wf_X0_34 rfl rfl rfl (Nat.le_of_ble_eq_true rfl) dX0_init_59 ?_
  refine m_aload_n hc dX0_init_62 rfl ?_
  refine m_iconst hc (v := 0) dX0_init_63 (by decide) ?_
  refine n_put (n := a0 + 7) (a := a0) (fs := [.int 0, .ref (gR G (a0 + 1)), .ref (gR G (a0 + 2)), .ref (gR G (a0 + 3)), .ref (gR G (a0 + 4)), .ref (gR G (a0 + 5)), .ref (gR G (a0 + 6)), .int 0, .int 0, .null, .null]) hc hG (by omega) rfl tbX0 tyX0 tyX0_ok nmX0 8 (by decide) wf_X0_37 rfl rfl rfl (Nat.le_of_ble_eq_true rfl) dX0_init_64 ?_
  refine m_aload_n hc dX0_init_67 rfl ?_
  refine m_bipush hc (v := 6) dX0_init_68 (by decide) ?_
  refine n_newI (n := a0 + 7) hc hG (len := 6) (kC_7 h0) (hz _ (by omega)) (kb_cons (kb_mono hk (by omega)) (by omega)) (by decide) (by decide) (by decide) wac_I (by show xC X + 1 + 1 + 1 + 1 + 1 + 1 + 1 ≤ (xR X).cells; omega) (by show xS X + 6 + 6 + 6 + 6 + 6 + 6 + 6 ≤ (xR X).slots; omega) dX0_init_70 (fun hc => ?_)
  refine n_putF (n := a0 + 8) (a := a0) (fs := [.int 0, .ref (gR G (a0 + 1)), .ref (gR G (a0 + 2)), .ref (gR G (a0 + 3)), .ref (gR G (a0 + 4)), .ref (gR G (a0 + 5)), .ref (gR G (a0 + 6)), .int 0, .int 0, .null, .null]) hc hG hin2 (by omega) rfl tbX0 tyX0 tyX0_ok nmX0 9 (by decide) wf_X0_40 rfl rfl rfl rfl (Nat.le_of_ble_eq_true rfl) dX0_init_72 ?_
  refine m_aload_n hc dX0_init_75 rfl ?_
  refine m_bipush hc (v := 6) dX0_init_76 (by decide) ?_
  refine n_newI (n := a0 + 8) hc hG (len := 6) (kC_8 h0) (hz _ (by omega)) (kb_cons (kb_mono hk (by omega)) (by omega)) (by decide) (by decide) (by decide) wac_I (by show xC X + 1 + 1 + 1 + 1 + 1 + 1 + 1 + 1 ≤ (xR X).cells; omega) (by show xS X + 6 + 6 + 6 + 6 + 6 + 6 + 6 + 6 ≤ (xR X).slots; omega) dX0_init_78 (fun hc => ?_)
  refine n_putF (n := a0 + 9) (a := a0) (fs := [.int 0, .ref (gR G (a0 + 1)), .ref (gR G (a0 + 2)), .ref (gR G (a0 + 3)), .ref (gR G (a0 + 4)), .ref (gR G (a0 + 5)), .ref (gR G (a0 + 6)), .int 0, .int 0, .ref (gR G (a0 + 7)), .null]) hc hG hin2 (by omega) rfl tbX0 tyX0 tyX0_ok nmX0 10 (by decide) wf_X0_43 rfl rfl rfl rfl (Nat.le_of_ble_eq_true rfl) dX0_init_80 ?_
  change WR G _ _ (RN G (a0 + 9) ((a0, .inr (0, [.int 0, .ref (gR G (a0 + 1)), .ref (gR G (a0 + 2)), .ref (gR G (a0 + 3)), .ref (gR G (a0 + 4)), .ref (gR G (a0 + 5)), .ref (gR G (a0 + 6)), .int 0, .int 0, .ref (gR G (a0 + 7)), .ref (gR G (a0 + 8))])) :: op) M) _ _ _
  refine n_close (fun _ => 0) (kC_o h0) hk rfl ?_
  exact n_vret hc hr (by simp only [x10_p]) (by show xC X + 1 + 1 + 1 + 1 + 1 + 1 + 1 + 1 ≤ 8; omega) (by show xS X + 6 + 6 + 6 + 6 + 6 + 6 + 6 + 6 ≤ 48; omega) dX0_init_83
