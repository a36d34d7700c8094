/-- a part as it is made -/
def iP (M : Mm) (a : Nat) : Mm := mu (mu (mu M (a + 5) (fun j => if j < 84 then -1 else M (a + 5) j)) (a + 6) (fun j => if j < 7 then -1 else mu M (a + 5) (fun j => if j < 84 then -1 else M (a + 5) j) (a + 6) j)) a (fun j => if j = 0 then 8 else 0)
set_option maxRecDepth 100000 in
set_option maxHeartbeats 4000000 in
theorem n_X3_init {G : Gm} {l : Launch} (d : Nat) {a0 : Nat} {M : Mm} {op : List (Nat × va_E)} (hG : gB G) (h0 : kP a0) (hk : kb op a0) (hz : ∀ k, a0 + 1 ≤ k → M k = fun _ => 0) : Cn G l (d + 1) yX3_init cX3_init 1 [.ref (gR G a0)] (a0 + 1) ((a0, .inr (3, [.int 0, .null, .null, .null, .null, .null, .null])) :: op) M (a0 + 7) op (iP M a0) 6 319 := by
  refine n_met (lv := [some (.ref (gR G a0))]) (own := RX3) (by decide +kernel) rfl rfl (Nat.le_of_ble_eq_true rfl) rfl ?_
  intro X hX hc hr hin2 hgm hC0 hS0 hRc hRs
  subst hX
  refine m_aload_n hc dX3_init_0 rfl ?_
  refine n_obj hc (by omega) nm_X3_3 no_i no_c rfl (st := []) (Nat.le_of_ble_eq_true rfl) dX3_init_1 ?_
  refine m_aload_n hc dX3_init_4 rfl ?_
  refine m_bipush hc (v := 8) dX3_init_5 (by decide) ?_
  refine n_put (n := a0 + 1) (a := a0) (fs := [.int 0, .null, .null, .null, .null, .null, .null]) hc hG (by omega) rfl tbX3 tyX3 tyX3_ok nmX3 0 (by decide) wf_X3_11 rfl rfl rfl (Nat.le_of_ble_eq_true rfl) dX3_init_7 ?_
  refine m_aload_n hc dX3_init_10 rfl ?_
  refine m_bipush hc (v := 12) dX3_init_11 (by decide) ?_
  refine n_newI (n := a0 + 1) hc hG (len := 12) (kP_1 h0) (hz _ (by omega)) (kb_cons (kb_mono hk (by omega)) (by omega)) (by decide) (by decide) (by decide) wac_I (by show xC X + 1 ≤ (xR X).cells; omega) (by show xS X + 12 ≤ (xR X).slots; omega) dX3_init_13 (fun hc => ?_)
  refine n_putF (n := a0 + 2) (a := a0) (fs := [.int 8, .null, .null, .null, .null, .null, .null]) hc hG hin2 (by omega) rfl tbX3 tyX3 tyX3_ok nmX3 1 (by decide) wf_X3_15 rfl rfl rfl rfl (Nat.le_of_ble_eq_true rfl) dX3_init_15 ?_
  refine m_aload_n hc dX3_init_18 rfl ?_
  refine m_bipush hc (v := 72) dX3_init_19 (by decide) ?_
  refine n_newI (n := a0 + 2) hc hG (len := 72) (kP_2 h0) (hz _ (by omega)) (kb_cons (kb_mono hk (by omega)) (by omega)) (by decide) (by decide) (by decide) wac_I (by show xC X + 1 + 1 ≤ (xR X).cells; omega) (by show xS X + 12 + 72 ≤ (xR X).slots; omega) dX3_init_21 (fun hc => ?_)
  refine n_putF (n := a0 + 3) (a := a0) (fs := [.int 8, .ref (gR G (a0 + 1)), .null, .null, .null, .null, .null]) hc hG hin2 (by omega) rfl tbX3 tyX3 tyX3_ok nmX3 2 (by decide) wf_X3_19 rfl rfl rfl rfl (Nat.le_of_ble_eq_true rfl) dX3_init_23 ?_
  refine m_aload_n hc dX3_init_26 rfl ?_
  refine m_bipush hc (v := 72) dX3_init_27 (by decide) ?_
  refine n_newI (n := a0 + 3) hc hG (len := 72) (kP_3 h0) (hz _ (by omega)) (kb_cons (kb_mono hk (by omega)) (by omega)) (by decide) (by decide) (by decide) wac_I (by show xC X + 1 + 1 + 1 ≤ (xR X).cells; omega) (by show xS X + 12 + 72 + 72 ≤ (xR X).slots; omega) dX3_init_29 (fun hc => ?_)
  refine n_putF (n := a0 + 4) (a := a0) (fs := [.int 8, .ref (gR G (a0 + 1)), .ref (gR G (a0 + 2)), .null, .null, .null, .null]) hc hG hin2 (by omega) rfl tbX3 tyX3 tyX3_ok nmX3 3 (by decide) wf_X3_22 rfl rfl rfl rfl (Nat.le_of_ble_eq_true rfl) dX3_init_31 ?_
  refine m_aload_n hc dX3_init_34 rfl ?_
  refine m_bipush hc (v := 72) dX3_init_35 (by decide) ?_
  refine n_newI (n := a0 + 4) hc hG (len := 72) (kP_4 h0) (hz _ (by omega)) (kb_cons (kb_mono hk (by omega)) (by omega)) (by decide) (by decide) (by decide) wac_I (by show xC X + 1 + 1 + 1 + 1 ≤ (xR X).cells; omega) (by show xS X + 12 + 72 + 72 + 72 ≤ (xR X).slots; omega) dX3_init_37 (fun hc => ?_)
  refine n_putF (n := a0 + 5) (a := a0) (fs := [.int 8, .ref (gR G (a0 + 1)), .ref (gR G (a0 + 2)), .ref (gR G (a0 + 3)), .null, .null, .null]) hc hG hin2 (by omega) rfl tbX3 tyX3 tyX3_ok nmX3 4 (by decide) wf_X3_25 rfl rfl rfl rfl (Nat.le_of_ble_eq_true rfl) dX3_init_39 ?_
  refine m_aload_n hc dX3_init_42 rfl ?_
  refine m_bipush hc (v := 84) dX3_init_43 (by decide) ?_
  refine n_newI (n := a0 + 5) hc hG (len := 84) (kP_5 h0) (hz _ (by omega)) (kb_cons (kb_mono hk (by omega)) (by omega)) (by decide) (by decide) (by decide) wac_I (by show xC X + 1 + 1 + 1 + 1 + 1 ≤ (xR X).cells; omega) (by show xS X + 12 + 72 + 72 + 72 + 84 ≤ (xR X).slots; omega) dX3_init_45 (fun hc => ?_)
  refine n_putF (n := a0 + 6) (a := a0) (fs := [.int 8, .ref (gR G (a0 + 1)), .ref (gR G (a0 + 2)), .ref (gR G (a0 + 3)), .ref (gR G (a0 + 4)), .null, .null]) hc hG hin2 (by omega) rfl tbX3 tyX3 tyX3_ok nmX3 5 (by decide) wf_X3_28 rfl rfl rfl rfl (Nat.le_of_ble_eq_true rfl) dX3_init_47 ?_
  refine m_aload_n hc dX3_init_50 rfl ?_
  refine m_bipush hc (v := 7) dX3_init_51 (by decide) ?_
  refine n_newI (n := a0 + 6) hc hG (len := 7) (kP_6 h0) (hz _ (by omega)) (kb_cons (kb_mono hk (by omega)) (by omega)) (by decide) (by decide) (by decide) wac_I (by show xC X + 1 + 1 + 1 + 1 + 1 + 1 ≤ (xR X).cells; omega) (by show xS X + 12 + 72 + 72 + 72 + 84 + 7 ≤ (xR X).slots; omega) dX3_init_53 (fun hc => ?_)
  refine n_putF (n := a0 + 7) (a := a0) (fs := [.int 8, .ref (gR G (a0 + 1)), .ref (gR G (a0 + 2)), .ref (gR G (a0 + 3)), .ref (gR G (a0 + 4)), .ref (gR G (a0 + 5)), .null]) hc hG hin2 (by omega) rfl tbX3 tyX3 tyX3_ok nmX3 6 (by decide) wf_X3_31 rfl rfl rfl rfl (Nat.le_of_ble_eq_true rfl) dX3_init_55 ?_
  change WR G _ _ (RN G (a0 + 7) ((a0, .inr (3, [.int 8, .ref (gR G (a0 + 1)), .ref (gR G (a0 + 2)), .ref (gR G (a0 + 3)), .ref (gR G (a0 + 4)), .ref (gR G (a0 + 5)), .ref (gR G (a0 + 6))])) :: op) M) _ _ _
  refine m_aload_n hc dX3_init_58 rfl ?_
  refine n_get (n := a0 + 7) (a := a0) hc (by omega) oE_hd rfl tbX3 5 (by decide) wf_X3_28 rfl dX3_init_59 ?_
  refine m_iconst hc (v := (-1)) dX3_init_62 (by decide) ?_
  refine n_callS (n := a0 + 7) hc hgm (n_J7_fill d hG (by omega) (kP_5 h0) (b := a0 + 1) (kb_cons (kb_mono hk (by omega)) (by omega)) (by omega) (fill_eq (by decide))) (by omega) (by decide) wm_X3_34 wt_J7_fill_53178 wv_J7_fill_53178 wc_J7_fill_53178 wz_J7_fill_53178 rfl (st := []) rfl rfl (Nat.le_of_ble_eq_true rfl) dX3_init_63 ?_
  refine n_topM (fun M1 e1 => ?_)
  refine m_aload_n hc dX3_init_66 rfl ?_
  refine n_get (n := a0 + 7) (a := a0) hc (by omega) oE_hd rfl tbX3 6 (by decide) wf_X3_31 rfl dX3_init_67 ?_
  refine m_iconst hc (v := (-1)) dX3_init_70 (by decide) ?_
  refine n_callS (n := a0 + 7) hc hgm (n_J7_fill d hG (by omega) (kP_6 h0) (b := a0 + 1) (kb_cons (kb_mono hk (by omega)) (by omega)) (by omega) (fill_eq (by decide))) (by omega) (by decide) wm_X3_34 wt_J7_fill_53178 wv_J7_fill_53178 wc_J7_fill_53178 wz_J7_fill_53178 rfl (st := []) rfl rfl (Nat.le_of_ble_eq_true rfl) dX3_init_71 ?_
  refine n_topM (fun M2 e2 => ?_)
  refine n_close (fun j => if j = 0 then 8 else 0) (kP_o h0) hk rfl ?_
  refine n_cM (N := iP M a0) (by subst e2; subst e1; unfold iP; rfl) ?_
  exact n_vret hc hr (by simp only [x10_p]) (by show xC X + 1 + 1 + 1 + 1 + 1 + 1 ≤ 6; omega) (by show xS X + 12 + 72 + 72 + 72 + 84 + 7 ≤ 319; omega) dX3_init_74
