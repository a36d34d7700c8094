def iW (M : Mm) : Mm := mu (iC M 162) 161 (fun j => if j = 12 then 12 else if j = 13 then -1 else if j = 15 then 66060288 else if j = 17 then -1 else 0)
theorem iC_out {M : Mm} {a k : Nat} (h : k ≠ a) : iC M a k = M k := mu_n h
set_option maxRecDepth 100000 in
set_option maxHeartbeats 8000000 in
theorem n_X5_init {G : Gm} {l : Launch} (d : Nat) {M : Mm} {op : List (Nat × va_E)} (hG : gB G) (hk : kb op 161) (hz0 : ∀ k, 162 ≤ k → M k = fun _ => 0) : Cn G l (d + 2) yX5_init cX5_init 3 [.ref (gR G 161), .ref (gR G 1), .ref (gR G 3)] 162 ((161, .inr (5, [.null, .null, .null, .null, .null, .null, .null, .null, .null, .null, .null, .null, .int 0, .int 0, .int 0, .int 0, .int 0, .int 0])) :: op) M 204 op (iW M) 42 59198 := by
  refine n_met (lv := [some (.ref (gR G 161)), some (.ref (gR G 1)), some (.ref (gR G 3))]) (own := RX5) (by decide +kernel) rfl rfl (Nat.le_of_ble_eq_true rfl) rfl ?_
  intro X hX hc hr hin2 hgm hC0 hS0 hRc hRs
  subst hX
  have hz1 : ∀ k, 162 + 1 ≤ k → M k = fun _ => 0 := fun k h => hz0 k (by omega)
  refine m_aload_n hc dX5_init_0 rfl ?_
  refine n_obj hc (by omega) nm_X5_5 no_i no_c rfl (st := []) (Nat.le_of_ble_eq_true rfl) dX5_init_1 ?_
  refine m_aload_n hc dX5_init_4 rfl ?_
  refine m_aload_n hc dX5_init_5 rfl ?_
  refine n_putF (n := 162) (a := 161) (fs := [.null, .null, .null, .null, .null, .null, .null, .null, .null, .null, .null, .null, .int 0, .int 0, .int 0, .int 0, .int 0, .int 0]) hc hG hin2 (by omega) rfl tbX5 tyX5 tyX5_ok nmX5 0 (by decide) wf_X5_11 rfl rfl rfl rfl (Nat.le_of_ble_eq_true rfl) dX5_init_6 ?_
  refine m_aload_n hc dX5_init_9 rfl ?_
  refine m_aload_n hc dX5_init_10 rfl ?_
  refine n_putF (n := 162) (a := 161) (fs := [.ref (gR G (1)), .null, .null, .null, .null, .null, .null, .null, .null, .null, .null, .null, .int 0, .int 0, .int 0, .int 0, .int 0, .int 0]) hc hG hin2 (by omega) rfl tbX5 tyX5 tyX5_ok nmX5 1 (by decide) wf_X5_15 rfl rfl rfl rfl (Nat.le_of_ble_eq_true rfl) dX5_init_11 ?_
  refine m_aload_n hc dX5_init_14 rfl ?_
  refine n_new (n := 162) hc hG (ci := 0) rfl tbX0 tyX0 tyX0_ok wl_X5_19 wq_X0 wn_X0 (fs := [.int 0, .null, .null, .null, .null, .null, .null, .int 0, .int 0, .null, .null]) (by decide +kernel) (by show xC X + 1 ≤ (xR X).cells; omega) (by show xS X + 11 ≤ (xR X).slots; omega) dX5_init_15 (fun hc => ?_)
  refine m_dup hc dX5_init_18 rfl ?_
  refine n_init (n := 163) hc hgm (n_X0_init d hG kC_162 (kb_cons (kb_mono hk (by omega)) (by omega)) hz1) (by omega) (by decide) wm_X5_21 wi_X0_init wv_X0_init wc_X0_init rfl wz_X0_init rfl (st := [.ref (gR G (162)), .ref (gR G (161))]) rfl rfl (Nat.le_of_ble_eq_true rfl) (by show xC X + 1 + 8 ≤ (xR X).cells; omega) (by show xS X + 11 + 48 ≤ (xR X).slots; omega) dX5_init_19 (fun hc => ?_)
  refine n_putF (n := 171) (a := 161) (fs := [.ref (gR G (1)), .ref (gR G (3)), .null, .null, .null, .null, .null, .null, .null, .null, .null, .null, .int 0, .int 0, .int 0, .int 0, .int 0, .int 0]) hc hG hin2 (by omega) rfl tbX5 tyX5 tyX5_ok nmX5 2 (by decide) wf_X5_22 rfl rfl rfl rfl (Nat.le_of_ble_eq_true rfl) dX5_init_22 ?_
  have hz : ∀ k, 163 ≤ k → iC M 162 k = fun _ => 0 := fun k h => by rw [iC_out (by omega)]; exact hz0 k (by omega)
  change WR G _ _ (RN G 171 ((161, .inr (5, [.ref (gR G (1)), .ref (gR G (3)), .ref (gR G (162)), .null, .null, .null, .null, .null, .null, .null, .null, .null, .int 0, .int 0, .int 0, .int 0, .int 0, .int 0])) :: op) (iC M 162)) _ _ _
  refine m_aload_n hc dX5_init_25 rfl ?_
  refine m_bipush hc (v := 12) dX5_init_26 (by decide) ?_
  refine m_sipush hc (v := 2187) dX5_init_28 (by decide) ?_
  refine n_mna (n := 171) (N := 12) (K := 2187) hc hG hgm yJ_171 (by decide +kernel) (by decide +kernel) (fun j _ => hz _ (by omega)) (kb_cons (kb_mono hk (by omega)) (by omega)) (by decide) (by decide) (by decide) (by decide) (by decide) (by decide) wl_X5_26 (by show xC X + 1 + 8 + (1 + 12) ≤ (xR X).cells; omega) (by show xS X + 11 + 48 + (12 + 12 * 2187) ≤ (xR X).slots; omega) dX5_init_31 (fun hc => ?_)
  refine n_putF (n := 184) (a := 161) (fs := [.ref (gR G (1)), .ref (gR G (3)), .ref (gR G (162)), .null, .null, .null, .null, .null, .null, .null, .null, .null, .int 0, .int 0, .int 0, .int 0, .int 0, .int 0]) hc hG hin2 (by omega) rfl tbX5 tyX5 tyX5_ok nmX5 3 (by decide) wf_X5_28 rfl rfl rfl rfl (Nat.le_of_ble_eq_true rfl) dX5_init_35 ?_
  refine m_aload_n hc dX5_init_38 rfl ?_
  refine m_bipush hc (v := 12) dX5_init_39 (by decide) ?_
  refine n_newZ (n := 184) hc hG (len := 12) yB_184 (hz _ (by omega)) (kb_cons (kb_mono hk (by omega)) (by omega)) (by decide) (by decide) (by decide) wac_Z (by show xC X + 1 + 8 + 1 + 12 + 1 ≤ (xR X).cells; omega) (by show xS X + 11 + 48 + 12 + 12 * 2187 + 12 ≤ (xR X).slots; omega) dX5_init_41 (fun hc => ?_)
  refine n_putF (n := 185) (a := 161) (fs := [.ref (gR G (1)), .ref (gR G (3)), .ref (gR G (162)), .ref (gR G (171)), .null, .null, .null, .null, .null, .null, .null, .null, .int 0, .int 0, .int 0, .int 0, .int 0, .int 0]) hc hG hin2 (by omega) rfl tbX5 tyX5 tyX5_ok nmX5 4 (by decide) wf_X5_31 rfl rfl rfl rfl (Nat.le_of_ble_eq_true rfl) dX5_init_43 ?_
  refine m_aload_n hc dX5_init_46 rfl ?_
  refine m_bipush hc (v := 12) dX5_init_47 (by decide) ?_
  refine m_sipush hc (v := 2187) dX5_init_49 (by decide) ?_
  refine n_mna (n := 185) (N := 12) (K := 2187) hc hG hgm yJ_185 (by decide +kernel) (by decide +kernel) (fun j _ => hz _ (by omega)) (kb_cons (kb_mono hk (by omega)) (by omega)) (by decide) (by decide) (by decide) (by decide) (by decide) (by decide) wl_X5_26 (by show xC X + 1 + 8 + 1 + 12 + 1 + (1 + 12) ≤ (xR X).cells; omega) (by show xS X + 11 + 48 + 12 + 12 * 2187 + 12 + (12 + 12 * 2187) ≤ (xR X).slots; omega) dX5_init_52 (fun hc => ?_)
  refine n_putF (n := 198) (a := 161) (fs := [.ref (gR G (1)), .ref (gR G (3)), .ref (gR G (162)), .ref (gR G (171)), .ref (gR G (184)), .null, .null, .null, .null, .null, .null, .null, .int 0, .int 0, .int 0, .int 0, .int 0, .int 0]) hc hG hin2 (by omega) rfl tbX5 tyX5 tyX5_ok nmX5 5 (by decide) wf_X5_35 rfl rfl rfl rfl (Nat.le_of_ble_eq_true rfl) dX5_init_56 ?_
  refine m_aload_n hc dX5_init_59 rfl ?_
  refine m_sipush hc (v := 2187) dX5_init_60 (by decide) ?_
  refine n_newI (n := 198) hc hG (len := 2187) yA_198 (hz _ (by omega)) (kb_cons (kb_mono hk (by omega)) (by omega)) (by decide) (by decide) (by decide) wac_I (by show xC X + 1 + 8 + 1 + 12 + 1 + 1 + 12 + 1 ≤ (xR X).cells; omega) (by show xS X + 11 + 48 + 12 + 12 * 2187 + 12 + 12 + 12 * 2187 + 2187 ≤ (xR X).slots; omega) dX5_init_63 (fun hc => ?_)
  refine n_putF (n := 199) (a := 161) (fs := [.ref (gR G (1)), .ref (gR G (3)), .ref (gR G (162)), .ref (gR G (171)), .ref (gR G (184)), .ref (gR G (185)), .null, .null, .null, .null, .null, .null, .int 0, .int 0, .int 0, .int 0, .int 0, .int 0]) hc hG hin2 (by omega) rfl tbX5 tyX5 tyX5_ok nmX5 6 (by decide) wf_X5_38 rfl rfl rfl rfl (Nat.le_of_ble_eq_true rfl) dX5_init_65 ?_
  refine m_aload_n hc dX5_init_68 rfl ?_
  refine m_sipush hc (v := 2187) dX5_init_69 (by decide) ?_
  refine n_newI (n := 199) hc hG (len := 2187) yA_199 (hz _ (by omega)) (kb_cons (kb_mono hk (by omega)) (by omega)) (by decide) (by decide) (by decide) wac_I (by show xC X + 1 + 8 + 1 + 12 + 1 + 1 + 12 + 1 + 1 ≤ (xR X).cells; omega) (by show xS X + 11 + 48 + 12 + 12 * 2187 + 12 + 12 + 12 * 2187 + 2187 + 2187 ≤ (xR X).slots; omega) dX5_init_72 (fun hc => ?_)
  refine n_putF (n := 200) (a := 161) (fs := [.ref (gR G (1)), .ref (gR G (3)), .ref (gR G (162)), .ref (gR G (171)), .ref (gR G (184)), .ref (gR G (185)), .ref (gR G (198)), .null, .null, .null, .null, .null, .int 0, .int 0, .int 0, .int 0, .int 0, .int 0]) hc hG hin2 (by omega) rfl tbX5 tyX5 tyX5_ok nmX5 7 (by decide) wf_X5_42 rfl rfl rfl rfl (Nat.le_of_ble_eq_true rfl) dX5_init_74 ?_
  refine m_aload_n hc dX5_init_77 rfl ?_
  refine m_sipush hc (v := 2187) dX5_init_78 (by decide) ?_
  refine n_newI (n := 200) hc hG (len := 2187) yA_200 (hz _ (by omega)) (kb_cons (kb_mono hk (by omega)) (by omega)) (by decide) (by decide) (by decide) wac_I (by show xC X + 1 + 8 + 1 + 12 + 1 + 1 + 12 + 1 + 1 + 1 ≤ (xR X).cells; omega) (by show xS X + 11 + 48 + 12 + 12 * 2187 + 12 + 12 + 12 * 2187 + 2187 + 2187 + 2187 ≤ (xR X).slots; omega) dX5_init_81 (fun hc => ?_)
  refine n_putF (n := 201) (a := 161) (fs := [.ref (gR G (1)), .ref (gR G (3)), .ref (gR G (162)), .ref (gR G (171)), .ref (gR G (184)), .ref (gR G (185)), .ref (gR G (198)), .ref (gR G (199)), .null, .null, .null, .null, .int 0, .int 0, .int 0, .int 0, .int 0, .int 0]) hc hG hin2 (by omega) rfl tbX5 tyX5 tyX5_ok nmX5 8 (by decide) wf_X5_45 rfl rfl rfl rfl (Nat.le_of_ble_eq_true rfl) dX5_init_83 ?_
  refine m_aload_n hc dX5_init_86 rfl ?_
  refine m_bipush hc (v := 21) dX5_init_87 (by decide) ?_
  refine n_newI (n := 201) hc hG (len := 21) yA_201 (hz _ (by omega)) (kb_cons (kb_mono hk (by omega)) (by omega)) (by decide) (by decide) (by decide) wac_I (by show xC X + 1 + 8 + 1 + 12 + 1 + 1 + 12 + 1 + 1 + 1 + 1 ≤ (xR X).cells; omega) (by show xS X + 11 + 48 + 12 + 12 * 2187 + 12 + 12 + 12 * 2187 + 2187 + 2187 + 2187 + 21 ≤ (xR X).slots; omega) dX5_init_89 (fun hc => ?_)
  refine n_putF (n := 202) (a := 161) (fs := [.ref (gR G (1)), .ref (gR G (3)), .ref (gR G (162)), .ref (gR G (171)), .ref (gR G (184)), .ref (gR G (185)), .ref (gR G (198)), .ref (gR G (199)), .ref (gR G (200)), .null, .null, .null, .int 0, .int 0, .int 0, .int 0, .int 0, .int 0]) hc hG hin2 (by omega) rfl tbX5 tyX5 tyX5_ok nmX5 9 (by decide) wf_X5_48 rfl rfl rfl rfl (Nat.le_of_ble_eq_true rfl) dX5_init_91 ?_
  refine m_aload_n hc dX5_init_94 rfl ?_
  refine m_bipush hc (v := 21) dX5_init_95 (by decide) ?_
  refine n_newI (n := 202) hc hG (len := 21) yA_202 (hz _ (by omega)) (kb_cons (kb_mono hk (by omega)) (by omega)) (by decide) (by decide) (by decide) wac_I (by show xC X + 1 + 8 + 1 + 12 + 1 + 1 + 12 + 1 + 1 + 1 + 1 + 1 ≤ (xR X).cells; omega) (by show xS X + 11 + 48 + 12 + 12 * 2187 + 12 + 12 + 12 * 2187 + 2187 + 2187 + 2187 + 21 + 21 ≤ (xR X).slots; omega) dX5_init_97 (fun hc => ?_)
  refine n_putF (n := 203) (a := 161) (fs := [.ref (gR G (1)), .ref (gR G (3)), .ref (gR G (162)), .ref (gR G (171)), .ref (gR G (184)), .ref (gR G (185)), .ref (gR G (198)), .ref (gR G (199)), .ref (gR G (200)), .ref (gR G (201)), .null, .null, .int 0, .int 0, .int 0, .int 0, .int 0, .int 0]) hc hG hin2 (by omega) rfl tbX5 tyX5 tyX5_ok nmX5 10 (by decide) wf_X5_51 rfl rfl rfl rfl (Nat.le_of_ble_eq_true rfl) dX5_init_99 ?_
  refine m_aload_n hc dX5_init_102 rfl ?_
  refine m_bipush hc (v := 12) dX5_init_103 (by decide) ?_
  refine n_newI (n := 203) hc hG (len := 12) yA_203 (hz _ (by omega)) (kb_cons (kb_mono hk (by omega)) (by omega)) (by decide) (by decide) (by decide) wac_I (by show xC X + 1 + 8 + 1 + 12 + 1 + 1 + 12 + 1 + 1 + 1 + 1 + 1 + 1 ≤ (xR X).cells; omega) (by show xS X + 11 + 48 + 12 + 12 * 2187 + 12 + 12 + 12 * 2187 + 2187 + 2187 + 2187 + 21 + 21 + 12 ≤ (xR X).slots; omega) dX5_init_105 (fun hc => ?_)
  refine n_putF (n := 204) (a := 161) (fs := [.ref (gR G (1)), .ref (gR G (3)), .ref (gR G (162)), .ref (gR G (171)), .ref (gR G (184)), .ref (gR G (185)), .ref (gR G (198)), .ref (gR G (199)), .ref (gR G (200)), .ref (gR G (201)), .ref (gR G (202)), .null, .int 0, .int 0, .int 0, .int 0, .int 0, .int 0]) hc hG hin2 (by omega) rfl tbX5 tyX5 tyX5_ok nmX5 11 (by decide) wf_X5_54 rfl rfl rfl rfl (Nat.le_of_ble_eq_true rfl) dX5_init_107 ?_
  refine m_aload_n hc dX5_init_110 rfl ?_
  refine m_bipush hc (v := 12) dX5_init_111 (by decide) ?_
  refine n_put (n := 204) (a := 161) (fs := [.ref (gR G (1)), .ref (gR G (3)), .ref (gR G (162)), .ref (gR G (171)), .ref (gR G (184)), .ref (gR G (185)), .ref (gR G (198)), .ref (gR G (199)), .ref (gR G (200)), .ref (gR G (201)), .ref (gR G (202)), .ref (gR G (203)), .int 0, .int 0, .int 0, .int 0, .int 0, .int 0]) hc hG (by omega) rfl tbX5 tyX5 tyX5_ok nmX5 12 (by decide) wf_X5_57 rfl rfl rfl (Nat.le_of_ble_eq_true rfl) dX5_init_113 ?_
  refine m_aload_n hc dX5_init_116 rfl ?_
  refine m_iconst hc (v := (-1)) dX5_init_117 (by decide) ?_
  refine n_put (n := 204) (a := 161) (fs := [.ref (gR G (1)), .ref (gR G (3)), .ref (gR G (162)), .ref (gR G (171)), .ref (gR G (184)), .ref (gR G (185)), .ref (gR G (198)), .ref (gR G (199)), .ref (gR G (200)), .ref (gR G (201)), .ref (gR G (202)), .ref (gR G (203)), .int 12, .int 0, .int 0, .int 0, .int 0, .int 0]) hc hG (by omega) rfl tbX5 tyX5 tyX5_ok nmX5 13 (by decide) wf_X5_61 rfl rfl rfl (Nat.le_of_ble_eq_true rfl) dX5_init_118 ?_
  refine m_aload_n hc dX5_init_121 rfl ?_
  refine m_iconst hc (v := 0) dX5_init_122 (by decide) ?_
  refine n_put (n := 204) (a := 161) (fs := [.ref (gR G (1)), .ref (gR G (3)), .ref (gR G (162)), .ref (gR G (171)), .ref (gR G (184)), .ref (gR G (185)), .ref (gR G (198)), .ref (gR G (199)), .ref (gR G (200)), .ref (gR G (201)), .ref (gR G (202)), .ref (gR G (203)), .int 12, .int (-1), .int 0, .int 0, .int 0, .int 0]) hc hG (by omega) rfl tbX5 tyX5 tyX5_ok nmX5 14 (by decide) wf_X5_64 rfl rfl rfl (Nat.le_of_ble_eq_true rfl) dX5_init_123 ?_
  refine m_aload_n hc dX5_init_126 rfl ?_
  refine m_ldc hc dX5_init_127 wk_X5_68 ?_
  refine n_put (n := 204) (a := 161) (fs := [.ref (gR G (1)), .ref (gR G (3)), .ref (gR G (162)), .ref (gR G (171)), .ref (gR G (184)), .ref (gR G (185)), .ref (gR G (198)), .ref (gR G (199)), .ref (gR G (200)), .ref (gR G (201)), .ref (gR G (202)), .ref (gR G (203)), .int 12, .int (-1), .int 0, .int 0, .int 0, .int 0]) hc hG (by omega) rfl tbX5 tyX5 tyX5_ok nmX5 15 (by decide) wf_X5_69 rfl rfl rfl (Nat.le_of_ble_eq_true rfl) dX5_init_129 ?_
  refine m_aload_n hc dX5_init_132 rfl ?_
  refine m_iconst hc (v := 0) dX5_init_133 (by decide) ?_
  refine n_put (n := 204) (a := 161) (fs := [.ref (gR G (1)), .ref (gR G (3)), .ref (gR G (162)), .ref (gR G (171)), .ref (gR G (184)), .ref (gR G (185)), .ref (gR G (198)), .ref (gR G (199)), .ref (gR G (200)), .ref (gR G (201)), .ref (gR G (202)), .ref (gR G (203)), .int 12, .int (-1), .int 0, .int 66060288, .int 0, .int 0]) hc hG (by omega) rfl tbX5 tyX5 tyX5_ok nmX5 16 (by decide) wf_X5_72 rfl rfl rfl (Nat.le_of_ble_eq_true rfl) dX5_init_134 ?_
  refine m_aload_n hc dX5_init_137 rfl ?_
  refine m_iconst hc (v := (-1)) dX5_init_138 (by decide) ?_
  refine n_put (n := 204) (a := 161) (fs := [.ref (gR G (1)), .ref (gR G (3)), .ref (gR G (162)), .ref (gR G (171)), .ref (gR G (184)), .ref (gR G (185)), .ref (gR G (198)), .ref (gR G (199)), .ref (gR G (200)), .ref (gR G (201)), .ref (gR G (202)), .ref (gR G (203)), .int 12, .int (-1), .int 0, .int 66060288, .int 0, .int 0]) hc hG (by omega) rfl tbX5 tyX5 tyX5_ok nmX5 17 (by decide) wf_X5_75 rfl rfl rfl (Nat.le_of_ble_eq_true rfl) dX5_init_139 ?_
  change WR G _ _ (RN G 204 ((161, .inr (5, [.ref (gR G (1)), .ref (gR G (3)), .ref (gR G (162)), .ref (gR G (171)), .ref (gR G (184)), .ref (gR G (185)), .ref (gR G (198)), .ref (gR G (199)), .ref (gR G (200)), .ref (gR G (201)), .ref (gR G (202)), .ref (gR G (203)), .int 12, .int (-1), .int 0, .int 66060288, .int 0, .int (-1)])) :: op) (iC M 162)) _ _ _
  refine n_close (fun j => if j = 12 then 12 else if j = 13 then -1 else if j = 15 then 66060288 else if j = 17 then -1 else 0) yO_161 hk rfl ?_
  exact n_vret hc hr (by simp only [x10_p]) (by show xC X + 1 + 8 + 1 + 12 + 1 + 1 + 12 + 1 + 1 + 1 + 1 + 1 + 1 ≤ 42; omega) (by show xS X + 11 + 48 + 12 + 12 * 2187 + 12 + 12 + 12 * 2187 + 2187 + 2187 + 2187 + 21 + 21 + 12 ≤ 59198; omega) dX5_init_142
