def mN (i : Nat) : Nat → Int32 := fun j => if j = 0 then 8 else if 229 ≤ j ∧ j < i then -1 else 0
theorem mN_0 : upd (fun _ => 0) 0 8 = mN 229 := by
  funext j
  unfold upd mN
  by_cases h : j = 0
  · rw [if_pos h, if_pos h]
  · rw [if_neg h, if_neg h, if_neg (by omega)]
theorem mN_s {i : Nat} (h : 229 ≤ i) : upd (mN i) i (-1) = mN (i + 1) := by
  funext j
  unfold upd mN
  by_cases h1 : j = i
  · subst h1
    rw [if_pos rfl, if_neg (by omega), if_pos (by omega)]
  · rw [if_neg h1]
    by_cases h2 : j = 0
    · rw [if_pos h2, if_pos h2]
    · rw [if_neg h2, if_neg h2]
      by_cases h3 : 229 ≤ j ∧ j < i
      · rw [if_pos h3, if_pos (by omega)]
      · rw [if_neg h3, if_neg (by omega)]
set_option maxRecDepth 100000 in
set_option maxHeartbeats 4000000 in
theorem model_loop {G : Gm} {X : Xm} {d : Nat} {M : Mm} {op : List (Nat × va_E)} {fs : List Value} {Q : State → Prop} (hG : gB G) (hk : kb op 212) (hf : fs[0]? = some (.ref (gR G 213))) (hc : xc G X cX7_init 2 RX7 (d + 1)) (kk : WR G X Q (RN G 228 ((212, .inr (7, fs)) :: op) (mu M 213 (mN 320))) 160 [some (.ref (gR G 212)), none] []) :
    ∀ (k i : Nat), 229 ≤ i → i ≤ 320 → 320 < k + i → WR G X Q (RN G 228 ((212, .inr (7, fs)) :: op) (mu M 213 (mN i))) 140 [some (.ref (gR G 212)), some (.int (nI i))] []
  | 0, i, h0, h1, h2 => absurd h2 (by omega)
  | k + 1, i, h0, h1, h2 => by
    have hk2 : kb ((212, .inr (7, fs)) :: op) 213 := kb_cons (kb_mono hk (by omega)) (by omega)
    refine m_iload_n hc dX7_init_140 rfl ?_
    refine m_sipush hc (v := 320) dX7_init_141 (by decide) ?_
    refine m_icge hc (tgt := 160) dX7_init_144 (by decide) (fun b => ?_) (fun b => ?_)
    · have e : i = 320 := by
        have h3 : nI 320 ≤ nI i := b
        rw [nI_leI (by decide) (by omega)] at h3
        omega
      subst e
      exact m_fg [1] rfl kk
    · have hlt : i < 320 := by
        have h3 : ¬ nI 320 ≤ nI i := b
        rw [nI_leI (by decide) (by omega)] at h3
        omega
      have hib : ib (nI i) 320 := by
        have e := nI_toInt (show i < 2 ^ 31 by omega)
        exact ⟨by rw [e]; omega, by rw [e]; omega⟩
      refine m_aload_n hc dX7_init_147 rfl ?_
      refine n_get (n := 228) (a := 212) hc (by omega) oE_hd rfl tbX7 0 (by decide) wf_X7_7 hf dX7_init_148 ?_
      refine m_iload_n hc dX7_init_151 rfl ?_
      refine m_iconst hc (v := (-1)) dX7_init_152 (by decide) ?_
      refine n_iast (n := 228) (a := 213) hc hG (by omega) yA_213 hk2 (Nat.le_refl _) hib dX7_init_153 ?_
      refine n_cM (N := mu M 213 (mN (i + 1))) ?_ ?_
      · rw [nI_clamp (show i < 2 ^ 31 by omega)]
        unfold mw
        rw [mu_s, mN_s h0]
        funext q
        unfold mu
        by_cases hq : q = 213
        · rw [if_pos hq, if_pos hq]
        · rw [if_neg hq, if_neg hq, if_neg hq]
      · refine m_iinc hc (v := nI (i + 1)) (lv' := [some (.ref (gR G 212)), some (.int (nI (i + 1)))]) dX7_init_154 rfl (nI_1 i) rfl rfl ?_
        refine m_goto hc (tgt := 140) dX7_init_157 (by decide) ?_
        exact model_loop hG hk hf hc kk k (i + 1) (by omega) (by omega) (by omega)
def iM (M : Mm) : Mm := mu (mu M 213 (mN 320)) 212 (fun _ => 0)
set_option maxRecDepth 100000 in
set_option maxHeartbeats 8000000 in
theorem n_X7_init {G : Gm} {l : Launch} (d : Nat) {M : Mm} {op : List (Nat × va_E)} (hG : gB G) (hk : kb op 212) (hz : ∀ k, 213 ≤ k → M k = fun _ => 0) : Cn G l (d + 1) yX7_init cX7_init 2 [.ref (gR G 212)] 213 ((212, .inr (7, [.null, .null, .int 0, .null, .null, .null, .int 0, .null, .null, .null, .null, .int 0, .null, .null, .null, .null, .null, .null])) :: op) M 228 op (iM M) 15 63890 := by
  refine n_met (lv := [some (.ref (gR G 212)), none]) (own := RX7) (by decide +kernel) rfl rfl (Nat.le_of_ble_eq_true rfl) rfl ?_
  intro X hX hc hr hin2 hgm hC0 hS0 hRc hRs
  subst hX
  refine m_aload_n hc dX7_init_0 rfl ?_
  refine n_obj hc (by omega) nm_X7_1 no_i no_c rfl (st := []) (Nat.le_of_ble_eq_true rfl) dX7_init_1 ?_
  refine m_aload_n hc dX7_init_4 rfl ?_
  refine m_sipush hc (v := 320) dX7_init_5 (by decide) ?_
  refine n_newI (n := 213) hc hG (len := 320) yA_213 (hz _ (by omega)) (kb_cons (kb_mono hk (by omega)) (by omega)) (by decide) (by decide) (by decide) wac_I (by show xC X + 1 ≤ (xR X).cells; omega) (by show xS X + 320 ≤ (xR X).slots; omega) dX7_init_8 (fun hc => ?_)
  refine n_putF (n := 214) (a := 212) (fs := [.null, .null, .int 0, .null, .null, .null, .int 0, .null, .null, .null, .null, .int 0, .null, .null, .null, .null, .null, .null]) hc hG hin2 (by omega) rfl tbX7 tyX7 tyX7_ok nmX7 0 (by decide) wf_X7_7 rfl rfl rfl rfl (Nat.le_of_ble_eq_true rfl) dX7_init_10 ?_
  refine m_aload_n hc dX7_init_13 rfl ?_
  refine m_sipush hc (v := 6400) dX7_init_14 (by decide) ?_
  refine n_newI (n := 214) hc hG (len := 6400) yA_214 (hz _ (by omega)) (kb_cons (kb_mono hk (by omega)) (by omega)) (by decide) (by decide) (by decide) wac_I (by show xC X + 1 + 1 ≤ (xR X).cells; omega) (by show xS X + 320 + 6400 ≤ (xR X).slots; omega) dX7_init_17 (fun hc => ?_)
  refine n_putF (n := 215) (a := 212) (fs := [.ref (gR G (213)), .null, .int 0, .null, .null, .null, .int 0, .null, .null, .null, .null, .int 0, .null, .null, .null, .null, .null, .null]) hc hG hin2 (by omega) rfl tbX7 tyX7 tyX7_ok nmX7 1 (by decide) wf_X7_13 rfl rfl rfl rfl (Nat.le_of_ble_eq_true rfl) dX7_init_19 ?_
  refine m_aload_n hc dX7_init_22 rfl ?_
  refine m_iconst hc (v := 4) dX7_init_23 (by decide) ?_
  refine n_newI (n := 215) hc hG (len := 4) yA_215 (hz _ (by omega)) (kb_cons (kb_mono hk (by omega)) (by omega)) (by decide) (by decide) (by decide) wac_I (by show xC X + 1 + 1 + 1 ≤ (xR X).cells; omega) (by show xS X + 320 + 6400 + 4 ≤ (xR X).slots; omega) dX7_init_24 (fun hc => ?_)
  refine n_putF (n := 216) (a := 212) (fs := [.ref (gR G (213)), .ref (gR G (214)), .int 0, .null, .null, .null, .int 0, .null, .null, .null, .null, .int 0, .null, .null, .null, .null, .null, .null]) hc hG hin2 (by omega) rfl tbX7 tyX7 tyX7_ok nmX7 3 (by decide) wf_X7_16 rfl rfl rfl rfl (Nat.le_of_ble_eq_true rfl) dX7_init_26 ?_
  refine m_aload_n hc dX7_init_29 rfl ?_
  refine m_iconst hc (v := 4) dX7_init_30 (by decide) ?_
  refine n_newI (n := 216) hc hG (len := 4) yA_216 (hz _ (by omega)) (kb_cons (kb_mono hk (by omega)) (by omega)) (by decide) (by decide) (by decide) wac_I (by show xC X + 1 + 1 + 1 + 1 ≤ (xR X).cells; omega) (by show xS X + 320 + 6400 + 4 + 4 ≤ (xR X).slots; omega) dX7_init_31 (fun hc => ?_)
  refine n_putF (n := 217) (a := 212) (fs := [.ref (gR G (213)), .ref (gR G (214)), .int 0, .ref (gR G (215)), .null, .null, .int 0, .null, .null, .null, .null, .int 0, .null, .null, .null, .null, .null, .null]) hc hG hin2 (by omega) rfl tbX7 tyX7 tyX7_ok nmX7 4 (by decide) wf_X7_19 rfl rfl rfl rfl (Nat.le_of_ble_eq_true rfl) dX7_init_33 ?_
  refine m_aload_n hc dX7_init_36 rfl ?_
  refine m_bipush hc (v := 120) dX7_init_37 (by decide) ?_
  refine n_newI (n := 217) hc hG (len := 120) yA_217 (hz _ (by omega)) (kb_cons (kb_mono hk (by omega)) (by omega)) (by decide) (by decide) (by decide) wac_I (by show xC X + 1 + 1 + 1 + 1 + 1 ≤ (xR X).cells; omega) (by show xS X + 320 + 6400 + 4 + 4 + 120 ≤ (xR X).slots; omega) dX7_init_39 (fun hc => ?_)
  refine n_putF (n := 218) (a := 212) (fs := [.ref (gR G (213)), .ref (gR G (214)), .int 0, .ref (gR G (215)), .ref (gR G (216)), .null, .int 0, .null, .null, .null, .null, .int 0, .null, .null, .null, .null, .null, .null]) hc hG hin2 (by omega) rfl tbX7 tyX7 tyX7_ok nmX7 5 (by decide) wf_X7_22 rfl rfl rfl rfl (Nat.le_of_ble_eq_true rfl) dX7_init_41 ?_
  refine m_aload_n hc dX7_init_44 rfl ?_
  refine m_sipush hc (v := 26244) dX7_init_45 (by decide) ?_
  refine n_newI (n := 218) hc hG (len := 26244) yA_218 (hz _ (by omega)) (kb_cons (kb_mono hk (by omega)) (by omega)) (by decide) (by decide) (by decide) wac_I (by show xC X + 1 + 1 + 1 + 1 + 1 + 1 ≤ (xR X).cells; omega) (by show xS X + 320 + 6400 + 4 + 4 + 120 + 26244 ≤ (xR X).slots; omega) dX7_init_48 (fun hc => ?_)
  refine n_putF (n := 219) (a := 212) (fs := [.ref (gR G (213)), .ref (gR G (214)), .int 0, .ref (gR G (215)), .ref (gR G (216)), .ref (gR G (217)), .int 0, .null, .null, .null, .null, .int 0, .null, .null, .null, .null, .null, .null]) hc hG hin2 (by omega) rfl tbX7 tyX7 tyX7_ok nmX7 7 (by decide) wf_X7_25 rfl rfl rfl rfl (Nat.le_of_ble_eq_true rfl) dX7_init_50 ?_
  refine m_aload_n hc dX7_init_53 rfl ?_
  refine m_sipush hc (v := 26244) dX7_init_54 (by decide) ?_
  refine n_newI (n := 219) hc hG (len := 26244) yA_219 (hz _ (by omega)) (kb_cons (kb_mono hk (by omega)) (by omega)) (by decide) (by decide) (by decide) wac_I (by show xC X + 1 + 1 + 1 + 1 + 1 + 1 + 1 ≤ (xR X).cells; omega) (by show xS X + 320 + 6400 + 4 + 4 + 120 + 26244 + 26244 ≤ (xR X).slots; omega) dX7_init_57 (fun hc => ?_)
  refine n_putF (n := 220) (a := 212) (fs := [.ref (gR G (213)), .ref (gR G (214)), .int 0, .ref (gR G (215)), .ref (gR G (216)), .ref (gR G (217)), .int 0, .ref (gR G (218)), .null, .null, .null, .int 0, .null, .null, .null, .null, .null, .null]) hc hG hin2 (by omega) rfl tbX7 tyX7 tyX7_ok nmX7 8 (by decide) wf_X7_28 rfl rfl rfl rfl (Nat.le_of_ble_eq_true rfl) dX7_init_59 ?_
  refine m_aload_n hc dX7_init_62 rfl ?_
  refine m_bipush hc (v := 63) dX7_init_63 (by decide) ?_
  refine n_newI (n := 220) hc hG (len := 63) yA_220 (hz _ (by omega)) (kb_cons (kb_mono hk (by omega)) (by omega)) (by decide) (by decide) (by decide) wac_I (by show xC X + 1 + 1 + 1 + 1 + 1 + 1 + 1 + 1 ≤ (xR X).cells; omega) (by show xS X + 320 + 6400 + 4 + 4 + 120 + 26244 + 26244 + 63 ≤ (xR X).slots; omega) dX7_init_65 (fun hc => ?_)
  refine n_putF (n := 221) (a := 212) (fs := [.ref (gR G (213)), .ref (gR G (214)), .int 0, .ref (gR G (215)), .ref (gR G (216)), .ref (gR G (217)), .int 0, .ref (gR G (218)), .ref (gR G (219)), .null, .null, .int 0, .null, .null, .null, .null, .null, .null]) hc hG hin2 (by omega) rfl tbX7 tyX7 tyX7_ok nmX7 9 (by decide) wf_X7_31 rfl rfl rfl rfl (Nat.le_of_ble_eq_true rfl) dX7_init_67 ?_
  refine m_aload_n hc dX7_init_70 rfl ?_
  refine m_bipush hc (v := 63) dX7_init_71 (by decide) ?_
  refine n_newI (n := 221) hc hG (len := 63) yA_221 (hz _ (by omega)) (kb_cons (kb_mono hk (by omega)) (by omega)) (by decide) (by decide) (by decide) wac_I (by show xC X + 1 + 1 + 1 + 1 + 1 + 1 + 1 + 1 + 1 ≤ (xR X).cells; omega) (by show xS X + 320 + 6400 + 4 + 4 + 120 + 26244 + 26244 + 63 + 63 ≤ (xR X).slots; omega) dX7_init_73 (fun hc => ?_)
  refine n_putF (n := 222) (a := 212) (fs := [.ref (gR G (213)), .ref (gR G (214)), .int 0, .ref (gR G (215)), .ref (gR G (216)), .ref (gR G (217)), .int 0, .ref (gR G (218)), .ref (gR G (219)), .ref (gR G (220)), .null, .int 0, .null, .null, .null, .null, .null, .null]) hc hG hin2 (by omega) rfl tbX7 tyX7 tyX7_ok nmX7 10 (by decide) wf_X7_34 rfl rfl rfl rfl (Nat.le_of_ble_eq_true rfl) dX7_init_75 ?_
  refine m_aload_n hc dX7_init_78 rfl ?_
  refine m_bipush hc (v := 12) dX7_init_79 (by decide) ?_
  refine n_newI (n := 222) hc hG (len := 12) yA_222 (hz _ (by omega)) (kb_cons (kb_mono hk (by omega)) (by omega)) (by decide) (by decide) (by decide) wac_I (by show xC X + 1 + 1 + 1 + 1 + 1 + 1 + 1 + 1 + 1 + 1 ≤ (xR X).cells; omega) (by show xS X + 320 + 6400 + 4 + 4 + 120 + 26244 + 26244 + 63 + 63 + 12 ≤ (xR X).slots; omega) dX7_init_81 (fun hc => ?_)
  refine n_putF (n := 223) (a := 212) (fs := [.ref (gR G (213)), .ref (gR G (214)), .int 0, .ref (gR G (215)), .ref (gR G (216)), .ref (gR G (217)), .int 0, .ref (gR G (218)), .ref (gR G (219)), .ref (gR G (220)), .ref (gR G (221)), .int 0, .null, .null, .null, .null, .null, .null]) hc hG hin2 (by omega) rfl tbX7 tyX7 tyX7_ok nmX7 12 (by decide) wf_X7_37 rfl rfl rfl rfl (Nat.le_of_ble_eq_true rfl) dX7_init_83 ?_
  refine m_aload_n hc dX7_init_86 rfl ?_
  refine m_sipush hc (v := 2187) dX7_init_87 (by decide) ?_
  refine n_newZ (n := 223) hc hG (len := 2187) yB_223 (hz _ (by omega)) (kb_cons (kb_mono hk (by omega)) (by omega)) (by decide) (by decide) (by decide) wac_Z (by show xC X + 1 + 1 + 1 + 1 + 1 + 1 + 1 + 1 + 1 + 1 + 1 ≤ (xR X).cells; omega) (by show xS X + 320 + 6400 + 4 + 4 + 120 + 26244 + 26244 + 63 + 63 + 12 + 2187 ≤ (xR X).slots; omega) dX7_init_90 (fun hc => ?_)
  refine n_putF (n := 224) (a := 212) (fs := [.ref (gR G (213)), .ref (gR G (214)), .int 0, .ref (gR G (215)), .ref (gR G (216)), .ref (gR G (217)), .int 0, .ref (gR G (218)), .ref (gR G (219)), .ref (gR G (220)), .ref (gR G (221)), .int 0, .ref (gR G (222)), .null, .null, .null, .null, .null]) hc hG hin2 (by omega) rfl tbX7 tyX7 tyX7_ok nmX7 13 (by decide) wf_X7_40 rfl rfl rfl rfl (Nat.le_of_ble_eq_true rfl) dX7_init_92 ?_
  refine m_aload_n hc dX7_init_95 rfl ?_
  refine m_sipush hc (v := 2187) dX7_init_96 (by decide) ?_
  refine n_newZ (n := 224) hc hG (len := 2187) yB_224 (hz _ (by omega)) (kb_cons (kb_mono hk (by omega)) (by omega)) (by decide) (by decide) (by decide) wac_Z (by show xC X + 1 + 1 + 1 + 1 + 1 + 1 + 1 + 1 + 1 + 1 + 1 + 1 ≤ (xR X).cells; omega) (by show xS X + 320 + 6400 + 4 + 4 + 120 + 26244 + 26244 + 63 + 63 + 12 + 2187 + 2187 ≤ (xR X).slots; omega) dX7_init_99 (fun hc => ?_)
  refine n_putF (n := 225) (a := 212) (fs := [.ref (gR G (213)), .ref (gR G (214)), .int 0, .ref (gR G (215)), .ref (gR G (216)), .ref (gR G (217)), .int 0, .ref (gR G (218)), .ref (gR G (219)), .ref (gR G (220)), .ref (gR G (221)), .int 0, .ref (gR G (222)), .ref (gR G (223)), .null, .null, .null, .null]) hc hG hin2 (by omega) rfl tbX7 tyX7 tyX7_ok nmX7 14 (by decide) wf_X7_44 rfl rfl rfl rfl (Nat.le_of_ble_eq_true rfl) dX7_init_101 ?_
  refine m_aload_n hc dX7_init_104 rfl ?_
  refine m_bipush hc (v := 6) dX7_init_105 (by decide) ?_
  refine n_newI (n := 225) hc hG (len := 6) yA_225 (hz _ (by omega)) (kb_cons (kb_mono hk (by omega)) (by omega)) (by decide) (by decide) (by decide) wac_I (by show xC X + 1 + 1 + 1 + 1 + 1 + 1 + 1 + 1 + 1 + 1 + 1 + 1 + 1 ≤ (xR X).cells; omega) (by show xS X + 320 + 6400 + 4 + 4 + 120 + 26244 + 26244 + 63 + 63 + 12 + 2187 + 2187 + 6 ≤ (xR X).slots; omega) dX7_init_107 (fun hc => ?_)
  refine n_putF (n := 226) (a := 212) (fs := [.ref (gR G (213)), .ref (gR G (214)), .int 0, .ref (gR G (215)), .ref (gR G (216)), .ref (gR G (217)), .int 0, .ref (gR G (218)), .ref (gR G (219)), .ref (gR G (220)), .ref (gR G (221)), .int 0, .ref (gR G (222)), .ref (gR G (223)), .ref (gR G (224)), .null, .null, .null]) hc hG hin2 (by omega) rfl tbX7 tyX7 tyX7_ok nmX7 15 (by decide) wf_X7_47 rfl rfl rfl rfl (Nat.le_of_ble_eq_true rfl) dX7_init_109 ?_
  refine m_aload_n hc dX7_init_112 rfl ?_
  refine m_bipush hc (v := 6) dX7_init_113 (by decide) ?_
  refine n_newI (n := 226) hc hG (len := 6) yA_226 (hz _ (by omega)) (kb_cons (kb_mono hk (by omega)) (by omega)) (by decide) (by decide) (by decide) wac_I (by show xC X + 1 + 1 + 1 + 1 + 1 + 1 + 1 + 1 + 1 + 1 + 1 + 1 + 1 + 1 ≤ (xR X).cells; omega) (by show xS X + 320 + 6400 + 4 + 4 + 120 + 26244 + 26244 + 63 + 63 + 12 + 2187 + 2187 + 6 + 6 ≤ (xR X).slots; omega) dX7_init_115 (fun hc => ?_)
  refine n_putF (n := 227) (a := 212) (fs := [.ref (gR G (213)), .ref (gR G (214)), .int 0, .ref (gR G (215)), .ref (gR G (216)), .ref (gR G (217)), .int 0, .ref (gR G (218)), .ref (gR G (219)), .ref (gR G (220)), .ref (gR G (221)), .int 0, .ref (gR G (222)), .ref (gR G (223)), .ref (gR G (224)), .ref (gR G (225)), .null, .null]) hc hG hin2 (by omega) rfl tbX7 tyX7 tyX7_ok nmX7 16 (by decide) wf_X7_50 rfl rfl rfl rfl (Nat.le_of_ble_eq_true rfl) dX7_init_117 ?_
  refine m_aload_n hc dX7_init_120 rfl ?_
  refine m_bipush hc (v := 30) dX7_init_121 (by decide) ?_
  refine n_newI (n := 227) hc hG (len := 30) yA_227 (hz _ (by omega)) (kb_cons (kb_mono hk (by omega)) (by omega)) (by decide) (by decide) (by decide) wac_I (by show xC X + 1 + 1 + 1 + 1 + 1 + 1 + 1 + 1 + 1 + 1 + 1 + 1 + 1 + 1 + 1 ≤ (xR X).cells; omega) (by show xS X + 320 + 6400 + 4 + 4 + 120 + 26244 + 26244 + 63 + 63 + 12 + 2187 + 2187 + 6 + 6 + 30 ≤ (xR X).slots; omega) dX7_init_123 (fun hc => ?_)
  refine n_putF (n := 228) (a := 212) (fs := [.ref (gR G (213)), .ref (gR G (214)), .int 0, .ref (gR G (215)), .ref (gR G (216)), .ref (gR G (217)), .int 0, .ref (gR G (218)), .ref (gR G (219)), .ref (gR G (220)), .ref (gR G (221)), .int 0, .ref (gR G (222)), .ref (gR G (223)), .ref (gR G (224)), .ref (gR G (225)), .ref (gR G (226)), .null]) hc hG hin2 (by omega) rfl tbX7 tyX7 tyX7_ok nmX7 17 (by decide) wf_X7_53 rfl rfl rfl rfl (Nat.le_of_ble_eq_true rfl) dX7_init_125 ?_
  refine m_aload_n hc dX7_init_128 rfl ?_
  refine n_get (n := 228) (a := 212) hc (by omega) oE_hd rfl tbX7 0 (by decide) wf_X7_7 rfl dX7_init_129 ?_
  change WR G _ _ (RN G 228 ((212, .inr (7, [.ref (gR G (213)), .ref (gR G (214)), .int 0, .ref (gR G (215)), .ref (gR G (216)), .ref (gR G (217)), .int 0, .ref (gR G (218)), .ref (gR G (219)), .ref (gR G (220)), .ref (gR G (221)), .int 0, .ref (gR G (222)), .ref (gR G (223)), .ref (gR G (224)), .ref (gR G (225)), .ref (gR G (226)), .ref (gR G (227))])) :: op) M) _ _ _
  refine m_iconst hc (v := 0) dX7_init_132 (by decide) ?_
  refine m_bipush hc (v := 8) dX7_init_133 (by decide) ?_
  refine n_iast (n := 228) (a := 213) (b := 213) hc hG (by omega) yA_213 (kb_cons (kb_mono hk (by omega)) (by omega)) (Nat.le_refl _) (by decide) dX7_init_135 ?_
  refine n_cM (N := mu M 213 (mN 229)) ?_ ?_
  · unfold mw
    rw [hz 213 (by omega)]
    show mu M 213 (upd (fun _ => 0) 0 8) = _
    rw [mN_0]
  refine m_sipush hc (v := nI 229) dX7_init_136 (by decide) ?_
  refine m_istore_n hc (lv' := [some (.ref (gR G 212)), some (.int (nI 229))]) dX7_init_139 (Nat.le_of_ble_eq_true rfl) rfl rfl ?_
  refine model_loop hG hk rfl hc ?_ 320 229 (by omega) (by omega) (by omega)
  refine n_close (fun _ => 0) yO_212 hk rfl ?_
  exact n_vret hc hr (by simp only [x10_p]) (by show xC X + 1 + 1 + 1 + 1 + 1 + 1 + 1 + 1 + 1 + 1 + 1 + 1 + 1 + 1 + 1 ≤ 15; omega) (by show xS X + 320 + 6400 + 4 + 4 + 120 + 26244 + 26244 + 63 + 63 + 12 + 2187 + 2187 + 6 + 6 + 30 ≤ 63890; omega) dX7_init_160
