def L_X5_makeArrival_7 (x1 : Int32) : Nat → Int32 → Mm → Option (Mm)
  | 0, _, _ => none
  | n_10 + 1, x2_3, M_4 =>
    if x1 < x2_3 then (
     some M_4)
    else (
     Option.bind (
     if x2_3 = 0 then (
     Option.bind (f_X5_fillFirstArrival M_4) (fun q_58 =>
     some q_58))
    else (
     Option.bind (f_X0_read 162 3 (x2_3 - (1 : Int32)) M_4) (fun q_39 =>
     ck (ib (x2_3 - (1 : Int32)) 12) (
     ck (cpo (0 : Int32) (0 : Int32) (2187 : Int32) 2187 2187) (
     nm (mu q_39 198 (cpy (q_39 (186 + (x2_3 - (1 : Int32)).toNatClampNeg)) (q_39 198) (0 : Int32) (0 : Int32) (2187 : Int32))) (fun M_43 =>
     Option.bind (f_X5_dropUnfit 198 M_43) (fun q_45 =>
     Option.bind (f_X0_isSilent 162 q_45) (fun q_47 =>
     if q_47 = 0 then (
     ck (ib x2_3 12) (
     Option.bind (f_X5_fillLockedArrival 198 (186 + x2_3.toNatClampNeg) q_45) (fun q_51 =>
     some q_51)))
    else (
     Option.bind (f_X5_spread 198 (60 : Int32) 200 q_45) (fun q_53 =>
     ck (ib x2_3 12) (
     Option.bind (f_X5_spread 200 (67 : Int32) (186 + x2_3.toNatClampNeg) q_53) (fun q_56 =>
     some q_56)))))))))))) (fun q_35 =>
     L_X5_makeArrival_7 x1 n_10 (x2_3 + 1) q_35))
def f_X5_makeArrival (x1 : Int32) (M : Mm) : Option (Mm) :=
 nm (((M 161 13) + (1 : Int32))) (fun x2_1 =>
 Option.bind (L_X5_makeArrival_7 x1 FU x2_1 M) (fun q_5 =>
 nm (mw q_5 161 13 (jmax (q_5 161 13) x1)) (fun M_60 =>
 some M_60)))
set_option maxRecDepth 100000 in
set_option maxHeartbeats 4000000 in
theorem c_X5_makeArrival {G : Gm} {l : Launch} (d : Nat) {x1 : Int32} {M : Mm} {r : Mm}  (h : f_X5_makeArrival x1 M = some r) : Cm G l (d + 4) yX5_makeArrival cX5_makeArrival 3 none [.ref (gR G 161), .int x1] M none r := by
  unfold f_X5_makeArrival at h
  refine m_met (lv := [some (.ref (gR G 161)), some (.int x1), none]) (own := RX5) (by decide +kernel) rfl rfl (Nat.le_of_ble_eq_true rfl) rfl ?_
  intro X hX hc hr
  subst hX
  refine m_aload_n hc dX5_makeArrival_0 rfl ?_
  refine m_getI hc yO_161 rfl tbX5 13 (by decide) wf_X5_61 rfl dX5_makeArrival_1 ?_
  refine m_iconst hc (v := 1) dX5_makeArrival_4 (by decide) ?_
  refine m_iadd hc dX5_makeArrival_5 ?_
  refine m_topI (fun x2_1 e_2 => ?_)
  replace h := nm_x e_2 h
  refine m_istore_n hc (lv' := [some (.ref (gR G 161)), some (.int x1), some (.int x2_1)]) dX5_makeArrival_6 (Nat.le_of_ble_eq_true rfl) rfl rfl ?_
  obtain ⟨q_5, c_6, h⟩ := bd_o h
  have J_7 : WM G X (qQ G X none r) q_5 126 [some (.ref (gR G 161)), some (.int x1), none] [] := by
    refine m_aload_n hc dX5_makeArrival_126 rfl ?_
    refine m_aload_n hc dX5_makeArrival_127 rfl ?_
    refine m_getI hc yO_161 rfl tbX5 13 (by decide) wf_X5_61 rfl dX5_makeArrival_128 ?_
    refine m_iload_n hc dX5_makeArrival_131 rfl ?_
    refine m_mmax hc (by omega) wm_X5_98 wt_Math_max wn_Math wc_Math_max (st := [.ref (gR G 161)]) rfl (Nat.le_of_ble_eq_true rfl) dX5_makeArrival_132 ?_
    refine m_putI hc yO_161 rfl tbX5 tyX5 tyX5_ok nmX5 13 (by decide) wf_X5_61 rfl rfl rfl rfl dX5_makeArrival_135 ?_
    refine m_topM (fun M_60 e_61 => ?_)
    replace h := nm_x e_61 h
    cases h
    exact m_vret hc hr dX5_makeArrival_138
  have L_8 : ∀ (n_10 : Nat) (x2_3 : Int32) (M_4 : Mm), L_X5_makeArrival_7 x1 n_10 x2_3 M_4 = some q_5 → WM G X (qQ G X none r) M_4 7 [some (.ref (gR G 161)), some (.int x1), some (.int x2_3)] [] := by
    intro n_10
    induction n_10 with
    | zero =>
      intro x2_3 M_4 h
      cases (show none = some _ from h)
    | succ n_10 i_11 =>
      intro x2_3 M_4 h
      rw [L_X5_makeArrival_7] at h
      refine m_iload_n hc dX5_makeArrival_7 rfl ?_
      refine m_iload_n hc dX5_makeArrival_8 rfl ?_
      refine m_icgt hc (tgt := 126) dX5_makeArrival_9 (by decide) (fun b_12 => ?_) (fun b_12 => ?_)
      · replace h := (if_pos b_12).symm.trans h
        cases h
        exact m_fg [2] rfl J_7
      · replace h := (if_neg b_12).symm.trans h
        refine m_iload_n hc dX5_makeArrival_12 rfl ?_
        obtain ⟨q_35, c_36, h⟩ := bd_o h
        have J_37 : WM G X (qQ G X none r) q_35 120 [some (.ref (gR G 161)), some (.int x1), some (.int x2_3)] [] := by
          refine m_iinc hc (v := x2_3 + 1) (lv' := [some (.ref (gR G 161)), some (.int x1), some (.int (x2_3 + 1))]) dX5_makeArrival_120 rfl rfl rfl rfl ?_
          refine m_goto hc (tgt := 7) dX5_makeArrival_123 (by decide) ?_
          exact m_fg [] rfl (i_11 _ _ h)
        replace h := c_36
        refine m_ifne hc (tgt := 23) dX5_makeArrival_13 (by decide) (fun b_38 => ?_) (fun b_38 => ?_)
        · replace h := (if_neg b_38).symm.trans h
          refine m_aload_n hc dX5_makeArrival_23 rfl ?_
          refine m_getR hc (q := 162) yO_161 rfl tbX5 2 (by decide) wf_X5_22 rfl dX5_makeArrival_24 ?_
          refine m_aload_n hc dX5_makeArrival_27 rfl ?_
          refine m_getR hc (q := 3) yO_161 rfl tbX5 1 (by decide) wf_X5_15 rfl dX5_makeArrival_28 ?_
          refine m_iload_n hc dX5_makeArrival_31 rfl ?_
          refine m_iconst hc (v := 1) dX5_makeArrival_32 (by decide) ?_
          refine m_isub hc dX5_makeArrival_33 ?_
          obtain ⟨q_39, c_40, h⟩ := bd_o h
          refine m_callVv hc yO_162 rfl (c_X0_read (d + 1) kC_162 kP_3lit c_40) (by omega) (by decide) wm_X5_101 wi_X0_read we_X0_read wn_X0 wc_X0_read wy_X0_read rfl (st := []) rfl rfl (Nat.le_of_ble_eq_true rfl) dX5_makeArrival_34 ?_
          refine m_aload_n hc dX5_makeArrival_37 rfl ?_
          refine m_getR hc (q := 185) yO_161 rfl tbX5 5 (by decide) wf_X5_35 rfl dX5_makeArrival_38 ?_
          refine m_iload_n hc dX5_makeArrival_41 rfl ?_
          refine m_iconst hc (v := 1) dX5_makeArrival_42 (by decide) ?_
          refine m_isub hc dX5_makeArrival_43 ?_
          obtain ⟨b_41, h⟩ := ck_o h
          refine m_jald hc yJ_185 b_41 (tAr_d _ (ib_lt b_41)) dX5_makeArrival_44 ?_
          refine m_iconst hc (v := 0) dX5_makeArrival_45 (by decide) ?_
          refine m_aload_n hc dX5_makeArrival_46 rfl ?_
          refine m_getR hc (q := 198) yO_161 rfl tbX5 6 (by decide) wf_X5_38 rfl dX5_makeArrival_47 ?_
          refine m_iconst hc (v := 0) dX5_makeArrival_50 (by decide) ?_
          refine m_sipush hc (v := (2187 : Int32)) dX5_makeArrival_51 (by decide) ?_
          obtain ⟨b_42, h⟩ := ck_o h
          refine m_acpy hc (by omega) (jAr_d _ (ib_lt b_41)) yA_198 wm_X5_163 wa_nat wa_sta wa_ini b_42.1 b_42.2.1 b_42.2.2.1 b_42.2.2.2.1 b_42.2.2.2.2 rfl (st := []) (Nat.le_of_ble_eq_true rfl) dX5_makeArrival_54 ?_
          refine m_topM (fun M_43 e_44 => ?_)
          replace h := nm_x e_44 h
          refine m_aload_n hc dX5_makeArrival_57 rfl ?_
          refine m_aload_n hc dX5_makeArrival_58 rfl ?_
          refine m_getR hc (q := 198) yO_161 rfl tbX5 6 (by decide) wf_X5_38 rfl dX5_makeArrival_59 ?_
          obtain ⟨q_45, c_46, h⟩ := bd_o h
          refine m_callVv hc yO_161 rfl (c_X5_dropUnfit (d + 0) yA_198 c_46) (by omega) (by decide) wm_X5_181 wi_X5_dropUnfit we_X5_dropUnfit wn_X5 wc_X5_dropUnfit wy_X5_dropUnfit rfl (st := []) rfl rfl (Nat.le_of_ble_eq_true rfl) dX5_makeArrival_62 ?_
          refine m_aload_n hc dX5_makeArrival_65 rfl ?_
          refine m_getR hc (q := 162) yO_161 rfl tbX5 2 (by decide) wf_X5_22 rfl dX5_makeArrival_66 ?_
          obtain ⟨q_47, c_48, h⟩ := bd_o h
          refine m_callVi hc yO_162 rfl (c_X0_isSilent (d + 3) kC_162 c_48) (by omega) (by decide) wm_X5_169 wi_X0_isSilent we_X0_isSilent wn_X0 wc_X0_isSilent wy_X0_isSilent rfl (st := []) rfl rfl (Nat.le_of_ble_eq_true rfl) dX5_makeArrival_69 ?_
          refine m_ifeq hc (tgt := 106) dX5_makeArrival_72 (by decide) (fun b_49 => ?_) (fun b_49 => ?_)
          · replace h := (if_pos b_49).symm.trans h
            refine m_aload_n hc dX5_makeArrival_106 rfl ?_
            refine m_aload_n hc dX5_makeArrival_107 rfl ?_
            refine m_getR hc (q := 198) yO_161 rfl tbX5 6 (by decide) wf_X5_38 rfl dX5_makeArrival_108 ?_
            refine m_aload_n hc dX5_makeArrival_111 rfl ?_
            refine m_getR hc (q := 185) yO_161 rfl tbX5 5 (by decide) wf_X5_35 rfl dX5_makeArrival_112 ?_
            refine m_iload_n hc dX5_makeArrival_115 rfl ?_
            obtain ⟨b_50, h⟩ := ck_o h
            refine m_jald hc yJ_185 b_50 (tAr_d _ (ib_lt b_50)) dX5_makeArrival_116 ?_
            obtain ⟨q_51, c_52, h⟩ := bd_o h
            refine m_callVv hc yO_161 rfl (c_X5_fillLockedArrival (d + 0) yA_198 (jAr_d _ (ib_lt b_50)) c_52) (by omega) (by decide) wm_X5_214 wi_X5_fillLockedArrival we_X5_fillLockedArrival wn_X5 wc_X5_fillLockedArrival wy_X5_fillLockedArrival rfl (st := []) rfl rfl (Nat.le_of_ble_eq_true rfl) dX5_makeArrival_117 ?_
            cases h
            exact m_fg [] rfl J_37
          · replace h := (if_neg b_49).symm.trans h
            refine m_aload_n hc dX5_makeArrival_75 rfl ?_
            refine m_getR hc (q := 198) yO_161 rfl tbX5 6 (by decide) wf_X5_38 rfl dX5_makeArrival_76 ?_
            refine m_bipush hc (v := (60 : Int32)) dX5_makeArrival_79 (by decide) ?_
            refine m_aload_n hc dX5_makeArrival_81 rfl ?_
            refine m_getR hc (q := 200) yO_161 rfl tbX5 8 (by decide) wf_X5_45 rfl dX5_makeArrival_82 ?_
            obtain ⟨q_53, c_54, h⟩ := bd_o h
            refine m_callSv hc (c_X5_spread (d + 1) yA_198 yA_200 c_54) (by omega) (by decide) wm_X5_173 wt_X5_spread wv_X5_spread wc_X5_spread wz_X5_spread rfl (st := []) rfl rfl (Nat.le_of_ble_eq_true rfl) dX5_makeArrival_85 ?_
            refine m_aload_n hc dX5_makeArrival_88 rfl ?_
            refine m_getR hc (q := 200) yO_161 rfl tbX5 8 (by decide) wf_X5_45 rfl dX5_makeArrival_89 ?_
            refine m_bipush hc (v := (67 : Int32)) dX5_makeArrival_92 (by decide) ?_
            refine m_aload_n hc dX5_makeArrival_94 rfl ?_
            refine m_getR hc (q := 185) yO_161 rfl tbX5 5 (by decide) wf_X5_35 rfl dX5_makeArrival_95 ?_
            refine m_iload_n hc dX5_makeArrival_98 rfl ?_
            obtain ⟨b_55, h⟩ := ck_o h
            refine m_jald hc yJ_185 b_55 (tAr_d _ (ib_lt b_55)) dX5_makeArrival_99 ?_
            obtain ⟨q_56, c_57, h⟩ := bd_o h
            refine m_callSv hc (c_X5_spread (d + 1) yA_200 (jAr_d _ (ib_lt b_55)) c_57) (by omega) (by decide) wm_X5_173 wt_X5_spread wv_X5_spread wc_X5_spread wz_X5_spread rfl (st := []) rfl rfl (Nat.le_of_ble_eq_true rfl) dX5_makeArrival_100 ?_
            refine m_goto hc (tgt := 120) dX5_makeArrival_103 (by decide) ?_
            cases h
            exact m_fg [] rfl J_37
        · replace h := (if_pos b_38).symm.trans h
          refine m_aload_n hc dX5_makeArrival_16 rfl ?_
          obtain ⟨q_58, c_59, h⟩ := bd_o h
          refine m_callVv hc yO_161 rfl (c_X5_fillFirstArrival (d + 1) c_59) (by omega) (by decide) wm_X5_211 wi_X5_fillFirstArrival we_X5_fillFirstArrival wn_X5 wc_X5_fillFirstArrival wy_X5_fillFirstArrival rfl (st := []) rfl rfl (Nat.le_of_ble_eq_true rfl) dX5_makeArrival_17 ?_
          refine m_goto hc (tgt := 120) dX5_makeArrival_20 (by decide) ?_
          cases h
          exact m_fg [] rfl J_37
  exact m_fg [] rfl (L_8 _ _ _ c_6)
def L_X5_bestOf_5 (a0 : Nat) (a1 : Nat) (M : Mm) : Nat → Int32 → Int32 → Option (Int32)
  | 0, _, _ => none
  | n_8 + 1, x2_1, x3_2 =>
    if (2187 : Int32) ≤ x3_2 then (
     some x2_1)
    else (
     ck (ib x3_2 2187) (
     ck (ib x3_2 2187) (
     nm ((f_X5_better x2_1 ((M a0 x3_2.toNatClampNeg) + (M a1 x3_2.toNatClampNeg)))) (fun x2_13 =>
     L_X5_bestOf_5 a0 a1 M n_8 x2_13 (x3_2 + 1)))))
def f_X5_bestOf (a0 : Nat) (a1 : Nat) (M : Mm) : Option (Int32) :=
 Option.bind (L_X5_bestOf_5 a0 a1 M FU (66060288 : Int32) (0 : Int32)) (fun q_3 =>
 some q_3)
set_option maxRecDepth 100000 in
set_option maxHeartbeats 4000000 in
theorem c_X5_bestOf {G : Gm} {l : Launch} (d : Nat) {a0 : Nat} {a1 : Nat} {M : Mm} {r : Int32} (h0 : isA a0 2187) (h1 : isA a1 2187) (h : f_X5_bestOf a0 a1 M = some r) : Cm G l (d + 1) yX5_bestOf cX5_bestOf 4 (some .int) [.ref (gR G a0), .ref (gR G a1)] M (some (.int r)) M := by
  unfold f_X5_bestOf at h
  refine m_met (lv := [some (.ref (gR G a0)), some (.ref (gR G a1)), none, none]) (own := RX5) (by decide +kernel) rfl rfl (Nat.le_of_ble_eq_true rfl) rfl ?_
  intro X hX hc hr
  subst hX
  refine m_ldc hc dX5_bestOf_0 wk_X5_68 ?_
  refine m_istore_n hc (lv' := [some (.ref (gR G a0)), some (.ref (gR G a1)), some (.int (66060288 : Int32)), none]) dX5_bestOf_2 (Nat.le_of_ble_eq_true rfl) rfl rfl ?_
  refine m_iconst hc (v := 0) dX5_bestOf_3 (by decide) ?_
  refine m_istore_n hc (lv' := [some (.ref (gR G a0)), some (.ref (gR G a1)), some (.int (66060288 : Int32)), some (.int (0 : Int32))]) dX5_bestOf_4 (Nat.le_of_ble_eq_true rfl) rfl rfl ?_
  obtain ⟨q_3, c_4, h⟩ := bd_o h
  have J_5 : WM G X (qQ G X (some (.int r)) M) M 30 [some (.ref (gR G a0)), some (.ref (gR G a1)), some (.int q_3), none] [] := by
    refine m_iload_n hc dX5_bestOf_30 rfl ?_
    cases h
    exact m_iret hc hr dX5_bestOf_31
  have L_6 : ∀ (n_8 : Nat) (x2_1 : Int32) (x3_2 : Int32), L_X5_bestOf_5 a0 a1 M n_8 x2_1 x3_2 = some q_3 → WM G X (qQ G X (some (.int r)) M) M 5 [some (.ref (gR G a0)), some (.ref (gR G a1)), some (.int x2_1), some (.int x3_2)] [] := by
    intro n_8
    induction n_8 with
    | zero =>
      intro x2_1 x3_2 h
      cases (show none = some _ from h)
    | succ n_8 i_9 =>
      intro x2_1 x3_2 h
      rw [L_X5_bestOf_5] at h
      refine m_iload_n hc dX5_bestOf_5 rfl ?_
      refine m_sipush hc (v := (2187 : Int32)) dX5_bestOf_6 (by decide) ?_
      refine m_icge hc (tgt := 30) dX5_bestOf_9 (by decide) (fun b_10 => ?_) (fun b_10 => ?_)
      · replace h := (if_pos b_10).symm.trans h
        cases h
        exact m_fg [3] rfl J_5
      · replace h := (if_neg b_10).symm.trans h
        refine m_iload_n hc dX5_bestOf_12 rfl ?_
        refine m_aload_n hc dX5_bestOf_13 rfl ?_
        refine m_iload_n hc dX5_bestOf_14 rfl ?_
        obtain ⟨b_11, h⟩ := ck_o h
        refine m_iald hc h0 b_11 dX5_bestOf_15 ?_
        refine m_aload_n hc dX5_bestOf_16 rfl ?_
        refine m_iload_n hc dX5_bestOf_17 rfl ?_
        obtain ⟨b_12, h⟩ := ck_o h
        refine m_iald hc h1 b_12 dX5_bestOf_18 ?_
        refine m_iadd hc dX5_bestOf_19 ?_
        refine m_callSi hc (c_X5_better (d + 0) rfl) (by omega) (by decide) wm_X5_151 wt_X5_better wv_X5_better wc_X5_better wz_X5_better rfl (st := []) rfl rfl (Nat.le_of_ble_eq_true rfl) dX5_bestOf_20 ?_
        refine m_topI (fun x2_13 e_14 => ?_)
        replace h := nm_x e_14 h
        refine m_istore_n hc (lv' := [some (.ref (gR G a0)), some (.ref (gR G a1)), some (.int x2_13), some (.int x3_2)]) dX5_bestOf_23 (Nat.le_of_ble_eq_true rfl) rfl rfl ?_
        refine m_iinc hc (v := x3_2 + 1) (lv' := [some (.ref (gR G a0)), some (.ref (gR G a1)), some (.int x2_13), some (.int (x3_2 + 1))]) dX5_bestOf_24 rfl rfl rfl rfl ?_
        refine m_goto hc (tgt := 5) dX5_bestOf_27 (by decide) ?_
        exact m_fg [] rfl (i_9 _ _ h)
  exact m_fg [] rfl (L_6 _ _ _ c_4)
def f_X5_cost (M : Mm) : Int32 :=
 ((M 161 15) >>> ((20 : Int32) &&& 31))
set_option maxRecDepth 100000 in
set_option maxHeartbeats 4000000 in
theorem c_X5_cost {G : Gm} {l : Launch} (d : Nat) {M : Mm} {r : Int32}  (h : f_X5_cost M = r) : Cm G l (d + 0) yX5_cost cX5_cost 1 (some .int) [.ref (gR G 161)] M (some (.int r)) M := by
  unfold f_X5_cost at h
  refine m_met (lv := [some (.ref (gR G 161))]) (own := RX5) (by decide +kernel) rfl rfl (Nat.le_of_ble_eq_true rfl) rfl ?_
  intro X hX hc hr
  subst hX
  refine m_aload_n hc dX5_cost_0 rfl ?_
  refine m_getI hc yO_161 rfl tbX5 15 (by decide) wf_X5_69 rfl dX5_cost_1 ?_
  refine m_bipush hc (v := (20 : Int32)) dX5_cost_4 (by decide) ?_
  refine m_ishr hc dX5_cost_6 ?_
  subst h
  exact m_iret hc hr dX5_cost_7
def L_X5_leastNext_104 (x1 : Int32) (x4_10 : Int32) (x7_15 : Int32) (q_26 : Int32 × Mm) : Nat → Int32 → Int32 → Option (Int32)
  | 0, _, _ => none
  | n_35 + 1, x5_28, x9_29 =>
    if q_26.1 ≤ x9_29 then (
     some x5_28)
    else (
     ck (ib x9_29 21) (
     nm ((q_26.2 202 x9_29.toNatClampNeg)) (fun x10_39 =>
     nm (
     if x7_15 ≤ 0 then (
     (0 : Int32))
    else (
     (1 : Int32))) (fun q_42 =>
     nm (
     if x9_29 ≤ 0 then (
     (0 : Int32))
    else (
     (1 : Int32))) (fun q_47 =>
     nm ((q_42 + q_47)) (fun x11_51 =>
     Option.bind (
     if x5_28 ≤ x10_39 then (
     some x5_28)
    else (
     ck (ib (x1 + (1 : Int32)) 12) (
     ck (ib x10_39 2187) (
     if (x11_51 + ((q_26.2 (172 + (x1 + (1 : Int32)).toNatClampNeg) x10_39.toNatClampNeg) >>> ((20 : Int32) &&& 31))) = x4_10 then (
     some x10_39)
    else (
     some x5_28))))) (fun q_57 =>
     L_X5_leastNext_104 x1 x4_10 x7_15 q_26 n_35 q_57 (x9_29 + 1))))))))
def L_X5_leastNext_71 (x1 : Int32) (x3_6 : Int32) (x4_10 : Int32) (q_12 : Int32 × Mm) : Nat → Int32 → Int32 → Mm → Option (Int32 × Mm)
  | 0, _, _, _ => none
  | n_22 + 1, x5_14, x7_15, M_16 =>
    if q_12.1 ≤ x7_15 then (
     some (x5_14, M_16))
    else (
     ck (ib x7_15 21) (
     Option.bind (f_X5_reach (M_16 201 x7_15.toNatClampNeg) ((60 : Int32) &&& (x3_6 ^^^ (-1 : Int32))) 202 M_16) (fun q_26 =>
     Option.bind (L_X5_leastNext_104 x1 x4_10 x7_15 q_26 FU x5_14 (0 : Int32)) (fun q_30 =>
     L_X5_leastNext_71 x1 x3_6 x4_10 q_12 n_22 q_30 (x7_15 + 1) q_26.2))))
def f_X5_leastNext (x1 : Int32) (x2 : Int32) (M : Mm) : Option (Int32 × Mm) :=
 Option.bind (f_X0_read 162 3 x1 M) (fun q_1 =>
 ck (ib x2 2187) (
 Option.bind (f_X0_locksBy 162 (q_1 2 x2.toNatClampNeg) q_1) (fun q_4 =>
 nm ((jmax q_4 (0 : Int32))) (fun x3_6 =>
 ck (ib x1 12) (
 ck (ib x2 2187) (
 nm (((q_1 (172 + x1.toNatClampNeg) x2.toNatClampNeg) >>> ((20 : Int32) &&& 31))) (fun x4_10 =>
 Option.bind (f_X5_reach x2 ((67 : Int32) &&& (x3_6 ^^^ (-1 : Int32))) 201 q_1) (fun q_12 =>
 Option.bind (L_X5_leastNext_71 x1 x3_6 x4_10 q_12 FU (2187 : Int32) (0 : Int32) q_12.2) (fun q_17 =>
 if (2187 : Int32) ≤ q_17.1 then (
 some (x2, q_17.2))
else (
 some (q_17.1, q_17.2)))))))))))
set_option maxRecDepth 100000 in
set_option maxHeartbeats 4000000 in
theorem c_X5_leastNext {G : Gm} {l : Launch} (d : Nat) {x1 : Int32} {x2 : Int32} {M : Mm} {r : Int32 × Mm}  (h : f_X5_leastNext x1 x2 M = some r) : Cm G l (d + 3) yX5_leastNext cX5_leastNext 12 (some .int) [.ref (gR G 161), .int x1, .int x2] M (some (.int r.1)) r.2 := by
  unfold f_X5_leastNext at h
  refine m_met (lv := [some (.ref (gR G 161)), some (.int x1), some (.int x2), none, none, none, none, none, none, none, none, none]) (own := RX5) (by decide +kernel) rfl rfl (Nat.le_of_ble_eq_true rfl) rfl ?_
  intro X hX hc hr
  subst hX
  refine m_aload_n hc dX5_leastNext_0 rfl ?_
  refine m_getR hc (q := 162) yO_161 rfl tbX5 2 (by decide) wf_X5_22 rfl dX5_leastNext_1 ?_
  refine m_aload_n hc dX5_leastNext_4 rfl ?_
  refine m_getR hc (q := 3) yO_161 rfl tbX5 1 (by decide) wf_X5_15 rfl dX5_leastNext_5 ?_
  refine m_iload_n hc dX5_leastNext_8 rfl ?_
  obtain ⟨q_1, c_2, h⟩ := bd_o h
  refine m_callVv hc yO_162 rfl (c_X0_read (d + 0) kC_162 kP_3lit c_2) (by omega) (by decide) wm_X5_101 wi_X0_read we_X0_read wn_X0 wc_X0_read wy_X0_read rfl (st := []) rfl rfl (Nat.le_of_ble_eq_true rfl) dX5_leastNext_9 ?_
  refine m_aload_n hc dX5_leastNext_12 rfl ?_
  refine m_getR hc (q := 162) yO_161 rfl tbX5 2 (by decide) wf_X5_22 rfl dX5_leastNext_13 ?_
  refine m_aload_n hc dX5_leastNext_16 rfl ?_
  refine m_getR hc (q := 1) yO_161 rfl tbX5 0 (by decide) wf_X5_11 rfl dX5_leastNext_17 ?_
  refine m_getR hc (q := 2) yO_1 rfl tbX1 0 (by decide) wf_X5_125 rfl dX5_leastNext_20 ?_
  refine m_iload_n hc dX5_leastNext_23 rfl ?_
  obtain ⟨b_3, h⟩ := ck_o h
  refine m_iald hc yA_2 b_3 dX5_leastNext_24 ?_
  obtain ⟨q_4, c_5, h⟩ := bd_o h
  refine m_callVi hc yO_162 rfl (c_X0_locksBy (d + 0) kC_162 c_5) (by omega) (by decide) wm_X5_141 wi_X0_locksBy we_X0_locksBy wn_X0 wc_X0_locksBy wy_X0_locksBy rfl (st := []) rfl rfl (Nat.le_of_ble_eq_true rfl) dX5_leastNext_25 ?_
  refine m_iconst hc (v := 0) dX5_leastNext_28 (by decide) ?_
  refine m_mmax hc (by omega) wm_X5_98 wt_Math_max wn_Math wc_Math_max (st := []) rfl (Nat.le_of_ble_eq_true rfl) dX5_leastNext_29 ?_
  refine m_topI (fun x3_6 e_7 => ?_)
  replace h := nm_x e_7 h
  refine m_istore_n hc (lv' := [some (.ref (gR G 161)), some (.int x1), some (.int x2), some (.int x3_6), none, none, none, none, none, none, none, none]) dX5_leastNext_32 (Nat.le_of_ble_eq_true rfl) rfl rfl ?_
  refine m_aload_n hc dX5_leastNext_33 rfl ?_
  refine m_getR hc (q := 171) yO_161 rfl tbX5 3 (by decide) wf_X5_28 rfl dX5_leastNext_34 ?_
  refine m_iload_n hc dX5_leastNext_37 rfl ?_
  obtain ⟨b_8, h⟩ := ck_o h
  refine m_jald hc yJ_171 b_8 (tOn_d _ (ib_lt b_8)) dX5_leastNext_38 ?_
  refine m_iload_n hc dX5_leastNext_39 rfl ?_
  obtain ⟨b_9, h⟩ := ck_o h
  refine m_iald hc (jOn_d _ (ib_lt b_8)) b_9 dX5_leastNext_40 ?_
  refine m_bipush hc (v := (20 : Int32)) dX5_leastNext_41 (by decide) ?_
  refine m_ishr hc dX5_leastNext_43 ?_
  refine m_topI (fun x4_10 e_11 => ?_)
  replace h := nm_x e_11 h
  refine m_istore hc (lv' := [some (.ref (gR G 161)), some (.int x1), some (.int x2), some (.int x3_6), some (.int x4_10), none, none, none, none, none, none, none]) dX5_leastNext_44 (Nat.le_of_ble_eq_true rfl) rfl rfl ?_
  refine m_sipush hc (v := (2187 : Int32)) dX5_leastNext_46 (by decide) ?_
  refine m_istore hc (lv' := [some (.ref (gR G 161)), some (.int x1), some (.int x2), some (.int x3_6), some (.int x4_10), some (.int (2187 : Int32)), none, none, none, none, none, none]) dX5_leastNext_49 (Nat.le_of_ble_eq_true rfl) rfl rfl ?_
  refine m_aload_n hc dX5_leastNext_51 rfl ?_
  refine m_iload_n hc dX5_leastNext_52 rfl ?_
  refine m_bipush hc (v := (67 : Int32)) dX5_leastNext_53 (by decide) ?_
  refine m_iload_n hc dX5_leastNext_55 rfl ?_
  refine m_iconst hc (v := (-1)) dX5_leastNext_56 (by decide) ?_
  refine m_ixor hc dX5_leastNext_57 ?_
  refine m_iand hc dX5_leastNext_58 ?_
  refine m_aload_n hc dX5_leastNext_59 rfl ?_
  refine m_getR hc (q := 201) yO_161 rfl tbX5 9 (by decide) wf_X5_48 rfl dX5_leastNext_60 ?_
  obtain ⟨q_12, c_13, h⟩ := bd_o h
  refine m_callVi hc yO_161 rfl (c_X5_reach (d + 2) yA_201 c_13) (by omega) (by decide) wm_X5_198 wi_X5_reach we_X5_reach wn_X5 wc_X5_reach wy_X5_reach rfl (st := []) rfl rfl (Nat.le_of_ble_eq_true rfl) dX5_leastNext_63 ?_
  refine m_istore hc (lv' := [some (.ref (gR G 161)), some (.int x1), some (.int x2), some (.int x3_6), some (.int x4_10), some (.int (2187 : Int32)), some (.int q_12.1), none, none, none, none, none]) dX5_leastNext_66 (Nat.le_of_ble_eq_true rfl) rfl rfl ?_
  refine m_iconst hc (v := 0) dX5_leastNext_68 (by decide) ?_
  refine m_istore hc (lv' := [some (.ref (gR G 161)), some (.int x1), some (.int x2), some (.int x3_6), some (.int x4_10), some (.int (2187 : Int32)), some (.int q_12.1), some (.int (0 : Int32)), none, none, none, none]) dX5_leastNext_69 (Nat.le_of_ble_eq_true rfl) rfl rfl ?_
  obtain ⟨q_17, c_18, h⟩ := bd_o h
  have J_19 : WM G X (qQ G X (some (.int r.1)) r.2) q_17.2 188 [some (.ref (gR G 161)), some (.int x1), some (.int x2), some (.int x3_6), some (.int x4_10), some (.int q_17.1), some (.int q_12.1), none, none, none, none, none] [] := by
    refine m_iload hc dX5_leastNext_188 rfl ?_
    refine m_sipush hc (v := (2187 : Int32)) dX5_leastNext_190 (by decide) ?_
    refine m_icge hc (tgt := 201) dX5_leastNext_193 (by decide) (fun b_64 => ?_) (fun b_64 => ?_)
    · replace h := (if_pos b_64).symm.trans h
      refine m_iload_n hc dX5_leastNext_201 rfl ?_
      cases h
      exact m_iret hc hr dX5_leastNext_202
    · replace h := (if_neg b_64).symm.trans h
      refine m_iload hc dX5_leastNext_196 rfl ?_
      refine m_goto hc (tgt := 202) dX5_leastNext_198 (by decide) ?_
      cases h
      exact m_iret hc hr dX5_leastNext_202
  have L_20 : ∀ (n_22 : Nat) (x5_14 : Int32) (x7_15 : Int32) (M_16 : Mm), L_X5_leastNext_71 x1 x3_6 x4_10 q_12 n_22 x5_14 x7_15 M_16 = some q_17 → WM G X (qQ G X (some (.int r.1)) r.2) M_16 71 [some (.ref (gR G 161)), some (.int x1), some (.int x2), some (.int x3_6), some (.int x4_10), some (.int x5_14), some (.int q_12.1), some (.int x7_15), none, none, none, none] [] := by
    intro n_22
    induction n_22 with
    | zero =>
      intro x5_14 x7_15 M_16 h
      cases (show none = some _ from h)
    | succ n_22 i_23 =>
      intro x5_14 x7_15 M_16 h
      rw [L_X5_leastNext_71] at h
      refine m_iload hc dX5_leastNext_71 rfl ?_
      refine m_iload hc dX5_leastNext_73 rfl ?_
      refine m_icge hc (tgt := 188) dX5_leastNext_75 (by decide) (fun b_24 => ?_) (fun b_24 => ?_)
      · replace h := (if_pos b_24).symm.trans h
        cases h
        exact m_fg [7] rfl J_19
      · replace h := (if_neg b_24).symm.trans h
        refine m_aload_n hc dX5_leastNext_78 rfl ?_
        refine m_aload_n hc dX5_leastNext_79 rfl ?_
        refine m_getR hc (q := 201) yO_161 rfl tbX5 9 (by decide) wf_X5_48 rfl dX5_leastNext_80 ?_
        refine m_iload hc dX5_leastNext_83 rfl ?_
        obtain ⟨b_25, h⟩ := ck_o h
        refine m_iald hc yA_201 b_25 dX5_leastNext_85 ?_
        refine m_bipush hc (v := (60 : Int32)) dX5_leastNext_86 (by decide) ?_
        refine m_iload_n hc dX5_leastNext_88 rfl ?_
        refine m_iconst hc (v := (-1)) dX5_leastNext_89 (by decide) ?_
        refine m_ixor hc dX5_leastNext_90 ?_
        refine m_iand hc dX5_leastNext_91 ?_
        refine m_aload_n hc dX5_leastNext_92 rfl ?_
        refine m_getR hc (q := 202) yO_161 rfl tbX5 10 (by decide) wf_X5_51 rfl dX5_leastNext_93 ?_
        obtain ⟨q_26, c_27, h⟩ := bd_o h
        refine m_callVi hc yO_161 rfl (c_X5_reach (d + 2) yA_202 c_27) (by omega) (by decide) wm_X5_198 wi_X5_reach we_X5_reach wn_X5 wc_X5_reach wy_X5_reach rfl (st := []) rfl rfl (Nat.le_of_ble_eq_true rfl) dX5_leastNext_96 ?_
        refine m_istore hc (lv' := [some (.ref (gR G 161)), some (.int x1), some (.int x2), some (.int x3_6), some (.int x4_10), some (.int x5_14), some (.int q_12.1), some (.int x7_15), some (.int q_26.1), none, none, none]) dX5_leastNext_99 (Nat.le_of_ble_eq_true rfl) rfl rfl ?_
        refine m_iconst hc (v := 0) dX5_leastNext_101 (by decide) ?_
        refine m_istore hc (lv' := [some (.ref (gR G 161)), some (.int x1), some (.int x2), some (.int x3_6), some (.int x4_10), some (.int x5_14), some (.int q_12.1), some (.int x7_15), some (.int q_26.1), some (.int (0 : Int32)), none, none]) dX5_leastNext_102 (Nat.le_of_ble_eq_true rfl) rfl rfl ?_
        obtain ⟨q_30, c_31, h⟩ := bd_o h
        have J_32 : WM G X (qQ G X (some (.int r.1)) r.2) q_26.2 182 [some (.ref (gR G 161)), some (.int x1), some (.int x2), some (.int x3_6), some (.int x4_10), some (.int q_30), some (.int q_12.1), some (.int x7_15), some (.int q_26.1), none, none, none] [] := by
          refine m_iinc hc (v := x7_15 + 1) (lv' := [some (.ref (gR G 161)), some (.int x1), some (.int x2), some (.int x3_6), some (.int x4_10), some (.int q_30), some (.int q_12.1), some (.int (x7_15 + 1)), some (.int q_26.1), none, none, none]) dX5_leastNext_182 rfl rfl rfl rfl ?_
          refine m_goto hc (tgt := 71) dX5_leastNext_185 (by decide) ?_
          exact m_fg [8] rfl (i_23 _ _ _ h)
        have L_33 : ∀ (n_35 : Nat) (x5_28 : Int32) (x9_29 : Int32), L_X5_leastNext_104 x1 x4_10 x7_15 q_26 n_35 x5_28 x9_29 = some q_30 → WM G X (qQ G X (some (.int r.1)) r.2) q_26.2 104 [some (.ref (gR G 161)), some (.int x1), some (.int x2), some (.int x3_6), some (.int x4_10), some (.int x5_28), some (.int q_12.1), some (.int x7_15), some (.int q_26.1), some (.int x9_29), none, none] [] := by
          intro n_35
          induction n_35 with
          | zero =>
            intro x5_28 x9_29 h
            cases (show none = some _ from h)
          | succ n_35 i_36 =>
            intro x5_28 x9_29 h
            rw [L_X5_leastNext_104] at h
            refine m_iload hc dX5_leastNext_104 rfl ?_
            refine m_iload hc dX5_leastNext_106 rfl ?_
            refine m_icge hc (tgt := 182) dX5_leastNext_108 (by decide) (fun b_37 => ?_) (fun b_37 => ?_)
            · replace h := (if_pos b_37).symm.trans h
              cases h
              exact m_fg [9] rfl J_32
            · replace h := (if_neg b_37).symm.trans h
              refine m_aload_n hc dX5_leastNext_111 rfl ?_
              refine m_getR hc (q := 202) yO_161 rfl tbX5 10 (by decide) wf_X5_51 rfl dX5_leastNext_112 ?_
              refine m_iload hc dX5_leastNext_115 rfl ?_
              obtain ⟨b_38, h⟩ := ck_o h
              refine m_iald hc yA_202 b_38 dX5_leastNext_117 ?_
              refine m_topI (fun x10_39 e_40 => ?_)
              replace h := nm_x e_40 h
              refine m_istore hc (lv' := [some (.ref (gR G 161)), some (.int x1), some (.int x2), some (.int x3_6), some (.int x4_10), some (.int x5_28), some (.int q_12.1), some (.int x7_15), some (.int q_26.1), some (.int x9_29), some (.int x10_39), none]) dX5_leastNext_118 (Nat.le_of_ble_eq_true rfl) rfl rfl ?_
              refine m_iload hc dX5_leastNext_120 rfl ?_
              obtain ⟨q_42, c_43, h⟩ := nm_o h
              have J_44 : WM G X (qQ G X (some (.int r.1)) r.2) q_26.2 130 [some (.ref (gR G 161)), some (.int x1), some (.int x2), some (.int x3_6), some (.int x4_10), some (.int x5_28), some (.int q_12.1), some (.int x7_15), some (.int q_26.1), some (.int x9_29), some (.int x10_39), none] [.int q_42] := by
                refine m_iload hc dX5_leastNext_130 rfl ?_
                obtain ⟨q_47, c_48, h⟩ := nm_o h
                have J_49 : WM G X (qQ G X (some (.int r.1)) r.2) q_26.2 140 [some (.ref (gR G 161)), some (.int x1), some (.int x2), some (.int x3_6), some (.int x4_10), some (.int x5_28), some (.int q_12.1), some (.int x7_15), some (.int q_26.1), some (.int x9_29), some (.int x10_39), none] [.int q_47, .int q_42] := by
                  refine m_iadd hc dX5_leastNext_140 ?_
                  refine m_topI (fun x11_51 e_52 => ?_)
                  replace h := nm_x e_52 h
                  refine m_istore hc (lv' := [some (.ref (gR G 161)), some (.int x1), some (.int x2), some (.int x3_6), some (.int x4_10), some (.int x5_28), some (.int q_12.1), some (.int x7_15), some (.int q_26.1), some (.int x9_29), some (.int x10_39), some (.int x11_51)]) dX5_leastNext_141 (Nat.le_of_ble_eq_true rfl) rfl rfl ?_
                  refine m_iload hc dX5_leastNext_143 rfl ?_
                  refine m_iload hc dX5_leastNext_145 rfl ?_
                  obtain ⟨q_57, c_58, h⟩ := bd_o h
                  have J_59 : WM G X (qQ G X (some (.int r.1)) r.2) q_26.2 176 [some (.ref (gR G 161)), some (.int x1), some (.int x2), some (.int x3_6), some (.int x4_10), some (.int q_57), some (.int q_12.1), some (.int x7_15), some (.int q_26.1), some (.int x9_29), some (.int x10_39), some (.int x11_51)] [] := by
                    refine m_iinc hc (v := x9_29 + 1) (lv' := [some (.ref (gR G 161)), some (.int x1), some (.int x2), some (.int x3_6), some (.int x4_10), some (.int q_57), some (.int q_12.1), some (.int x7_15), some (.int q_26.1), some (.int (x9_29 + 1)), some (.int x10_39), some (.int x11_51)]) dX5_leastNext_176 rfl rfl rfl rfl ?_
                    refine m_goto hc (tgt := 104) dX5_leastNext_179 (by decide) ?_
                    exact m_fg [10, 11] rfl (i_36 _ _ h)
                  replace h := c_58
                  refine m_icge hc (tgt := 176) dX5_leastNext_147 (by decide) (fun b_60 => ?_) (fun b_60 => ?_)
                  · replace h := (if_pos b_60).symm.trans h
                    cases h
                    exact m_fg [] rfl J_59
                  · replace h := (if_neg b_60).symm.trans h
                    refine m_iload hc dX5_leastNext_150 rfl ?_
                    refine m_aload_n hc dX5_leastNext_152 rfl ?_
                    refine m_getR hc (q := 171) yO_161 rfl tbX5 3 (by decide) wf_X5_28 rfl dX5_leastNext_153 ?_
                    refine m_iload_n hc dX5_leastNext_156 rfl ?_
                    refine m_iconst hc (v := 1) dX5_leastNext_157 (by decide) ?_
                    refine m_iadd hc dX5_leastNext_158 ?_
                    obtain ⟨b_61, h⟩ := ck_o h
                    refine m_jald hc yJ_171 b_61 (tOn_d _ (ib_lt b_61)) dX5_leastNext_159 ?_
                    refine m_iload hc dX5_leastNext_160 rfl ?_
                    obtain ⟨b_62, h⟩ := ck_o h
                    refine m_iald hc (jOn_d _ (ib_lt b_61)) b_62 dX5_leastNext_162 ?_
                    refine m_bipush hc (v := (20 : Int32)) dX5_leastNext_163 (by decide) ?_
                    refine m_ishr hc dX5_leastNext_165 ?_
                    refine m_iadd hc dX5_leastNext_166 ?_
                    refine m_iload hc dX5_leastNext_167 rfl ?_
                    refine m_icne hc (tgt := 176) dX5_leastNext_169 (by decide) (fun b_63 => ?_) (fun b_63 => ?_)
                    · replace h := (if_neg b_63).symm.trans h
                      cases h
                      exact m_fg [] rfl J_59
                    · replace h := (if_pos b_63).symm.trans h
                      refine m_iload hc dX5_leastNext_172 rfl ?_
                      refine m_istore hc (lv' := [some (.ref (gR G 161)), some (.int x1), some (.int x2), some (.int x3_6), some (.int x4_10), some (.int x10_39), some (.int q_12.1), some (.int x7_15), some (.int q_26.1), some (.int x9_29), some (.int x10_39), some (.int x11_51)]) dX5_leastNext_174 (Nat.le_of_ble_eq_true rfl) rfl rfl ?_
                      cases h
                      exact m_fg [] rfl J_59
                replace h := c_48
                refine m_ifle hc (tgt := 139) dX5_leastNext_132 (by decide) (fun b_50 => ?_) (fun b_50 => ?_)
                · replace h := (if_pos b_50).symm.trans h
                  refine m_iconst hc (v := 0) dX5_leastNext_139 (by decide) ?_
                  subst h
                  exact m_fg [] rfl J_49
                · replace h := (if_neg b_50).symm.trans h
                  refine m_iconst hc (v := 1) dX5_leastNext_135 (by decide) ?_
                  refine m_goto hc (tgt := 140) dX5_leastNext_136 (by decide) ?_
                  subst h
                  exact m_fg [] rfl J_49
              replace h := c_43
              refine m_ifle hc (tgt := 129) dX5_leastNext_122 (by decide) (fun b_45 => ?_) (fun b_45 => ?_)
              · replace h := (if_pos b_45).symm.trans h
                refine m_iconst hc (v := 0) dX5_leastNext_129 (by decide) ?_
                subst h
                exact m_fg [] rfl J_44
              · replace h := (if_neg b_45).symm.trans h
                refine m_iconst hc (v := 1) dX5_leastNext_125 (by decide) ?_
                refine m_goto hc (tgt := 130) dX5_leastNext_126 (by decide) ?_
                subst h
                exact m_fg [] rfl J_44
        exact m_fg [] rfl (L_33 _ _ _ c_31)
  exact m_fg [] rfl (L_20 _ _ _ _ c_18)
def L_X5_trace_2 (M : Mm) : Nat → Int32 → Option (Int32)
  | 0, _ => none
  | n_7 + 1, x1_1 =>
    if (2186 : Int32) ≤ x1_1 then (
     some x1_1)
    else (
     ck (ib (0 : Int32) 12) (
     ck (ib x1_1 2187) (
     ck (ib (0 : Int32) 12) (
     ck (ib x1_1 2187) (
     if (((M (186 + (0 : Int32).toNatClampNeg) x1_1.toNatClampNeg) + (M (172 + (0 : Int32).toNatClampNeg) x1_1.toNatClampNeg)) >>> ((20 : Int32) &&& 31)) = (f_X5_cost M) then (
     some x1_1)
    else (
     L_X5_trace_2 M n_7 (x1_1 + 1)))))))
def L_X5_trace_51 : Nat → Int32 → Mm → Option (Mm)
  | 0, _, _ => none
  | n_25 + 1, x2_18, M_19 =>
    if (M_19 3 0) ≤ x2_18 then (
     some M_19)
    else (
     ck (ib (x2_18 - (1 : Int32)) 12) (
     Option.bind (f_X5_leastNext (x2_18 - (1 : Int32)) (M_19 203 (x2_18 - (1 : Int32)).toNatClampNeg) M_19) (fun q_29 =>
     ck (ib x2_18 12) (
     nm (mw q_29.2 203 x2_18.toNatClampNeg q_29.1) (fun M_32 =>
     L_X5_trace_51 n_25 (x2_18 + 1) M_32)))))
def f_X5_trace (M : Mm) : Option (Mm) :=
 Option.bind (L_X5_trace_2 M FU (0 : Int32)) (fun q_2 =>
 ck (ib (0 : Int32) 12) (
 nm (mw M 203 (0 : Int32).toNatClampNeg q_2) (fun M_16 =>
 Option.bind (L_X5_trace_51 FU (1 : Int32) M_16) (fun q_20 =>
 some q_20))))
set_option maxRecDepth 100000 in
set_option maxHeartbeats 4000000 in
theorem c_X5_trace {G : Gm} {l : Launch} (d : Nat) {M : Mm} {r : Mm}  (h : f_X5_trace M = some r) : Cm G l (d + 4) yX5_trace cX5_trace 3 none [.ref (gR G 161)] M none r := by
  unfold f_X5_trace at h
  refine m_met (lv := [some (.ref (gR G 161)), none, none]) (own := RX5) (by decide +kernel) rfl rfl (Nat.le_of_ble_eq_true rfl) rfl ?_
  intro X hX hc hr
  subst hX
  refine m_iconst hc (v := 0) dX5_trace_0 (by decide) ?_
  refine m_istore_n hc (lv' := [some (.ref (gR G 161)), some (.int (0 : Int32)), none]) dX5_trace_1 (Nat.le_of_ble_eq_true rfl) rfl rfl ?_
  obtain ⟨q_2, c_3, h⟩ := bd_o h
  have J_4 : WM G X (qQ G X none r) M 42 [some (.ref (gR G 161)), some (.int q_2), none] [] := by
    refine m_aload_n hc dX5_trace_42 rfl ?_
    refine m_getR hc (q := 203) yO_161 rfl tbX5 11 (by decide) wf_X5_54 rfl dX5_trace_43 ?_
    refine m_iconst hc (v := 0) dX5_trace_46 (by decide) ?_
    refine m_iload_n hc dX5_trace_47 rfl ?_
    obtain ⟨b_15, h⟩ := ck_o h
    refine m_iast hc yA_203 b_15 dX5_trace_48 ?_
    refine m_topM (fun M_16 e_17 => ?_)
    replace h := nm_x e_17 h
    refine m_iconst hc (v := 1) dX5_trace_49 (by decide) ?_
    refine m_istore_n hc (lv' := [some (.ref (gR G 161)), some (.int q_2), some (.int (1 : Int32))]) dX5_trace_50 (Nat.le_of_ble_eq_true rfl) rfl rfl ?_
    obtain ⟨q_20, c_21, h⟩ := bd_o h
    have J_22 : WM G X (qQ G X none r) q_20 89 [some (.ref (gR G 161)), some (.int q_2), none] [] := by
      cases h
      exact m_vret hc hr dX5_trace_89
    have L_23 : ∀ (n_25 : Nat) (x2_18 : Int32) (M_19 : Mm), L_X5_trace_51 n_25 x2_18 M_19 = some q_20 → WM G X (qQ G X none r) M_19 51 [some (.ref (gR G 161)), some (.int q_2), some (.int x2_18)] [] := by
      intro n_25
      induction n_25 with
      | zero =>
        intro x2_18 M_19 h
        cases (show none = some _ from h)
      | succ n_25 i_26 =>
        intro x2_18 M_19 h
        rw [L_X5_trace_51] at h
        refine m_iload_n hc dX5_trace_51 rfl ?_
        refine m_aload_n hc dX5_trace_52 rfl ?_
        refine m_getR hc (q := 3) yO_161 rfl tbX5 1 (by decide) wf_X5_15 rfl dX5_trace_53 ?_
        refine m_getI hc yO_3 rfl tbX3 0 (by decide) wf_X5_93 rfl dX5_trace_56 ?_
        refine m_icge hc (tgt := 89) dX5_trace_59 (by decide) (fun b_27 => ?_) (fun b_27 => ?_)
        · replace h := (if_pos b_27).symm.trans h
          cases h
          exact m_fg [2] rfl J_22
        · replace h := (if_neg b_27).symm.trans h
          refine m_aload_n hc dX5_trace_62 rfl ?_
          refine m_getR hc (q := 203) yO_161 rfl tbX5 11 (by decide) wf_X5_54 rfl dX5_trace_63 ?_
          refine m_iload_n hc dX5_trace_66 rfl ?_
          refine m_aload_n hc dX5_trace_67 rfl ?_
          refine m_iload_n hc dX5_trace_68 rfl ?_
          refine m_iconst hc (v := 1) dX5_trace_69 (by decide) ?_
          refine m_isub hc dX5_trace_70 ?_
          refine m_aload_n hc dX5_trace_71 rfl ?_
          refine m_getR hc (q := 203) yO_161 rfl tbX5 11 (by decide) wf_X5_54 rfl dX5_trace_72 ?_
          refine m_iload_n hc dX5_trace_75 rfl ?_
          refine m_iconst hc (v := 1) dX5_trace_76 (by decide) ?_
          refine m_isub hc dX5_trace_77 ?_
          obtain ⟨b_28, h⟩ := ck_o h
          refine m_iald hc yA_203 b_28 dX5_trace_78 ?_
          obtain ⟨q_29, c_30, h⟩ := bd_o h
          refine m_callVi hc yO_161 rfl (c_X5_leastNext (d + 0) c_30) (by omega) (by decide) wm_X5_208 wi_X5_leastNext we_X5_leastNext wn_X5 wc_X5_leastNext wy_X5_leastNext rfl (st := [.int x2_18, .ref (gR G 203)]) rfl rfl (Nat.le_of_ble_eq_true rfl) dX5_trace_79 ?_
          obtain ⟨b_31, h⟩ := ck_o h
          refine m_iast hc yA_203 b_31 dX5_trace_82 ?_
          refine m_topM (fun M_32 e_33 => ?_)
          replace h := nm_x e_33 h
          refine m_iinc hc (v := x2_18 + 1) (lv' := [some (.ref (gR G 161)), some (.int q_2), some (.int (x2_18 + 1))]) dX5_trace_83 rfl rfl rfl rfl ?_
          refine m_goto hc (tgt := 51) dX5_trace_86 (by decide) ?_
          exact m_fg [] rfl (i_26 _ _ h)
    exact m_fg [] rfl (L_23 _ _ _ c_21)
  have L_5 : ∀ (n_7 : Nat) (x1_1 : Int32), L_X5_trace_2 M n_7 x1_1 = some q_2 → WM G X (qQ G X none r) M 2 [some (.ref (gR G 161)), some (.int x1_1), none] [] := by
    intro n_7
    induction n_7 with
    | zero =>
      intro x1_1 h
      cases (show none = some _ from h)
    | succ n_7 i_8 =>
      intro x1_1 h
      rw [L_X5_trace_2] at h
      refine m_iload_n hc dX5_trace_2 rfl ?_
      refine m_sipush hc (v := (2186 : Int32)) dX5_trace_3 (by decide) ?_
      refine m_icge hc (tgt := 42) dX5_trace_6 (by decide) (fun b_9 => ?_) (fun b_9 => ?_)
      · replace h := (if_pos b_9).symm.trans h
        cases h
        exact m_fg [] rfl J_4
      · replace h := (if_neg b_9).symm.trans h
        refine m_aload_n hc dX5_trace_9 rfl ?_
        refine m_getR hc (q := 185) yO_161 rfl tbX5 5 (by decide) wf_X5_35 rfl dX5_trace_10 ?_
        refine m_iconst hc (v := 0) dX5_trace_13 (by decide) ?_
        obtain ⟨b_10, h⟩ := ck_o h
        refine m_jald hc yJ_185 b_10 (tAr_d _ (ib_lt b_10)) dX5_trace_14 ?_
        refine m_iload_n hc dX5_trace_15 rfl ?_
        obtain ⟨b_11, h⟩ := ck_o h
        refine m_iald hc (jAr_d _ (ib_lt b_10)) b_11 dX5_trace_16 ?_
        refine m_aload_n hc dX5_trace_17 rfl ?_
        refine m_getR hc (q := 171) yO_161 rfl tbX5 3 (by decide) wf_X5_28 rfl dX5_trace_18 ?_
        refine m_iconst hc (v := 0) dX5_trace_21 (by decide) ?_
        obtain ⟨b_12, h⟩ := ck_o h
        refine m_jald hc yJ_171 b_12 (tOn_d _ (ib_lt b_12)) dX5_trace_22 ?_
        refine m_iload_n hc dX5_trace_23 rfl ?_
        obtain ⟨b_13, h⟩ := ck_o h
        refine m_iald hc (jOn_d _ (ib_lt b_12)) b_13 dX5_trace_24 ?_
        refine m_iadd hc dX5_trace_25 ?_
        refine m_bipush hc (v := (20 : Int32)) dX5_trace_26 (by decide) ?_
        refine m_ishr hc dX5_trace_28 ?_
        refine m_aload_n hc dX5_trace_29 rfl ?_
        refine m_callVi hc yO_161 rfl (c_X5_cost (d + 3) rfl) (by omega) (by decide) wm_X5_147 wi_X5_cost we_X5_cost wn_X5 wc_X5_cost wy_X5_cost rfl (st := [.int (((M (186 + (0 : Int32).toNatClampNeg) x1_1.toNatClampNeg) + (M (172 + (0 : Int32).toNatClampNeg) x1_1.toNatClampNeg)) >>> ((20 : Int32) &&& 31))]) rfl rfl (Nat.le_of_ble_eq_true rfl) dX5_trace_30 ?_
        refine m_iceq hc (tgt := 42) dX5_trace_33 (by decide) (fun b_14 => ?_) (fun b_14 => ?_)
        · replace h := (if_pos b_14).symm.trans h
          cases h
          exact m_fg [] rfl J_4
        · replace h := (if_neg b_14).symm.trans h
          refine m_iinc hc (v := x1_1 + 1) (lv' := [some (.ref (gR G 161)), some (.int (x1_1 + 1)), none]) dX5_trace_36 rfl rfl rfl rfl ?_
          refine m_goto hc (tgt := 2) dX5_trace_39 (by decide) ?_
          exact m_fg [] rfl (i_8 _ h)
  exact m_fg [] rfl (L_5 _ _ c_3)
def L_X5_exists_24 : Nat → Int32 → Mm → Option (Mm)
  | 0, _, _ => none
  | n_59 + 1, x1_52, M_53 =>
    if x1_52 < 0 then (
     some M_53)
    else (
     Option.bind (f_X0_read 162 3 x1_52 M_53) (fun q_62 =>
     ck (ib x1_52 12) (
     Option.bind (f_X5_fillOnward x1_52 (172 + x1_52.toNatClampNeg) q_62) (fun q_65 =>
     ck (ib x1_52 12) (
     Option.bind (f_X5_isEven (172 + x1_52.toNatClampNeg) q_65) (fun q_68 =>
     ck (ib x1_52 12) (
     nm (mw q_65 184 x1_52.toNatClampNeg (vp_nar .boolean q_68)) (fun M_71 =>
     L_X5_exists_24 n_59 (x1_52 + (-1)) M_71))))))))
def f_X5_exists (M : Mm) : Option (Int32 × Mm) :=
 Option.bind (
 if (M 161 14) = 0 then (
 nm (((jmin (M 161 12) (M 3 0)) - (1 : Int32))) (fun x1_50 =>
 Option.bind (L_X5_exists_24 FU x1_50 M) (fun q_54 =>
 nm (mw q_54 161 12 (0 : Int32)) (fun M_73 =>
 Option.bind (f_X5_makeArrival (0 : Int32) M_73) (fun q_75 =>
 ck (ib (0 : Int32) 12) (
 ck (ib (0 : Int32) 12) (
 Option.bind (f_X5_bestOf (186 + (0 : Int32).toNatClampNeg) (172 + (0 : Int32).toNatClampNeg) q_75) (fun q_79 =>
 nm (mw q_75 161 15 q_79) (fun M_81 =>
 Option.bind (
 if (66060288 : Int32) ≤ (M_81 161 15) then (
 some M_81)
else (
 Option.bind (f_X5_trace M_81) (fun q_90 =>
 some q_90))) (fun q_86 =>
 nm (mw q_86 161 14 (1 : Int32)) (fun M_92 =>
 some M_92)))))))))))
else (
 some M)) (fun q_46 =>
 if (66060288 : Int32) ≤ (q_46 161 15) then (
 some ((0 : Int32), q_46))
else (
 some ((1 : Int32), q_46)))
set_option maxRecDepth 100000 in
set_option maxHeartbeats 4000000 in
theorem c_X5_exists {G : Gm} {l : Launch} (d : Nat) {M : Mm} {r : Int32 × Mm}  (h : f_X5_exists M = some r) : Cm G l (d + 5) yX5_exists cX5_exists 2 (some .boolean) [.ref (gR G 161)] M (some (.int r.1)) r.2 := by
  unfold f_X5_exists at h
  refine m_met (lv := [some (.ref (gR G 161)), none]) (own := RX5) (by decide +kernel) rfl rfl (Nat.le_of_ble_eq_true rfl) rfl ?_
  intro X hX hc hr
  subst hX
  refine m_aload_n hc dX5_exists_0 rfl ?_
  refine m_getI hc yO_161 rfl tbX5 14 (by decide) wf_X5_64 rfl dX5_exists_1 ?_
  obtain ⟨q_46, c_47, h⟩ := bd_o h
  have J_48 : WM G X (qQ G X (some (.int r.1)) r.2) q_46 119 [some (.ref (gR G 161)), none] [] := by
    refine m_aload_n hc dX5_exists_119 rfl ?_
    refine m_getI hc yO_161 rfl tbX5 15 (by decide) wf_X5_69 rfl dX5_exists_120 ?_
    refine m_ldc hc dX5_exists_123 wk_X5_68 ?_
    refine m_icge hc (tgt := 132) dX5_exists_125 (by decide) (fun b_94 => ?_) (fun b_94 => ?_)
    · replace h := (if_pos b_94).symm.trans h
      refine m_iconst hc (v := 0) dX5_exists_132 (by decide) ?_
      cases h
      exact m_zret hc hr (v := (0 : Int32)) (by decide) dX5_exists_133
    · replace h := (if_neg b_94).symm.trans h
      refine m_iconst hc (v := 1) dX5_exists_128 (by decide) ?_
      refine m_goto hc (tgt := 133) dX5_exists_129 (by decide) ?_
      cases h
      exact m_zret hc hr (v := (1 : Int32)) (by decide) dX5_exists_133
  replace h := c_47
  refine m_ifne hc (tgt := 119) dX5_exists_4 (by decide) (fun b_49 => ?_) (fun b_49 => ?_)
  · replace h := (if_neg b_49).symm.trans h
    cases h
    exact m_fg [] rfl J_48
  · replace h := (if_pos b_49).symm.trans h
    refine m_aload_n hc dX5_exists_7 rfl ?_
    refine m_getI hc yO_161 rfl tbX5 12 (by decide) wf_X5_57 rfl dX5_exists_8 ?_
    refine m_aload_n hc dX5_exists_11 rfl ?_
    refine m_getR hc (q := 3) yO_161 rfl tbX5 1 (by decide) wf_X5_15 rfl dX5_exists_12 ?_
    refine m_getI hc yO_3 rfl tbX3 0 (by decide) wf_X5_93 rfl dX5_exists_15 ?_
    refine m_mmin hc (by omega) wm_X5_87 wt_Math_min wn_Math wc_Math_min (st := []) rfl (Nat.le_of_ble_eq_true rfl) dX5_exists_18 ?_
    refine m_iconst hc (v := 1) dX5_exists_21 (by decide) ?_
    refine m_isub hc dX5_exists_22 ?_
    refine m_topI (fun x1_50 e_51 => ?_)
    replace h := nm_x e_51 h
    refine m_istore_n hc (lv' := [some (.ref (gR G 161)), some (.int x1_50)]) dX5_exists_23 (Nat.le_of_ble_eq_true rfl) rfl rfl ?_
    obtain ⟨q_54, c_55, h⟩ := bd_o h
    have J_56 : WM G X (qQ G X (some (.int r.1)) r.2) q_54 72 [some (.ref (gR G 161)), none] [] := by
      refine m_aload_n hc dX5_exists_72 rfl ?_
      refine m_iconst hc (v := 0) dX5_exists_73 (by decide) ?_
      refine m_putI hc yO_161 rfl tbX5 tyX5 tyX5_ok nmX5 12 (by decide) wf_X5_57 rfl rfl rfl rfl dX5_exists_74 ?_
      refine m_topM (fun M_73 e_74 => ?_)
      replace h := nm_x e_74 h
      refine m_aload_n hc dX5_exists_77 rfl ?_
      refine m_iconst hc (v := 0) dX5_exists_78 (by decide) ?_
      obtain ⟨q_75, c_76, h⟩ := bd_o h
      refine m_callVv hc yO_161 rfl (c_X5_makeArrival (d + 0) c_76) (by omega) (by decide) wm_X5_113 wi_X5_makeArrival we_X5_makeArrival wn_X5 wc_X5_makeArrival wy_X5_makeArrival rfl (st := []) rfl rfl (Nat.le_of_ble_eq_true rfl) dX5_exists_79 ?_
      refine m_aload_n hc dX5_exists_82 rfl ?_
      refine m_aload_n hc dX5_exists_83 rfl ?_
      refine m_getR hc (q := 185) yO_161 rfl tbX5 5 (by decide) wf_X5_35 rfl dX5_exists_84 ?_
      refine m_iconst hc (v := 0) dX5_exists_87 (by decide) ?_
      obtain ⟨b_77, h⟩ := ck_o h
      refine m_jald hc yJ_185 b_77 (tAr_d _ (ib_lt b_77)) dX5_exists_88 ?_
      refine m_aload_n hc dX5_exists_89 rfl ?_
      refine m_getR hc (q := 171) yO_161 rfl tbX5 3 (by decide) wf_X5_28 rfl dX5_exists_90 ?_
      refine m_iconst hc (v := 0) dX5_exists_93 (by decide) ?_
      obtain ⟨b_78, h⟩ := ck_o h
      refine m_jald hc yJ_171 b_78 (tOn_d _ (ib_lt b_78)) dX5_exists_94 ?_
      obtain ⟨q_79, c_80, h⟩ := bd_o h
      refine m_callSi hc (c_X5_bestOf (d + 3) (jAr_d _ (ib_lt b_77)) (jOn_d _ (ib_lt b_78)) c_80) (by omega) (by decide) wm_X5_117 wt_X5_bestOf wv_X5_bestOf wc_X5_bestOf wz_X5_bestOf rfl (st := [.ref (gR G 161)]) rfl rfl (Nat.le_of_ble_eq_true rfl) dX5_exists_95 ?_
      refine m_putI hc yO_161 rfl tbX5 tyX5 tyX5_ok nmX5 15 (by decide) wf_X5_69 rfl rfl rfl rfl dX5_exists_98 ?_
      refine m_topM (fun M_81 e_82 => ?_)
      replace h := nm_x e_82 h
      refine m_aload_n hc dX5_exists_101 rfl ?_
      refine m_getI hc yO_161 rfl tbX5 15 (by decide) wf_X5_69 rfl dX5_exists_102 ?_
      refine m_ldc hc dX5_exists_105 wk_X5_68 ?_
      obtain ⟨q_86, c_87, h⟩ := bd_o h
      have J_88 : WM G X (qQ G X (some (.int r.1)) r.2) q_86 114 [some (.ref (gR G 161)), none] [] := by
        refine m_aload_n hc dX5_exists_114 rfl ?_
        refine m_iconst hc (v := 1) dX5_exists_115 (by decide) ?_
        refine m_putI hc yO_161 rfl tbX5 tyX5 tyX5_ok nmX5 14 (by decide) wf_X5_64 rfl rfl rfl rfl dX5_exists_116 ?_
        refine m_topM (fun M_92 e_93 => ?_)
        replace h := nm_x e_93 h
        cases h
        exact m_fg [] rfl J_48
      replace h := c_87
      refine m_icge hc (tgt := 114) dX5_exists_107 (by decide) (fun b_89 => ?_) (fun b_89 => ?_)
      · replace h := (if_pos b_89).symm.trans h
        cases h
        exact m_fg [] rfl J_88
      · replace h := (if_neg b_89).symm.trans h
        refine m_aload_n hc dX5_exists_110 rfl ?_
        obtain ⟨q_90, c_91, h⟩ := bd_o h
        refine m_callVv hc yO_161 rfl (c_X5_trace (d + 0) c_91) (by omega) (by decide) wm_X5_121 wi_X5_trace we_X5_trace wn_X5 wc_X5_trace wy_X5_trace rfl (st := []) rfl rfl (Nat.le_of_ble_eq_true rfl) dX5_exists_111 ?_
        cases h
        exact m_fg [] rfl J_88
    have L_57 : ∀ (n_59 : Nat) (x1_52 : Int32) (M_53 : Mm), L_X5_exists_24 n_59 x1_52 M_53 = some q_54 → WM G X (qQ G X (some (.int r.1)) r.2) M_53 24 [some (.ref (gR G 161)), some (.int x1_52)] [] := by
      intro n_59
      induction n_59 with
      | zero =>
        intro x1_52 M_53 h
        cases (show none = some _ from h)
      | succ n_59 i_60 =>
        intro x1_52 M_53 h
        rw [L_X5_exists_24] at h
        refine m_iload_n hc dX5_exists_24 rfl ?_
        refine m_iflt hc (tgt := 72) dX5_exists_25 (by decide) (fun b_61 => ?_) (fun b_61 => ?_)
        · replace h := (if_pos b_61).symm.trans h
          cases h
          exact m_fg [1] rfl J_56
        · replace h := (if_neg b_61).symm.trans h
          refine m_aload_n hc dX5_exists_28 rfl ?_
          refine m_getR hc (q := 162) yO_161 rfl tbX5 2 (by decide) wf_X5_22 rfl dX5_exists_29 ?_
          refine m_aload_n hc dX5_exists_32 rfl ?_
          refine m_getR hc (q := 3) yO_161 rfl tbX5 1 (by decide) wf_X5_15 rfl dX5_exists_33 ?_
          refine m_iload_n hc dX5_exists_36 rfl ?_
          obtain ⟨q_62, c_63, h⟩ := bd_o h
          refine m_callVv hc yO_162 rfl (c_X0_read (d + 2) kC_162 kP_3lit c_63) (by omega) (by decide) wm_X5_101 wi_X0_read we_X0_read wn_X0 wc_X0_read wy_X0_read rfl (st := []) rfl rfl (Nat.le_of_ble_eq_true rfl) dX5_exists_37 ?_
          refine m_aload_n hc dX5_exists_40 rfl ?_
          refine m_iload_n hc dX5_exists_41 rfl ?_
          refine m_aload_n hc dX5_exists_42 rfl ?_
          refine m_getR hc (q := 171) yO_161 rfl tbX5 3 (by decide) wf_X5_28 rfl dX5_exists_43 ?_
          refine m_iload_n hc dX5_exists_46 rfl ?_
          obtain ⟨b_64, h⟩ := ck_o h
          refine m_jald hc yJ_171 b_64 (tOn_d _ (ib_lt b_64)) dX5_exists_47 ?_
          obtain ⟨q_65, c_66, h⟩ := bd_o h
          refine m_callVv hc yO_161 rfl (c_X5_fillOnward (d + 0) (jOn_d _ (ib_lt b_64)) c_66) (by omega) (by decide) wm_X5_105 wi_X5_fillOnward we_X5_fillOnward wn_X5 wc_X5_fillOnward wy_X5_fillOnward rfl (st := []) rfl rfl (Nat.le_of_ble_eq_true rfl) dX5_exists_48 ?_
          refine m_aload_n hc dX5_exists_51 rfl ?_
          refine m_getR hc (q := 184) yO_161 rfl tbX5 4 (by decide) wf_X5_31 rfl dX5_exists_52 ?_
          refine m_iload_n hc dX5_exists_55 rfl ?_
          refine m_aload_n hc dX5_exists_56 rfl ?_
          refine m_getR hc (q := 171) yO_161 rfl tbX5 3 (by decide) wf_X5_28 rfl dX5_exists_57 ?_
          refine m_iload_n hc dX5_exists_60 rfl ?_
          obtain ⟨b_67, h⟩ := ck_o h
          refine m_jald hc yJ_171 b_67 (tOn_d _ (ib_lt b_67)) dX5_exists_61 ?_
          obtain ⟨q_68, c_69, h⟩ := bd_o h
          refine m_callSi hc (c_X5_isEven (d + 4) (jOn_d _ (ib_lt b_67)) c_69) (by omega) (by decide) wm_X5_109 wt_X5_isEven wv_X5_isEven wc_X5_isEven wz_X5_isEven rfl (st := [.int x1_52, .ref (gR G 184)]) rfl rfl (Nat.le_of_ble_eq_true rfl) dX5_exists_62 ?_
          obtain ⟨b_70, h⟩ := ck_o h
          refine m_zast hc yB_184 b_70 dX5_exists_65 ?_
          refine m_topM (fun M_71 e_72 => ?_)
          replace h := nm_x e_72 h
          refine m_iinc hc (v := x1_52 + (-1)) (lv' := [some (.ref (gR G 161)), some (.int (x1_52 + (-1)))]) dX5_exists_66 rfl rfl rfl rfl ?_
          refine m_goto hc (tgt := 24) dX5_exists_69 (by decide) ?_
          exact m_fg [] rfl (i_60 _ _ h)
    exact m_fg [] rfl (L_57 _ _ _ c_55)
def f_X6_moves (M : Mm) : Option (Int32 × Mm) :=
 Option.bind (f_X5_exists M) (fun q_1 =>
 if q_1.1 = 0 then (
 nm (f_X6_finding (-100006 : Int32) q_1.2) (fun q_4 =>
 some (q_4.1, q_4.2)))
else (
 some ((f_X5_cost q_1.2), q_1.2)))
set_option maxRecDepth 100000 in
set_option maxHeartbeats 4000000 in
theorem c_X6_moves {G : Gm} {l : Launch} (d : Nat) {M : Mm} {r : Int32 × Mm}  (h : f_X6_moves M = some r) : Cm G l (d + 6) yX6_moves cX6_moves 1 (some .int) [.ref (gR G 0)] M (some (.int r.1)) r.2 := by
  unfold f_X6_moves at h
  refine m_met (lv := [some (.ref (gR G 0))]) (own := RX6) (by decide +kernel) rfl rfl (Nat.le_of_ble_eq_true rfl) rfl ?_
  intro X hX hc hr
  subst hX
  refine m_aload_n hc dX6_moves_0 rfl ?_
  refine m_getR hc (q := 161) yO_0 rfl tbX6 4 (by decide) wf_X6_42 rfl dX6_moves_1 ?_
  obtain ⟨q_1, c_2, h⟩ := bd_o h
  refine m_callVi hc yO_161 rfl (c_X5_exists (d + 0) c_2) (by omega) (by decide) wm_X6_163 wi_X5_exists we_X5_exists wn_X5 wc_X5_exists wy_X5_exists rfl (st := []) rfl rfl (Nat.le_of_ble_eq_true rfl) dX6_moves_4 ?_
  refine m_ifeq hc (tgt := 20) dX6_moves_7 (by decide) (fun b_3 => ?_) (fun b_3 => ?_)
  · replace h := (if_pos b_3).symm.trans h
    refine m_aload_n hc dX6_moves_20 rfl ?_
    refine m_ldc hc dX6_moves_21 wk_X6_92 ?_
    obtain ⟨q_4, c_5, h⟩ := nm_o h
    refine m_callVi hc yO_0 rfl (c_X6_finding (d + 5) c_5) (by omega) (by decide) wm_X6_58 wi_X6_finding we_X6_finding wn_X6 wc_X6_finding wy_X6_finding rfl (st := []) rfl rfl (Nat.le_of_ble_eq_true rfl) dX6_moves_23 ?_
    cases h
    exact m_iret hc hr dX6_moves_26
  · replace h := (if_neg b_3).symm.trans h
    refine m_aload_n hc dX6_moves_10 rfl ?_
    refine m_getR hc (q := 161) yO_0 rfl tbX6 4 (by decide) wf_X6_42 rfl dX6_moves_11 ?_
    refine m_callVi hc yO_161 rfl (c_X5_cost (d + 5) rfl) (by omega) (by decide) wm_X6_167 wi_X5_cost we_X5_cost wn_X5 wc_X5_cost wy_X5_cost rfl (st := []) rfl rfl (Nat.le_of_ble_eq_true rfl) dX6_moves_14 ?_
    refine m_goto hc (tgt := 26) dX6_moves_17 (by decide) ?_
    cases h
    exact m_iret hc hr dX6_moves_26
def f_X6_isPlayed (x1 : Int32) (M : Mm) : Int32 :=
 if x1 < 0 then (
 (0 : Int32))
else (
 if (M 3 0) ≤ x1 then (
 (0 : Int32))
else (
 (1 : Int32)))
set_option maxRecDepth 100000 in
set_option maxHeartbeats 4000000 in
theorem c_X6_isPlayed {G : Gm} {l : Launch} (d : Nat) {x1 : Int32} {M : Mm} {r : Int32}  (h : f_X6_isPlayed x1 M = r) : Cm G l (d + 0) yX6_isPlayed cX6_isPlayed 2 (some .boolean) [.ref (gR G 0), .int x1] M (some (.int r)) M := by
  unfold f_X6_isPlayed at h
  refine m_met (lv := [some (.ref (gR G 0)), some (.int x1)]) (own := RX6) (by decide +kernel) rfl rfl (Nat.le_of_ble_eq_true rfl) rfl ?_
  intro X hX hc hr
  subst hX
  refine m_iload_n hc dX6_isPlayed_0 rfl ?_
  refine m_iflt hc (tgt := 19) dX6_isPlayed_1 (by decide) (fun b_1 => ?_) (fun b_1 => ?_)
  · replace h := (if_pos b_1).symm.trans h
    refine m_iconst hc (v := 0) dX6_isPlayed_19 (by decide) ?_
    subst h
    exact m_zret hc hr (v := (0 : Int32)) (by decide) dX6_isPlayed_20
  · replace h := (if_neg b_1).symm.trans h
    refine m_iload_n hc dX6_isPlayed_4 rfl ?_
    refine m_aload_n hc dX6_isPlayed_5 rfl ?_
    refine m_getR hc (q := 3) yO_0 rfl tbX6 1 (by decide) wf_X6_19 rfl dX6_isPlayed_6 ?_
    refine m_getI hc yO_3 rfl tbX3 0 (by decide) wf_X6_66 rfl dX6_isPlayed_9 ?_
    refine m_icge hc (tgt := 19) dX6_isPlayed_12 (by decide) (fun b_2 => ?_) (fun b_2 => ?_)
    · replace h := (if_pos b_2).symm.trans h
      refine m_iconst hc (v := 0) dX6_isPlayed_19 (by decide) ?_
      subst h
      exact m_zret hc hr (v := (0 : Int32)) (by decide) dX6_isPlayed_20
    · replace h := (if_neg b_2).symm.trans h
      refine m_iconst hc (v := 1) dX6_isPlayed_15 (by decide) ?_
      refine m_goto hc (tgt := 20) dX6_isPlayed_16 (by decide) ?_
      subst h
      exact m_zret hc hr (v := (1 : Int32)) (by decide) dX6_isPlayed_20
def f_X6_diagram (x1 : Int32) (M : Mm) : Option (Int32 × Mm) :=
 if (f_X6_isPlayed x1 M) = 0 then (
 nm (f_X6_finding (-100001 : Int32) M) (fun q_8 =>
 some (q_8.1, q_8.2)))
else (
 Option.bind (f_X5_exists M) (fun q_2 =>
 if q_2.1 = 0 then (
 nm (f_X6_finding (-100006 : Int32) q_2.2) (fun q_5 =>
 some (q_5.1, q_5.2)))
else (
 ck (ib x1 12) (
 some ((q_2.2 203 x1.toNatClampNeg), q_2.2)))))
set_option maxRecDepth 100000 in
set_option maxHeartbeats 4000000 in
theorem c_X6_diagram {G : Gm} {l : Launch} (d : Nat) {x1 : Int32} {M : Mm} {r : Int32 × Mm}  (h : f_X6_diagram x1 M = some r) : Cm G l (d + 6) yX6_diagram cX6_diagram 2 (some .int) [.ref (gR G 0), .int x1] M (some (.int r.1)) r.2 := by
  unfold f_X6_diagram at h
  refine m_met (lv := [some (.ref (gR G 0)), some (.int x1)]) (own := RX6) (by decide +kernel) rfl rfl (Nat.le_of_ble_eq_true rfl) rfl ?_
  intro X hX hc hr
  subst hX
  refine m_aload_n hc dX6_diagram_0 rfl ?_
  refine m_iload_n hc dX6_diagram_1 rfl ?_
  refine m_callVi hc yO_0 rfl (c_X6_isPlayed (d + 5) rfl) (by omega) (by decide) wm_X6_170 wi_X6_isPlayed we_X6_isPlayed wn_X6 wc_X6_isPlayed wy_X6_isPlayed rfl (st := []) rfl rfl (Nat.le_of_ble_eq_true rfl) dX6_diagram_2 ?_
  refine m_ifne hc (tgt := 15) dX6_diagram_5 (by decide) (fun b_1 => ?_) (fun b_1 => ?_)
  · replace h := (if_neg b_1).symm.trans h
    refine m_aload_n hc dX6_diagram_15 rfl ?_
    refine m_getR hc (q := 161) yO_0 rfl tbX6 4 (by decide) wf_X6_42 rfl dX6_diagram_16 ?_
    obtain ⟨q_2, c_3, h⟩ := bd_o h
    refine m_callVi hc yO_161 rfl (c_X5_exists (d + 0) c_3) (by omega) (by decide) wm_X6_163 wi_X5_exists we_X5_exists wn_X5 wc_X5_exists wy_X5_exists rfl (st := []) rfl rfl (Nat.le_of_ble_eq_true rfl) dX6_diagram_19 ?_
    refine m_ifeq hc (tgt := 37) dX6_diagram_22 (by decide) (fun b_4 => ?_) (fun b_4 => ?_)
    · replace h := (if_pos b_4).symm.trans h
      refine m_aload_n hc dX6_diagram_37 rfl ?_
      refine m_ldc hc dX6_diagram_38 wk_X6_92 ?_
      obtain ⟨q_5, c_6, h⟩ := nm_o h
      refine m_callVi hc yO_0 rfl (c_X6_finding (d + 5) c_6) (by omega) (by decide) wm_X6_58 wi_X6_finding we_X6_finding wn_X6 wc_X6_finding wy_X6_finding rfl (st := []) rfl rfl (Nat.le_of_ble_eq_true rfl) dX6_diagram_40 ?_
      cases h
      exact m_iret hc hr dX6_diagram_43
    · replace h := (if_neg b_4).symm.trans h
      refine m_aload_n hc dX6_diagram_25 rfl ?_
      refine m_getR hc (q := 161) yO_0 rfl tbX6 4 (by decide) wf_X6_42 rfl dX6_diagram_26 ?_
      refine m_getR hc (q := 203) yO_161 rfl tbX5 11 (by decide) wf_X6_173 rfl dX6_diagram_29 ?_
      refine m_iload_n hc dX6_diagram_32 rfl ?_
      obtain ⟨b_7, h⟩ := ck_o h
      refine m_iald hc yA_203 b_7 dX6_diagram_33 ?_
      refine m_goto hc (tgt := 43) dX6_diagram_34 (by decide) ?_
      cases h
      exact m_iret hc hr dX6_diagram_43
  · replace h := (if_pos b_1).symm.trans h
    refine m_aload_n hc dX6_diagram_8 rfl ?_
    refine m_ldc hc dX6_diagram_9 wk_X6_57 ?_
    obtain ⟨q_8, c_9, h⟩ := nm_o h
    refine m_callVi hc yO_0 rfl (c_X6_finding (d + 5) c_9) (by omega) (by decide) wm_X6_58 wi_X6_finding we_X6_finding wn_X6 wc_X6_finding wy_X6_finding rfl (st := []) rfl rfl (Nat.le_of_ble_eq_true rfl) dX6_diagram_11 ?_
    cases h
    exact m_iret hc hr dX6_diagram_14
