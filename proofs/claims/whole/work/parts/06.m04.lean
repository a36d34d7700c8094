def f_X5_fillOnward (x1 : Int32) (a2 : Nat) (M : Mm) : Option (Mm) :=
 Option.bind (
 if x1 < ((M 3 0) - (1 : Int32)) then (
 ck (ib (x1 + (1 : Int32)) 12) (
 if (M 184 (x1 + (1 : Int32)).toNatClampNeg) = 0 then (
 Option.bind (f_X0_isSilent 162 M) (fun q_27 =>
 if q_27 = 0 then (
 ck (ib (x1 + (1 : Int32)) 12) (
 Option.bind (f_X5_fillLockedOnward (172 + (x1 + (1 : Int32)).toNatClampNeg) a2 M) (fun q_31 =>
 some q_31)))
else (
 ck (ib (x1 + (1 : Int32)) 12) (
 Option.bind (f_X5_spread (172 + (x1 + (1 : Int32)).toNatClampNeg) (60 : Int32) 200 M) (fun q_34 =>
 Option.bind (f_X5_spread 200 (67 : Int32) a2 q_34) (fun q_36 =>
 some q_36))))))
else (
 ck (ib (x1 + (1 : Int32)) 12) (
 ck (cpo (0 : Int32) (0 : Int32) (2187 : Int32) 2187 2187) (
 nm (mu M a2 (cpy (M (172 + (x1 + (1 : Int32)).toNatClampNeg)) (M a2) (0 : Int32) (0 : Int32) (2187 : Int32))) (fun M_40 =>
 some M_40))))))
else (
 Option.bind (f_J7_fill_53178 2187 a2 (1 : Int32) M) (fun q_42 =>
 some q_42))) (fun q_21 =>
 Option.bind (f_X5_dropUnfit a2 q_21) (fun q_44 =>
 some q_44))
set_option maxRecDepth 100000 in
set_option maxHeartbeats 4000000 in
theorem c_X5_fillOnward {G : Gm} {l : Launch} (d : Nat) {x1 : Int32} {a2 : Nat} {M : Mm} {r : Mm} (h2 : isA a2 2187) (h : f_X5_fillOnward x1 a2 M = some r) : Cm G l (d + 4) yX5_fillOnward cX5_fillOnward 3 none [.ref (gR G 161), .int x1, .ref (gR G a2)] M none r := by
  unfold f_X5_fillOnward at h
  refine m_met (lv := [some (.ref (gR G 161)), some (.int x1), some (.ref (gR G a2))]) (own := RX5) (by decide +kernel) rfl rfl (Nat.le_of_ble_eq_true rfl) rfl ?_
  intro X hX hc hr
  subst hX
  refine m_iload_n hc dX5_fillOnward_0 rfl ?_
  refine m_aload_n hc dX5_fillOnward_1 rfl ?_
  refine m_getR hc (q := 3) yO_161 rfl tbX5 1 (by decide) wf_X5_15 rfl dX5_fillOnward_2 ?_
  refine m_getI hc yO_3 rfl tbX3 0 (by decide) wf_X5_93 rfl dX5_fillOnward_5 ?_
  refine m_iconst hc (v := 1) dX5_fillOnward_8 (by decide) ?_
  refine m_isub hc dX5_fillOnward_9 ?_
  obtain ⟨q_21, c_22, h⟩ := bd_o h
  have J_23 : WM G X (qQ G X none r) q_21 105 [some (.ref (gR G 161)), some (.int x1), some (.ref (gR G a2))] [] := by
    refine m_aload_n hc dX5_fillOnward_105 rfl ?_
    refine m_aload_n hc dX5_fillOnward_106 rfl ?_
    obtain ⟨q_44, c_45, h⟩ := bd_o h
    refine m_callVv hc yO_161 rfl (c_X5_dropUnfit (d + 0) h2 c_45) (by omega) (by decide) wm_X5_181 wi_X5_dropUnfit we_X5_dropUnfit wn_X5 wc_X5_dropUnfit wy_X5_dropUnfit rfl (st := []) rfl rfl (Nat.le_of_ble_eq_true rfl) dX5_fillOnward_107 ?_
    cases h
    exact m_vret hc hr dX5_fillOnward_110
  replace h := c_22
  refine m_iclt hc (tgt := 21) dX5_fillOnward_10 (by decide) (fun b_24 => ?_) (fun b_24 => ?_)
  · replace h := (if_pos b_24).symm.trans h
    refine m_aload_n hc dX5_fillOnward_21 rfl ?_
    refine m_getR hc (q := 184) yO_161 rfl tbX5 4 (by decide) wf_X5_31 rfl dX5_fillOnward_22 ?_
    refine m_iload_n hc dX5_fillOnward_25 rfl ?_
    refine m_iconst hc (v := 1) dX5_fillOnward_26 (by decide) ?_
    refine m_iadd hc dX5_fillOnward_27 ?_
    obtain ⟨b_25, h⟩ := ck_o h
    refine m_zald hc yB_184 b_25 dX5_fillOnward_28 ?_
    refine m_ifeq hc (tgt := 52) dX5_fillOnward_29 (by decide) (fun b_26 => ?_) (fun b_26 => ?_)
    · replace h := (if_pos b_26).symm.trans h
      refine m_aload_n hc dX5_fillOnward_52 rfl ?_
      refine m_getR hc (q := 162) yO_161 rfl tbX5 2 (by decide) wf_X5_22 rfl dX5_fillOnward_53 ?_
      obtain ⟨q_27, c_28, h⟩ := bd_o h
      refine m_callVi hc yO_162 rfl (c_X0_isSilent (d + 3) kC_162 c_28) (by omega) (by decide) wm_X5_169 wi_X0_isSilent we_X0_isSilent wn_X0 wc_X0_isSilent wy_X0_isSilent rfl (st := []) rfl rfl (Nat.le_of_ble_eq_true rfl) dX5_fillOnward_56 ?_
      refine m_ifeq hc (tgt := 92) dX5_fillOnward_59 (by decide) (fun b_29 => ?_) (fun b_29 => ?_)
      · replace h := (if_pos b_29).symm.trans h
        refine m_aload_n hc dX5_fillOnward_92 rfl ?_
        refine m_aload_n hc dX5_fillOnward_93 rfl ?_
        refine m_getR hc (q := 171) yO_161 rfl tbX5 3 (by decide) wf_X5_28 rfl dX5_fillOnward_94 ?_
        refine m_iload_n hc dX5_fillOnward_97 rfl ?_
        refine m_iconst hc (v := 1) dX5_fillOnward_98 (by decide) ?_
        refine m_iadd hc dX5_fillOnward_99 ?_
        obtain ⟨b_30, h⟩ := ck_o h
        refine m_jald hc yJ_171 b_30 (tOn_d _ (ib_lt b_30)) dX5_fillOnward_100 ?_
        refine m_aload_n hc dX5_fillOnward_101 rfl ?_
        obtain ⟨q_31, c_32, h⟩ := bd_o h
        refine m_callVv hc yO_161 rfl (c_X5_fillLockedOnward (d + 0) (jOn_d _ (ib_lt b_30)) h2 c_32) (by omega) (by decide) wm_X5_177 wi_X5_fillLockedOnward we_X5_fillLockedOnward wn_X5 wc_X5_fillLockedOnward wy_X5_fillLockedOnward rfl (st := []) rfl rfl (Nat.le_of_ble_eq_true rfl) dX5_fillOnward_102 ?_
        cases h
        exact m_fg [] rfl J_23
      · replace h := (if_neg b_29).symm.trans h
        refine m_aload_n hc dX5_fillOnward_62 rfl ?_
        refine m_getR hc (q := 171) yO_161 rfl tbX5 3 (by decide) wf_X5_28 rfl dX5_fillOnward_63 ?_
        refine m_iload_n hc dX5_fillOnward_66 rfl ?_
        refine m_iconst hc (v := 1) dX5_fillOnward_67 (by decide) ?_
        refine m_iadd hc dX5_fillOnward_68 ?_
        obtain ⟨b_33, h⟩ := ck_o h
        refine m_jald hc yJ_171 b_33 (tOn_d _ (ib_lt b_33)) dX5_fillOnward_69 ?_
        refine m_bipush hc (v := (60 : Int32)) dX5_fillOnward_70 (by decide) ?_
        refine m_aload_n hc dX5_fillOnward_72 rfl ?_
        refine m_getR hc (q := 200) yO_161 rfl tbX5 8 (by decide) wf_X5_45 rfl dX5_fillOnward_73 ?_
        obtain ⟨q_34, c_35, h⟩ := bd_o h
        refine m_callSv hc (c_X5_spread (d + 1) (jOn_d _ (ib_lt b_33)) yA_200 c_35) (by omega) (by decide) wm_X5_173 wt_X5_spread wv_X5_spread wc_X5_spread wz_X5_spread rfl (st := []) rfl rfl (Nat.le_of_ble_eq_true rfl) dX5_fillOnward_76 ?_
        refine m_aload_n hc dX5_fillOnward_79 rfl ?_
        refine m_getR hc (q := 200) yO_161 rfl tbX5 8 (by decide) wf_X5_45 rfl dX5_fillOnward_80 ?_
        refine m_bipush hc (v := (67 : Int32)) dX5_fillOnward_83 (by decide) ?_
        refine m_aload_n hc dX5_fillOnward_85 rfl ?_
        obtain ⟨q_36, c_37, h⟩ := bd_o h
        refine m_callSv hc (c_X5_spread (d + 1) yA_200 h2 c_37) (by omega) (by decide) wm_X5_173 wt_X5_spread wv_X5_spread wc_X5_spread wz_X5_spread rfl (st := []) rfl rfl (Nat.le_of_ble_eq_true rfl) dX5_fillOnward_86 ?_
        refine m_goto hc (tgt := 105) dX5_fillOnward_89 (by decide) ?_
        cases h
        exact m_fg [] rfl J_23
    · replace h := (if_neg b_26).symm.trans h
      refine m_aload_n hc dX5_fillOnward_32 rfl ?_
      refine m_getR hc (q := 171) yO_161 rfl tbX5 3 (by decide) wf_X5_28 rfl dX5_fillOnward_33 ?_
      refine m_iload_n hc dX5_fillOnward_36 rfl ?_
      refine m_iconst hc (v := 1) dX5_fillOnward_37 (by decide) ?_
      refine m_iadd hc dX5_fillOnward_38 ?_
      obtain ⟨b_38, h⟩ := ck_o h
      refine m_jald hc yJ_171 b_38 (tOn_d _ (ib_lt b_38)) dX5_fillOnward_39 ?_
      refine m_iconst hc (v := 0) dX5_fillOnward_40 (by decide) ?_
      refine m_aload_n hc dX5_fillOnward_41 rfl ?_
      refine m_iconst hc (v := 0) dX5_fillOnward_42 (by decide) ?_
      refine m_sipush hc (v := (2187 : Int32)) dX5_fillOnward_43 (by decide) ?_
      obtain ⟨b_39, h⟩ := ck_o h
      refine m_acpy hc (by omega) (jOn_d _ (ib_lt b_38)) h2 wm_X5_163 wa_nat wa_sta wa_ini b_39.1 b_39.2.1 b_39.2.2.1 b_39.2.2.2.1 b_39.2.2.2.2 rfl (st := []) (Nat.le_of_ble_eq_true rfl) dX5_fillOnward_46 ?_
      refine m_topM (fun M_40 e_41 => ?_)
      replace h := nm_x e_41 h
      refine m_goto hc (tgt := 105) dX5_fillOnward_49 (by decide) ?_
      cases h
      exact m_fg [] rfl J_23
  · replace h := (if_neg b_24).symm.trans h
    refine m_aload_n hc dX5_fillOnward_13 rfl ?_
    refine m_iconst hc (v := 1) dX5_fillOnward_14 (by decide) ?_
    obtain ⟨q_42, c_43, h⟩ := bd_o h
    refine m_callSv hc (c_J7_fill_53178 (d + 3) h2 c_43) (by omega) (by decide) wm_X5_157 wt_J7_fill_53178 wv_J7_fill_53178 wc_J7_fill_53178 wz_J7_fill_53178 rfl (st := []) rfl rfl (Nat.le_of_ble_eq_true rfl) dX5_fillOnward_15 ?_
    refine m_goto hc (tgt := 105) dX5_fillOnward_18 (by decide) ?_
    cases h
    exact m_fg [] rfl J_23
def L_X5_isEven_2 (a0 : Nat) (M : Mm) : Nat → Int32 → Option ((Unit) ⊕ (Int32))
  | 0, _ => none
  | n_7 + 1, x1_1 =>
    if (2187 : Int32) ≤ x1_1 then (
     some (.inl ()))
    else (
     ck (ib x1_1 2187) (
     ck (ib (0 : Int32) 2187) (
     if ((M a0 x1_1.toNatClampNeg) >>> ((20 : Int32) &&& 31)) = ((M a0 (0 : Int32).toNatClampNeg) >>> ((20 : Int32) &&& 31)) then (
     L_X5_isEven_2 a0 M n_7 (x1_1 + 1))
    else (
     some (.inr (0 : Int32))))))
def f_X5_isEven (a0 : Nat) (M : Mm) : Option (Int32) :=
 Option.bind (L_X5_isEven_2 a0 M FU (1 : Int32)) (fun q_2 => Sum.elim (fun w_9 =>
 some (1 : Int32)) (fun r => some r) q_2)
set_option maxRecDepth 100000 in
set_option maxHeartbeats 4000000 in
theorem c_X5_isEven {G : Gm} {l : Launch} (d : Nat) {a0 : Nat} {M : Mm} {r : Int32} (h0 : isA a0 2187) (h : f_X5_isEven a0 M = some r) : Cm G l (d + 0) yX5_isEven cX5_isEven 2 (some .boolean) [.ref (gR G a0)] M (some (.int r)) M := by
  unfold f_X5_isEven at h
  refine m_met (lv := [some (.ref (gR G a0)), none]) (own := RX5) (by decide +kernel) rfl rfl (Nat.le_of_ble_eq_true rfl) rfl ?_
  intro X hX hc hr
  subst hX
  refine m_iconst hc (v := 1) dX5_isEven_0 (by decide) ?_
  refine m_istore_n hc (lv' := [some (.ref (gR G a0)), some (.int (1 : Int32))]) dX5_isEven_1 (Nat.le_of_ble_eq_true rfl) rfl rfl ?_
  obtain ⟨q_2, c_3, g_6⟩ := bd_o h
  have J_4 : ∀ (w_9 : Unit), (some (1 : Int32)) = some r → WM G X (qQ G X (some (.int r)) M) M 32 [some (.ref (gR G a0)), none] [] := by
    intro w_9 h
    refine m_iconst hc (v := 1) dX5_isEven_32 (by decide) ?_
    cases h
    exact m_zret hc hr (v := (1 : Int32)) (by decide) dX5_isEven_33
  have L_5 : ∀ (n_7 : Nat) (x1_1 : Int32), L_X5_isEven_2 a0 M n_7 x1_1 = some q_2 → WM G X (qQ G X (some (.int r)) M) M 2 [some (.ref (gR G a0)), some (.int x1_1)] [] := by
    intro n_7
    induction n_7 with
    | zero =>
      intro x1_1 h
      cases (show none = some _ from h)
    | succ n_7 i_8 =>
      intro x1_1 h
      rw [L_X5_isEven_2] at h
      refine m_iload_n hc dX5_isEven_2 rfl ?_
      refine m_sipush hc (v := (2187 : Int32)) dX5_isEven_3 (by decide) ?_
      refine m_icge hc (tgt := 32) dX5_isEven_6 (by decide) (fun b_10 => ?_) (fun b_10 => ?_)
      · replace h := (if_pos b_10).symm.trans h
        cases h
        exact m_fg [1] rfl (J_4 () g_6)
      · replace h := (if_neg b_10).symm.trans h
        refine m_aload_n hc dX5_isEven_9 rfl ?_
        refine m_iload_n hc dX5_isEven_10 rfl ?_
        obtain ⟨b_11, h⟩ := ck_o h
        refine m_iald hc h0 b_11 dX5_isEven_11 ?_
        refine m_bipush hc (v := (20 : Int32)) dX5_isEven_12 (by decide) ?_
        refine m_ishr hc dX5_isEven_14 ?_
        refine m_aload_n hc dX5_isEven_15 rfl ?_
        refine m_iconst hc (v := 0) dX5_isEven_16 (by decide) ?_
        obtain ⟨b_12, h⟩ := ck_o h
        refine m_iald hc h0 b_12 dX5_isEven_17 ?_
        refine m_bipush hc (v := (20 : Int32)) dX5_isEven_18 (by decide) ?_
        refine m_ishr hc dX5_isEven_20 ?_
        refine m_iceq hc (tgt := 26) dX5_isEven_21 (by decide) (fun b_13 => ?_) (fun b_13 => ?_)
        · replace h := (if_pos b_13).symm.trans h
          refine m_iinc hc (v := x1_1 + 1) (lv' := [some (.ref (gR G a0)), some (.int (x1_1 + 1))]) dX5_isEven_26 rfl rfl rfl rfl ?_
          refine m_goto hc (tgt := 2) dX5_isEven_29 (by decide) ?_
          exact m_fg [] rfl (i_8 _ h)
        · replace h := (if_neg b_13).symm.trans h
          refine m_iconst hc (v := 0) dX5_isEven_24 (by decide) ?_
          cases h
          have g_6 : some (0 : Int32) = some r := g_6
          cases g_6
          exact m_zret hc hr (v := (0 : Int32)) (by decide) dX5_isEven_25
  exact m_fg [] rfl (L_5 _ _ c_3)
def L_X5_unlikeStart_4 (x1 : Int32) (M : Mm) : Nat → Int32 → Int32 → Option (Int32)
  | 0, _, _ => none
  | n_8 + 1, x2_1, x3_2 =>
    if (7 : Int32) ≤ x3_2 then (
     some x2_1)
    else (
     ck (ib x3_2 7) (
     nm ((M 9 x3_2.toNatClampNeg)) (fun x4_12 =>
     nm (
     if x4_12 < 0 then (
     x2_1)
    else (
     nm ((x2_1 ||| ((x1 ^^^ (x4_12 <<< (((2 : Int32) * x3_2) &&& 31))) &&& (f_X1_bitsOf x3_2)))) (fun x2_21 =>
     x2_21))) (fun q_17 =>
     L_X5_unlikeStart_4 x1 M n_8 q_17 (x3_2 + 1)))))
def f_X5_unlikeStart (x1 : Int32) (M : Mm) : Option (Int32) :=
 Option.bind (L_X5_unlikeStart_4 x1 M FU (0 : Int32) (0 : Int32)) (fun q_3 =>
 some q_3)
set_option maxRecDepth 100000 in
set_option maxHeartbeats 4000000 in
theorem c_X5_unlikeStart {G : Gm} {l : Launch} (d : Nat) {x1 : Int32} {M : Mm} {r : Int32}  (h : f_X5_unlikeStart x1 M = some r) : Cm G l (d + 1) yX5_unlikeStart cX5_unlikeStart 5 (some .int) [.ref (gR G 161), .int x1] M (some (.int r)) M := by
  unfold f_X5_unlikeStart at h
  refine m_met (lv := [some (.ref (gR G 161)), some (.int x1), none, none, none]) (own := RX5) (by decide +kernel) rfl rfl (Nat.le_of_ble_eq_true rfl) rfl ?_
  intro X hX hc hr
  subst hX
  refine m_iconst hc (v := 0) dX5_unlikeStart_0 (by decide) ?_
  refine m_istore_n hc (lv' := [some (.ref (gR G 161)), some (.int x1), some (.int (0 : Int32)), none, none]) dX5_unlikeStart_1 (Nat.le_of_ble_eq_true rfl) rfl rfl ?_
  refine m_iconst hc (v := 0) dX5_unlikeStart_2 (by decide) ?_
  refine m_istore_n hc (lv' := [some (.ref (gR G 161)), some (.int x1), some (.int (0 : Int32)), some (.int (0 : Int32)), none]) dX5_unlikeStart_3 (Nat.le_of_ble_eq_true rfl) rfl rfl ?_
  obtain ⟨q_3, c_4, h⟩ := bd_o h
  have J_5 : WM G X (qQ G X (some (.int r)) M) M 48 [some (.ref (gR G 161)), some (.int x1), some (.int q_3), none, none] [] := by
    refine m_iload_n hc dX5_unlikeStart_48 rfl ?_
    cases h
    exact m_iret hc hr dX5_unlikeStart_49
  have L_6 : ∀ (n_8 : Nat) (x2_1 : Int32) (x3_2 : Int32), L_X5_unlikeStart_4 x1 M n_8 x2_1 x3_2 = some q_3 → WM G X (qQ G X (some (.int r)) M) M 4 [some (.ref (gR G 161)), some (.int x1), some (.int x2_1), some (.int x3_2), none] [] := by
    intro n_8
    induction n_8 with
    | zero =>
      intro x2_1 x3_2 h
      cases (show none = some _ from h)
    | succ n_8 i_9 =>
      intro x2_1 x3_2 h
      rw [L_X5_unlikeStart_4] at h
      refine m_iload_n hc dX5_unlikeStart_4 rfl ?_
      refine m_bipush hc (v := (7 : Int32)) dX5_unlikeStart_5 (by decide) ?_
      refine m_icge hc (tgt := 48) dX5_unlikeStart_7 (by decide) (fun b_10 => ?_) (fun b_10 => ?_)
      · replace h := (if_pos b_10).symm.trans h
        cases h
        exact m_fg [3] rfl J_5
      · replace h := (if_neg b_10).symm.trans h
        refine m_aload_n hc dX5_unlikeStart_10 rfl ?_
        refine m_getR hc (q := 3) yO_161 rfl tbX5 1 (by decide) wf_X5_15 rfl dX5_unlikeStart_11 ?_
        refine m_getR hc (q := 9) yO_3 rfl tbX3 6 (by decide) wf_X5_217 rfl dX5_unlikeStart_14 ?_
        refine m_iload_n hc dX5_unlikeStart_17 rfl ?_
        obtain ⟨b_11, h⟩ := ck_o h
        refine m_iald hc yA_9 b_11 dX5_unlikeStart_18 ?_
        refine m_topI (fun x4_12 e_13 => ?_)
        replace h := nm_x e_13 h
        refine m_istore hc (lv' := [some (.ref (gR G 161)), some (.int x1), some (.int x2_1), some (.int x3_2), some (.int x4_12)]) dX5_unlikeStart_19 (Nat.le_of_ble_eq_true rfl) rfl rfl ?_
        refine m_iload hc dX5_unlikeStart_21 rfl ?_
        obtain ⟨q_17, c_18, h⟩ := nm_o h
        have J_19 : WM G X (qQ G X (some (.int r)) M) M 42 [some (.ref (gR G 161)), some (.int x1), some (.int q_17), some (.int x3_2), some (.int x4_12)] [] := by
          refine m_iinc hc (v := x3_2 + 1) (lv' := [some (.ref (gR G 161)), some (.int x1), some (.int q_17), some (.int (x3_2 + 1)), some (.int x4_12)]) dX5_unlikeStart_42 rfl rfl rfl rfl ?_
          refine m_goto hc (tgt := 4) dX5_unlikeStart_45 (by decide) ?_
          exact m_fg [4] rfl (i_9 _ _ h)
        replace h := c_18
        refine m_iflt hc (tgt := 42) dX5_unlikeStart_23 (by decide) (fun b_20 => ?_) (fun b_20 => ?_)
        · replace h := (if_pos b_20).symm.trans h
          subst h
          exact m_fg [] rfl J_19
        · replace h := (if_neg b_20).symm.trans h
          refine m_iload_n hc dX5_unlikeStart_26 rfl ?_
          refine m_iload_n hc dX5_unlikeStart_27 rfl ?_
          refine m_iload hc dX5_unlikeStart_28 rfl ?_
          refine m_iconst hc (v := 2) dX5_unlikeStart_30 (by decide) ?_
          refine m_iload_n hc dX5_unlikeStart_31 rfl ?_
          refine m_imul hc dX5_unlikeStart_32 ?_
          refine m_ishl hc dX5_unlikeStart_33 ?_
          refine m_ixor hc dX5_unlikeStart_34 ?_
          refine m_iload_n hc dX5_unlikeStart_35 rfl ?_
          refine m_callSi hc (c_X1_bitsOf (d + 0) rfl) (by omega) (by decide) wm_X5_220 wt_X1_bitsOf wv_X1_bitsOf wc_X1_bitsOf wz_X1_bitsOf rfl (st := [.int (x1 ^^^ (x4_12 <<< (((2 : Int32) * x3_2) &&& 31))), .int x2_1]) rfl rfl (Nat.le_of_ble_eq_true rfl) dX5_unlikeStart_36 ?_
          refine m_iand hc dX5_unlikeStart_39 ?_
          refine m_ior hc dX5_unlikeStart_40 ?_
          refine m_topI (fun x2_21 e_22 => ?_)
          replace h := nm_x e_22 h
          refine m_istore_n hc (lv' := [some (.ref (gR G 161)), some (.int x1), some (.int x2_21), some (.int x3_2), some (.int x4_12)]) dX5_unlikeStart_41 (Nat.le_of_ble_eq_true rfl) rfl rfl ?_
          subst h
          exact m_fg [] rfl J_19
  exact m_fg [] rfl (L_6 _ _ _ c_4)
def L_X5_fillFirstArrival_31 (q_12 : Int32) : Nat → Int32 → Int32 → Int32 → Option (Int32 × Int32)
  | 0, _, _, _ => none
  | n_22 + 1, x3_14, x4_15, x5_16 =>
    if (7 : Int32) ≤ x5_16 then (
     some (x3_14, x4_15))
    else (
     if q_12 = 0 then (
     some (x3_14, x4_15))
    else (
     nm (
     if (f_X1_standIn q_12 x5_16) = 0 then (
     (x3_14, x4_15))
    else (
     nm ((x3_14 + (((67 : Int32) >>> (x5_16 &&& 31)) &&& (1 : Int32)))) (fun x3_35 =>
     nm ((x4_15 + (((60 : Int32) >>> (x5_16 &&& 31)) &&& (1 : Int32)))) (fun x4_37 =>
     (x3_35, x4_37))))) (fun q_31 =>
     L_X5_fillFirstArrival_31 q_12 n_22 q_31.1 q_31.2 (x5_16 + 1))))
def L_X5_fillFirstArrival_2 : Nat → Int32 → Mm → Option (Mm)
  | 0, _, _ => none
  | n_8 + 1, x1_1, M_2 =>
    if (2187 : Int32) ≤ x1_1 then (
     some M_2)
    else (
     ck (ib x1_1 2187) (
     Option.bind (f_X5_unlikeStart (M_2 2 x1_1.toNatClampNeg) M_2) (fun q_12 =>
     Option.bind (L_X5_fillFirstArrival_31 q_12 FU (0 : Int32) (0 : Int32) (0 : Int32)) (fun q_17 =>
     ck (ib (0 : Int32) 12) (
     nm (
     if (1 : Int32) < q_17.1 then (
     (66060288 : Int32))
    else (
     if q_17.2 ≤ (1 : Int32) then (
     ((q_17.1 + q_17.2) * (1048576 : Int32)))
    else (
     (66060288 : Int32)))) (fun q_42 =>
     ck (ib x1_1 2187) (
     nm (mw M_2 (186 + (0 : Int32).toNatClampNeg) x1_1.toNatClampNeg q_42) (fun M_48 =>
     L_X5_fillFirstArrival_2 n_8 (x1_1 + 1) M_48))))))))
def f_X5_fillFirstArrival (M : Mm) : Option (Mm) :=
 Option.bind (L_X5_fillFirstArrival_2 FU (0 : Int32) M) (fun q_3 =>
 some q_3)
set_option maxRecDepth 100000 in
set_option maxHeartbeats 4000000 in
theorem c_X5_fillFirstArrival {G : Gm} {l : Launch} (d : Nat) {M : Mm} {r : Mm}  (h : f_X5_fillFirstArrival M = some r) : Cm G l (d + 2) yX5_fillFirstArrival cX5_fillFirstArrival 6 none [.ref (gR G 161)] M none r := by
  unfold f_X5_fillFirstArrival at h
  refine m_met (lv := [some (.ref (gR G 161)), none, none, none, none, none]) (own := RX5) (by decide +kernel) rfl rfl (Nat.le_of_ble_eq_true rfl) rfl ?_
  intro X hX hc hr
  subst hX
  refine m_iconst hc (v := 0) dX5_fillFirstArrival_0 (by decide) ?_
  refine m_istore_n hc (lv' := [some (.ref (gR G 161)), some (.int (0 : Int32)), none, none, none, none]) dX5_fillFirstArrival_1 (Nat.le_of_ble_eq_true rfl) rfl rfl ?_
  obtain ⟨q_3, c_4, h⟩ := bd_o h
  have J_5 : WM G X (qQ G X none r) q_3 116 [some (.ref (gR G 161)), none, none, none, none, none] [] := by
    cases h
    exact m_vret hc hr dX5_fillFirstArrival_116
  have L_6 : ∀ (n_8 : Nat) (x1_1 : Int32) (M_2 : Mm), L_X5_fillFirstArrival_2 n_8 x1_1 M_2 = some q_3 → WM G X (qQ G X none r) M_2 2 [some (.ref (gR G 161)), some (.int x1_1), none, none, none, none] [] := by
    intro n_8
    induction n_8 with
    | zero =>
      intro x1_1 M_2 h
      cases (show none = some _ from h)
    | succ n_8 i_9 =>
      intro x1_1 M_2 h
      rw [L_X5_fillFirstArrival_2] at h
      refine m_iload_n hc dX5_fillFirstArrival_2 rfl ?_
      refine m_sipush hc (v := (2187 : Int32)) dX5_fillFirstArrival_3 (by decide) ?_
      refine m_icge hc (tgt := 116) dX5_fillFirstArrival_6 (by decide) (fun b_10 => ?_) (fun b_10 => ?_)
      · replace h := (if_pos b_10).symm.trans h
        cases h
        exact m_fg [1] rfl J_5
      · replace h := (if_neg b_10).symm.trans h
        refine m_aload_n hc dX5_fillFirstArrival_9 rfl ?_
        refine m_aload_n hc dX5_fillFirstArrival_10 rfl ?_
        refine m_getR hc (q := 1) yO_161 rfl tbX5 0 (by decide) wf_X5_11 rfl dX5_fillFirstArrival_11 ?_
        refine m_getR hc (q := 2) yO_1 rfl tbX1 0 (by decide) wf_X5_125 rfl dX5_fillFirstArrival_14 ?_
        refine m_iload_n hc dX5_fillFirstArrival_17 rfl ?_
        obtain ⟨b_11, h⟩ := ck_o h
        refine m_iald hc yA_2 b_11 dX5_fillFirstArrival_18 ?_
        obtain ⟨q_12, c_13, h⟩ := bd_o h
        refine m_callVi hc yO_161 rfl (c_X5_unlikeStart (d + 0) c_13) (by omega) (by decide) wm_X5_130 wi_X5_unlikeStart we_X5_unlikeStart wn_X5 wc_X5_unlikeStart wy_X5_unlikeStart rfl (st := []) rfl rfl (Nat.le_of_ble_eq_true rfl) dX5_fillFirstArrival_19 ?_
        refine m_istore_n hc (lv' := [some (.ref (gR G 161)), some (.int x1_1), some (.int q_12), none, none, none]) dX5_fillFirstArrival_22 (Nat.le_of_ble_eq_true rfl) rfl rfl ?_
        refine m_iconst hc (v := 0) dX5_fillFirstArrival_23 (by decide) ?_
        refine m_istore_n hc (lv' := [some (.ref (gR G 161)), some (.int x1_1), some (.int q_12), some (.int (0 : Int32)), none, none]) dX5_fillFirstArrival_24 (Nat.le_of_ble_eq_true rfl) rfl rfl ?_
        refine m_iconst hc (v := 0) dX5_fillFirstArrival_25 (by decide) ?_
        refine m_istore hc (lv' := [some (.ref (gR G 161)), some (.int x1_1), some (.int q_12), some (.int (0 : Int32)), some (.int (0 : Int32)), none]) dX5_fillFirstArrival_26 (Nat.le_of_ble_eq_true rfl) rfl rfl ?_
        refine m_iconst hc (v := 0) dX5_fillFirstArrival_28 (by decide) ?_
        refine m_istore hc (lv' := [some (.ref (gR G 161)), some (.int x1_1), some (.int q_12), some (.int (0 : Int32)), some (.int (0 : Int32)), some (.int (0 : Int32))]) dX5_fillFirstArrival_29 (Nat.le_of_ble_eq_true rfl) rfl rfl ?_
        obtain ⟨q_17, c_18, h⟩ := bd_o h
        have J_19 : WM G X (qQ G X none r) M_2 79 [some (.ref (gR G 161)), some (.int x1_1), some (.int q_12), some (.int q_17.1), some (.int q_17.2), none] [] := by
          refine m_aload_n hc dX5_fillFirstArrival_79 rfl ?_
          refine m_getR hc (q := 185) yO_161 rfl tbX5 5 (by decide) wf_X5_35 rfl dX5_fillFirstArrival_80 ?_
          refine m_iconst hc (v := 0) dX5_fillFirstArrival_83 (by decide) ?_
          obtain ⟨b_39, h⟩ := ck_o h
          refine m_jald hc yJ_185 b_39 (tAr_d _ (ib_lt b_39)) dX5_fillFirstArrival_84 ?_
          refine m_iload_n hc dX5_fillFirstArrival_85 rfl ?_
          refine m_iload_n hc dX5_fillFirstArrival_86 rfl ?_
          refine m_iconst hc (v := 1) dX5_fillFirstArrival_87 (by decide) ?_
          obtain ⟨q_42, c_43, h⟩ := nm_o h
          have J_44 : WM G X (qQ G X none r) M_2 109 [some (.ref (gR G 161)), some (.int x1_1), some (.int q_12), some (.int q_17.1), some (.int q_17.2), none] [.int q_42, .int x1_1, .ref (gR G (186 + (0 : Int32).toNatClampNeg))] := by
            obtain ⟨b_47, h⟩ := ck_o h
            refine m_iast hc (jAr_d _ (ib_lt b_39)) b_47 dX5_fillFirstArrival_109 ?_
            refine m_topM (fun M_48 e_49 => ?_)
            replace h := nm_x e_49 h
            refine m_iinc hc (v := x1_1 + 1) (lv' := [some (.ref (gR G 161)), some (.int (x1_1 + 1)), some (.int q_12), some (.int q_17.1), some (.int q_17.2), none]) dX5_fillFirstArrival_110 rfl rfl rfl rfl ?_
            refine m_goto hc (tgt := 2) dX5_fillFirstArrival_113 (by decide) ?_
            exact m_fg [2, 3, 4] rfl (i_9 _ _ h)
          replace h := c_43
          refine m_icgt hc (tgt := 97) dX5_fillFirstArrival_88 (by decide) (fun b_45 => ?_) (fun b_45 => ?_)
          · replace h := (if_pos b_45).symm.trans h
            refine m_ldc hc dX5_fillFirstArrival_97 wk_X5_68 ?_
            refine m_goto hc (tgt := 109) dX5_fillFirstArrival_99 (by decide) ?_
            subst h
            exact m_fg [] rfl J_44
          · replace h := (if_neg b_45).symm.trans h
            refine m_iload hc dX5_fillFirstArrival_91 rfl ?_
            refine m_iconst hc (v := 1) dX5_fillFirstArrival_93 (by decide) ?_
            refine m_icle hc (tgt := 102) dX5_fillFirstArrival_94 (by decide) (fun b_46 => ?_) (fun b_46 => ?_)
            · replace h := (if_pos b_46).symm.trans h
              refine m_iload_n hc dX5_fillFirstArrival_102 rfl ?_
              refine m_iload hc dX5_fillFirstArrival_103 rfl ?_
              refine m_iadd hc dX5_fillFirstArrival_105 ?_
              refine m_ldc hc dX5_fillFirstArrival_106 wk_X5_154 ?_
              refine m_imul hc dX5_fillFirstArrival_108 ?_
              subst h
              exact m_fg [] rfl J_44
            · replace h := (if_neg b_46).symm.trans h
              refine m_ldc hc dX5_fillFirstArrival_97 wk_X5_68 ?_
              refine m_goto hc (tgt := 109) dX5_fillFirstArrival_99 (by decide) ?_
              subst h
              exact m_fg [] rfl J_44
        have L_20 : ∀ (n_22 : Nat) (x3_14 : Int32) (x4_15 : Int32) (x5_16 : Int32), L_X5_fillFirstArrival_31 q_12 n_22 x3_14 x4_15 x5_16 = some q_17 → WM G X (qQ G X none r) M_2 31 [some (.ref (gR G 161)), some (.int x1_1), some (.int q_12), some (.int x3_14), some (.int x4_15), some (.int x5_16)] [] := by
          intro n_22
          induction n_22 with
          | zero =>
            intro x3_14 x4_15 x5_16 h
            cases (show none = some _ from h)
          | succ n_22 i_23 =>
            intro x3_14 x4_15 x5_16 h
            rw [L_X5_fillFirstArrival_31] at h
            refine m_iload hc dX5_fillFirstArrival_31 rfl ?_
            refine m_bipush hc (v := (7 : Int32)) dX5_fillFirstArrival_33 (by decide) ?_
            refine m_icge hc (tgt := 79) dX5_fillFirstArrival_35 (by decide) (fun b_24 => ?_) (fun b_24 => ?_)
            · replace h := (if_pos b_24).symm.trans h
              cases h
              exact m_fg [5] rfl J_19
            · replace h := (if_neg b_24).symm.trans h
              refine m_iload_n hc dX5_fillFirstArrival_38 rfl ?_
              refine m_ifeq hc (tgt := 79) dX5_fillFirstArrival_39 (by decide) (fun b_25 => ?_) (fun b_25 => ?_)
              · replace h := (if_pos b_25).symm.trans h
                cases h
                exact m_fg [5] rfl J_19
              · replace h := (if_neg b_25).symm.trans h
                refine m_iload_n hc dX5_fillFirstArrival_42 rfl ?_
                refine m_iload hc dX5_fillFirstArrival_43 rfl ?_
                refine m_callSi hc (c_X1_standIn (d + 1) rfl) (by omega) (by decide) wm_X5_134 wt_X1_standIn wv_X1_standIn wc_X1_standIn wz_X1_standIn rfl (st := []) rfl rfl (Nat.le_of_ble_eq_true rfl) dX5_fillFirstArrival_45 ?_
                obtain ⟨q_31, c_32, h⟩ := nm_o h
                have J_33 : WM G X (qQ G X none r) M_2 73 [some (.ref (gR G 161)), some (.int x1_1), some (.int q_12), some (.int q_31.1), some (.int q_31.2), some (.int x5_16)] [] := by
                  refine m_iinc hc (v := x5_16 + 1) (lv' := [some (.ref (gR G 161)), some (.int x1_1), some (.int q_12), some (.int q_31.1), some (.int q_31.2), some (.int (x5_16 + 1))]) dX5_fillFirstArrival_73 rfl rfl rfl rfl ?_
                  refine m_goto hc (tgt := 31) dX5_fillFirstArrival_76 (by decide) ?_
                  exact m_fg [] rfl (i_23 _ _ _ h)
                replace h := c_32
                refine m_ifeq hc (tgt := 73) dX5_fillFirstArrival_48 (by decide) (fun b_34 => ?_) (fun b_34 => ?_)
                · replace h := (if_pos b_34).symm.trans h
                  subst h
                  exact m_fg [] rfl J_33
                · replace h := (if_neg b_34).symm.trans h
                  refine m_iload_n hc dX5_fillFirstArrival_51 rfl ?_
                  refine m_bipush hc (v := (67 : Int32)) dX5_fillFirstArrival_52 (by decide) ?_
                  refine m_iload hc dX5_fillFirstArrival_54 rfl ?_
                  refine m_ishr hc dX5_fillFirstArrival_56 ?_
                  refine m_iconst hc (v := 1) dX5_fillFirstArrival_57 (by decide) ?_
                  refine m_iand hc dX5_fillFirstArrival_58 ?_
                  refine m_iadd hc dX5_fillFirstArrival_59 ?_
                  refine m_topI (fun x3_35 e_36 => ?_)
                  replace h := nm_x e_36 h
                  refine m_istore_n hc (lv' := [some (.ref (gR G 161)), some (.int x1_1), some (.int q_12), some (.int x3_35), some (.int x4_15), some (.int x5_16)]) dX5_fillFirstArrival_60 (Nat.le_of_ble_eq_true rfl) rfl rfl ?_
                  refine m_iload hc dX5_fillFirstArrival_61 rfl ?_
                  refine m_bipush hc (v := (60 : Int32)) dX5_fillFirstArrival_63 (by decide) ?_
                  refine m_iload hc dX5_fillFirstArrival_65 rfl ?_
                  refine m_ishr hc dX5_fillFirstArrival_67 ?_
                  refine m_iconst hc (v := 1) dX5_fillFirstArrival_68 (by decide) ?_
                  refine m_iand hc dX5_fillFirstArrival_69 ?_
                  refine m_iadd hc dX5_fillFirstArrival_70 ?_
                  refine m_topI (fun x4_37 e_38 => ?_)
                  replace h := nm_x e_38 h
                  refine m_istore hc (lv' := [some (.ref (gR G 161)), some (.int x1_1), some (.int q_12), some (.int x3_35), some (.int x4_37), some (.int x5_16)]) dX5_fillFirstArrival_71 (Nat.le_of_ble_eq_true rfl) rfl rfl ?_
                  subst h
                  exact m_fg [] rfl J_33
        exact m_fg [] rfl (L_20 _ _ _ _ c_18)
  exact m_fg [] rfl (L_6 _ _ _ c_4)
def L_X5_bringByFoot_27 (x1 : Int32) (a4 : Nat) (q_1 : Int32 × Mm) : Nat → Int32 → Mm → Option (Mm)
  | 0, _, _ => none
  | n_14 + 1, x6_7, M_8 =>
    if q_1.1 ≤ x6_7 then (
     some M_8)
    else (
     ck (ib x6_7 21) (
     ck (ib x6_7 21) (
     ck (ib (M_8 202 x6_7.toNatClampNeg) 2187) (
     ck (ib (M_8 202 x6_7.toNatClampNeg) 2187) (
     nm (mw M_8 a4 (M_8 202 x6_7.toNatClampNeg).toNatClampNeg (jmin (M_8 a4 (M_8 202 x6_7.toNatClampNeg).toNatClampNeg) (x1 + (1048576 : Int32)))) (fun M_21 =>
     L_X5_bringByFoot_27 x1 a4 q_1 n_14 (x6_7 + 1) M_21))))))
def f_X5_bringByFoot (x1 : Int32) (x2 : Int32) (x3 : Int32) (a4 : Nat) (M : Mm) : Option (Mm) :=
 Option.bind (f_X5_reach x2 x3 202 M) (fun q_1 =>
 ck (ib x2 2187) (
 ck (ib x2 2187) (
 nm (mw q_1.2 a4 x2.toNatClampNeg (jmin (q_1.2 a4 x2.toNatClampNeg) x1)) (fun M_5 =>
 Option.bind (L_X5_bringByFoot_27 x1 a4 q_1 FU (1 : Int32) M_5) (fun q_9 =>
 some q_9)))))
set_option maxRecDepth 100000 in
set_option maxHeartbeats 4000000 in
theorem c_X5_bringByFoot {G : Gm} {l : Launch} (d : Nat) {x1 : Int32} {x2 : Int32} {x3 : Int32} {a4 : Nat} {M : Mm} {r : Mm} (h4 : isA a4 2187) (h : f_X5_bringByFoot x1 x2 x3 a4 M = some r) : Cm G l (d + 1) yX5_bringByFoot cX5_bringByFoot 7 none [.ref (gR G 161), .int x1, .int x2, .int x3, .ref (gR G a4)] M none r := by
  unfold f_X5_bringByFoot at h
  refine m_met (lv := [some (.ref (gR G 161)), some (.int x1), some (.int x2), some (.int x3), some (.ref (gR G a4)), none, none]) (own := RX5) (by decide +kernel) rfl rfl (Nat.le_of_ble_eq_true rfl) rfl ?_
  intro X hX hc hr
  subst hX
  refine m_aload_n hc dX5_bringByFoot_0 rfl ?_
  refine m_iload_n hc dX5_bringByFoot_1 rfl ?_
  refine m_iload_n hc dX5_bringByFoot_2 rfl ?_
  refine m_aload_n hc dX5_bringByFoot_3 rfl ?_
  refine m_getR hc (q := 202) yO_161 rfl tbX5 10 (by decide) wf_X5_51 rfl dX5_bringByFoot_4 ?_
  obtain ⟨q_1, c_2, h⟩ := bd_o h
  refine m_callVi hc yO_161 rfl (c_X5_reach (d + 0) yA_202 c_2) (by omega) (by decide) wm_X5_198 wi_X5_reach we_X5_reach wn_X5 wc_X5_reach wy_X5_reach rfl (st := []) rfl rfl (Nat.le_of_ble_eq_true rfl) dX5_bringByFoot_7 ?_
  refine m_istore hc (lv' := [some (.ref (gR G 161)), some (.int x1), some (.int x2), some (.int x3), some (.ref (gR G a4)), some (.int q_1.1), none]) dX5_bringByFoot_10 (Nat.le_of_ble_eq_true rfl) rfl rfl ?_
  refine m_aload hc dX5_bringByFoot_12 rfl ?_
  refine m_iload_n hc dX5_bringByFoot_14 rfl ?_
  refine m_aload hc dX5_bringByFoot_15 rfl ?_
  refine m_iload_n hc dX5_bringByFoot_17 rfl ?_
  obtain ⟨b_3, h⟩ := ck_o h
  refine m_iald hc h4 b_3 dX5_bringByFoot_18 ?_
  refine m_iload_n hc dX5_bringByFoot_19 rfl ?_
  refine m_mmin hc (by omega) wm_X5_87 wt_Math_min wn_Math wc_Math_min (st := [.int x2, .ref (gR G a4)]) rfl (Nat.le_of_ble_eq_true rfl) dX5_bringByFoot_20 ?_
  obtain ⟨b_4, h⟩ := ck_o h
  refine m_iast hc h4 b_4 dX5_bringByFoot_23 ?_
  refine m_topM (fun M_5 e_6 => ?_)
  replace h := nm_x e_6 h
  refine m_iconst hc (v := 1) dX5_bringByFoot_24 (by decide) ?_
  refine m_istore hc (lv' := [some (.ref (gR G 161)), some (.int x1), some (.int x2), some (.int x3), some (.ref (gR G a4)), some (.int q_1.1), some (.int (1 : Int32))]) dX5_bringByFoot_25 (Nat.le_of_ble_eq_true rfl) rfl rfl ?_
  obtain ⟨q_9, c_10, h⟩ := bd_o h
  have J_11 : WM G X (qQ G X none r) q_9 67 [some (.ref (gR G 161)), some (.int x1), some (.int x2), some (.int x3), some (.ref (gR G a4)), some (.int q_1.1), none] [] := by
    cases h
    exact m_vret hc hr dX5_bringByFoot_67
  have L_12 : ∀ (n_14 : Nat) (x6_7 : Int32) (M_8 : Mm), L_X5_bringByFoot_27 x1 a4 q_1 n_14 x6_7 M_8 = some q_9 → WM G X (qQ G X none r) M_8 27 [some (.ref (gR G 161)), some (.int x1), some (.int x2), some (.int x3), some (.ref (gR G a4)), some (.int q_1.1), some (.int x6_7)] [] := by
    intro n_14
    induction n_14 with
    | zero =>
      intro x6_7 M_8 h
      cases (show none = some _ from h)
    | succ n_14 i_15 =>
      intro x6_7 M_8 h
      rw [L_X5_bringByFoot_27] at h
      refine m_iload hc dX5_bringByFoot_27 rfl ?_
      refine m_iload hc dX5_bringByFoot_29 rfl ?_
      refine m_icge hc (tgt := 67) dX5_bringByFoot_31 (by decide) (fun b_16 => ?_) (fun b_16 => ?_)
      · replace h := (if_pos b_16).symm.trans h
        cases h
        exact m_fg [6] rfl J_11
      · replace h := (if_neg b_16).symm.trans h
        refine m_aload hc dX5_bringByFoot_34 rfl ?_
        refine m_aload_n hc dX5_bringByFoot_36 rfl ?_
        refine m_getR hc (q := 202) yO_161 rfl tbX5 10 (by decide) wf_X5_51 rfl dX5_bringByFoot_37 ?_
        refine m_iload hc dX5_bringByFoot_40 rfl ?_
        obtain ⟨b_17, h⟩ := ck_o h
        refine m_iald hc yA_202 b_17 dX5_bringByFoot_42 ?_
        refine m_aload hc dX5_bringByFoot_43 rfl ?_
        refine m_aload_n hc dX5_bringByFoot_45 rfl ?_
        refine m_getR hc (q := 202) yO_161 rfl tbX5 10 (by decide) wf_X5_51 rfl dX5_bringByFoot_46 ?_
        refine m_iload hc dX5_bringByFoot_49 rfl ?_
        obtain ⟨b_18, h⟩ := ck_o h
        refine m_iald hc yA_202 b_18 dX5_bringByFoot_51 ?_
        obtain ⟨b_19, h⟩ := ck_o h
        refine m_iald hc h4 b_19 dX5_bringByFoot_52 ?_
        refine m_iload_n hc dX5_bringByFoot_53 rfl ?_
        refine m_ldc hc dX5_bringByFoot_54 wk_X5_154 ?_
        refine m_iadd hc dX5_bringByFoot_56 ?_
        refine m_mmin hc (by omega) wm_X5_87 wt_Math_min wn_Math wc_Math_min (st := [.int (M_8 202 x6_7.toNatClampNeg), .ref (gR G a4)]) rfl (Nat.le_of_ble_eq_true rfl) dX5_bringByFoot_57 ?_
        obtain ⟨b_20, h⟩ := ck_o h
        refine m_iast hc h4 b_20 dX5_bringByFoot_60 ?_
        refine m_topM (fun M_21 e_22 => ?_)
        replace h := nm_x e_22 h
        refine m_iinc hc (v := x6_7 + 1) (lv' := [some (.ref (gR G 161)), some (.int x1), some (.int x2), some (.int x3), some (.ref (gR G a4)), some (.int q_1.1), some (.int (x6_7 + 1))]) dX5_bringByFoot_61 rfl rfl rfl rfl ?_
        refine m_goto hc (tgt := 27) dX5_bringByFoot_64 (by decide) ?_
        exact m_fg [] rfl (i_15 _ _ h)
  exact m_fg [] rfl (L_12 _ _ _ c_10)
def L_X5_bringByBoth_34 (x1 : Int32) (x3 : Int32) (a4 : Nat) (q_1 : Int32 × Mm) : Nat → Int32 → Mm → Option (Mm)
  | 0, _, _ => none
  | n_12 + 1, x6_5, M_6 =>
    if q_1.1 ≤ x6_5 then (
     some M_6)
    else (
     ck (ib x6_5 21) (
     Option.bind (f_X5_bringByFoot (x1 + (1048576 : Int32)) (M_6 201 x6_5.toNatClampNeg) ((60 : Int32) &&& (x3 ^^^ (-1 : Int32))) a4 M_6) (fun q_16 =>
     L_X5_bringByBoth_34 x1 x3 a4 q_1 n_12 (x6_5 + 1) q_16)))
def f_X5_bringByBoth (x1 : Int32) (x2 : Int32) (x3 : Int32) (a4 : Nat) (M : Mm) : Option (Mm) :=
 Option.bind (f_X5_reach x2 ((67 : Int32) &&& (x3 ^^^ (-1 : Int32))) 201 M) (fun q_1 =>
 Option.bind (f_X5_bringByFoot x1 x2 ((60 : Int32) &&& (x3 ^^^ (-1 : Int32))) a4 q_1.2) (fun q_3 =>
 Option.bind (L_X5_bringByBoth_34 x1 x3 a4 q_1 FU (1 : Int32) q_3) (fun q_7 =>
 some q_7)))
set_option maxRecDepth 100000 in
set_option maxHeartbeats 4000000 in
theorem c_X5_bringByBoth {G : Gm} {l : Launch} (d : Nat) {x1 : Int32} {x2 : Int32} {x3 : Int32} {a4 : Nat} {M : Mm} {r : Mm} (h4 : isA a4 2187) (h : f_X5_bringByBoth x1 x2 x3 a4 M = some r) : Cm G l (d + 2) yX5_bringByBoth cX5_bringByBoth 7 none [.ref (gR G 161), .int x1, .int x2, .int x3, .ref (gR G a4)] M none r := by
  unfold f_X5_bringByBoth at h
  refine m_met (lv := [some (.ref (gR G 161)), some (.int x1), some (.int x2), some (.int x3), some (.ref (gR G a4)), none, none]) (own := RX5) (by decide +kernel) rfl rfl (Nat.le_of_ble_eq_true rfl) rfl ?_
  intro X hX hc hr
  subst hX
  refine m_aload_n hc dX5_bringByBoth_0 rfl ?_
  refine m_iload_n hc dX5_bringByBoth_1 rfl ?_
  refine m_bipush hc (v := (67 : Int32)) dX5_bringByBoth_2 (by decide) ?_
  refine m_iload_n hc dX5_bringByBoth_4 rfl ?_
  refine m_iconst hc (v := (-1)) dX5_bringByBoth_5 (by decide) ?_
  refine m_ixor hc dX5_bringByBoth_6 ?_
  refine m_iand hc dX5_bringByBoth_7 ?_
  refine m_aload_n hc dX5_bringByBoth_8 rfl ?_
  refine m_getR hc (q := 201) yO_161 rfl tbX5 9 (by decide) wf_X5_48 rfl dX5_bringByBoth_9 ?_
  obtain ⟨q_1, c_2, h⟩ := bd_o h
  refine m_callVi hc yO_161 rfl (c_X5_reach (d + 1) yA_201 c_2) (by omega) (by decide) wm_X5_198 wi_X5_reach we_X5_reach wn_X5 wc_X5_reach wy_X5_reach rfl (st := []) rfl rfl (Nat.le_of_ble_eq_true rfl) dX5_bringByBoth_12 ?_
  refine m_istore hc (lv' := [some (.ref (gR G 161)), some (.int x1), some (.int x2), some (.int x3), some (.ref (gR G a4)), some (.int q_1.1), none]) dX5_bringByBoth_15 (Nat.le_of_ble_eq_true rfl) rfl rfl ?_
  refine m_aload_n hc dX5_bringByBoth_17 rfl ?_
  refine m_iload_n hc dX5_bringByBoth_18 rfl ?_
  refine m_iload_n hc dX5_bringByBoth_19 rfl ?_
  refine m_bipush hc (v := (60 : Int32)) dX5_bringByBoth_20 (by decide) ?_
  refine m_iload_n hc dX5_bringByBoth_22 rfl ?_
  refine m_iconst hc (v := (-1)) dX5_bringByBoth_23 (by decide) ?_
  refine m_ixor hc dX5_bringByBoth_24 ?_
  refine m_iand hc dX5_bringByBoth_25 ?_
  refine m_aload hc dX5_bringByBoth_26 rfl ?_
  obtain ⟨q_3, c_4, h⟩ := bd_o h
  refine m_callVv hc yO_161 rfl (c_X5_bringByFoot (d + 0) h4 c_4) (by omega) (by decide) wm_X5_223 wi_X5_bringByFoot we_X5_bringByFoot wn_X5 wc_X5_bringByFoot wy_X5_bringByFoot rfl (st := []) rfl rfl (Nat.le_of_ble_eq_true rfl) dX5_bringByBoth_28 ?_
  refine m_iconst hc (v := 1) dX5_bringByBoth_31 (by decide) ?_
  refine m_istore hc (lv' := [some (.ref (gR G 161)), some (.int x1), some (.int x2), some (.int x3), some (.ref (gR G a4)), some (.int q_1.1), some (.int (1 : Int32))]) dX5_bringByBoth_32 (Nat.le_of_ble_eq_true rfl) rfl rfl ?_
  obtain ⟨q_7, c_8, h⟩ := bd_o h
  have J_9 : WM G X (qQ G X none r) q_7 70 [some (.ref (gR G 161)), some (.int x1), some (.int x2), some (.int x3), some (.ref (gR G a4)), some (.int q_1.1), none] [] := by
    cases h
    exact m_vret hc hr dX5_bringByBoth_70
  have L_10 : ∀ (n_12 : Nat) (x6_5 : Int32) (M_6 : Mm), L_X5_bringByBoth_34 x1 x3 a4 q_1 n_12 x6_5 M_6 = some q_7 → WM G X (qQ G X none r) M_6 34 [some (.ref (gR G 161)), some (.int x1), some (.int x2), some (.int x3), some (.ref (gR G a4)), some (.int q_1.1), some (.int x6_5)] [] := by
    intro n_12
    induction n_12 with
    | zero =>
      intro x6_5 M_6 h
      cases (show none = some _ from h)
    | succ n_12 i_13 =>
      intro x6_5 M_6 h
      rw [L_X5_bringByBoth_34] at h
      refine m_iload hc dX5_bringByBoth_34 rfl ?_
      refine m_iload hc dX5_bringByBoth_36 rfl ?_
      refine m_icge hc (tgt := 70) dX5_bringByBoth_38 (by decide) (fun b_14 => ?_) (fun b_14 => ?_)
      · replace h := (if_pos b_14).symm.trans h
        cases h
        exact m_fg [6] rfl J_9
      · replace h := (if_neg b_14).symm.trans h
        refine m_aload_n hc dX5_bringByBoth_41 rfl ?_
        refine m_iload_n hc dX5_bringByBoth_42 rfl ?_
        refine m_ldc hc dX5_bringByBoth_43 wk_X5_154 ?_
        refine m_iadd hc dX5_bringByBoth_45 ?_
        refine m_aload_n hc dX5_bringByBoth_46 rfl ?_
        refine m_getR hc (q := 201) yO_161 rfl tbX5 9 (by decide) wf_X5_48 rfl dX5_bringByBoth_47 ?_
        refine m_iload hc dX5_bringByBoth_50 rfl ?_
        obtain ⟨b_15, h⟩ := ck_o h
        refine m_iald hc yA_201 b_15 dX5_bringByBoth_52 ?_
        refine m_bipush hc (v := (60 : Int32)) dX5_bringByBoth_53 (by decide) ?_
        refine m_iload_n hc dX5_bringByBoth_55 rfl ?_
        refine m_iconst hc (v := (-1)) dX5_bringByBoth_56 (by decide) ?_
        refine m_ixor hc dX5_bringByBoth_57 ?_
        refine m_iand hc dX5_bringByBoth_58 ?_
        refine m_aload hc dX5_bringByBoth_59 rfl ?_
        obtain ⟨q_16, c_17, h⟩ := bd_o h
        refine m_callVv hc yO_161 rfl (c_X5_bringByFoot (d + 0) h4 c_17) (by omega) (by decide) wm_X5_223 wi_X5_bringByFoot we_X5_bringByFoot wn_X5 wc_X5_bringByFoot wy_X5_bringByFoot rfl (st := []) rfl rfl (Nat.le_of_ble_eq_true rfl) dX5_bringByBoth_61 ?_
        refine m_iinc hc (v := x6_5 + 1) (lv' := [some (.ref (gR G 161)), some (.int x1), some (.int x2), some (.int x3), some (.ref (gR G a4)), some (.int q_1.1), some (.int (x6_5 + 1))]) dX5_bringByBoth_64 rfl rfl rfl rfl ?_
        refine m_goto hc (tgt := 34) dX5_bringByBoth_67 (by decide) ?_
        exact m_fg [] rfl (i_13 _ _ h)
  exact m_fg [] rfl (L_10 _ _ _ c_8)
def L_X5_lessen_2 (a0 : Nat) (a1 : Nat) : Nat → Int32 → Mm → Option (Mm)
  | 0, _, _ => none
  | n_8 + 1, x2_1, M_2 =>
    if (2187 : Int32) ≤ x2_1 then (
     some M_2)
    else (
     ck (ib x2_1 2187) (
     ck (ib x2_1 2187) (
     ck (ib x2_1 2187) (
     nm (mw M_2 a0 x2_1.toNatClampNeg (jmin (M_2 a0 x2_1.toNatClampNeg) (M_2 a1 x2_1.toNatClampNeg))) (fun M_14 =>
     L_X5_lessen_2 a0 a1 n_8 (x2_1 + 1) M_14)))))
def f_X5_lessen (a0 : Nat) (a1 : Nat) (M : Mm) : Option (Mm) :=
 Option.bind (L_X5_lessen_2 a0 a1 FU (0 : Int32) M) (fun q_3 =>
 some q_3)
set_option maxRecDepth 100000 in
set_option maxHeartbeats 4000000 in
theorem c_X5_lessen {G : Gm} {l : Launch} (d : Nat) {a0 : Nat} {a1 : Nat} {M : Mm} {r : Mm} (h0 : isA a0 2187) (h1 : isA a1 2187) (h : f_X5_lessen a0 a1 M = some r) : Cm G l (d + 1) yX5_lessen cX5_lessen 3 none [.ref (gR G a0), .ref (gR G a1)] M none r := by
  unfold f_X5_lessen at h
  refine m_met (lv := [some (.ref (gR G a0)), some (.ref (gR G a1)), none]) (own := RX5) (by decide +kernel) rfl rfl (Nat.le_of_ble_eq_true rfl) rfl ?_
  intro X hX hc hr
  subst hX
  refine m_iconst hc (v := 0) dX5_lessen_0 (by decide) ?_
  refine m_istore_n hc (lv' := [some (.ref (gR G a0)), some (.ref (gR G a1)), some (.int (0 : Int32))]) dX5_lessen_1 (Nat.le_of_ble_eq_true rfl) rfl rfl ?_
  obtain ⟨q_3, c_4, h⟩ := bd_o h
  have J_5 : WM G X (qQ G X none r) q_3 27 [some (.ref (gR G a0)), some (.ref (gR G a1)), none] [] := by
    cases h
    exact m_vret hc hr dX5_lessen_27
  have L_6 : ∀ (n_8 : Nat) (x2_1 : Int32) (M_2 : Mm), L_X5_lessen_2 a0 a1 n_8 x2_1 M_2 = some q_3 → WM G X (qQ G X none r) M_2 2 [some (.ref (gR G a0)), some (.ref (gR G a1)), some (.int x2_1)] [] := by
    intro n_8
    induction n_8 with
    | zero =>
      intro x2_1 M_2 h
      cases (show none = some _ from h)
    | succ n_8 i_9 =>
      intro x2_1 M_2 h
      rw [L_X5_lessen_2] at h
      refine m_iload_n hc dX5_lessen_2 rfl ?_
      refine m_sipush hc (v := (2187 : Int32)) dX5_lessen_3 (by decide) ?_
      refine m_icge hc (tgt := 27) dX5_lessen_6 (by decide) (fun b_10 => ?_) (fun b_10 => ?_)
      · replace h := (if_pos b_10).symm.trans h
        cases h
        exact m_fg [2] rfl J_5
      · replace h := (if_neg b_10).symm.trans h
        refine m_aload_n hc dX5_lessen_9 rfl ?_
        refine m_iload_n hc dX5_lessen_10 rfl ?_
        refine m_aload_n hc dX5_lessen_11 rfl ?_
        refine m_iload_n hc dX5_lessen_12 rfl ?_
        obtain ⟨b_11, h⟩ := ck_o h
        refine m_iald hc h0 b_11 dX5_lessen_13 ?_
        refine m_aload_n hc dX5_lessen_14 rfl ?_
        refine m_iload_n hc dX5_lessen_15 rfl ?_
        obtain ⟨b_12, h⟩ := ck_o h
        refine m_iald hc h1 b_12 dX5_lessen_16 ?_
        refine m_mmin hc (by omega) wm_X5_87 wt_Math_min wn_Math wc_Math_min (st := [.int x2_1, .ref (gR G a0)]) rfl (Nat.le_of_ble_eq_true rfl) dX5_lessen_17 ?_
        obtain ⟨b_13, h⟩ := ck_o h
        refine m_iast hc h0 b_13 dX5_lessen_20 ?_
        refine m_topM (fun M_14 e_15 => ?_)
        replace h := nm_x e_15 h
        refine m_iinc hc (v := x2_1 + 1) (lv' := [some (.ref (gR G a0)), some (.ref (gR G a1)), some (.int (x2_1 + 1))]) dX5_lessen_21 rfl rfl rfl rfl ?_
        refine m_goto hc (tgt := 2) dX5_lessen_24 (by decide) ?_
        exact m_fg [] rfl (i_9 _ _ h)
  exact m_fg [] rfl (L_6 _ _ _ c_4)
def L_X5_fillLockedArrival_26 (a1 : Nat) (a2 : Nat) : Nat → Int32 → Mm → Option (Mm)
  | 0, _, _ => none
  | n_14 + 1, x3_7, M_8 =>
    if (2187 : Int32) ≤ x3_7 then (
     some M_8)
    else (
     ck (ib x3_7 2187) (
     Option.bind (
     if (M_8 a1 x3_7.toNatClampNeg) < (66060288 : Int32) then (
     ck (ib x3_7 2187) (
     Option.bind (f_X0_locksBy 162 (M_8 2 x3_7.toNatClampNeg) M_8) (fun q_38 =>
     if (q_38 &&& (60 : Int32)) = 0 then (
     ck (ib x3_7 2187) (
     Option.bind (f_X5_bringByFoot (M_8 a1 x3_7.toNatClampNeg) x3_7 ((67 : Int32) &&& (q_38 ^^^ (-1 : Int32))) 199 M_8) (fun q_49 =>
     some q_49)))
    else (
     if (q_38 &&& (67 : Int32)) = 0 then (
     ck (ib x3_7 2187) (
     Option.bind (f_X5_bringByFoot (M_8 a1 x3_7.toNatClampNeg) x3_7 ((60 : Int32) &&& (q_38 ^^^ (-1 : Int32))) 200 M_8) (fun q_46 =>
     some q_46)))
    else (
     ck (ib x3_7 2187) (
     Option.bind (f_X5_bringByBoth (M_8 a1 x3_7.toNatClampNeg) x3_7 q_38 a2 M_8) (fun q_43 =>
     some q_43)))))))
    else (
     some M_8)) (fun q_33 =>
     L_X5_fillLockedArrival_26 a1 a2 n_14 (x3_7 + 1) q_33)))
def f_X5_fillLockedArrival (a1 : Nat) (a2 : Nat) (M : Mm) : Option (Mm) :=
 Option.bind (f_J7_fill_53178 2187 a2 (66060288 : Int32) M) (fun q_1 =>
 Option.bind (f_J7_fill_53178 2187 199 (66060288 : Int32) q_1) (fun q_3 =>
 Option.bind (f_J7_fill_53178 2187 200 (66060288 : Int32) q_3) (fun q_5 =>
 Option.bind (L_X5_fillLockedArrival_26 a1 a2 FU (0 : Int32) q_5) (fun q_9 =>
 Option.bind (f_X5_spread 199 (60 : Int32) 198 q_9) (fun q_51 =>
 Option.bind (f_X5_lessen a2 198 q_51) (fun q_53 =>
 Option.bind (f_X5_spread 200 (67 : Int32) 198 q_53) (fun q_55 =>
 Option.bind (f_X5_lessen a2 198 q_55) (fun q_57 =>
 some q_57))))))))
set_option maxRecDepth 100000 in
set_option maxHeartbeats 4000000 in
theorem c_X5_fillLockedArrival {G : Gm} {l : Launch} (d : Nat) {a1 : Nat} {a2 : Nat} {M : Mm} {r : Mm} (h1 : isA a1 2187) (h2 : isA a2 2187) (h : f_X5_fillLockedArrival a1 a2 M = some r) : Cm G l (d + 3) yX5_fillLockedArrival cX5_fillLockedArrival 5 none [.ref (gR G 161), .ref (gR G a1), .ref (gR G a2)] M none r := by
  unfold f_X5_fillLockedArrival at h
  refine m_met (lv := [some (.ref (gR G 161)), some (.ref (gR G a1)), some (.ref (gR G a2)), none, none]) (own := RX5) (by decide +kernel) rfl rfl (Nat.le_of_ble_eq_true rfl) rfl ?_
  intro X hX hc hr
  subst hX
  refine m_aload_n hc dX5_fillLockedArrival_0 rfl ?_
  refine m_ldc hc dX5_fillLockedArrival_1 wk_X5_68 ?_
  obtain ⟨q_1, c_2, h⟩ := bd_o h
  refine m_callSv hc (c_J7_fill_53178 (d + 2) h2 c_2) (by omega) (by decide) wm_X5_157 wt_J7_fill_53178 wv_J7_fill_53178 wc_J7_fill_53178 wz_J7_fill_53178 rfl (st := []) rfl rfl (Nat.le_of_ble_eq_true rfl) dX5_fillLockedArrival_3 ?_
  refine m_aload_n hc dX5_fillLockedArrival_6 rfl ?_
  refine m_getR hc (q := 199) yO_161 rfl tbX5 7 (by decide) wf_X5_42 rfl dX5_fillLockedArrival_7 ?_
  refine m_ldc hc dX5_fillLockedArrival_10 wk_X5_68 ?_
  obtain ⟨q_3, c_4, h⟩ := bd_o h
  refine m_callSv hc (c_J7_fill_53178 (d + 2) yA_199 c_4) (by omega) (by decide) wm_X5_157 wt_J7_fill_53178 wv_J7_fill_53178 wc_J7_fill_53178 wz_J7_fill_53178 rfl (st := []) rfl rfl (Nat.le_of_ble_eq_true rfl) dX5_fillLockedArrival_12 ?_
  refine m_aload_n hc dX5_fillLockedArrival_15 rfl ?_
  refine m_getR hc (q := 200) yO_161 rfl tbX5 8 (by decide) wf_X5_45 rfl dX5_fillLockedArrival_16 ?_
  refine m_ldc hc dX5_fillLockedArrival_19 wk_X5_68 ?_
  obtain ⟨q_5, c_6, h⟩ := bd_o h
  refine m_callSv hc (c_J7_fill_53178 (d + 2) yA_200 c_6) (by omega) (by decide) wm_X5_157 wt_J7_fill_53178 wv_J7_fill_53178 wc_J7_fill_53178 wz_J7_fill_53178 rfl (st := []) rfl rfl (Nat.le_of_ble_eq_true rfl) dX5_fillLockedArrival_21 ?_
  refine m_iconst hc (v := 0) dX5_fillLockedArrival_24 (by decide) ?_
  refine m_istore_n hc (lv' := [some (.ref (gR G 161)), some (.ref (gR G a1)), some (.ref (gR G a2)), some (.int (0 : Int32)), none]) dX5_fillLockedArrival_25 (Nat.le_of_ble_eq_true rfl) rfl rfl ?_
  obtain ⟨q_9, c_10, h⟩ := bd_o h
  have J_11 : WM G X (qQ G X none r) q_9 139 [some (.ref (gR G 161)), some (.ref (gR G a1)), some (.ref (gR G a2)), none, none] [] := by
    refine m_aload_n hc dX5_fillLockedArrival_139 rfl ?_
    refine m_getR hc (q := 199) yO_161 rfl tbX5 7 (by decide) wf_X5_42 rfl dX5_fillLockedArrival_140 ?_
    refine m_bipush hc (v := (60 : Int32)) dX5_fillLockedArrival_143 (by decide) ?_
    refine m_aload_n hc dX5_fillLockedArrival_145 rfl ?_
    refine m_getR hc (q := 198) yO_161 rfl tbX5 6 (by decide) wf_X5_38 rfl dX5_fillLockedArrival_146 ?_
    obtain ⟨q_51, c_52, h⟩ := bd_o h
    refine m_callSv hc (c_X5_spread (d + 0) yA_199 yA_198 c_52) (by omega) (by decide) wm_X5_173 wt_X5_spread wv_X5_spread wc_X5_spread wz_X5_spread rfl (st := []) rfl rfl (Nat.le_of_ble_eq_true rfl) dX5_fillLockedArrival_149 ?_
    refine m_aload_n hc dX5_fillLockedArrival_152 rfl ?_
    refine m_aload_n hc dX5_fillLockedArrival_153 rfl ?_
    refine m_getR hc (q := 198) yO_161 rfl tbX5 6 (by decide) wf_X5_38 rfl dX5_fillLockedArrival_154 ?_
    obtain ⟨q_53, c_54, h⟩ := bd_o h
    refine m_callSv hc (c_X5_lessen (d + 1) h2 yA_198 c_54) (by omega) (by decide) wm_X5_230 wt_X5_lessen wv_X5_lessen wc_X5_lessen wz_X5_lessen rfl (st := []) rfl rfl (Nat.le_of_ble_eq_true rfl) dX5_fillLockedArrival_157 ?_
    refine m_aload_n hc dX5_fillLockedArrival_160 rfl ?_
    refine m_getR hc (q := 200) yO_161 rfl tbX5 8 (by decide) wf_X5_45 rfl dX5_fillLockedArrival_161 ?_
    refine m_bipush hc (v := (67 : Int32)) dX5_fillLockedArrival_164 (by decide) ?_
    refine m_aload_n hc dX5_fillLockedArrival_166 rfl ?_
    refine m_getR hc (q := 198) yO_161 rfl tbX5 6 (by decide) wf_X5_38 rfl dX5_fillLockedArrival_167 ?_
    obtain ⟨q_55, c_56, h⟩ := bd_o h
    refine m_callSv hc (c_X5_spread (d + 0) yA_200 yA_198 c_56) (by omega) (by decide) wm_X5_173 wt_X5_spread wv_X5_spread wc_X5_spread wz_X5_spread rfl (st := []) rfl rfl (Nat.le_of_ble_eq_true rfl) dX5_fillLockedArrival_170 ?_
    refine m_aload_n hc dX5_fillLockedArrival_173 rfl ?_
    refine m_aload_n hc dX5_fillLockedArrival_174 rfl ?_
    refine m_getR hc (q := 198) yO_161 rfl tbX5 6 (by decide) wf_X5_38 rfl dX5_fillLockedArrival_175 ?_
    obtain ⟨q_57, c_58, h⟩ := bd_o h
    refine m_callSv hc (c_X5_lessen (d + 1) h2 yA_198 c_58) (by omega) (by decide) wm_X5_230 wt_X5_lessen wv_X5_lessen wc_X5_lessen wz_X5_lessen rfl (st := []) rfl rfl (Nat.le_of_ble_eq_true rfl) dX5_fillLockedArrival_178 ?_
    cases h
    exact m_vret hc hr dX5_fillLockedArrival_181
  have L_12 : ∀ (n_14 : Nat) (x3_7 : Int32) (M_8 : Mm), L_X5_fillLockedArrival_26 a1 a2 n_14 x3_7 M_8 = some q_9 → WM G X (qQ G X none r) M_8 26 [some (.ref (gR G 161)), some (.ref (gR G a1)), some (.ref (gR G a2)), some (.int x3_7), none] [] := by
    intro n_14
    induction n_14 with
    | zero =>
      intro x3_7 M_8 h
      cases (show none = some _ from h)
    | succ n_14 i_15 =>
      intro x3_7 M_8 h
      rw [L_X5_fillLockedArrival_26] at h
      refine m_iload_n hc dX5_fillLockedArrival_26 rfl ?_
      refine m_sipush hc (v := (2187 : Int32)) dX5_fillLockedArrival_27 (by decide) ?_
      refine m_icge hc (tgt := 139) dX5_fillLockedArrival_30 (by decide) (fun b_16 => ?_) (fun b_16 => ?_)
      · replace h := (if_pos b_16).symm.trans h
        cases h
        exact m_fg [3] rfl J_11
      · replace h := (if_neg b_16).symm.trans h
        refine m_aload_n hc dX5_fillLockedArrival_33 rfl ?_
        refine m_iload_n hc dX5_fillLockedArrival_34 rfl ?_
        obtain ⟨b_17, h⟩ := ck_o h
        refine m_iald hc h1 b_17 dX5_fillLockedArrival_35 ?_
        refine m_ldc hc dX5_fillLockedArrival_36 wk_X5_68 ?_
        obtain ⟨q_33, c_34, h⟩ := bd_o h
        have J_35 : WM G X (qQ G X none r) q_33 133 [some (.ref (gR G 161)), some (.ref (gR G a1)), some (.ref (gR G a2)), some (.int x3_7), none] [] := by
          refine m_iinc hc (v := x3_7 + 1) (lv' := [some (.ref (gR G 161)), some (.ref (gR G a1)), some (.ref (gR G a2)), some (.int (x3_7 + 1)), none]) dX5_fillLockedArrival_133 rfl rfl rfl rfl ?_
          refine m_goto hc (tgt := 26) dX5_fillLockedArrival_136 (by decide) ?_
          exact m_fg [] rfl (i_15 _ _ h)
        replace h := c_34
        refine m_iclt hc (tgt := 44) dX5_fillLockedArrival_38 (by decide) (fun b_36 => ?_) (fun b_36 => ?_)
        · replace h := (if_pos b_36).symm.trans h
          refine m_aload_n hc dX5_fillLockedArrival_44 rfl ?_
          refine m_getR hc (q := 162) yO_161 rfl tbX5 2 (by decide) wf_X5_22 rfl dX5_fillLockedArrival_45 ?_
          refine m_aload_n hc dX5_fillLockedArrival_48 rfl ?_
          refine m_getR hc (q := 1) yO_161 rfl tbX5 0 (by decide) wf_X5_11 rfl dX5_fillLockedArrival_49 ?_
          refine m_getR hc (q := 2) yO_1 rfl tbX1 0 (by decide) wf_X5_125 rfl dX5_fillLockedArrival_52 ?_
          refine m_iload_n hc dX5_fillLockedArrival_55 rfl ?_
          obtain ⟨b_37, h⟩ := ck_o h
          refine m_iald hc yA_2 b_37 dX5_fillLockedArrival_56 ?_
          obtain ⟨q_38, c_39, h⟩ := bd_o h
          refine m_callVi hc yO_162 rfl (c_X0_locksBy (d + 0) kC_162 c_39) (by omega) (by decide) wm_X5_141 wi_X0_locksBy we_X0_locksBy wn_X0 wc_X0_locksBy wy_X0_locksBy rfl (st := []) rfl rfl (Nat.le_of_ble_eq_true rfl) dX5_fillLockedArrival_57 ?_
          refine m_istore hc (lv' := [some (.ref (gR G 161)), some (.ref (gR G a1)), some (.ref (gR G a2)), some (.int x3_7), some (.int q_38)]) dX5_fillLockedArrival_60 (Nat.le_of_ble_eq_true rfl) rfl rfl ?_
          refine m_iload hc dX5_fillLockedArrival_62 rfl ?_
          refine m_bipush hc (v := (60 : Int32)) dX5_fillLockedArrival_64 (by decide) ?_
          refine m_iand hc dX5_fillLockedArrival_66 ?_
          refine m_ifne hc (tgt := 92) dX5_fillLockedArrival_67 (by decide) (fun b_40 => ?_) (fun b_40 => ?_)
          · replace h := (if_neg b_40).symm.trans h
            refine m_iload hc dX5_fillLockedArrival_92 rfl ?_
            refine m_bipush hc (v := (67 : Int32)) dX5_fillLockedArrival_94 (by decide) ?_
            refine m_iand hc dX5_fillLockedArrival_96 ?_
            refine m_ifne hc (tgt := 122) dX5_fillLockedArrival_97 (by decide) (fun b_41 => ?_) (fun b_41 => ?_)
            · replace h := (if_neg b_41).symm.trans h
              refine m_aload_n hc dX5_fillLockedArrival_122 rfl ?_
              refine m_aload_n hc dX5_fillLockedArrival_123 rfl ?_
              refine m_iload_n hc dX5_fillLockedArrival_124 rfl ?_
              obtain ⟨b_42, h⟩ := ck_o h
              refine m_iald hc h1 b_42 dX5_fillLockedArrival_125 ?_
              refine m_iload_n hc dX5_fillLockedArrival_126 rfl ?_
              refine m_iload hc dX5_fillLockedArrival_127 rfl ?_
              refine m_aload_n hc dX5_fillLockedArrival_129 rfl ?_
              obtain ⟨q_43, c_44, h⟩ := bd_o h
              refine m_callVv hc yO_161 rfl (c_X5_bringByBoth (d + 0) h2 c_44) (by omega) (by decide) wm_X5_227 wi_X5_bringByBoth we_X5_bringByBoth wn_X5 wc_X5_bringByBoth wy_X5_bringByBoth rfl (st := []) rfl rfl (Nat.le_of_ble_eq_true rfl) dX5_fillLockedArrival_130 ?_
              cases h
              exact m_fg [4] rfl J_35
            · replace h := (if_pos b_41).symm.trans h
              refine m_aload_n hc dX5_fillLockedArrival_100 rfl ?_
              refine m_aload_n hc dX5_fillLockedArrival_101 rfl ?_
              refine m_iload_n hc dX5_fillLockedArrival_102 rfl ?_
              obtain ⟨b_45, h⟩ := ck_o h
              refine m_iald hc h1 b_45 dX5_fillLockedArrival_103 ?_
              refine m_iload_n hc dX5_fillLockedArrival_104 rfl ?_
              refine m_bipush hc (v := (60 : Int32)) dX5_fillLockedArrival_105 (by decide) ?_
              refine m_iload hc dX5_fillLockedArrival_107 rfl ?_
              refine m_iconst hc (v := (-1)) dX5_fillLockedArrival_109 (by decide) ?_
              refine m_ixor hc dX5_fillLockedArrival_110 ?_
              refine m_iand hc dX5_fillLockedArrival_111 ?_
              refine m_aload_n hc dX5_fillLockedArrival_112 rfl ?_
              refine m_getR hc (q := 200) yO_161 rfl tbX5 8 (by decide) wf_X5_45 rfl dX5_fillLockedArrival_113 ?_
              obtain ⟨q_46, c_47, h⟩ := bd_o h
              refine m_callVv hc yO_161 rfl (c_X5_bringByFoot (d + 1) yA_200 c_47) (by omega) (by decide) wm_X5_223 wi_X5_bringByFoot we_X5_bringByFoot wn_X5 wc_X5_bringByFoot wy_X5_bringByFoot rfl (st := []) rfl rfl (Nat.le_of_ble_eq_true rfl) dX5_fillLockedArrival_116 ?_
              refine m_goto hc (tgt := 133) dX5_fillLockedArrival_119 (by decide) ?_
              cases h
              exact m_fg [4] rfl J_35
          · replace h := (if_pos b_40).symm.trans h
            refine m_aload_n hc dX5_fillLockedArrival_70 rfl ?_
            refine m_aload_n hc dX5_fillLockedArrival_71 rfl ?_
            refine m_iload_n hc dX5_fillLockedArrival_72 rfl ?_
            obtain ⟨b_48, h⟩ := ck_o h
            refine m_iald hc h1 b_48 dX5_fillLockedArrival_73 ?_
            refine m_iload_n hc dX5_fillLockedArrival_74 rfl ?_
            refine m_bipush hc (v := (67 : Int32)) dX5_fillLockedArrival_75 (by decide) ?_
            refine m_iload hc dX5_fillLockedArrival_77 rfl ?_
            refine m_iconst hc (v := (-1)) dX5_fillLockedArrival_79 (by decide) ?_
            refine m_ixor hc dX5_fillLockedArrival_80 ?_
            refine m_iand hc dX5_fillLockedArrival_81 ?_
            refine m_aload_n hc dX5_fillLockedArrival_82 rfl ?_
            refine m_getR hc (q := 199) yO_161 rfl tbX5 7 (by decide) wf_X5_42 rfl dX5_fillLockedArrival_83 ?_
            obtain ⟨q_49, c_50, h⟩ := bd_o h
            refine m_callVv hc yO_161 rfl (c_X5_bringByFoot (d + 1) yA_199 c_50) (by omega) (by decide) wm_X5_223 wi_X5_bringByFoot we_X5_bringByFoot wn_X5 wc_X5_bringByFoot wy_X5_bringByFoot rfl (st := []) rfl rfl (Nat.le_of_ble_eq_true rfl) dX5_fillLockedArrival_86 ?_
            refine m_goto hc (tgt := 133) dX5_fillLockedArrival_89 (by decide) ?_
            cases h
            exact m_fg [4] rfl J_35
        · replace h := (if_neg b_36).symm.trans h
          refine m_goto hc (tgt := 133) dX5_fillLockedArrival_41 (by decide) ?_
          cases h
          exact m_fg [] rfl J_35
  exact m_fg [] rfl (L_12 _ _ _ c_10)
