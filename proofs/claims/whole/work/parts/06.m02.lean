def L_X0_findStrings_16 (a0 : Nat) (x1 : Int32) (x2 : Int32) : Nat → Int32 → Mm → Option (Mm)
  | 0, _, _ => none
  | n_14 + 1, x3_7, M_8 =>
    if (42 : Int32) ≤ x3_7 then (
     some M_8)
    else (
     Option.bind (f_X1_natural x3_7) (fun q_17 =>
     nm (((x2 - q_17) + (1 : Int32))) (fun x4_19 =>
     Option.bind (
     if x4_19 < 0 then (
     some M_8)
    else (
     if x4_19 < (3 : Int32) then (
     ck (ib x1 6) (
     if 0 ≤ (M_8 (a0 + 3) x1.toNatClampNeg) then (
     ck (ib x1 6) (
     nm (mw M_8 (a0 + 5) x1.toNatClampNeg x3_7) (fun M_45 =>
     ck (ib x1 6) (
     nm (mw M_45 (a0 + 6) x1.toNatClampNeg x4_19) (fun M_48 =>
     some M_48)))))
    else (
     ck (ib x1 6) (
     nm (mw M_8 (a0 + 3) x1.toNatClampNeg x3_7) (fun M_51 =>
     ck (ib x1 6) (
     nm (mw M_51 (a0 + 4) x1.toNatClampNeg x4_19) (fun M_54 =>
     some M_54)))))))
    else (
     some M_8))) (fun q_37 =>
     L_X0_findStrings_16 a0 x1 x2 n_14 (x3_7 + 1) q_37))))
def f_X0_findStrings (a0 : Nat) (x1 : Int32) (x2 : Int32) (M : Mm) : Option (Mm) :=
 ck (ib x1 6) (
 nm (mw M (a0 + 3) x1.toNatClampNeg (-1 : Int32)) (fun M_2 =>
 ck (ib x1 6) (
 nm (mw M_2 (a0 + 5) x1.toNatClampNeg (-1 : Int32)) (fun M_5 =>
 Option.bind (L_X0_findStrings_16 a0 x1 x2 FU (0 : Int32) M_5) (fun q_9 =>
 some q_9)))))
set_option maxRecDepth 100000 in
set_option maxHeartbeats 4000000 in
theorem c_X0_findStrings {G : Gm} {l : Launch} (d : Nat) {a0 : Nat} {x1 : Int32} {x2 : Int32} {M : Mm} {r : Mm} (h0 : kC a0) (h : f_X0_findStrings a0 x1 x2 M = some r) : Cm G l (d + 1) yX0_findStrings cX0_findStrings 5 none [.ref (gR G a0), .int x1, .int x2] M none r := by
  unfold f_X0_findStrings at h
  refine m_met (lv := [some (.ref (gR G a0)), some (.int x1), some (.int x2), none, none]) (own := RX0) (by decide +kernel) rfl rfl (Nat.le_of_ble_eq_true rfl) rfl ?_
  intro X hX hc hr
  subst hX
  refine m_aload_n hc dX0_findStrings_0 rfl ?_
  refine m_getR hc (q := (a0 + 3)) (kC_o h0) rfl tbX0 3 (by decide) wf_X0_22 rfl dX0_findStrings_1 ?_
  refine m_iload_n hc dX0_findStrings_4 rfl ?_
  refine m_iconst hc (v := (-1)) dX0_findStrings_5 (by decide) ?_
  obtain ⟨b_1, h⟩ := ck_o h
  refine m_iast hc (kC_3 h0) b_1 dX0_findStrings_6 ?_
  refine m_topM (fun M_2 e_3 => ?_)
  replace h := nm_x e_3 h
  refine m_aload_n hc dX0_findStrings_7 rfl ?_
  refine m_getR hc (q := (a0 + 5)) (kC_o h0) rfl tbX0 5 (by decide) wf_X0_28 rfl dX0_findStrings_8 ?_
  refine m_iload_n hc dX0_findStrings_11 rfl ?_
  refine m_iconst hc (v := (-1)) dX0_findStrings_12 (by decide) ?_
  obtain ⟨b_4, h⟩ := ck_o h
  refine m_iast hc (kC_5 h0) b_4 dX0_findStrings_13 ?_
  refine m_topM (fun M_5 e_6 => ?_)
  replace h := nm_x e_6 h
  refine m_iconst hc (v := 0) dX0_findStrings_14 (by decide) ?_
  refine m_istore_n hc (lv' := [some (.ref (gR G a0)), some (.int x1), some (.int x2), some (.int (0 : Int32)), none]) dX0_findStrings_15 (Nat.le_of_ble_eq_true rfl) rfl rfl ?_
  obtain ⟨q_9, c_10, h⟩ := bd_o h
  have J_11 : WM G X (qQ G X none r) q_9 94 [some (.ref (gR G a0)), some (.int x1), some (.int x2), none, none] [] := by
    cases h
    exact m_vret hc hr dX0_findStrings_94
  have L_12 : ∀ (n_14 : Nat) (x3_7 : Int32) (M_8 : Mm), L_X0_findStrings_16 a0 x1 x2 n_14 x3_7 M_8 = some q_9 → WM G X (qQ G X none r) M_8 16 [some (.ref (gR G a0)), some (.int x1), some (.int x2), some (.int x3_7), none] [] := by
    intro n_14
    induction n_14 with
    | zero =>
      intro x3_7 M_8 h
      cases (show none = some _ from h)
    | succ n_14 i_15 =>
      intro x3_7 M_8 h
      rw [L_X0_findStrings_16] at h
      refine m_iload_n hc dX0_findStrings_16 rfl ?_
      refine m_bipush hc (v := (42 : Int32)) dX0_findStrings_17 (by decide) ?_
      refine m_icge hc (tgt := 94) dX0_findStrings_19 (by decide) (fun b_16 => ?_) (fun b_16 => ?_)
      · replace h := (if_pos b_16).symm.trans h
        cases h
        exact m_fg [3] rfl J_11
      · replace h := (if_neg b_16).symm.trans h
        refine m_iload_n hc dX0_findStrings_22 rfl ?_
        refine m_iload_n hc dX0_findStrings_23 rfl ?_
        obtain ⟨q_17, c_18, h⟩ := bd_o h
        refine m_callSi hc (c_X1_natural (d + 0) c_18) (by omega) (by decide) wm_X0_81 wt_X1_natural wv_X1_natural wc_X1_natural wz_X1_natural rfl (st := [.int x2]) rfl rfl (Nat.le_of_ble_eq_true rfl) dX0_findStrings_24 ?_
        refine m_isub hc dX0_findStrings_27 ?_
        refine m_iconst hc (v := 1) dX0_findStrings_28 (by decide) ?_
        refine m_iadd hc dX0_findStrings_29 ?_
        refine m_topI (fun x4_19 e_20 => ?_)
        replace h := nm_x e_20 h
        refine m_istore hc (lv' := [some (.ref (gR G a0)), some (.int x1), some (.int x2), some (.int x3_7), some (.int x4_19)]) dX0_findStrings_30 (Nat.le_of_ble_eq_true rfl) rfl rfl ?_
        refine m_iload hc dX0_findStrings_32 rfl ?_
        obtain ⟨q_37, c_38, h⟩ := bd_o h
        have J_39 : WM G X (qQ G X none r) q_37 88 [some (.ref (gR G a0)), some (.int x1), some (.int x2), some (.int x3_7), some (.int x4_19)] [] := by
          refine m_iinc hc (v := x3_7 + 1) (lv' := [some (.ref (gR G a0)), some (.int x1), some (.int x2), some (.int (x3_7 + 1)), some (.int x4_19)]) dX0_findStrings_88 rfl rfl rfl rfl ?_
          refine m_goto hc (tgt := 16) dX0_findStrings_91 (by decide) ?_
          exact m_fg [4] rfl (i_15 _ _ h)
        replace h := c_38
        refine m_iflt hc (tgt := 88) dX0_findStrings_34 (by decide) (fun b_40 => ?_) (fun b_40 => ?_)
        · replace h := (if_pos b_40).symm.trans h
          cases h
          exact m_fg [] rfl J_39
        · replace h := (if_neg b_40).symm.trans h
          refine m_iload hc dX0_findStrings_37 rfl ?_
          refine m_iconst hc (v := 3) dX0_findStrings_39 (by decide) ?_
          refine m_iclt hc (tgt := 46) dX0_findStrings_40 (by decide) (fun b_41 => ?_) (fun b_41 => ?_)
          · replace h := (if_pos b_41).symm.trans h
            refine m_aload_n hc dX0_findStrings_46 rfl ?_
            refine m_getR hc (q := (a0 + 3)) (kC_o h0) rfl tbX0 3 (by decide) wf_X0_22 rfl dX0_findStrings_47 ?_
            refine m_iload_n hc dX0_findStrings_50 rfl ?_
            obtain ⟨b_42, h⟩ := ck_o h
            refine m_iald hc (kC_3 h0) b_42 dX0_findStrings_51 ?_
            refine m_ifge hc (tgt := 73) dX0_findStrings_52 (by decide) (fun b_43 => ?_) (fun b_43 => ?_)
            · replace h := (if_pos b_43).symm.trans h
              refine m_aload_n hc dX0_findStrings_73 rfl ?_
              refine m_getR hc (q := (a0 + 5)) (kC_o h0) rfl tbX0 5 (by decide) wf_X0_28 rfl dX0_findStrings_74 ?_
              refine m_iload_n hc dX0_findStrings_77 rfl ?_
              refine m_iload_n hc dX0_findStrings_78 rfl ?_
              obtain ⟨b_44, h⟩ := ck_o h
              refine m_iast hc (kC_5 h0) b_44 dX0_findStrings_79 ?_
              refine m_topM (fun M_45 e_46 => ?_)
              replace h := nm_x e_46 h
              refine m_aload_n hc dX0_findStrings_80 rfl ?_
              refine m_getR hc (q := (a0 + 6)) (kC_o h0) rfl tbX0 6 (by decide) wf_X0_31 rfl dX0_findStrings_81 ?_
              refine m_iload_n hc dX0_findStrings_84 rfl ?_
              refine m_iload hc dX0_findStrings_85 rfl ?_
              obtain ⟨b_47, h⟩ := ck_o h
              refine m_iast hc (kC_6 h0) b_47 dX0_findStrings_87 ?_
              refine m_topM (fun M_48 e_49 => ?_)
              replace h := nm_x e_49 h
              cases h
              exact m_fg [] rfl J_39
            · replace h := (if_neg b_43).symm.trans h
              refine m_aload_n hc dX0_findStrings_55 rfl ?_
              refine m_getR hc (q := (a0 + 3)) (kC_o h0) rfl tbX0 3 (by decide) wf_X0_22 rfl dX0_findStrings_56 ?_
              refine m_iload_n hc dX0_findStrings_59 rfl ?_
              refine m_iload_n hc dX0_findStrings_60 rfl ?_
              obtain ⟨b_50, h⟩ := ck_o h
              refine m_iast hc (kC_3 h0) b_50 dX0_findStrings_61 ?_
              refine m_topM (fun M_51 e_52 => ?_)
              replace h := nm_x e_52 h
              refine m_aload_n hc dX0_findStrings_62 rfl ?_
              refine m_getR hc (q := (a0 + 4)) (kC_o h0) rfl tbX0 4 (by decide) wf_X0_25 rfl dX0_findStrings_63 ?_
              refine m_iload_n hc dX0_findStrings_66 rfl ?_
              refine m_iload hc dX0_findStrings_67 rfl ?_
              obtain ⟨b_53, h⟩ := ck_o h
              refine m_iast hc (kC_4 h0) b_53 dX0_findStrings_69 ?_
              refine m_topM (fun M_54 e_55 => ?_)
              replace h := nm_x e_55 h
              refine m_goto hc (tgt := 88) dX0_findStrings_70 (by decide) ?_
              cases h
              exact m_fg [] rfl J_39
          · replace h := (if_neg b_41).symm.trans h
            refine m_goto hc (tgt := 88) dX0_findStrings_43 (by decide) ?_
            cases h
            exact m_fg [] rfl J_39
  exact m_fg [] rfl (L_12 _ _ _ c_10)
def f_X1_bitsOf (x0 : Int32) : Int32 :=
 ((3 : Int32) <<< (((2 : Int32) * x0) &&& 31))
set_option maxRecDepth 100000 in
set_option maxHeartbeats 4000000 in
theorem c_X1_bitsOf {G : Gm} {l : Launch} (d : Nat) {x0 : Int32} {M : Mm} {r : Int32}  (h : f_X1_bitsOf x0 = r) : Cm G l (d + 0) yX1_bitsOf cX1_bitsOf 1 (some .int) [.int x0] M (some (.int r)) M := by
  unfold f_X1_bitsOf at h
  refine m_met (lv := [some (.int x0)]) (own := RX1) (by decide +kernel) rfl rfl (Nat.le_of_ble_eq_true rfl) rfl ?_
  intro X hX hc hr
  subst hX
  refine m_iconst hc (v := 3) dX1_bitsOf_0 (by decide) ?_
  refine m_iconst hc (v := 2) dX1_bitsOf_1 (by decide) ?_
  refine m_iload_n hc dX1_bitsOf_2 rfl ?_
  refine m_imul hc dX1_bitsOf_3 ?_
  refine m_ishl hc dX1_bitsOf_4 ?_
  subst h
  exact m_iret hc hr dX1_bitsOf_5
def L_X0_read_12 (a0 : Nat) (a1 : Nat) (x2 : Int32) : Nat → Int32 → Mm → Option (Mm)
  | 0, _, _ => none
  | n_11 + 1, x3_4, M_5 =>
    if (M_5 a0 0) ≤ x3_4 then (
     some M_5)
    else (
     nm ((f_X3_place x2 x3_4)) (fun x4_14 =>
     ck (ib x4_14 72) (
     nm ((M_5 (a1 + 2) x4_14.toNatClampNeg)) (fun x5_17 =>
     ck (ib x5_17 4) (
     ck (ib x3_4 6) (
     nm (mw M_5 (a0 + 1) x3_4.toNatClampNeg (st_ 3 x5_17.toNatClampNeg)) (fun M_21 =>
     ck (ib x4_14 72) (
     ck (ib x3_4 6) (
     nm (mw M_21 (a0 + 2) x3_4.toNatClampNeg (M_21 (a1 + 4) x4_14.toNatClampNeg)) (fun M_25 =>
     ck (ib x4_14 72) (
     ck (ib x5_17 4) (
     Option.bind (f_X0_findStrings a0 x3_4 ((M_25 (a1 + 3) x4_14.toNatClampNeg) - (st_ 2 x5_17.toNatClampNeg)) M_25) (fun q_29 =>
     L_X0_read_12 a0 a1 x2 n_11 (x3_4 + 1) q_29)))))))))))))
def L_X0_read_98 (a0 : Nat) (a1 : Nat) (x2 : Int32) : Nat → Int32 → Mm → Option (Mm)
  | 0, _, _ => none
  | n_42 + 1, x3_35, M_36 =>
    if (7 : Int32) ≤ x3_35 then (
     some M_36)
    else (
     ck (ib ((x2 * (7 : Int32)) + x3_35) 84) (
     nm ((M_36 (a1 + 5) ((x2 * (7 : Int32)) + x3_35).toNatClampNeg)) (fun x4_46 =>
     nm (
     if x4_46 < 0 then (
     M_36)
    else (
     nm (mw M_36 a0 7 ((M_36 a0 7) ||| (f_X1_bitsOf x3_35))) (fun M_57 =>
     nm (mw M_57 a0 8 ((M_57 a0 8) ||| (x4_46 <<< (((2 : Int32) * x3_35) &&& 31)))) (fun M_59 =>
     M_59)))) (fun q_53 =>
     L_X0_read_98 a0 a1 x2 n_42 (x3_35 + 1) q_53))))
def f_X0_read (a0 : Nat) (a1 : Nat) (x2 : Int32) (M : Mm) : Option (Mm) :=
 ck (ib x2 12) (
 nm (mw M a0 0 (M (a1 + 1) x2.toNatClampNeg)) (fun M_2 =>
 Option.bind (L_X0_read_12 a0 a1 x2 FU (0 : Int32) M_2) (fun q_6 =>
 nm (mw q_6 a0 7 (0 : Int32)) (fun M_31 =>
 nm (mw M_31 a0 8 (0 : Int32)) (fun M_33 =>
 Option.bind (L_X0_read_98 a0 a1 x2 FU (0 : Int32) M_33) (fun q_37 =>
 some q_37))))))
set_option maxRecDepth 100000 in
set_option maxHeartbeats 4000000 in
theorem c_X0_read {G : Gm} {l : Launch} (d : Nat) {a0 : Nat} {a1 : Nat} {x2 : Int32} {M : Mm} {r : Mm} (h0 : kC a0) (h1 : kP a1) (h : f_X0_read a0 a1 x2 M = some r) : Cm G l (d + 2) yX0_read cX0_read 6 none [.ref (gR G a0), .ref (gR G a1), .int x2] M none r := by
  unfold f_X0_read at h
  refine m_met (lv := [some (.ref (gR G a0)), some (.ref (gR G a1)), some (.int x2), none, none, none]) (own := RX0) (by decide +kernel) rfl rfl (Nat.le_of_ble_eq_true rfl) rfl ?_
  intro X hX hc hr
  subst hX
  refine m_aload_n hc dX0_read_0 rfl ?_
  refine m_aload_n hc dX0_read_1 rfl ?_
  refine m_getR hc (q := (a1 + 1)) (kP_o h1) rfl tbX3 1 (by decide) wf_X0_46 rfl dX0_read_2 ?_
  refine m_iload_n hc dX0_read_5 rfl ?_
  obtain ⟨b_1, h⟩ := ck_o h
  refine m_iald hc (kP_1 h1) b_1 dX0_read_6 ?_
  refine m_putI hc (kC_o h0) rfl tbX0 tyX0 tyX0_ok nmX0 0 (by decide) wf_X0_9 rfl rfl rfl rfl dX0_read_7 ?_
  refine m_topM (fun M_2 e_3 => ?_)
  replace h := nm_x e_3 h
  refine m_iconst hc (v := 0) dX0_read_10 (by decide) ?_
  refine m_istore_n hc (lv' := [some (.ref (gR G a0)), some (.ref (gR G a1)), some (.int x2), some (.int (0 : Int32)), none, none]) dX0_read_11 (Nat.le_of_ble_eq_true rfl) rfl rfl ?_
  obtain ⟨q_6, c_7, h⟩ := bd_o h
  have J_8 : WM G X (qQ G X none r) q_6 86 [some (.ref (gR G a0)), some (.ref (gR G a1)), some (.int x2), none, none, none] [] := by
    refine m_aload_n hc dX0_read_86 rfl ?_
    refine m_iconst hc (v := 0) dX0_read_87 (by decide) ?_
    refine m_putI hc (kC_o h0) rfl tbX0 tyX0 tyX0_ok nmX0 7 (by decide) wf_X0_34 rfl rfl rfl rfl dX0_read_88 ?_
    refine m_topM (fun M_31 e_32 => ?_)
    replace h := nm_x e_32 h
    refine m_aload_n hc dX0_read_91 rfl ?_
    refine m_iconst hc (v := 0) dX0_read_92 (by decide) ?_
    refine m_putI hc (kC_o h0) rfl tbX0 tyX0 tyX0_ok nmX0 8 (by decide) wf_X0_37 rfl rfl rfl rfl dX0_read_93 ?_
    refine m_topM (fun M_33 e_34 => ?_)
    replace h := nm_x e_34 h
    refine m_iconst hc (v := 0) dX0_read_96 (by decide) ?_
    refine m_istore_n hc (lv' := [some (.ref (gR G a0)), some (.ref (gR G a1)), some (.int x2), some (.int (0 : Int32)), none, none]) dX0_read_97 (Nat.le_of_ble_eq_true rfl) rfl rfl ?_
    obtain ⟨q_37, c_38, h⟩ := bd_o h
    have J_39 : WM G X (qQ G X none r) q_37 156 [some (.ref (gR G a0)), some (.ref (gR G a1)), some (.int x2), none, none, none] [] := by
      cases h
      exact m_vret hc hr dX0_read_156
    have L_40 : ∀ (n_42 : Nat) (x3_35 : Int32) (M_36 : Mm), L_X0_read_98 a0 a1 x2 n_42 x3_35 M_36 = some q_37 → WM G X (qQ G X none r) M_36 98 [some (.ref (gR G a0)), some (.ref (gR G a1)), some (.int x2), some (.int x3_35), none, none] [] := by
      intro n_42
      induction n_42 with
      | zero =>
        intro x3_35 M_36 h
        cases (show none = some _ from h)
      | succ n_42 i_43 =>
        intro x3_35 M_36 h
        rw [L_X0_read_98] at h
        refine m_iload_n hc dX0_read_98 rfl ?_
        refine m_bipush hc (v := (7 : Int32)) dX0_read_99 (by decide) ?_
        refine m_icge hc (tgt := 156) dX0_read_101 (by decide) (fun b_44 => ?_) (fun b_44 => ?_)
        · replace h := (if_pos b_44).symm.trans h
          cases h
          exact m_fg [3] rfl J_39
        · replace h := (if_neg b_44).symm.trans h
          refine m_aload_n hc dX0_read_104 rfl ?_
          refine m_getR hc (q := (a1 + 5)) (kP_o h1) rfl tbX3 5 (by decide) wf_X0_72 rfl dX0_read_105 ?_
          refine m_iload_n hc dX0_read_108 rfl ?_
          refine m_bipush hc (v := (7 : Int32)) dX0_read_109 (by decide) ?_
          refine m_imul hc dX0_read_111 ?_
          refine m_iload_n hc dX0_read_112 rfl ?_
          refine m_iadd hc dX0_read_113 ?_
          obtain ⟨b_45, h⟩ := ck_o h
          refine m_iald hc (kP_5 h1) b_45 dX0_read_114 ?_
          refine m_topI (fun x4_46 e_47 => ?_)
          replace h := nm_x e_47 h
          refine m_istore hc (lv' := [some (.ref (gR G a0)), some (.ref (gR G a1)), some (.int x2), some (.int x3_35), some (.int x4_46), none]) dX0_read_115 (Nat.le_of_ble_eq_true rfl) rfl rfl ?_
          refine m_iload hc dX0_read_117 rfl ?_
          obtain ⟨q_53, c_54, h⟩ := nm_o h
          have J_55 : WM G X (qQ G X none r) q_53 150 [some (.ref (gR G a0)), some (.ref (gR G a1)), some (.int x2), some (.int x3_35), some (.int x4_46), none] [] := by
            refine m_iinc hc (v := x3_35 + 1) (lv' := [some (.ref (gR G a0)), some (.ref (gR G a1)), some (.int x2), some (.int (x3_35 + 1)), some (.int x4_46), none]) dX0_read_150 rfl rfl rfl rfl ?_
            refine m_goto hc (tgt := 98) dX0_read_153 (by decide) ?_
            exact m_fg [4] rfl (i_43 _ _ h)
          replace h := c_54
          refine m_iflt hc (tgt := 150) dX0_read_119 (by decide) (fun b_56 => ?_) (fun b_56 => ?_)
          · replace h := (if_pos b_56).symm.trans h
            subst h
            exact m_fg [] rfl J_55
          · replace h := (if_neg b_56).symm.trans h
            refine m_aload_n hc dX0_read_122 rfl ?_
            refine m_dup hc dX0_read_123 rfl ?_
            refine m_getI hc (kC_o h0) rfl tbX0 7 (by decide) wf_X0_34 rfl dX0_read_124 ?_
            refine m_iload_n hc dX0_read_127 rfl ?_
            refine m_callSi hc (c_X1_bitsOf (d + 1) rfl) (by omega) (by decide) wm_X0_75 wt_X1_bitsOf wv_X1_bitsOf wc_X1_bitsOf wz_X1_bitsOf rfl (st := [.int (M_36 a0 7), .ref (gR G a0)]) rfl rfl (Nat.le_of_ble_eq_true rfl) dX0_read_128 ?_
            refine m_ior hc dX0_read_131 ?_
            refine m_putI hc (kC_o h0) rfl tbX0 tyX0 tyX0_ok nmX0 7 (by decide) wf_X0_34 rfl rfl rfl rfl dX0_read_132 ?_
            refine m_topM (fun M_57 e_58 => ?_)
            replace h := nm_x e_58 h
            refine m_aload_n hc dX0_read_135 rfl ?_
            refine m_dup hc dX0_read_136 rfl ?_
            refine m_getI hc (kC_o h0) rfl tbX0 8 (by decide) wf_X0_37 rfl dX0_read_137 ?_
            refine m_iload hc dX0_read_140 rfl ?_
            refine m_iconst hc (v := 2) dX0_read_142 (by decide) ?_
            refine m_iload_n hc dX0_read_143 rfl ?_
            refine m_imul hc dX0_read_144 ?_
            refine m_ishl hc dX0_read_145 ?_
            refine m_ior hc dX0_read_146 ?_
            refine m_putI hc (kC_o h0) rfl tbX0 tyX0 tyX0_ok nmX0 8 (by decide) wf_X0_37 rfl rfl rfl rfl dX0_read_147 ?_
            refine m_topM (fun M_59 e_60 => ?_)
            replace h := nm_x e_60 h
            subst h
            exact m_fg [] rfl J_55
    exact m_fg [] rfl (L_40 _ _ _ c_38)
  have L_9 : ∀ (n_11 : Nat) (x3_4 : Int32) (M_5 : Mm), L_X0_read_12 a0 a1 x2 n_11 x3_4 M_5 = some q_6 → WM G X (qQ G X none r) M_5 12 [some (.ref (gR G a0)), some (.ref (gR G a1)), some (.int x2), some (.int x3_4), none, none] [] := by
    intro n_11
    induction n_11 with
    | zero =>
      intro x3_4 M_5 h
      cases (show none = some _ from h)
    | succ n_11 i_12 =>
      intro x3_4 M_5 h
      rw [L_X0_read_12] at h
      refine m_iload_n hc dX0_read_12 rfl ?_
      refine m_aload_n hc dX0_read_13 rfl ?_
      refine m_getI hc (kC_o h0) rfl tbX0 0 (by decide) wf_X0_9 rfl dX0_read_14 ?_
      refine m_icge hc (tgt := 86) dX0_read_17 (by decide) (fun b_13 => ?_) (fun b_13 => ?_)
      · replace h := (if_pos b_13).symm.trans h
        cases h
        exact m_fg [3] rfl J_8
      · replace h := (if_neg b_13).symm.trans h
        refine m_iload_n hc dX0_read_20 rfl ?_
        refine m_iload_n hc dX0_read_21 rfl ?_
        refine m_callSi hc (c_X3_place (d + 1) rfl) (by omega) (by decide) wm_X0_51 wt_X3_place wv_X3_place wc_X3_place wz_X3_place rfl (st := []) rfl rfl (Nat.le_of_ble_eq_true rfl) dX0_read_22 ?_
        refine m_topI (fun x4_14 e_15 => ?_)
        replace h := nm_x e_15 h
        refine m_istore hc (lv' := [some (.ref (gR G a0)), some (.ref (gR G a1)), some (.int x2), some (.int x3_4), some (.int x4_14), none]) dX0_read_25 (Nat.le_of_ble_eq_true rfl) rfl rfl ?_
        refine m_aload_n hc dX0_read_27 rfl ?_
        refine m_getR hc (q := (a1 + 2)) (kP_o h1) rfl tbX3 2 (by decide) wf_X0_55 rfl dX0_read_28 ?_
        refine m_iload hc dX0_read_31 rfl ?_
        obtain ⟨b_16, h⟩ := ck_o h
        refine m_iald hc (kP_2 h1) b_16 dX0_read_33 ?_
        refine m_topI (fun x5_17 e_18 => ?_)
        replace h := nm_x e_18 h
        refine m_istore hc (lv' := [some (.ref (gR G a0)), some (.ref (gR G a1)), some (.int x2), some (.int x3_4), some (.int x4_14), some (.int x5_17)]) dX0_read_34 (Nat.le_of_ble_eq_true rfl) rfl rfl ?_
        refine m_aload_n hc dX0_read_36 rfl ?_
        refine m_getR hc (q := (a0 + 1)) (kC_o h0) rfl tbX0 1 (by decide) wf_X0_15 rfl dX0_read_37 ?_
        refine m_iload_n hc dX0_read_40 rfl ?_
        refine m_sget hc 3 (by decide) ws_X0_58 dX0_read_41 ?_
        refine m_iload hc dX0_read_44 rfl ?_
        obtain ⟨b_19, h⟩ := ck_o h
        refine m_sald hc 3 (by decide) rfl b_19 dX0_read_46 ?_
        obtain ⟨b_20, h⟩ := ck_o h
        refine m_iast hc (kC_1 h0) b_20 dX0_read_47 ?_
        refine m_topM (fun M_21 e_22 => ?_)
        replace h := nm_x e_22 h
        refine m_aload_n hc dX0_read_48 rfl ?_
        refine m_getR hc (q := (a0 + 2)) (kC_o h0) rfl tbX0 2 (by decide) wf_X0_19 rfl dX0_read_49 ?_
        refine m_iload_n hc dX0_read_52 rfl ?_
        refine m_aload_n hc dX0_read_53 rfl ?_
        refine m_getR hc (q := (a1 + 4)) (kP_o h1) rfl tbX3 4 (by decide) wf_X0_61 rfl dX0_read_54 ?_
        refine m_iload hc dX0_read_57 rfl ?_
        obtain ⟨b_23, h⟩ := ck_o h
        refine m_iald hc (kP_4 h1) b_23 dX0_read_59 ?_
        obtain ⟨b_24, h⟩ := ck_o h
        refine m_iast hc (kC_2 h0) b_24 dX0_read_60 ?_
        refine m_topM (fun M_25 e_26 => ?_)
        replace h := nm_x e_26 h
        refine m_aload_n hc dX0_read_61 rfl ?_
        refine m_iload_n hc dX0_read_62 rfl ?_
        refine m_aload_n hc dX0_read_63 rfl ?_
        refine m_getR hc (q := (a1 + 3)) (kP_o h1) rfl tbX3 3 (by decide) wf_X0_62 rfl dX0_read_64 ?_
        refine m_iload hc dX0_read_67 rfl ?_
        obtain ⟨b_27, h⟩ := ck_o h
        refine m_iald hc (kP_3 h1) b_27 dX0_read_69 ?_
        refine m_sget hc 2 (by decide) ws_X0_65 dX0_read_70 ?_
        refine m_iload hc dX0_read_73 rfl ?_
        obtain ⟨b_28, h⟩ := ck_o h
        refine m_sald hc 2 (by decide) rfl b_28 dX0_read_75 ?_
        refine m_isub hc dX0_read_76 ?_
        obtain ⟨q_29, c_30, h⟩ := bd_o h
        refine m_callVv hc (kC_o h0) rfl (c_X0_findStrings (d + 0) h0 c_30) (by omega) (by decide) wm_X0_68 wi_X0_findStrings we_X0_findStrings wn_X0 wc_X0_findStrings wy_X0_findStrings rfl (st := []) rfl rfl (Nat.le_of_ble_eq_true rfl) dX0_read_77 ?_
        refine m_iinc hc (v := x3_4 + 1) (lv' := [some (.ref (gR G a0)), some (.ref (gR G a1)), some (.int x2), some (.int (x3_4 + 1)), some (.int x4_14), some (.int x5_17)]) dX0_read_80 rfl rfl rfl rfl ?_
        refine m_goto hc (tgt := 12) dX0_read_83 (by decide) ?_
        exact m_fg [4, 5] rfl (i_12 _ _ h)
  exact m_fg [] rfl (L_9 _ _ _ c_7)
def f_X0_stringOf (a0 : Nat) (x1 : Int32) (x2 : Int32) (M : Mm) : Option (Int32) :=
 ck (ib x1 6) (
 nm ((M (a0 + 3) x1.toNatClampNeg)) (fun x3_2 =>
 if x3_2 < 0 then (
 ck (ib x1 6) (
 nm ((M (a0 + 5) x1.toNatClampNeg)) (fun x4_6 =>
 if x4_6 < 0 then (
 some (-1 : Int32))
else (
 ck (ib x1 6) (
 if (f_X1_standIn x2 (x4_6 - x4_6 / (7 : Int32) * (7 : Int32))) = (M (a0 + 6) x1.toNatClampNeg) then (
 some x4_6)
else (
 some (-1 : Int32)))))))
else (
 ck (ib x1 6) (
 if (f_X1_standIn x2 (x3_2 - x3_2 / (7 : Int32) * (7 : Int32))) = (M (a0 + 4) x1.toNatClampNeg) then (
 some x3_2)
else (
 ck (ib x1 6) (
 nm ((M (a0 + 5) x1.toNatClampNeg)) (fun x4_14 =>
 if x4_14 < 0 then (
 some (-1 : Int32))
else (
 ck (ib x1 6) (
 if (f_X1_standIn x2 (x4_14 - x4_14 / (7 : Int32) * (7 : Int32))) = (M (a0 + 6) x1.toNatClampNeg) then (
 some x4_14)
else (
 some (-1 : Int32)))))))))))
set_option maxRecDepth 100000 in
set_option maxHeartbeats 4000000 in
theorem c_X0_stringOf {G : Gm} {l : Launch} (d : Nat) {a0 : Nat} {x1 : Int32} {x2 : Int32} {M : Mm} {r : Int32} (h0 : kC a0) (h : f_X0_stringOf a0 x1 x2 M = some r) : Cm G l (d + 1) yX0_stringOf cX0_stringOf 5 (some .int) [.ref (gR G a0), .int x1, .int x2] M (some (.int r)) M := by
  unfold f_X0_stringOf at h
  refine m_met (lv := [some (.ref (gR G a0)), some (.int x1), some (.int x2), none, none]) (own := RX0) (by decide +kernel) rfl rfl (Nat.le_of_ble_eq_true rfl) rfl ?_
  intro X hX hc hr
  subst hX
  refine m_aload_n hc dX0_stringOf_0 rfl ?_
  refine m_getR hc (q := (a0 + 3)) (kC_o h0) rfl tbX0 3 (by decide) wf_X0_22 rfl dX0_stringOf_1 ?_
  refine m_iload_n hc dX0_stringOf_4 rfl ?_
  obtain ⟨b_1, h⟩ := ck_o h
  refine m_iald hc (kC_3 h0) b_1 dX0_stringOf_5 ?_
  refine m_topI (fun x3_2 e_3 => ?_)
  replace h := nm_x e_3 h
  refine m_istore_n hc (lv' := [some (.ref (gR G a0)), some (.int x1), some (.int x2), some (.int x3_2), none]) dX0_stringOf_6 (Nat.le_of_ble_eq_true rfl) rfl rfl ?_
  refine m_iload_n hc dX0_stringOf_7 rfl ?_
  refine m_iflt hc (tgt := 30) dX0_stringOf_8 (by decide) (fun b_4 => ?_) (fun b_4 => ?_)
  · replace h := (if_pos b_4).symm.trans h
    refine m_aload_n hc dX0_stringOf_30 rfl ?_
    refine m_getR hc (q := (a0 + 5)) (kC_o h0) rfl tbX0 5 (by decide) wf_X0_28 rfl dX0_stringOf_31 ?_
    refine m_iload_n hc dX0_stringOf_34 rfl ?_
    obtain ⟨b_5, h⟩ := ck_o h
    refine m_iald hc (kC_5 h0) b_5 dX0_stringOf_35 ?_
    refine m_topI (fun x4_6 e_7 => ?_)
    replace h := nm_x e_7 h
    refine m_istore hc (lv' := [some (.ref (gR G a0)), some (.int x1), some (.int x2), some (.int x3_2), some (.int x4_6)]) dX0_stringOf_36 (Nat.le_of_ble_eq_true rfl) rfl rfl ?_
    refine m_iload hc dX0_stringOf_38 rfl ?_
    refine m_iflt hc (tgt := 64) dX0_stringOf_40 (by decide) (fun b_8 => ?_) (fun b_8 => ?_)
    · replace h := (if_pos b_8).symm.trans h
      refine m_iconst hc (v := (-1)) dX0_stringOf_64 (by decide) ?_
      cases h
      exact m_iret hc hr dX0_stringOf_65
    · replace h := (if_neg b_8).symm.trans h
      refine m_iload_n hc dX0_stringOf_43 rfl ?_
      refine m_iload hc dX0_stringOf_44 rfl ?_
      refine m_bipush hc (v := (7 : Int32)) dX0_stringOf_46 (by decide) ?_
      refine m_irem hc dX0_stringOf_48 (by decide) ?_
      refine m_callSi hc (c_X1_standIn (d + 0) rfl) (by omega) (by decide) wm_X0_84 wt_X1_standIn wv_X1_standIn wc_X1_standIn wz_X1_standIn rfl (st := []) rfl rfl (Nat.le_of_ble_eq_true rfl) dX0_stringOf_49 ?_
      refine m_aload_n hc dX0_stringOf_52 rfl ?_
      refine m_getR hc (q := (a0 + 6)) (kC_o h0) rfl tbX0 6 (by decide) wf_X0_31 rfl dX0_stringOf_53 ?_
      refine m_iload_n hc dX0_stringOf_56 rfl ?_
      obtain ⟨b_9, h⟩ := ck_o h
      refine m_iald hc (kC_6 h0) b_9 dX0_stringOf_57 ?_
      refine m_icne hc (tgt := 64) dX0_stringOf_58 (by decide) (fun b_10 => ?_) (fun b_10 => ?_)
      · replace h := (if_neg b_10).symm.trans h
        refine m_iconst hc (v := (-1)) dX0_stringOf_64 (by decide) ?_
        cases h
        exact m_iret hc hr dX0_stringOf_65
      · replace h := (if_pos b_10).symm.trans h
        refine m_iload hc dX0_stringOf_61 rfl ?_
        cases h
        exact m_iret hc hr dX0_stringOf_63
  · replace h := (if_neg b_4).symm.trans h
    refine m_iload_n hc dX0_stringOf_11 rfl ?_
    refine m_iload_n hc dX0_stringOf_12 rfl ?_
    refine m_bipush hc (v := (7 : Int32)) dX0_stringOf_13 (by decide) ?_
    refine m_irem hc dX0_stringOf_15 (by decide) ?_
    refine m_callSi hc (c_X1_standIn (d + 0) rfl) (by omega) (by decide) wm_X0_84 wt_X1_standIn wv_X1_standIn wc_X1_standIn wz_X1_standIn rfl (st := []) rfl rfl (Nat.le_of_ble_eq_true rfl) dX0_stringOf_16 ?_
    refine m_aload_n hc dX0_stringOf_19 rfl ?_
    refine m_getR hc (q := (a0 + 4)) (kC_o h0) rfl tbX0 4 (by decide) wf_X0_25 rfl dX0_stringOf_20 ?_
    refine m_iload_n hc dX0_stringOf_23 rfl ?_
    obtain ⟨b_11, h⟩ := ck_o h
    refine m_iald hc (kC_4 h0) b_11 dX0_stringOf_24 ?_
    refine m_icne hc (tgt := 30) dX0_stringOf_25 (by decide) (fun b_12 => ?_) (fun b_12 => ?_)
    · replace h := (if_neg b_12).symm.trans h
      refine m_aload_n hc dX0_stringOf_30 rfl ?_
      refine m_getR hc (q := (a0 + 5)) (kC_o h0) rfl tbX0 5 (by decide) wf_X0_28 rfl dX0_stringOf_31 ?_
      refine m_iload_n hc dX0_stringOf_34 rfl ?_
      obtain ⟨b_13, h⟩ := ck_o h
      refine m_iald hc (kC_5 h0) b_13 dX0_stringOf_35 ?_
      refine m_topI (fun x4_14 e_15 => ?_)
      replace h := nm_x e_15 h
      refine m_istore hc (lv' := [some (.ref (gR G a0)), some (.int x1), some (.int x2), some (.int x3_2), some (.int x4_14)]) dX0_stringOf_36 (Nat.le_of_ble_eq_true rfl) rfl rfl ?_
      refine m_iload hc dX0_stringOf_38 rfl ?_
      refine m_iflt hc (tgt := 64) dX0_stringOf_40 (by decide) (fun b_16 => ?_) (fun b_16 => ?_)
      · replace h := (if_pos b_16).symm.trans h
        refine m_iconst hc (v := (-1)) dX0_stringOf_64 (by decide) ?_
        cases h
        exact m_iret hc hr dX0_stringOf_65
      · replace h := (if_neg b_16).symm.trans h
        refine m_iload_n hc dX0_stringOf_43 rfl ?_
        refine m_iload hc dX0_stringOf_44 rfl ?_
        refine m_bipush hc (v := (7 : Int32)) dX0_stringOf_46 (by decide) ?_
        refine m_irem hc dX0_stringOf_48 (by decide) ?_
        refine m_callSi hc (c_X1_standIn (d + 0) rfl) (by omega) (by decide) wm_X0_84 wt_X1_standIn wv_X1_standIn wc_X1_standIn wz_X1_standIn rfl (st := []) rfl rfl (Nat.le_of_ble_eq_true rfl) dX0_stringOf_49 ?_
        refine m_aload_n hc dX0_stringOf_52 rfl ?_
        refine m_getR hc (q := (a0 + 6)) (kC_o h0) rfl tbX0 6 (by decide) wf_X0_31 rfl dX0_stringOf_53 ?_
        refine m_iload_n hc dX0_stringOf_56 rfl ?_
        obtain ⟨b_17, h⟩ := ck_o h
        refine m_iald hc (kC_6 h0) b_17 dX0_stringOf_57 ?_
        refine m_icne hc (tgt := 64) dX0_stringOf_58 (by decide) (fun b_18 => ?_) (fun b_18 => ?_)
        · replace h := (if_neg b_18).symm.trans h
          refine m_iconst hc (v := (-1)) dX0_stringOf_64 (by decide) ?_
          cases h
          exact m_iret hc hr dX0_stringOf_65
        · replace h := (if_pos b_18).symm.trans h
          refine m_iload hc dX0_stringOf_61 rfl ?_
          cases h
          exact m_iret hc hr dX0_stringOf_63
    · replace h := (if_pos b_12).symm.trans h
      refine m_iload_n hc dX0_stringOf_28 rfl ?_
      cases h
      exact m_iret hc hr dX0_stringOf_29
def f_X6_string (x1 : Int32) (x2 : Int32) (x3 : Int32) (M : Mm) : Option (Int32 × Mm) :=
 Option.bind (f_X6_isNote x1 x2 M) (fun q_1 =>
 if q_1 = 0 then (
 nm (f_X6_finding (-100001 : Int32) M) (fun q_4 =>
 some (q_4.1, q_4.2)))
else (
 if (f_X6_isDiagram x3) = 0 then (
 nm (f_X6_finding (-100001 : Int32) M) (fun q_15 =>
 some (q_15.1, q_15.2)))
else (
 Option.bind (f_X0_read 152 3 x1 M) (fun q_7 =>
 ck (ib x3 2187) (
 Option.bind (f_X0_stringOf 152 x2 (q_7 2 x3.toNatClampNeg) q_7) (fun q_10 =>
 if 0 ≤ q_10 then (
 some (q_10, q_7))
else (
 nm (f_X6_finding (-100006 : Int32) q_7) (fun q_13 =>
 some (q_13.1, q_13.2)))))))))
set_option maxRecDepth 100000 in
set_option maxHeartbeats 4000000 in
theorem c_X6_string {G : Gm} {l : Launch} (d : Nat) {x1 : Int32} {x2 : Int32} {x3 : Int32} {M : Mm} {r : Int32 × Mm}  (h : f_X6_string x1 x2 x3 M = some r) : Cm G l (d + 3) yX6_string cX6_string 5 (some .int) [.ref (gR G 0), .int x1, .int x2, .int x3] M (some (.int r.1)) r.2 := by
  unfold f_X6_string at h
  refine m_met (lv := [some (.ref (gR G 0)), some (.int x1), some (.int x2), some (.int x3), none]) (own := RX6) (by decide +kernel) rfl rfl (Nat.le_of_ble_eq_true rfl) rfl ?_
  intro X hX hc hr
  subst hX
  refine m_aload_n hc dX6_string_0 rfl ?_
  refine m_iload_n hc dX6_string_1 rfl ?_
  refine m_iload_n hc dX6_string_2 rfl ?_
  obtain ⟨q_1, c_2, h⟩ := bd_o h
  refine m_callVi hc yO_0 rfl (c_X6_isNote (d + 1) c_2) (by omega) (by decide) wm_X6_93 wi_X6_isNote we_X6_isNote wn_X6 wc_X6_isNote wy_X6_isNote rfl (st := []) rfl rfl (Nat.le_of_ble_eq_true rfl) dX6_string_3 ?_
  refine m_ifeq hc (tgt := 16) dX6_string_6 (by decide) (fun b_3 => ?_) (fun b_3 => ?_)
  · replace h := (if_pos b_3).symm.trans h
    refine m_aload_n hc dX6_string_16 rfl ?_
    refine m_ldc hc dX6_string_17 wk_X6_57 ?_
    obtain ⟨q_4, c_5, h⟩ := nm_o h
    refine m_callVi hc yO_0 rfl (c_X6_finding (d + 2) c_5) (by omega) (by decide) wm_X6_58 wi_X6_finding we_X6_finding wn_X6 wc_X6_finding wy_X6_finding rfl (st := []) rfl rfl (Nat.le_of_ble_eq_true rfl) dX6_string_19 ?_
    cases h
    exact m_iret hc hr dX6_string_22
  · replace h := (if_neg b_3).symm.trans h
    refine m_iload_n hc dX6_string_9 rfl ?_
    refine m_callSi hc (c_X6_isDiagram (d + 2) rfl) (by omega) (by decide) wm_X6_144 wt_X6_isDiagram wv_X6_isDiagram wc_X6_isDiagram wz_X6_isDiagram rfl (st := []) rfl rfl (Nat.le_of_ble_eq_true rfl) dX6_string_10 ?_
    refine m_ifne hc (tgt := 23) dX6_string_13 (by decide) (fun b_6 => ?_) (fun b_6 => ?_)
    · replace h := (if_neg b_6).symm.trans h
      refine m_aload_n hc dX6_string_23 rfl ?_
      refine m_getR hc (q := 152) yO_0 rfl tbX6 3 (by decide) wf_X6_33 rfl dX6_string_24 ?_
      refine m_aload_n hc dX6_string_27 rfl ?_
      refine m_getR hc (q := 3) yO_0 rfl tbX6 1 (by decide) wf_X6_19 rfl dX6_string_28 ?_
      refine m_iload_n hc dX6_string_31 rfl ?_
      obtain ⟨q_7, c_8, h⟩ := bd_o h
      refine m_callVv hc yO_152 rfl (c_X0_read (d + 0) kC_152 kP_3lit c_8) (by omega) (by decide) wm_X6_150 wi_X0_read we_X0_read wn_X0 wc_X0_read wy_X0_read rfl (st := []) rfl rfl (Nat.le_of_ble_eq_true rfl) dX6_string_32 ?_
      refine m_aload_n hc dX6_string_35 rfl ?_
      refine m_getR hc (q := 152) yO_0 rfl tbX6 3 (by decide) wf_X6_33 rfl dX6_string_36 ?_
      refine m_iload_n hc dX6_string_39 rfl ?_
      refine m_aload_n hc dX6_string_40 rfl ?_
      refine m_getR hc (q := 1) yO_0 rfl tbX6 0 (by decide) wf_X6_10 rfl dX6_string_41 ?_
      refine m_getR hc (q := 2) yO_1 rfl tbX1 0 (by decide) wf_X6_154 rfl dX6_string_44 ?_
      refine m_iload_n hc dX6_string_47 rfl ?_
      obtain ⟨b_9, h⟩ := ck_o h
      refine m_iald hc yA_2 b_9 dX6_string_48 ?_
      obtain ⟨q_10, c_11, h⟩ := bd_o h
      refine m_callVi hc yO_152 rfl (c_X0_stringOf (d + 1) kC_152 c_11) (by omega) (by decide) wm_X6_157 wi_X0_stringOf we_X0_stringOf wn_X0 wc_X0_stringOf wy_X0_stringOf rfl (st := []) rfl rfl (Nat.le_of_ble_eq_true rfl) dX6_string_49 ?_
      refine m_istore hc (lv' := [some (.ref (gR G 0)), some (.int x1), some (.int x2), some (.int x3), some (.int q_10)]) dX6_string_52 (Nat.le_of_ble_eq_true rfl) rfl rfl ?_
      refine m_iload hc dX6_string_54 rfl ?_
      refine m_ifge hc (tgt := 68) dX6_string_56 (by decide) (fun b_12 => ?_) (fun b_12 => ?_)
      · replace h := (if_pos b_12).symm.trans h
        refine m_iload hc dX6_string_68 rfl ?_
        cases h
        exact m_iret hc hr dX6_string_70
      · replace h := (if_neg b_12).symm.trans h
        refine m_aload_n hc dX6_string_59 rfl ?_
        refine m_ldc hc dX6_string_60 wk_X6_92 ?_
        obtain ⟨q_13, c_14, h⟩ := nm_o h
        refine m_callVi hc yO_0 rfl (c_X6_finding (d + 2) c_14) (by omega) (by decide) wm_X6_58 wi_X6_finding we_X6_finding wn_X6 wc_X6_finding wy_X6_finding rfl (st := []) rfl rfl (Nat.le_of_ble_eq_true rfl) dX6_string_62 ?_
        refine m_goto hc (tgt := 70) dX6_string_65 (by decide) ?_
        cases h
        exact m_iret hc hr dX6_string_70
    · replace h := (if_pos b_6).symm.trans h
      refine m_aload_n hc dX6_string_16 rfl ?_
      refine m_ldc hc dX6_string_17 wk_X6_57 ?_
      obtain ⟨q_15, c_16, h⟩ := nm_o h
      refine m_callVi hc yO_0 rfl (c_X6_finding (d + 2) c_16) (by omega) (by decide) wm_X6_58 wi_X6_finding we_X6_finding wn_X6 wc_X6_finding wy_X6_finding rfl (st := []) rfl rfl (Nat.le_of_ble_eq_true rfl) dX6_string_19 ?_
      cases h
      exact m_iret hc hr dX6_string_22
def L_X0_locksBy_23 (a0 : Nat) (x1 : Int32) (M : Mm) : Nat → Int64 → Int32 → Int32 → Option ((Int32) ⊕ (Int32))
  | 0, _, _, _ => none
  | n_10 + 1, x2_2, x4_3, x5_4 =>
    if (M a0 0) ≤ x5_4 then (
     some (.inl x4_3))
    else (
     Option.bind (f_X0_stringOf a0 x5_4 x1 M) (fun q_14 =>
     if q_14 < 0 then (
     some (.inr (-1 : Int32)))
    else (
     if (lg_cmp ((x2_2 >>> (q_14.toInt64 &&& 63)) &&& (1 : Int64)) (0 : Int64)) = 0 then (
     nm ((x2_2 ||| ((1 : Int64) <<< (q_14.toInt64 &&& 63)))) (fun x2_18 =>
     ck (ib x5_4 6) (
     nm ((x4_3 ||| ((M (a0 + 2) x5_4.toNatClampNeg) <<< ((q_14 - q_14 / (7 : Int32) * (7 : Int32)) &&& 31)))) (fun x4_21 =>
     L_X0_locksBy_23 a0 x1 M n_10 x2_18 x4_21 (x5_4 + 1)))))
    else (
     some (.inr (-1 : Int32))))))
def f_X0_locksBy (a0 : Nat) (x1 : Int32) (M : Mm) : Option (Int32) :=
 if (x1 &&& (M a0 7)) = (M a0 8) then (
 Option.bind (L_X0_locksBy_23 a0 x1 M FU (0 : Int64) (0 : Int32) (0 : Int32)) (fun q_5 => Sum.elim (fun w_12 =>
 some w_12) (fun r => some r) q_5))
else (
 some (-1 : Int32))
set_option maxRecDepth 100000 in
set_option maxHeartbeats 4000000 in
theorem c_X0_locksBy {G : Gm} {l : Launch} (d : Nat) {a0 : Nat} {x1 : Int32} {M : Mm} {r : Int32} (h0 : kC a0) (h : f_X0_locksBy a0 x1 M = some r) : Cm G l (d + 2) yX0_locksBy cX0_locksBy 7 (some .int) [.ref (gR G a0), .int x1] M (some (.int r)) M := by
  unfold f_X0_locksBy at h
  refine m_met (lv := [some (.ref (gR G a0)), some (.int x1), none, none, none, none, none]) (own := RX0) (by decide +kernel) rfl rfl (Nat.le_of_ble_eq_true rfl) rfl ?_
  intro X hX hc hr
  subst hX
  refine m_iload_n hc dX0_locksBy_0 rfl ?_
  refine m_aload_n hc dX0_locksBy_1 rfl ?_
  refine m_getI hc (kC_o h0) rfl tbX0 7 (by decide) wf_X0_34 rfl dX0_locksBy_2 ?_
  refine m_iand hc dX0_locksBy_5 ?_
  refine m_aload_n hc dX0_locksBy_6 rfl ?_
  refine m_getI hc (kC_o h0) rfl tbX0 8 (by decide) wf_X0_37 rfl dX0_locksBy_7 ?_
  refine m_iceq hc (tgt := 15) dX0_locksBy_10 (by decide) (fun b_1 => ?_) (fun b_1 => ?_)
  · replace h := (if_pos b_1).symm.trans h
    refine m_lconst hc (v := 0) dX0_locksBy_15 (by decide) ?_
    refine m_lstore_n hc (lv' := [some (.ref (gR G a0)), some (.int x1), some (.long (0 : Int64)), none, none, none, none]) dX0_locksBy_16 (Nat.le_of_ble_eq_true rfl) rfl rfl ?_
    refine m_iconst hc (v := 0) dX0_locksBy_17 (by decide) ?_
    refine m_istore hc (lv' := [some (.ref (gR G a0)), some (.int x1), some (.long (0 : Int64)), none, some (.int (0 : Int32)), none, none]) dX0_locksBy_18 (Nat.le_of_ble_eq_true rfl) rfl rfl ?_
    refine m_iconst hc (v := 0) dX0_locksBy_20 (by decide) ?_
    refine m_istore hc (lv' := [some (.ref (gR G a0)), some (.int x1), some (.long (0 : Int64)), none, some (.int (0 : Int32)), some (.int (0 : Int32)), none]) dX0_locksBy_21 (Nat.le_of_ble_eq_true rfl) rfl rfl ?_
    obtain ⟨q_5, c_6, g_9⟩ := bd_o h
    have J_7 : ∀ (w_12 : Int32), (some w_12) = some r → WM G X (qQ G X (some (.int r)) M) M 90 [some (.ref (gR G a0)), some (.int x1), none, none, some (.int w_12), none, none] [] := by
      intro w_12 h
      refine m_iload hc dX0_locksBy_90 rfl ?_
      cases h
      exact m_iret hc hr dX0_locksBy_92
    have L_8 : ∀ (n_10 : Nat) (x2_2 : Int64) (x4_3 : Int32) (x5_4 : Int32), L_X0_locksBy_23 a0 x1 M n_10 x2_2 x4_3 x5_4 = some q_5 → WM G X (qQ G X (some (.int r)) M) M 23 [some (.ref (gR G a0)), some (.int x1), some (.long x2_2), none, some (.int x4_3), some (.int x5_4), none] [] := by
      intro n_10
      induction n_10 with
      | zero =>
        intro x2_2 x4_3 x5_4 h
        cases (show none = some _ from h)
      | succ n_10 i_11 =>
        intro x2_2 x4_3 x5_4 h
        rw [L_X0_locksBy_23] at h
        refine m_iload hc dX0_locksBy_23 rfl ?_
        refine m_aload_n hc dX0_locksBy_25 rfl ?_
        refine m_getI hc (kC_o h0) rfl tbX0 0 (by decide) wf_X0_9 rfl dX0_locksBy_26 ?_
        refine m_icge hc (tgt := 90) dX0_locksBy_29 (by decide) (fun b_13 => ?_) (fun b_13 => ?_)
        · replace h := (if_pos b_13).symm.trans h
          cases h
          exact m_fg [2, 5] rfl (J_7 x4_3 g_9)
        · replace h := (if_neg b_13).symm.trans h
          refine m_aload_n hc dX0_locksBy_32 rfl ?_
          refine m_iload hc dX0_locksBy_33 rfl ?_
          refine m_iload_n hc dX0_locksBy_35 rfl ?_
          obtain ⟨q_14, c_15, h⟩ := bd_o h
          refine m_callVi hc (kC_o h0) rfl (c_X0_stringOf (d + 0) h0 c_15) (by omega) (by decide) wm_X0_87 wi_X0_stringOf we_X0_stringOf wn_X0 wc_X0_stringOf wy_X0_stringOf rfl (st := []) rfl rfl (Nat.le_of_ble_eq_true rfl) dX0_locksBy_36 ?_
          refine m_istore hc (lv' := [some (.ref (gR G a0)), some (.int x1), some (.long x2_2), none, some (.int x4_3), some (.int x5_4), some (.int q_14)]) dX0_locksBy_39 (Nat.le_of_ble_eq_true rfl) rfl rfl ?_
          refine m_iload hc dX0_locksBy_41 rfl ?_
          refine m_iflt hc (tgt := 57) dX0_locksBy_43 (by decide) (fun b_16 => ?_) (fun b_16 => ?_)
          · replace h := (if_pos b_16).symm.trans h
            refine m_iconst hc (v := (-1)) dX0_locksBy_57 (by decide) ?_
            cases h
            have g_9 : some (-1 : Int32) = some r := g_9
            cases g_9
            exact m_iret hc hr dX0_locksBy_58
          · replace h := (if_neg b_16).symm.trans h
            refine m_lload_n hc dX0_locksBy_46 rfl ?_
            refine m_iload hc dX0_locksBy_47 rfl ?_
            refine m_lshr hc dX0_locksBy_49 ?_
            refine m_lconst hc (v := 1) dX0_locksBy_50 (by decide) ?_
            refine m_land hc dX0_locksBy_51 ?_
            refine m_lconst hc (v := 0) dX0_locksBy_52 (by decide) ?_
            refine m_lcmp hc dX0_locksBy_53 ?_
            refine m_ifeq hc (tgt := 59) dX0_locksBy_54 (by decide) (fun b_17 => ?_) (fun b_17 => ?_)
            · replace h := (if_pos b_17).symm.trans h
              refine m_lload_n hc dX0_locksBy_59 rfl ?_
              refine m_lconst hc (v := 1) dX0_locksBy_60 (by decide) ?_
              refine m_iload hc dX0_locksBy_61 rfl ?_
              refine m_lshl hc dX0_locksBy_63 ?_
              refine m_lor hc dX0_locksBy_64 ?_
              refine m_topL (fun x2_18 e_19 => ?_)
              replace h := nm_x e_19 h
              refine m_lstore_n hc (lv' := [some (.ref (gR G a0)), some (.int x1), some (.long x2_18), none, some (.int x4_3), some (.int x5_4), some (.int q_14)]) dX0_locksBy_65 (Nat.le_of_ble_eq_true rfl) rfl rfl ?_
              refine m_iload hc dX0_locksBy_66 rfl ?_
              refine m_aload_n hc dX0_locksBy_68 rfl ?_
              refine m_getR hc (q := (a0 + 2)) (kC_o h0) rfl tbX0 2 (by decide) wf_X0_19 rfl dX0_locksBy_69 ?_
              refine m_iload hc dX0_locksBy_72 rfl ?_
              obtain ⟨b_20, h⟩ := ck_o h
              refine m_iald hc (kC_2 h0) b_20 dX0_locksBy_74 ?_
              refine m_iload hc dX0_locksBy_75 rfl ?_
              refine m_bipush hc (v := (7 : Int32)) dX0_locksBy_77 (by decide) ?_
              refine m_irem hc dX0_locksBy_79 (by decide) ?_
              refine m_ishl hc dX0_locksBy_80 ?_
              refine m_ior hc dX0_locksBy_81 ?_
              refine m_topI (fun x4_21 e_22 => ?_)
              replace h := nm_x e_22 h
              refine m_istore hc (lv' := [some (.ref (gR G a0)), some (.int x1), some (.long x2_18), none, some (.int x4_21), some (.int x5_4), some (.int q_14)]) dX0_locksBy_82 (Nat.le_of_ble_eq_true rfl) rfl rfl ?_
              refine m_iinc hc (v := x5_4 + 1) (lv' := [some (.ref (gR G a0)), some (.int x1), some (.long x2_18), none, some (.int x4_21), some (.int (x5_4 + 1)), some (.int q_14)]) dX0_locksBy_84 rfl rfl rfl rfl ?_
              refine m_goto hc (tgt := 23) dX0_locksBy_87 (by decide) ?_
              exact m_fg [6] rfl (i_11 _ _ _ h)
            · replace h := (if_neg b_17).symm.trans h
              refine m_iconst hc (v := (-1)) dX0_locksBy_57 (by decide) ?_
              cases h
              have g_9 : some (-1 : Int32) = some r := g_9
              cases g_9
              exact m_iret hc hr dX0_locksBy_58
    exact m_fg [] rfl (L_8 _ _ _ _ c_6)
  · replace h := (if_neg b_1).symm.trans h
    refine m_iconst hc (v := (-1)) dX0_locksBy_13 (by decide) ?_
    cases h
    exact m_iret hc hr dX0_locksBy_14
def f_X6_does (x1 : Int32) (x2 : Int32) (M : Mm) : Option (Int32 × Mm) :=
 if (f_X6_isBeat x1) = 0 then (
 nm (f_X6_finding (-100001 : Int32) M) (fun q_2 =>
 some (q_2.1, q_2.2)))
else (
 if (f_X6_isDiagram x2) = 0 then (
 nm (f_X6_finding (-100001 : Int32) M) (fun q_11 =>
 some (q_11.1, q_11.2)))
else (
 Option.bind (f_X0_read 152 3 x1 M) (fun q_5 =>
 ck (ib x2 2187) (
 Option.bind (f_X0_locksBy 152 (q_5 2 x2.toNatClampNeg) q_5) (fun q_8 =>
 if 0 ≤ q_8 then (
 some ((1 : Int32), q_5))
else (
 some ((0 : Int32), q_5)))))))
set_option maxRecDepth 100000 in
set_option maxHeartbeats 4000000 in
theorem c_X6_does {G : Gm} {l : Launch} (d : Nat) {x1 : Int32} {x2 : Int32} {M : Mm} {r : Int32 × Mm}  (h : f_X6_does x1 x2 M = some r) : Cm G l (d + 3) yX6_does cX6_does 3 (some .int) [.ref (gR G 0), .int x1, .int x2] M (some (.int r.1)) r.2 := by
  unfold f_X6_does at h
  refine m_met (lv := [some (.ref (gR G 0)), some (.int x1), some (.int x2)]) (own := RX6) (by decide +kernel) rfl rfl (Nat.le_of_ble_eq_true rfl) rfl ?_
  intro X hX hc hr
  subst hX
  refine m_iload_n hc dX6_does_0 rfl ?_
  refine m_callSi hc (c_X6_isBeat (d + 2) rfl) (by omega) (by decide) wm_X6_72 wt_X6_isBeat wv_X6_isBeat wc_X6_isBeat wz_X6_isBeat rfl (st := []) rfl rfl (Nat.le_of_ble_eq_true rfl) dX6_does_1 ?_
  refine m_ifeq hc (tgt := 14) dX6_does_4 (by decide) (fun b_1 => ?_) (fun b_1 => ?_)
  · replace h := (if_pos b_1).symm.trans h
    refine m_aload_n hc dX6_does_14 rfl ?_
    refine m_ldc hc dX6_does_15 wk_X6_57 ?_
    obtain ⟨q_2, c_3, h⟩ := nm_o h
    refine m_callVi hc yO_0 rfl (c_X6_finding (d + 2) c_3) (by omega) (by decide) wm_X6_58 wi_X6_finding we_X6_finding wn_X6 wc_X6_finding wy_X6_finding rfl (st := []) rfl rfl (Nat.le_of_ble_eq_true rfl) dX6_does_17 ?_
    cases h
    exact m_iret hc hr dX6_does_20
  · replace h := (if_neg b_1).symm.trans h
    refine m_iload_n hc dX6_does_7 rfl ?_
    refine m_callSi hc (c_X6_isDiagram (d + 2) rfl) (by omega) (by decide) wm_X6_144 wt_X6_isDiagram wv_X6_isDiagram wc_X6_isDiagram wz_X6_isDiagram rfl (st := []) rfl rfl (Nat.le_of_ble_eq_true rfl) dX6_does_8 ?_
    refine m_ifne hc (tgt := 21) dX6_does_11 (by decide) (fun b_4 => ?_) (fun b_4 => ?_)
    · replace h := (if_neg b_4).symm.trans h
      refine m_aload_n hc dX6_does_21 rfl ?_
      refine m_getR hc (q := 152) yO_0 rfl tbX6 3 (by decide) wf_X6_33 rfl dX6_does_22 ?_
      refine m_aload_n hc dX6_does_25 rfl ?_
      refine m_getR hc (q := 3) yO_0 rfl tbX6 1 (by decide) wf_X6_19 rfl dX6_does_26 ?_
      refine m_iload_n hc dX6_does_29 rfl ?_
      obtain ⟨q_5, c_6, h⟩ := bd_o h
      refine m_callVv hc yO_152 rfl (c_X0_read (d + 0) kC_152 kP_3lit c_6) (by omega) (by decide) wm_X6_150 wi_X0_read we_X0_read wn_X0 wc_X0_read wy_X0_read rfl (st := []) rfl rfl (Nat.le_of_ble_eq_true rfl) dX6_does_30 ?_
      refine m_aload_n hc dX6_does_33 rfl ?_
      refine m_getR hc (q := 152) yO_0 rfl tbX6 3 (by decide) wf_X6_33 rfl dX6_does_34 ?_
      refine m_aload_n hc dX6_does_37 rfl ?_
      refine m_getR hc (q := 1) yO_0 rfl tbX6 0 (by decide) wf_X6_10 rfl dX6_does_38 ?_
      refine m_getR hc (q := 2) yO_1 rfl tbX1 0 (by decide) wf_X6_154 rfl dX6_does_41 ?_
      refine m_iload_n hc dX6_does_44 rfl ?_
      obtain ⟨b_7, h⟩ := ck_o h
      refine m_iald hc yA_2 b_7 dX6_does_45 ?_
      obtain ⟨q_8, c_9, h⟩ := bd_o h
      refine m_callVi hc yO_152 rfl (c_X0_locksBy (d + 0) kC_152 c_9) (by omega) (by decide) wm_X6_160 wi_X0_locksBy we_X0_locksBy wn_X0 wc_X0_locksBy wy_X0_locksBy rfl (st := []) rfl rfl (Nat.le_of_ble_eq_true rfl) dX6_does_46 ?_
      refine m_ifge hc (tgt := 56) dX6_does_49 (by decide) (fun b_10 => ?_) (fun b_10 => ?_)
      · replace h := (if_pos b_10).symm.trans h
        refine m_iconst hc (v := 1) dX6_does_56 (by decide) ?_
        cases h
        exact m_iret hc hr dX6_does_57
      · replace h := (if_neg b_10).symm.trans h
        refine m_iconst hc (v := 0) dX6_does_52 (by decide) ?_
        refine m_goto hc (tgt := 57) dX6_does_53 (by decide) ?_
        cases h
        exact m_iret hc hr dX6_does_57
    · replace h := (if_pos b_4).symm.trans h
      refine m_aload_n hc dX6_does_14 rfl ?_
      refine m_ldc hc dX6_does_15 wk_X6_57 ?_
      obtain ⟨q_11, c_12, h⟩ := nm_o h
      refine m_callVi hc yO_0 rfl (c_X6_finding (d + 2) c_12) (by omega) (by decide) wm_X6_58 wi_X6_finding we_X6_finding wn_X6 wc_X6_finding wy_X6_finding rfl (st := []) rfl rfl (Nat.le_of_ble_eq_true rfl) dX6_does_17 ?_
      cases h
      exact m_iret hc hr dX6_does_20
def L_X6_many_30 (q_2 : Mm) : Nat → Int32 → Int32 → Option (Int32)
  | 0, _, _ => none
  | n_11 + 1, x2_4, x3_5 =>
    if (2187 : Int32) ≤ x3_5 then (
     some x2_4)
    else (
     ck (ib x3_5 2187) (
     Option.bind (f_X0_locksBy 152 (q_2 2 x3_5.toNatClampNeg) q_2) (fun q_15 =>
     nm (
     if q_15 < 0 then (
     x2_4)
    else (
     (x2_4 + 1))) (fun q_18 =>
     L_X6_many_30 q_2 n_11 q_18 (x3_5 + 1)))))
def f_X6_many (x1 : Int32) (M : Mm) : Option (Int32 × Mm) :=
 if (f_X6_isBeat x1) = 0 then (
 nm (f_X6_finding (-100001 : Int32) M) (fun q_22 =>
 some (q_22.1, q_22.2)))
else (
 Option.bind (f_X0_read 152 3 x1 M) (fun q_2 =>
 Option.bind (L_X6_many_30 q_2 FU (0 : Int32) (0 : Int32)) (fun q_6 =>
 some (q_6, q_2))))
set_option maxRecDepth 100000 in
set_option maxHeartbeats 4000000 in
theorem c_X6_many {G : Gm} {l : Launch} (d : Nat) {x1 : Int32} {M : Mm} {r : Int32 × Mm}  (h : f_X6_many x1 M = some r) : Cm G l (d + 3) yX6_many cX6_many 4 (some .int) [.ref (gR G 0), .int x1] M (some (.int r.1)) r.2 := by
  unfold f_X6_many at h
  refine m_met (lv := [some (.ref (gR G 0)), some (.int x1), none, none]) (own := RX6) (by decide +kernel) rfl rfl (Nat.le_of_ble_eq_true rfl) rfl ?_
  intro X hX hc hr
  subst hX
  refine m_iload_n hc dX6_many_0 rfl ?_
  refine m_callSi hc (c_X6_isBeat (d + 2) rfl) (by omega) (by decide) wm_X6_72 wt_X6_isBeat wv_X6_isBeat wc_X6_isBeat wz_X6_isBeat rfl (st := []) rfl rfl (Nat.le_of_ble_eq_true rfl) dX6_many_1 ?_
  refine m_ifne hc (tgt := 14) dX6_many_4 (by decide) (fun b_1 => ?_) (fun b_1 => ?_)
  · replace h := (if_neg b_1).symm.trans h
    refine m_aload_n hc dX6_many_14 rfl ?_
    refine m_getR hc (q := 152) yO_0 rfl tbX6 3 (by decide) wf_X6_33 rfl dX6_many_15 ?_
    refine m_aload_n hc dX6_many_18 rfl ?_
    refine m_getR hc (q := 3) yO_0 rfl tbX6 1 (by decide) wf_X6_19 rfl dX6_many_19 ?_
    refine m_iload_n hc dX6_many_22 rfl ?_
    obtain ⟨q_2, c_3, h⟩ := bd_o h
    refine m_callVv hc yO_152 rfl (c_X0_read (d + 0) kC_152 kP_3lit c_3) (by omega) (by decide) wm_X6_150 wi_X0_read we_X0_read wn_X0 wc_X0_read wy_X0_read rfl (st := []) rfl rfl (Nat.le_of_ble_eq_true rfl) dX6_many_23 ?_
    refine m_iconst hc (v := 0) dX6_many_26 (by decide) ?_
    refine m_istore_n hc (lv' := [some (.ref (gR G 0)), some (.int x1), some (.int (0 : Int32)), none]) dX6_many_27 (Nat.le_of_ble_eq_true rfl) rfl rfl ?_
    refine m_iconst hc (v := 0) dX6_many_28 (by decide) ?_
    refine m_istore_n hc (lv' := [some (.ref (gR G 0)), some (.int x1), some (.int (0 : Int32)), some (.int (0 : Int32))]) dX6_many_29 (Nat.le_of_ble_eq_true rfl) rfl rfl ?_
    obtain ⟨q_6, c_7, h⟩ := bd_o h
    have J_8 : WM G X (qQ G X (some (.int r.1)) r.2) q_2 65 [some (.ref (gR G 0)), some (.int x1), some (.int q_6), none] [] := by
      refine m_iload_n hc dX6_many_65 rfl ?_
      cases h
      exact m_iret hc hr dX6_many_66
    have L_9 : ∀ (n_11 : Nat) (x2_4 : Int32) (x3_5 : Int32), L_X6_many_30 q_2 n_11 x2_4 x3_5 = some q_6 → WM G X (qQ G X (some (.int r.1)) r.2) q_2 30 [some (.ref (gR G 0)), some (.int x1), some (.int x2_4), some (.int x3_5)] [] := by
      intro n_11
      induction n_11 with
      | zero =>
        intro x2_4 x3_5 h
        cases (show none = some _ from h)
      | succ n_11 i_12 =>
        intro x2_4 x3_5 h
        rw [L_X6_many_30] at h
        refine m_iload_n hc dX6_many_30 rfl ?_
        refine m_sipush hc (v := (2187 : Int32)) dX6_many_31 (by decide) ?_
        refine m_icge hc (tgt := 65) dX6_many_34 (by decide) (fun b_13 => ?_) (fun b_13 => ?_)
        · replace h := (if_pos b_13).symm.trans h
          cases h
          exact m_fg [3] rfl J_8
        · replace h := (if_neg b_13).symm.trans h
          refine m_aload_n hc dX6_many_37 rfl ?_
          refine m_getR hc (q := 152) yO_0 rfl tbX6 3 (by decide) wf_X6_33 rfl dX6_many_38 ?_
          refine m_aload_n hc dX6_many_41 rfl ?_
          refine m_getR hc (q := 1) yO_0 rfl tbX6 0 (by decide) wf_X6_10 rfl dX6_many_42 ?_
          refine m_getR hc (q := 2) yO_1 rfl tbX1 0 (by decide) wf_X6_154 rfl dX6_many_45 ?_
          refine m_iload_n hc dX6_many_48 rfl ?_
          obtain ⟨b_14, h⟩ := ck_o h
          refine m_iald hc yA_2 b_14 dX6_many_49 ?_
          obtain ⟨q_15, c_16, h⟩ := bd_o h
          refine m_callVi hc yO_152 rfl (c_X0_locksBy (d + 0) kC_152 c_16) (by omega) (by decide) wm_X6_160 wi_X0_locksBy we_X0_locksBy wn_X0 wc_X0_locksBy wy_X0_locksBy rfl (st := []) rfl rfl (Nat.le_of_ble_eq_true rfl) dX6_many_50 ?_
          obtain ⟨q_18, c_19, h⟩ := nm_o h
          have J_20 : WM G X (qQ G X (some (.int r.1)) r.2) q_2 59 [some (.ref (gR G 0)), some (.int x1), some (.int q_18), some (.int x3_5)] [] := by
            refine m_iinc hc (v := x3_5 + 1) (lv' := [some (.ref (gR G 0)), some (.int x1), some (.int q_18), some (.int (x3_5 + 1))]) dX6_many_59 rfl rfl rfl rfl ?_
            refine m_goto hc (tgt := 30) dX6_many_62 (by decide) ?_
            exact m_fg [] rfl (i_12 _ _ h)
          replace h := c_19
          refine m_iflt hc (tgt := 59) dX6_many_53 (by decide) (fun b_21 => ?_) (fun b_21 => ?_)
          · replace h := (if_pos b_21).symm.trans h
            subst h
            exact m_fg [] rfl J_20
          · replace h := (if_neg b_21).symm.trans h
            refine m_iinc hc (v := x2_4 + 1) (lv' := [some (.ref (gR G 0)), some (.int x1), some (.int (x2_4 + 1)), some (.int x3_5)]) dX6_many_56 rfl rfl rfl rfl ?_
            subst h
            exact m_fg [] rfl J_20
    exact m_fg [] rfl (L_9 _ _ _ c_7)
  · replace h := (if_pos b_1).symm.trans h
    refine m_aload_n hc dX6_many_7 rfl ?_
    refine m_ldc hc dX6_many_8 wk_X6_57 ?_
    obtain ⟨q_22, c_23, h⟩ := nm_o h
    refine m_callVi hc yO_0 rfl (c_X6_finding (d + 2) c_23) (by omega) (by decide) wm_X6_58 wi_X6_finding we_X6_finding wn_X6 wc_X6_finding wy_X6_finding rfl (st := []) rfl rfl (Nat.le_of_ble_eq_true rfl) dX6_many_10 ?_
    cases h
    exact m_iret hc hr dX6_many_13
def L_J7_fill_53178_5 (N : Nat) (a0 : Nat) (x1 : Int32) (x3_1 : Int32) : Nat → Int32 → Mm → Option (Mm)
  | 0, _, _ => none
  | n_10 + 1, x2_3, M_4 =>
    if x3_1 ≤ x2_3 then (
     some M_4)
    else (
     ck (ib x2_3 N) (
     nm (mw M_4 a0 x2_3.toNatClampNeg x1) (fun M_14 =>
     L_J7_fill_53178_5 N a0 x1 x3_1 n_10 (x2_3 + 1) M_14)))
def f_J7_fill_53178 (N : Nat) (a0 : Nat) (x1 : Int32) (M : Mm) : Option (Mm) :=
 nm ((nI N)) (fun x3_1 =>
 Option.bind (L_J7_fill_53178_5 N a0 x1 x3_1 FU (0 : Int32) M) (fun q_5 =>
 some q_5))
set_option maxRecDepth 100000 in
set_option maxHeartbeats 4000000 in
theorem c_J7_fill_53178 {G : Gm} {l : Launch} (d : Nat) {N : Nat} {a0 : Nat} {x1 : Int32} {M : Mm} {r : Mm} (h0 : isA a0 N) (h : f_J7_fill_53178 N a0 x1 M = some r) : Cm G l (d + 0) yJ7_fill_53178 cJ7_fill_53178 4 none [.ref (gR G a0), .int x1] M none r := by
  unfold f_J7_fill_53178 at h
  refine m_met (lv := [some (.ref (gR G a0)), some (.int x1), none, none]) (own := RJ7) (by decide +kernel) rfl rfl (Nat.le_of_ble_eq_true rfl) rfl ?_
  intro X hX hc hr
  subst hX
  refine m_iconst hc (v := 0) dJ7_fill_53178_0 (by decide) ?_
  refine m_istore_n hc (lv' := [some (.ref (gR G a0)), some (.int x1), some (.int (0 : Int32)), none]) dJ7_fill_53178_1 (Nat.le_of_ble_eq_true rfl) rfl rfl ?_
  refine m_aload_n hc dJ7_fill_53178_2 rfl ?_
  refine m_alen hc h0 dJ7_fill_53178_3 ?_
  refine m_topI (fun x3_1 e_2 => ?_)
  replace h := nm_x e_2 h
  refine m_istore_n hc (lv' := [some (.ref (gR G a0)), some (.int x1), some (.int (0 : Int32)), some (.int x3_1)]) dJ7_fill_53178_4 (Nat.le_of_ble_eq_true rfl) rfl rfl ?_
  obtain ⟨q_5, c_6, h⟩ := bd_o h
  have J_7 : WM G X (qQ G X none r) q_5 20 [some (.ref (gR G a0)), some (.int x1), none, some (.int x3_1)] [] := by
    cases h
    exact m_vret hc hr dJ7_fill_53178_20
  have L_8 : ∀ (n_10 : Nat) (x2_3 : Int32) (M_4 : Mm), L_J7_fill_53178_5 N a0 x1 x3_1 n_10 x2_3 M_4 = some q_5 → WM G X (qQ G X none r) M_4 5 [some (.ref (gR G a0)), some (.int x1), some (.int x2_3), some (.int x3_1)] [] := by
    intro n_10
    induction n_10 with
    | zero =>
      intro x2_3 M_4 h
      cases (show none = some _ from h)
    | succ n_10 i_11 =>
      intro x2_3 M_4 h
      rw [L_J7_fill_53178_5] at h
      refine m_iload_n hc dJ7_fill_53178_5 rfl ?_
      refine m_iload_n hc dJ7_fill_53178_6 rfl ?_
      refine m_icge hc (tgt := 20) dJ7_fill_53178_7 (by decide) (fun b_12 => ?_) (fun b_12 => ?_)
      · replace h := (if_pos b_12).symm.trans h
        cases h
        exact m_fg [2] rfl J_7
      · replace h := (if_neg b_12).symm.trans h
        refine m_aload_n hc dJ7_fill_53178_10 rfl ?_
        refine m_iload_n hc dJ7_fill_53178_11 rfl ?_
        refine m_iload_n hc dJ7_fill_53178_12 rfl ?_
        obtain ⟨b_13, h⟩ := ck_o h
        refine m_iast hc h0 b_13 dJ7_fill_53178_13 ?_
        refine m_topM (fun M_14 e_15 => ?_)
        replace h := nm_x e_15 h
        refine m_iinc hc (v := x2_3 + 1) (lv' := [some (.ref (gR G a0)), some (.int x1), some (.int (x2_3 + 1)), some (.int x3_1)]) dJ7_fill_53178_14 rfl rfl rfl rfl ?_
        refine m_goto hc (tgt := 5) dJ7_fill_53178_17 (by decide) ?_
        exact m_fg [] rfl (i_11 _ _ h)
  exact m_fg [] rfl (L_8 _ _ _ c_6)
