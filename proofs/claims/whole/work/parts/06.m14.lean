def f_X7_isSheet (x0 : Int32) : Int32 :=
 (f_X7_isIn x0 (0 : Int32) (3 : Int32))
set_option maxRecDepth 100000 in
set_option maxHeartbeats 4000000 in
theorem c_X7_isSheet {G : Gm} {l : Launch} (d : Nat) {x0 : Int32} {M : Mm} {r : Int32}  (h : f_X7_isSheet x0 = r) : Cm G l (d + 1) yX7_isSheet cX7_isSheet 1 (some .boolean) [.int x0] M (some (.int r)) M := by
  unfold f_X7_isSheet at h
  refine m_met (lv := [some (.int x0)]) (own := RX7) (by decide +kernel) rfl rfl (Nat.le_of_ble_eq_true rfl) rfl ?_
  intro X hX hc hr
  subst hX
  refine m_iload_n hc dX7_isSheet_0 rfl ?_
  refine m_iconst hc (v := 0) dX7_isSheet_1 (by decide) ?_
  refine m_iconst hc (v := 3) dX7_isSheet_2 (by decide) ?_
  refine m_callSi hc (c_X7_isIn (d + 0) rfl) (by omega) (by decide) wm_X7_60 wt_X7_isIn wv_X7_isIn wc_X7_isIn wz_X7_isIn rfl (st := []) rfl rfl (Nat.le_of_ble_eq_true rfl) dX7_isSheet_3 ?_
  subst h
  exact m_zret hc hr (bz_X7_isIn x0 (0 : Int32) (3 : Int32)) dX7_isSheet_6
theorem bz_X7_isSheet (x0 : Int32) : narrow .boolean (.int (f_X7_isSheet x0)) = .int (f_X7_isSheet x0) := by
  unfold f_X7_isSheet
  first | (repeat' split) <;> rfl | (first | exact bz_X7_isIn _ _ _)
def L_X7_sheet_85 (x1 : Int32) : Nat → Int32 → Mm → Option (Mm)
  | 0, _, _ => none
  | n_25 + 1, x4_18, M_19 =>
    if (30 : Int32) ≤ x4_18 then (
     some M_19)
    else (
     ck (ib (((30 : Int32) * x1) + x4_18) 120) (
     nm (mw M_19 217 (((30 : Int32) * x1) + x4_18).toNatClampNeg (0 : Int32)) (fun M_29 =>
     L_X7_sheet_85 x1 n_25 (x4_18 + 1) M_29)))
def f_X7_sheet (x1 : Int32) (x2 : Int32) (x3 : Int32) (M : Mm) : Option (Int32 × Mm) :=
 if (f_X7_isSheet x1) = 0 then (
 nm (f_X7_finding (-100001 : Int32) M) (fun q_2 =>
 some (q_2.1, q_2.2)))
else (
 if x2 = 0 then (
 if 0 ≤ x3 then (
 if x3 ≤ (30 : Int32) then (
 ck (ib x1 4) (
 nm (mw M 215 x1.toNatClampNeg x2) (fun M_8 =>
 nm (
 if x2 = 0 then (
 (0 : Int32))
else (
 x3)) (fun q_11 =>
 ck (ib x1 4) (
 nm (mw M_8 216 x1.toNatClampNeg q_11) (fun M_16 =>
 Option.bind (L_X7_sheet_85 x1 FU (0 : Int32) M_16) (fun q_20 =>
 ck (ib x1 4) (
 some ((q_20 216 x1.toNatClampNeg), q_20)))))))))
else (
 nm (f_X7_finding (-100001 : Int32) M) (fun q_32 =>
 some (q_32.1, q_32.2))))
else (
 nm (f_X7_finding (-100003 : Int32) M) (fun q_34 =>
 some (q_34.1, q_34.2))))
else (
 if x2 = (8 : Int32) then (
 if 0 ≤ x3 then (
 if x3 ≤ (30 : Int32) then (
 ck (ib x1 4) (
 nm (mw M 215 x1.toNatClampNeg x2) (fun M_40 =>
 nm (
 if x2 = 0 then (
 (0 : Int32))
else (
 x3)) (fun q_43 =>
 ck (ib x1 4) (
 nm (mw M_40 216 x1.toNatClampNeg q_43) (fun M_48 =>
 Option.bind (L_X7_sheet_85 x1 FU (0 : Int32) M_48) (fun q_52 =>
 ck (ib x1 4) (
 some ((q_52 216 x1.toNatClampNeg), q_52)))))))))
else (
 nm (f_X7_finding (-100001 : Int32) M) (fun q_64 =>
 some (q_64.1, q_64.2))))
else (
 nm (f_X7_finding (-100003 : Int32) M) (fun q_66 =>
 some (q_66.1, q_66.2))))
else (
 if x2 = (16 : Int32) then (
 if 0 ≤ x3 then (
 if x3 ≤ (30 : Int32) then (
 ck (ib x1 4) (
 nm (mw M 215 x1.toNatClampNeg x2) (fun M_72 =>
 nm (
 if x2 = 0 then (
 (0 : Int32))
else (
 x3)) (fun q_75 =>
 ck (ib x1 4) (
 nm (mw M_72 216 x1.toNatClampNeg q_75) (fun M_80 =>
 Option.bind (L_X7_sheet_85 x1 FU (0 : Int32) M_80) (fun q_84 =>
 ck (ib x1 4) (
 some ((q_84 216 x1.toNatClampNeg), q_84)))))))))
else (
 nm (f_X7_finding (-100001 : Int32) M) (fun q_96 =>
 some (q_96.1, q_96.2))))
else (
 nm (f_X7_finding (-100003 : Int32) M) (fun q_98 =>
 some (q_98.1, q_98.2))))
else (
 if x2 = (32 : Int32) then (
 if 0 ≤ x3 then (
 if x3 ≤ (30 : Int32) then (
 ck (ib x1 4) (
 nm (mw M 215 x1.toNatClampNeg x2) (fun M_104 =>
 nm (
 if x2 = 0 then (
 (0 : Int32))
else (
 x3)) (fun q_107 =>
 ck (ib x1 4) (
 nm (mw M_104 216 x1.toNatClampNeg q_107) (fun M_112 =>
 Option.bind (L_X7_sheet_85 x1 FU (0 : Int32) M_112) (fun q_116 =>
 ck (ib x1 4) (
 some ((q_116 216 x1.toNatClampNeg), q_116)))))))))
else (
 nm (f_X7_finding (-100001 : Int32) M) (fun q_128 =>
 some (q_128.1, q_128.2))))
else (
 nm (f_X7_finding (-100003 : Int32) M) (fun q_130 =>
 some (q_130.1, q_130.2))))
else (
 nm (f_X7_finding (-100001 : Int32) M) (fun q_132 =>
 some (q_132.1, q_132.2)))))))
set_option maxRecDepth 100000 in
set_option maxHeartbeats 4000000 in
theorem c_X7_sheet {G : Gm} {l : Launch} (d : Nat) {x1 : Int32} {x2 : Int32} {x3 : Int32} {M : Mm} {r : Int32 × Mm}  (h : f_X7_sheet x1 x2 x3 M = some r) : Cm G l (d + 2) yX7_sheet cX7_sheet 5 (some .int) [.ref (gR G 212), .int x1, .int x2, .int x3] M (some (.int r.1)) r.2 := by
  unfold f_X7_sheet at h
  refine m_met (lv := [some (.ref (gR G 212)), some (.int x1), some (.int x2), some (.int x3), none]) (own := RX7) (by decide +kernel) rfl rfl (Nat.le_of_ble_eq_true rfl) rfl ?_
  intro X hX hc hr
  subst hX
  refine m_iload_n hc dX7_sheet_0 rfl ?_
  refine m_callSi hc (c_X7_isSheet (d + 0) rfl) (by omega) (by decide) wm_X7_168 wt_X7_isSheet wv_X7_isSheet wc_X7_isSheet wz_X7_isSheet rfl (st := []) rfl rfl (Nat.le_of_ble_eq_true rfl) dX7_sheet_1 ?_
  refine m_ifeq hc (tgt := 29) dX7_sheet_4 (by decide) (fun b_1 => ?_) (fun b_1 => ?_)
  · replace h := (if_pos b_1).symm.trans h
    refine m_aload_n hc dX7_sheet_29 rfl ?_
    refine m_ldc hc dX7_sheet_30 wk_X7_83 ?_
    obtain ⟨q_2, c_3, h⟩ := nm_o h
    refine m_callVi hc yO_212 rfl (c_X7_finding (d + 1) c_3) (by omega) (by decide) wm_X7_72 wi_X7_finding we_X7_finding wn_X7 wc_X7_finding wy_X7_finding rfl (st := []) rfl rfl (Nat.le_of_ble_eq_true rfl) dX7_sheet_32 ?_
    cases h
    exact m_iret hc hr dX7_sheet_35
  · replace h := (if_neg b_1).symm.trans h
    refine m_iload_n hc dX7_sheet_7 rfl ?_
    refine m_ifeq hc (tgt := 36) dX7_sheet_8 (by decide) (fun b_4 => ?_) (fun b_4 => ?_)
    · replace h := (if_pos b_4).symm.trans h
      refine m_iload_n hc dX7_sheet_36 rfl ?_
      refine m_ifge hc (tgt := 47) dX7_sheet_37 (by decide) (fun b_5 => ?_) (fun b_5 => ?_)
      · replace h := (if_pos b_5).symm.trans h
        refine m_iload_n hc dX7_sheet_47 rfl ?_
        refine m_bipush hc (v := (30 : Int32)) dX7_sheet_48 (by decide) ?_
        refine m_icle hc (tgt := 60) dX7_sheet_50 (by decide) (fun b_6 => ?_) (fun b_6 => ?_)
        · replace h := (if_pos b_6).symm.trans h
          refine m_aload_n hc dX7_sheet_60 rfl ?_
          refine m_getR hc (q := 215) yO_212 rfl tbX7 3 (by decide) wf_X7_16 rfl dX7_sheet_61 ?_
          refine m_iload_n hc dX7_sheet_64 rfl ?_
          refine m_iload_n hc dX7_sheet_65 rfl ?_
          obtain ⟨b_7, h⟩ := ck_o h
          refine m_iast hc yA_215 b_7 dX7_sheet_66 ?_
          refine m_topM (fun M_8 e_9 => ?_)
          replace h := nm_x e_9 h
          refine m_aload_n hc dX7_sheet_67 rfl ?_
          refine m_getR hc (q := 216) yO_212 rfl tbX7 4 (by decide) wf_X7_19 rfl dX7_sheet_68 ?_
          refine m_iload_n hc dX7_sheet_71 rfl ?_
          refine m_iload_n hc dX7_sheet_72 rfl ?_
          obtain ⟨q_11, c_12, h⟩ := nm_o h
          have J_13 : WM G X (qQ G X (some (.int r.1)) r.2) M_8 81 [some (.ref (gR G 212)), some (.int x1), some (.int x2), some (.int x3), none] [.int q_11, .int x1, .ref (gR G 216)] := by
            obtain ⟨b_15, h⟩ := ck_o h
            refine m_iast hc yA_216 b_15 dX7_sheet_81 ?_
            refine m_topM (fun M_16 e_17 => ?_)
            replace h := nm_x e_17 h
            refine m_iconst hc (v := 0) dX7_sheet_82 (by decide) ?_
            refine m_istore hc (lv' := [some (.ref (gR G 212)), some (.int x1), some (.int x2), some (.int x3), some (.int (0 : Int32))]) dX7_sheet_83 (Nat.le_of_ble_eq_true rfl) rfl rfl ?_
            obtain ⟨q_20, c_21, h⟩ := bd_o h
            have J_22 : WM G X (qQ G X (some (.int r.1)) r.2) q_20 111 [some (.ref (gR G 212)), some (.int x1), some (.int x2), some (.int x3), none] [] := by
              refine m_aload_n hc dX7_sheet_111 rfl ?_
              refine m_getR hc (q := 216) yO_212 rfl tbX7 4 (by decide) wf_X7_19 rfl dX7_sheet_112 ?_
              refine m_iload_n hc dX7_sheet_115 rfl ?_
              obtain ⟨b_31, h⟩ := ck_o h
              refine m_iald hc yA_216 b_31 dX7_sheet_116 ?_
              cases h
              exact m_iret hc hr dX7_sheet_117
            have L_23 : ∀ (n_25 : Nat) (x4_18 : Int32) (M_19 : Mm), L_X7_sheet_85 x1 n_25 x4_18 M_19 = some q_20 → WM G X (qQ G X (some (.int r.1)) r.2) M_19 85 [some (.ref (gR G 212)), some (.int x1), some (.int x2), some (.int x3), some (.int x4_18)] [] := by
              intro n_25
              induction n_25 with
              | zero =>
                intro x4_18 M_19 h
                cases (show none = some _ from h)
              | succ n_25 i_26 =>
                intro x4_18 M_19 h
                rw [L_X7_sheet_85] at h
                refine m_iload hc dX7_sheet_85 rfl ?_
                refine m_bipush hc (v := (30 : Int32)) dX7_sheet_87 (by decide) ?_
                refine m_icge hc (tgt := 111) dX7_sheet_89 (by decide) (fun b_27 => ?_) (fun b_27 => ?_)
                · replace h := (if_pos b_27).symm.trans h
                  cases h
                  exact m_fg [4] rfl J_22
                · replace h := (if_neg b_27).symm.trans h
                  refine m_aload_n hc dX7_sheet_92 rfl ?_
                  refine m_getR hc (q := 217) yO_212 rfl tbX7 5 (by decide) wf_X7_22 rfl dX7_sheet_93 ?_
                  refine m_bipush hc (v := (30 : Int32)) dX7_sheet_96 (by decide) ?_
                  refine m_iload_n hc dX7_sheet_98 rfl ?_
                  refine m_imul hc dX7_sheet_99 ?_
                  refine m_iload hc dX7_sheet_100 rfl ?_
                  refine m_iadd hc dX7_sheet_102 ?_
                  refine m_iconst hc (v := 0) dX7_sheet_103 (by decide) ?_
                  obtain ⟨b_28, h⟩ := ck_o h
                  refine m_iast hc yA_217 b_28 dX7_sheet_104 ?_
                  refine m_topM (fun M_29 e_30 => ?_)
                  replace h := nm_x e_30 h
                  refine m_iinc hc (v := x4_18 + 1) (lv' := [some (.ref (gR G 212)), some (.int x1), some (.int x2), some (.int x3), some (.int (x4_18 + 1))]) dX7_sheet_105 rfl rfl rfl rfl ?_
                  refine m_goto hc (tgt := 85) dX7_sheet_108 (by decide) ?_
                  exact m_fg [] rfl (i_26 _ _ h)
            exact m_fg [] rfl (L_23 _ _ _ c_21)
          replace h := c_12
          refine m_ifne hc (tgt := 80) dX7_sheet_73 (by decide) (fun b_14 => ?_) (fun b_14 => ?_)
          · replace h := (if_neg b_14).symm.trans h
            refine m_iload_n hc dX7_sheet_80 rfl ?_
            subst h
            exact m_fg [] rfl J_13
          · replace h := (if_pos b_14).symm.trans h
            refine m_iconst hc (v := 0) dX7_sheet_76 (by decide) ?_
            refine m_goto hc (tgt := 81) dX7_sheet_77 (by decide) ?_
            subst h
            exact m_fg [] rfl J_13
        · replace h := (if_neg b_6).symm.trans h
          refine m_aload_n hc dX7_sheet_53 rfl ?_
          refine m_ldc hc dX7_sheet_54 wk_X7_83 ?_
          obtain ⟨q_32, c_33, h⟩ := nm_o h
          refine m_callVi hc yO_212 rfl (c_X7_finding (d + 1) c_33) (by omega) (by decide) wm_X7_72 wi_X7_finding we_X7_finding wn_X7 wc_X7_finding wy_X7_finding rfl (st := []) rfl rfl (Nat.le_of_ble_eq_true rfl) dX7_sheet_56 ?_
          cases h
          exact m_iret hc hr dX7_sheet_59
      · replace h := (if_neg b_5).symm.trans h
        refine m_aload_n hc dX7_sheet_40 rfl ?_
        refine m_ldc hc dX7_sheet_41 wk_X7_98 ?_
        obtain ⟨q_34, c_35, h⟩ := nm_o h
        refine m_callVi hc yO_212 rfl (c_X7_finding (d + 1) c_35) (by omega) (by decide) wm_X7_72 wi_X7_finding we_X7_finding wn_X7 wc_X7_finding wy_X7_finding rfl (st := []) rfl rfl (Nat.le_of_ble_eq_true rfl) dX7_sheet_43 ?_
        cases h
        exact m_iret hc hr dX7_sheet_46
    · replace h := (if_neg b_4).symm.trans h
      refine m_iload_n hc dX7_sheet_11 rfl ?_
      refine m_bipush hc (v := (8 : Int32)) dX7_sheet_12 (by decide) ?_
      refine m_iceq hc (tgt := 36) dX7_sheet_14 (by decide) (fun b_36 => ?_) (fun b_36 => ?_)
      · replace h := (if_pos b_36).symm.trans h
        refine m_iload_n hc dX7_sheet_36 rfl ?_
        refine m_ifge hc (tgt := 47) dX7_sheet_37 (by decide) (fun b_37 => ?_) (fun b_37 => ?_)
        · replace h := (if_pos b_37).symm.trans h
          refine m_iload_n hc dX7_sheet_47 rfl ?_
          refine m_bipush hc (v := (30 : Int32)) dX7_sheet_48 (by decide) ?_
          refine m_icle hc (tgt := 60) dX7_sheet_50 (by decide) (fun b_38 => ?_) (fun b_38 => ?_)
          · replace h := (if_pos b_38).symm.trans h
            refine m_aload_n hc dX7_sheet_60 rfl ?_
            refine m_getR hc (q := 215) yO_212 rfl tbX7 3 (by decide) wf_X7_16 rfl dX7_sheet_61 ?_
            refine m_iload_n hc dX7_sheet_64 rfl ?_
            refine m_iload_n hc dX7_sheet_65 rfl ?_
            obtain ⟨b_39, h⟩ := ck_o h
            refine m_iast hc yA_215 b_39 dX7_sheet_66 ?_
            refine m_topM (fun M_40 e_41 => ?_)
            replace h := nm_x e_41 h
            refine m_aload_n hc dX7_sheet_67 rfl ?_
            refine m_getR hc (q := 216) yO_212 rfl tbX7 4 (by decide) wf_X7_19 rfl dX7_sheet_68 ?_
            refine m_iload_n hc dX7_sheet_71 rfl ?_
            refine m_iload_n hc dX7_sheet_72 rfl ?_
            obtain ⟨q_43, c_44, h⟩ := nm_o h
            have J_45 : WM G X (qQ G X (some (.int r.1)) r.2) M_40 81 [some (.ref (gR G 212)), some (.int x1), some (.int x2), some (.int x3), none] [.int q_43, .int x1, .ref (gR G 216)] := by
              obtain ⟨b_47, h⟩ := ck_o h
              refine m_iast hc yA_216 b_47 dX7_sheet_81 ?_
              refine m_topM (fun M_48 e_49 => ?_)
              replace h := nm_x e_49 h
              refine m_iconst hc (v := 0) dX7_sheet_82 (by decide) ?_
              refine m_istore hc (lv' := [some (.ref (gR G 212)), some (.int x1), some (.int x2), some (.int x3), some (.int (0 : Int32))]) dX7_sheet_83 (Nat.le_of_ble_eq_true rfl) rfl rfl ?_
              obtain ⟨q_52, c_53, h⟩ := bd_o h
              have J_54 : WM G X (qQ G X (some (.int r.1)) r.2) q_52 111 [some (.ref (gR G 212)), some (.int x1), some (.int x2), some (.int x3), none] [] := by
                refine m_aload_n hc dX7_sheet_111 rfl ?_
                refine m_getR hc (q := 216) yO_212 rfl tbX7 4 (by decide) wf_X7_19 rfl dX7_sheet_112 ?_
                refine m_iload_n hc dX7_sheet_115 rfl ?_
                obtain ⟨b_63, h⟩ := ck_o h
                refine m_iald hc yA_216 b_63 dX7_sheet_116 ?_
                cases h
                exact m_iret hc hr dX7_sheet_117
              have L_55 : ∀ (n_57 : Nat) (x4_50 : Int32) (M_51 : Mm), L_X7_sheet_85 x1 n_57 x4_50 M_51 = some q_52 → WM G X (qQ G X (some (.int r.1)) r.2) M_51 85 [some (.ref (gR G 212)), some (.int x1), some (.int x2), some (.int x3), some (.int x4_50)] [] := by
                intro n_57
                induction n_57 with
                | zero =>
                  intro x4_50 M_51 h
                  cases (show none = some _ from h)
                | succ n_57 i_58 =>
                  intro x4_50 M_51 h
                  rw [L_X7_sheet_85] at h
                  refine m_iload hc dX7_sheet_85 rfl ?_
                  refine m_bipush hc (v := (30 : Int32)) dX7_sheet_87 (by decide) ?_
                  refine m_icge hc (tgt := 111) dX7_sheet_89 (by decide) (fun b_59 => ?_) (fun b_59 => ?_)
                  · replace h := (if_pos b_59).symm.trans h
                    cases h
                    exact m_fg [4] rfl J_54
                  · replace h := (if_neg b_59).symm.trans h
                    refine m_aload_n hc dX7_sheet_92 rfl ?_
                    refine m_getR hc (q := 217) yO_212 rfl tbX7 5 (by decide) wf_X7_22 rfl dX7_sheet_93 ?_
                    refine m_bipush hc (v := (30 : Int32)) dX7_sheet_96 (by decide) ?_
                    refine m_iload_n hc dX7_sheet_98 rfl ?_
                    refine m_imul hc dX7_sheet_99 ?_
                    refine m_iload hc dX7_sheet_100 rfl ?_
                    refine m_iadd hc dX7_sheet_102 ?_
                    refine m_iconst hc (v := 0) dX7_sheet_103 (by decide) ?_
                    obtain ⟨b_60, h⟩ := ck_o h
                    refine m_iast hc yA_217 b_60 dX7_sheet_104 ?_
                    refine m_topM (fun M_61 e_62 => ?_)
                    replace h := nm_x e_62 h
                    refine m_iinc hc (v := x4_50 + 1) (lv' := [some (.ref (gR G 212)), some (.int x1), some (.int x2), some (.int x3), some (.int (x4_50 + 1))]) dX7_sheet_105 rfl rfl rfl rfl ?_
                    refine m_goto hc (tgt := 85) dX7_sheet_108 (by decide) ?_
                    exact m_fg [] rfl (i_58 _ _ h)
              exact m_fg [] rfl (L_55 _ _ _ c_53)
            replace h := c_44
            refine m_ifne hc (tgt := 80) dX7_sheet_73 (by decide) (fun b_46 => ?_) (fun b_46 => ?_)
            · replace h := (if_neg b_46).symm.trans h
              refine m_iload_n hc dX7_sheet_80 rfl ?_
              subst h
              exact m_fg [] rfl J_45
            · replace h := (if_pos b_46).symm.trans h
              refine m_iconst hc (v := 0) dX7_sheet_76 (by decide) ?_
              refine m_goto hc (tgt := 81) dX7_sheet_77 (by decide) ?_
              subst h
              exact m_fg [] rfl J_45
          · replace h := (if_neg b_38).symm.trans h
            refine m_aload_n hc dX7_sheet_53 rfl ?_
            refine m_ldc hc dX7_sheet_54 wk_X7_83 ?_
            obtain ⟨q_64, c_65, h⟩ := nm_o h
            refine m_callVi hc yO_212 rfl (c_X7_finding (d + 1) c_65) (by omega) (by decide) wm_X7_72 wi_X7_finding we_X7_finding wn_X7 wc_X7_finding wy_X7_finding rfl (st := []) rfl rfl (Nat.le_of_ble_eq_true rfl) dX7_sheet_56 ?_
            cases h
            exact m_iret hc hr dX7_sheet_59
        · replace h := (if_neg b_37).symm.trans h
          refine m_aload_n hc dX7_sheet_40 rfl ?_
          refine m_ldc hc dX7_sheet_41 wk_X7_98 ?_
          obtain ⟨q_66, c_67, h⟩ := nm_o h
          refine m_callVi hc yO_212 rfl (c_X7_finding (d + 1) c_67) (by omega) (by decide) wm_X7_72 wi_X7_finding we_X7_finding wn_X7 wc_X7_finding wy_X7_finding rfl (st := []) rfl rfl (Nat.le_of_ble_eq_true rfl) dX7_sheet_43 ?_
          cases h
          exact m_iret hc hr dX7_sheet_46
      · replace h := (if_neg b_36).symm.trans h
        refine m_iload_n hc dX7_sheet_17 rfl ?_
        refine m_bipush hc (v := (16 : Int32)) dX7_sheet_18 (by decide) ?_
        refine m_iceq hc (tgt := 36) dX7_sheet_20 (by decide) (fun b_68 => ?_) (fun b_68 => ?_)
        · replace h := (if_pos b_68).symm.trans h
          refine m_iload_n hc dX7_sheet_36 rfl ?_
          refine m_ifge hc (tgt := 47) dX7_sheet_37 (by decide) (fun b_69 => ?_) (fun b_69 => ?_)
          · replace h := (if_pos b_69).symm.trans h
            refine m_iload_n hc dX7_sheet_47 rfl ?_
            refine m_bipush hc (v := (30 : Int32)) dX7_sheet_48 (by decide) ?_
            refine m_icle hc (tgt := 60) dX7_sheet_50 (by decide) (fun b_70 => ?_) (fun b_70 => ?_)
            · replace h := (if_pos b_70).symm.trans h
              refine m_aload_n hc dX7_sheet_60 rfl ?_
              refine m_getR hc (q := 215) yO_212 rfl tbX7 3 (by decide) wf_X7_16 rfl dX7_sheet_61 ?_
              refine m_iload_n hc dX7_sheet_64 rfl ?_
              refine m_iload_n hc dX7_sheet_65 rfl ?_
              obtain ⟨b_71, h⟩ := ck_o h
              refine m_iast hc yA_215 b_71 dX7_sheet_66 ?_
              refine m_topM (fun M_72 e_73 => ?_)
              replace h := nm_x e_73 h
              refine m_aload_n hc dX7_sheet_67 rfl ?_
              refine m_getR hc (q := 216) yO_212 rfl tbX7 4 (by decide) wf_X7_19 rfl dX7_sheet_68 ?_
              refine m_iload_n hc dX7_sheet_71 rfl ?_
              refine m_iload_n hc dX7_sheet_72 rfl ?_
              obtain ⟨q_75, c_76, h⟩ := nm_o h
              have J_77 : WM G X (qQ G X (some (.int r.1)) r.2) M_72 81 [some (.ref (gR G 212)), some (.int x1), some (.int x2), some (.int x3), none] [.int q_75, .int x1, .ref (gR G 216)] := by
                obtain ⟨b_79, h⟩ := ck_o h
                refine m_iast hc yA_216 b_79 dX7_sheet_81 ?_
                refine m_topM (fun M_80 e_81 => ?_)
                replace h := nm_x e_81 h
                refine m_iconst hc (v := 0) dX7_sheet_82 (by decide) ?_
                refine m_istore hc (lv' := [some (.ref (gR G 212)), some (.int x1), some (.int x2), some (.int x3), some (.int (0 : Int32))]) dX7_sheet_83 (Nat.le_of_ble_eq_true rfl) rfl rfl ?_
                obtain ⟨q_84, c_85, h⟩ := bd_o h
                have J_86 : WM G X (qQ G X (some (.int r.1)) r.2) q_84 111 [some (.ref (gR G 212)), some (.int x1), some (.int x2), some (.int x3), none] [] := by
                  refine m_aload_n hc dX7_sheet_111 rfl ?_
                  refine m_getR hc (q := 216) yO_212 rfl tbX7 4 (by decide) wf_X7_19 rfl dX7_sheet_112 ?_
                  refine m_iload_n hc dX7_sheet_115 rfl ?_
                  obtain ⟨b_95, h⟩ := ck_o h
                  refine m_iald hc yA_216 b_95 dX7_sheet_116 ?_
                  cases h
                  exact m_iret hc hr dX7_sheet_117
                have L_87 : ∀ (n_89 : Nat) (x4_82 : Int32) (M_83 : Mm), L_X7_sheet_85 x1 n_89 x4_82 M_83 = some q_84 → WM G X (qQ G X (some (.int r.1)) r.2) M_83 85 [some (.ref (gR G 212)), some (.int x1), some (.int x2), some (.int x3), some (.int x4_82)] [] := by
                  intro n_89
                  induction n_89 with
                  | zero =>
                    intro x4_82 M_83 h
                    cases (show none = some _ from h)
                  | succ n_89 i_90 =>
                    intro x4_82 M_83 h
                    rw [L_X7_sheet_85] at h
                    refine m_iload hc dX7_sheet_85 rfl ?_
                    refine m_bipush hc (v := (30 : Int32)) dX7_sheet_87 (by decide) ?_
                    refine m_icge hc (tgt := 111) dX7_sheet_89 (by decide) (fun b_91 => ?_) (fun b_91 => ?_)
                    · replace h := (if_pos b_91).symm.trans h
                      cases h
                      exact m_fg [4] rfl J_86
                    · replace h := (if_neg b_91).symm.trans h
                      refine m_aload_n hc dX7_sheet_92 rfl ?_
                      refine m_getR hc (q := 217) yO_212 rfl tbX7 5 (by decide) wf_X7_22 rfl dX7_sheet_93 ?_
                      refine m_bipush hc (v := (30 : Int32)) dX7_sheet_96 (by decide) ?_
                      refine m_iload_n hc dX7_sheet_98 rfl ?_
                      refine m_imul hc dX7_sheet_99 ?_
                      refine m_iload hc dX7_sheet_100 rfl ?_
                      refine m_iadd hc dX7_sheet_102 ?_
                      refine m_iconst hc (v := 0) dX7_sheet_103 (by decide) ?_
                      obtain ⟨b_92, h⟩ := ck_o h
                      refine m_iast hc yA_217 b_92 dX7_sheet_104 ?_
                      refine m_topM (fun M_93 e_94 => ?_)
                      replace h := nm_x e_94 h
                      refine m_iinc hc (v := x4_82 + 1) (lv' := [some (.ref (gR G 212)), some (.int x1), some (.int x2), some (.int x3), some (.int (x4_82 + 1))]) dX7_sheet_105 rfl rfl rfl rfl ?_
                      refine m_goto hc (tgt := 85) dX7_sheet_108 (by decide) ?_
                      exact m_fg [] rfl (i_90 _ _ h)
                exact m_fg [] rfl (L_87 _ _ _ c_85)
              replace h := c_76
              refine m_ifne hc (tgt := 80) dX7_sheet_73 (by decide) (fun b_78 => ?_) (fun b_78 => ?_)
              · replace h := (if_neg b_78).symm.trans h
                refine m_iload_n hc dX7_sheet_80 rfl ?_
                subst h
                exact m_fg [] rfl J_77
              · replace h := (if_pos b_78).symm.trans h
                refine m_iconst hc (v := 0) dX7_sheet_76 (by decide) ?_
                refine m_goto hc (tgt := 81) dX7_sheet_77 (by decide) ?_
                subst h
                exact m_fg [] rfl J_77
            · replace h := (if_neg b_70).symm.trans h
              refine m_aload_n hc dX7_sheet_53 rfl ?_
              refine m_ldc hc dX7_sheet_54 wk_X7_83 ?_
              obtain ⟨q_96, c_97, h⟩ := nm_o h
              refine m_callVi hc yO_212 rfl (c_X7_finding (d + 1) c_97) (by omega) (by decide) wm_X7_72 wi_X7_finding we_X7_finding wn_X7 wc_X7_finding wy_X7_finding rfl (st := []) rfl rfl (Nat.le_of_ble_eq_true rfl) dX7_sheet_56 ?_
              cases h
              exact m_iret hc hr dX7_sheet_59
          · replace h := (if_neg b_69).symm.trans h
            refine m_aload_n hc dX7_sheet_40 rfl ?_
            refine m_ldc hc dX7_sheet_41 wk_X7_98 ?_
            obtain ⟨q_98, c_99, h⟩ := nm_o h
            refine m_callVi hc yO_212 rfl (c_X7_finding (d + 1) c_99) (by omega) (by decide) wm_X7_72 wi_X7_finding we_X7_finding wn_X7 wc_X7_finding wy_X7_finding rfl (st := []) rfl rfl (Nat.le_of_ble_eq_true rfl) dX7_sheet_43 ?_
            cases h
            exact m_iret hc hr dX7_sheet_46
        · replace h := (if_neg b_68).symm.trans h
          refine m_iload_n hc dX7_sheet_23 rfl ?_
          refine m_bipush hc (v := (32 : Int32)) dX7_sheet_24 (by decide) ?_
          refine m_iceq hc (tgt := 36) dX7_sheet_26 (by decide) (fun b_100 => ?_) (fun b_100 => ?_)
          · replace h := (if_pos b_100).symm.trans h
            refine m_iload_n hc dX7_sheet_36 rfl ?_
            refine m_ifge hc (tgt := 47) dX7_sheet_37 (by decide) (fun b_101 => ?_) (fun b_101 => ?_)
            · replace h := (if_pos b_101).symm.trans h
              refine m_iload_n hc dX7_sheet_47 rfl ?_
              refine m_bipush hc (v := (30 : Int32)) dX7_sheet_48 (by decide) ?_
              refine m_icle hc (tgt := 60) dX7_sheet_50 (by decide) (fun b_102 => ?_) (fun b_102 => ?_)
              · replace h := (if_pos b_102).symm.trans h
                refine m_aload_n hc dX7_sheet_60 rfl ?_
                refine m_getR hc (q := 215) yO_212 rfl tbX7 3 (by decide) wf_X7_16 rfl dX7_sheet_61 ?_
                refine m_iload_n hc dX7_sheet_64 rfl ?_
                refine m_iload_n hc dX7_sheet_65 rfl ?_
                obtain ⟨b_103, h⟩ := ck_o h
                refine m_iast hc yA_215 b_103 dX7_sheet_66 ?_
                refine m_topM (fun M_104 e_105 => ?_)
                replace h := nm_x e_105 h
                refine m_aload_n hc dX7_sheet_67 rfl ?_
                refine m_getR hc (q := 216) yO_212 rfl tbX7 4 (by decide) wf_X7_19 rfl dX7_sheet_68 ?_
                refine m_iload_n hc dX7_sheet_71 rfl ?_
                refine m_iload_n hc dX7_sheet_72 rfl ?_
                obtain ⟨q_107, c_108, h⟩ := nm_o h
                have J_109 : WM G X (qQ G X (some (.int r.1)) r.2) M_104 81 [some (.ref (gR G 212)), some (.int x1), some (.int x2), some (.int x3), none] [.int q_107, .int x1, .ref (gR G 216)] := by
                  obtain ⟨b_111, h⟩ := ck_o h
                  refine m_iast hc yA_216 b_111 dX7_sheet_81 ?_
                  refine m_topM (fun M_112 e_113 => ?_)
                  replace h := nm_x e_113 h
                  refine m_iconst hc (v := 0) dX7_sheet_82 (by decide) ?_
                  refine m_istore hc (lv' := [some (.ref (gR G 212)), some (.int x1), some (.int x2), some (.int x3), some (.int (0 : Int32))]) dX7_sheet_83 (Nat.le_of_ble_eq_true rfl) rfl rfl ?_
                  obtain ⟨q_116, c_117, h⟩ := bd_o h
                  have J_118 : WM G X (qQ G X (some (.int r.1)) r.2) q_116 111 [some (.ref (gR G 212)), some (.int x1), some (.int x2), some (.int x3), none] [] := by
                    refine m_aload_n hc dX7_sheet_111 rfl ?_
                    refine m_getR hc (q := 216) yO_212 rfl tbX7 4 (by decide) wf_X7_19 rfl dX7_sheet_112 ?_
                    refine m_iload_n hc dX7_sheet_115 rfl ?_
                    obtain ⟨b_127, h⟩ := ck_o h
                    refine m_iald hc yA_216 b_127 dX7_sheet_116 ?_
                    cases h
                    exact m_iret hc hr dX7_sheet_117
                  have L_119 : ∀ (n_121 : Nat) (x4_114 : Int32) (M_115 : Mm), L_X7_sheet_85 x1 n_121 x4_114 M_115 = some q_116 → WM G X (qQ G X (some (.int r.1)) r.2) M_115 85 [some (.ref (gR G 212)), some (.int x1), some (.int x2), some (.int x3), some (.int x4_114)] [] := by
                    intro n_121
                    induction n_121 with
                    | zero =>
                      intro x4_114 M_115 h
                      cases (show none = some _ from h)
                    | succ n_121 i_122 =>
                      intro x4_114 M_115 h
                      rw [L_X7_sheet_85] at h
                      refine m_iload hc dX7_sheet_85 rfl ?_
                      refine m_bipush hc (v := (30 : Int32)) dX7_sheet_87 (by decide) ?_
                      refine m_icge hc (tgt := 111) dX7_sheet_89 (by decide) (fun b_123 => ?_) (fun b_123 => ?_)
                      · replace h := (if_pos b_123).symm.trans h
                        cases h
                        exact m_fg [4] rfl J_118
                      · replace h := (if_neg b_123).symm.trans h
                        refine m_aload_n hc dX7_sheet_92 rfl ?_
                        refine m_getR hc (q := 217) yO_212 rfl tbX7 5 (by decide) wf_X7_22 rfl dX7_sheet_93 ?_
                        refine m_bipush hc (v := (30 : Int32)) dX7_sheet_96 (by decide) ?_
                        refine m_iload_n hc dX7_sheet_98 rfl ?_
                        refine m_imul hc dX7_sheet_99 ?_
                        refine m_iload hc dX7_sheet_100 rfl ?_
                        refine m_iadd hc dX7_sheet_102 ?_
                        refine m_iconst hc (v := 0) dX7_sheet_103 (by decide) ?_
                        obtain ⟨b_124, h⟩ := ck_o h
                        refine m_iast hc yA_217 b_124 dX7_sheet_104 ?_
                        refine m_topM (fun M_125 e_126 => ?_)
                        replace h := nm_x e_126 h
                        refine m_iinc hc (v := x4_114 + 1) (lv' := [some (.ref (gR G 212)), some (.int x1), some (.int x2), some (.int x3), some (.int (x4_114 + 1))]) dX7_sheet_105 rfl rfl rfl rfl ?_
                        refine m_goto hc (tgt := 85) dX7_sheet_108 (by decide) ?_
                        exact m_fg [] rfl (i_122 _ _ h)
                  exact m_fg [] rfl (L_119 _ _ _ c_117)
                replace h := c_108
                refine m_ifne hc (tgt := 80) dX7_sheet_73 (by decide) (fun b_110 => ?_) (fun b_110 => ?_)
                · replace h := (if_neg b_110).symm.trans h
                  refine m_iload_n hc dX7_sheet_80 rfl ?_
                  subst h
                  exact m_fg [] rfl J_109
                · replace h := (if_pos b_110).symm.trans h
                  refine m_iconst hc (v := 0) dX7_sheet_76 (by decide) ?_
                  refine m_goto hc (tgt := 81) dX7_sheet_77 (by decide) ?_
                  subst h
                  exact m_fg [] rfl J_109
              · replace h := (if_neg b_102).symm.trans h
                refine m_aload_n hc dX7_sheet_53 rfl ?_
                refine m_ldc hc dX7_sheet_54 wk_X7_83 ?_
                obtain ⟨q_128, c_129, h⟩ := nm_o h
                refine m_callVi hc yO_212 rfl (c_X7_finding (d + 1) c_129) (by omega) (by decide) wm_X7_72 wi_X7_finding we_X7_finding wn_X7 wc_X7_finding wy_X7_finding rfl (st := []) rfl rfl (Nat.le_of_ble_eq_true rfl) dX7_sheet_56 ?_
                cases h
                exact m_iret hc hr dX7_sheet_59
            · replace h := (if_neg b_101).symm.trans h
              refine m_aload_n hc dX7_sheet_40 rfl ?_
              refine m_ldc hc dX7_sheet_41 wk_X7_98 ?_
              obtain ⟨q_130, c_131, h⟩ := nm_o h
              refine m_callVi hc yO_212 rfl (c_X7_finding (d + 1) c_131) (by omega) (by decide) wm_X7_72 wi_X7_finding we_X7_finding wn_X7 wc_X7_finding wy_X7_finding rfl (st := []) rfl rfl (Nat.le_of_ble_eq_true rfl) dX7_sheet_43 ?_
              cases h
              exact m_iret hc hr dX7_sheet_46
          · replace h := (if_neg b_100).symm.trans h
            refine m_aload_n hc dX7_sheet_29 rfl ?_
            refine m_ldc hc dX7_sheet_30 wk_X7_83 ?_
            obtain ⟨q_132, c_133, h⟩ := nm_o h
            refine m_callVi hc yO_212 rfl (c_X7_finding (d + 1) c_133) (by omega) (by decide) wm_X7_72 wi_X7_finding we_X7_finding wn_X7 wc_X7_finding wy_X7_finding rfl (st := []) rfl rfl (Nat.le_of_ble_eq_true rfl) dX7_sheet_32 ?_
            cases h
            exact m_iret hc hr dX7_sheet_35
def f_X7_put (x1 : Int32) (x2 : Int32) (x3 : Int32) (M : Mm) : Option (Int32 × Mm) :=
 if (f_X7_isSheet x1) = 0 then (
 nm (f_X7_finding (-100001 : Int32) M) (fun q_26 =>
 some (q_26.1, q_26.2)))
else (
 ck (ib x1 4) (
 if (M 215 x1.toNatClampNeg) = 0 then (
 nm (f_X7_finding (-100002 : Int32) M) (fun q_24 =>
 some (q_24.1, q_24.2)))
else (
 if x2 < 0 then (
 nm (f_X7_finding (-100001 : Int32) M) (fun q_5 =>
 some (q_5.1, q_5.2)))
else (
 ck (ib x1 4) (
 if x2 < (M 216 x1.toNatClampNeg) then (
 ck (ib x1 4) (
 Option.bind (
 if (M 215 x1.toNatClampNeg) = (8 : Int32) then (
 some (x3.toInt8.toInt32))
else (
 ck (ib x1 4) (
 if (M 215 x1.toNatClampNeg) = (16 : Int32) then (
 some (x3.toInt16.toInt32))
else (
 some x3)))) (fun q_13 =>
 ck (ib (((30 : Int32) * x1) + x2) 120) (
 nm (mw M 217 (((30 : Int32) * x1) + x2).toNatClampNeg q_13) (fun M_20 =>
 some ((0 : Int32), M_20))))))
else (
 nm (f_X7_finding (-100001 : Int32) M) (fun q_22 =>
 some (q_22.1, q_22.2))))))))
set_option maxRecDepth 100000 in
set_option maxHeartbeats 4000000 in
theorem c_X7_put {G : Gm} {l : Launch} (d : Nat) {x1 : Int32} {x2 : Int32} {x3 : Int32} {M : Mm} {r : Int32 × Mm}  (h : f_X7_put x1 x2 x3 M = some r) : Cm G l (d + 2) yX7_put cX7_put 4 (some .int) [.ref (gR G 212), .int x1, .int x2, .int x3] M (some (.int r.1)) r.2 := by
  unfold f_X7_put at h
  refine m_met (lv := [some (.ref (gR G 212)), some (.int x1), some (.int x2), some (.int x3)]) (own := RX7) (by decide +kernel) rfl rfl (Nat.le_of_ble_eq_true rfl) rfl ?_
  intro X hX hc hr
  subst hX
  refine m_iload_n hc dX7_put_0 rfl ?_
  refine m_callSi hc (c_X7_isSheet (d + 0) rfl) (by omega) (by decide) wm_X7_168 wt_X7_isSheet wv_X7_isSheet wc_X7_isSheet wz_X7_isSheet rfl (st := []) rfl rfl (Nat.le_of_ble_eq_true rfl) dX7_put_1 ?_
  refine m_ifne hc (tgt := 14) dX7_put_4 (by decide) (fun b_1 => ?_) (fun b_1 => ?_)
  · replace h := (if_neg b_1).symm.trans h
    refine m_aload_n hc dX7_put_14 rfl ?_
    refine m_getR hc (q := 215) yO_212 rfl tbX7 3 (by decide) wf_X7_16 rfl dX7_put_15 ?_
    refine m_iload_n hc dX7_put_18 rfl ?_
    obtain ⟨b_2, h⟩ := ck_o h
    refine m_iald hc yA_215 b_2 dX7_put_19 ?_
    refine m_ifne hc (tgt := 30) dX7_put_20 (by decide) (fun b_3 => ?_) (fun b_3 => ?_)
    · replace h := (if_neg b_3).symm.trans h
      refine m_iload_n hc dX7_put_30 rfl ?_
      refine m_iflt hc (tgt := 44) dX7_put_31 (by decide) (fun b_4 => ?_) (fun b_4 => ?_)
      · replace h := (if_pos b_4).symm.trans h
        refine m_aload_n hc dX7_put_44 rfl ?_
        refine m_ldc hc dX7_put_45 wk_X7_83 ?_
        obtain ⟨q_5, c_6, h⟩ := nm_o h
        refine m_callVi hc yO_212 rfl (c_X7_finding (d + 1) c_6) (by omega) (by decide) wm_X7_72 wi_X7_finding we_X7_finding wn_X7 wc_X7_finding wy_X7_finding rfl (st := []) rfl rfl (Nat.le_of_ble_eq_true rfl) dX7_put_47 ?_
        cases h
        exact m_iret hc hr dX7_put_50
      · replace h := (if_neg b_4).symm.trans h
        refine m_iload_n hc dX7_put_34 rfl ?_
        refine m_aload_n hc dX7_put_35 rfl ?_
        refine m_getR hc (q := 216) yO_212 rfl tbX7 4 (by decide) wf_X7_19 rfl dX7_put_36 ?_
        refine m_iload_n hc dX7_put_39 rfl ?_
        obtain ⟨b_7, h⟩ := ck_o h
        refine m_iald hc yA_216 b_7 dX7_put_40 ?_
        refine m_iclt hc (tgt := 51) dX7_put_41 (by decide) (fun b_8 => ?_) (fun b_8 => ?_)
        · replace h := (if_pos b_8).symm.trans h
          refine m_aload_n hc dX7_put_51 rfl ?_
          refine m_getR hc (q := 217) yO_212 rfl tbX7 5 (by decide) wf_X7_22 rfl dX7_put_52 ?_
          refine m_bipush hc (v := (30 : Int32)) dX7_put_55 (by decide) ?_
          refine m_iload_n hc dX7_put_57 rfl ?_
          refine m_imul hc dX7_put_58 ?_
          refine m_iload_n hc dX7_put_59 rfl ?_
          refine m_iadd hc dX7_put_60 ?_
          refine m_aload_n hc dX7_put_61 rfl ?_
          refine m_getR hc (q := 215) yO_212 rfl tbX7 3 (by decide) wf_X7_16 rfl dX7_put_62 ?_
          refine m_iload_n hc dX7_put_65 rfl ?_
          obtain ⟨b_9, h⟩ := ck_o h
          refine m_iald hc yA_215 b_9 dX7_put_66 ?_
          refine m_bipush hc (v := (8 : Int32)) dX7_put_67 (by decide) ?_
          obtain ⟨q_13, c_14, h⟩ := bd_o h
          have J_15 : WM G X (qQ G X (some (.int r.1)) r.2) M 94 [some (.ref (gR G 212)), some (.int x1), some (.int x2), some (.int x3)] [.int q_13, .int (((30 : Int32) * x1) + x2), .ref (gR G 217)] := by
            obtain ⟨b_19, h⟩ := ck_o h
            refine m_iast hc yA_217 b_19 dX7_put_94 ?_
            refine m_topM (fun M_20 e_21 => ?_)
            replace h := nm_x e_21 h
            refine m_iconst hc (v := 0) dX7_put_95 (by decide) ?_
            cases h
            exact m_iret hc hr dX7_put_96
          replace h := c_14
          refine m_icne hc (tgt := 77) dX7_put_69 (by decide) (fun b_16 => ?_) (fun b_16 => ?_)
          · replace h := (if_neg b_16).symm.trans h
            refine m_aload_n hc dX7_put_77 rfl ?_
            refine m_getR hc (q := 215) yO_212 rfl tbX7 3 (by decide) wf_X7_16 rfl dX7_put_78 ?_
            refine m_iload_n hc dX7_put_81 rfl ?_
            obtain ⟨b_17, h⟩ := ck_o h
            refine m_iald hc yA_215 b_17 dX7_put_82 ?_
            refine m_bipush hc (v := (16 : Int32)) dX7_put_83 (by decide) ?_
            refine m_icne hc (tgt := 93) dX7_put_85 (by decide) (fun b_18 => ?_) (fun b_18 => ?_)
            · replace h := (if_neg b_18).symm.trans h
              refine m_iload_n hc dX7_put_93 rfl ?_
              cases h
              exact m_fg [] rfl J_15
            · replace h := (if_pos b_18).symm.trans h
              refine m_iload_n hc dX7_put_88 rfl ?_
              refine m_i2s hc dX7_put_89 ?_
              refine m_goto hc (tgt := 94) dX7_put_90 (by decide) ?_
              cases h
              exact m_fg [] rfl J_15
          · replace h := (if_pos b_16).symm.trans h
            refine m_iload_n hc dX7_put_72 rfl ?_
            refine m_i2b hc dX7_put_73 ?_
            refine m_goto hc (tgt := 94) dX7_put_74 (by decide) ?_
            cases h
            exact m_fg [] rfl J_15
        · replace h := (if_neg b_8).symm.trans h
          refine m_aload_n hc dX7_put_44 rfl ?_
          refine m_ldc hc dX7_put_45 wk_X7_83 ?_
          obtain ⟨q_22, c_23, h⟩ := nm_o h
          refine m_callVi hc yO_212 rfl (c_X7_finding (d + 1) c_23) (by omega) (by decide) wm_X7_72 wi_X7_finding we_X7_finding wn_X7 wc_X7_finding wy_X7_finding rfl (st := []) rfl rfl (Nat.le_of_ble_eq_true rfl) dX7_put_47 ?_
          cases h
          exact m_iret hc hr dX7_put_50
    · replace h := (if_pos b_3).symm.trans h
      refine m_aload_n hc dX7_put_23 rfl ?_
      refine m_ldc hc dX7_put_24 wk_X7_171 ?_
      obtain ⟨q_24, c_25, h⟩ := nm_o h
      refine m_callVi hc yO_212 rfl (c_X7_finding (d + 1) c_25) (by omega) (by decide) wm_X7_72 wi_X7_finding we_X7_finding wn_X7 wc_X7_finding wy_X7_finding rfl (st := []) rfl rfl (Nat.le_of_ble_eq_true rfl) dX7_put_26 ?_
      cases h
      exact m_iret hc hr dX7_put_29
  · replace h := (if_pos b_1).symm.trans h
    refine m_aload_n hc dX7_put_7 rfl ?_
    refine m_ldc hc dX7_put_8 wk_X7_83 ?_
    obtain ⟨q_26, c_27, h⟩ := nm_o h
    refine m_callVi hc yO_212 rfl (c_X7_finding (d + 1) c_27) (by omega) (by decide) wm_X7_72 wi_X7_finding we_X7_finding wn_X7 wc_X7_finding wy_X7_finding rfl (st := []) rfl rfl (Nat.le_of_ble_eq_true rfl) dX7_put_10 ?_
    cases h
    exact m_iret hc hr dX7_put_13
def f_X7_hasPart (x1 : Int32) (x2 : Int32) (x3 : Int32) (M : Mm) : Option (Int32) :=
 if x2 < 0 then (
 some (0 : Int32))
else (
 if x3 < 0 then (
 some (0 : Int32))
else (
 ck (ib x1 4) (
 if (M 216 x1.toNatClampNeg) < x3 then (
 some (0 : Int32))
else (
 ck (ib x1 4) (
 if ((M 216 x1.toNatClampNeg) - x3) < x2 then (
 some (0 : Int32))
else (
 some (1 : Int32)))))))
set_option maxRecDepth 100000 in
set_option maxHeartbeats 4000000 in
theorem c_X7_hasPart {G : Gm} {l : Launch} (d : Nat) {x1 : Int32} {x2 : Int32} {x3 : Int32} {M : Mm} {r : Int32}  (h : f_X7_hasPart x1 x2 x3 M = some r) : Cm G l (d + 0) yX7_hasPart cX7_hasPart 4 (some .boolean) [.ref (gR G 212), .int x1, .int x2, .int x3] M (some (.int r)) M := by
  unfold f_X7_hasPart at h
  refine m_met (lv := [some (.ref (gR G 212)), some (.int x1), some (.int x2), some (.int x3)]) (own := RX7) (by decide +kernel) rfl rfl (Nat.le_of_ble_eq_true rfl) rfl ?_
  intro X hX hc hr
  subst hX
  refine m_iload_n hc dX7_hasPart_0 rfl ?_
  refine m_iflt hc (tgt := 34) dX7_hasPart_1 (by decide) (fun b_1 => ?_) (fun b_1 => ?_)
  · replace h := (if_pos b_1).symm.trans h
    refine m_iconst hc (v := 0) dX7_hasPart_34 (by decide) ?_
    cases h
    exact m_zret hc hr (v := (0 : Int32)) (by decide) dX7_hasPart_35
  · replace h := (if_neg b_1).symm.trans h
    refine m_iload_n hc dX7_hasPart_4 rfl ?_
    refine m_iflt hc (tgt := 34) dX7_hasPart_5 (by decide) (fun b_2 => ?_) (fun b_2 => ?_)
    · replace h := (if_pos b_2).symm.trans h
      refine m_iconst hc (v := 0) dX7_hasPart_34 (by decide) ?_
      cases h
      exact m_zret hc hr (v := (0 : Int32)) (by decide) dX7_hasPart_35
    · replace h := (if_neg b_2).symm.trans h
      refine m_iload_n hc dX7_hasPart_8 rfl ?_
      refine m_aload_n hc dX7_hasPart_9 rfl ?_
      refine m_getR hc (q := 216) yO_212 rfl tbX7 4 (by decide) wf_X7_19 rfl dX7_hasPart_10 ?_
      refine m_iload_n hc dX7_hasPart_13 rfl ?_
      obtain ⟨b_3, h⟩ := ck_o h
      refine m_iald hc yA_216 b_3 dX7_hasPart_14 ?_
      refine m_icgt hc (tgt := 34) dX7_hasPart_15 (by decide) (fun b_4 => ?_) (fun b_4 => ?_)
      · replace h := (if_pos b_4).symm.trans h
        refine m_iconst hc (v := 0) dX7_hasPart_34 (by decide) ?_
        cases h
        exact m_zret hc hr (v := (0 : Int32)) (by decide) dX7_hasPart_35
      · replace h := (if_neg b_4).symm.trans h
        refine m_iload_n hc dX7_hasPart_18 rfl ?_
        refine m_aload_n hc dX7_hasPart_19 rfl ?_
        refine m_getR hc (q := 216) yO_212 rfl tbX7 4 (by decide) wf_X7_19 rfl dX7_hasPart_20 ?_
        refine m_iload_n hc dX7_hasPart_23 rfl ?_
        obtain ⟨b_5, h⟩ := ck_o h
        refine m_iald hc yA_216 b_5 dX7_hasPart_24 ?_
        refine m_iload_n hc dX7_hasPart_25 rfl ?_
        refine m_isub hc dX7_hasPart_26 ?_
        refine m_icgt hc (tgt := 34) dX7_hasPart_27 (by decide) (fun b_6 => ?_) (fun b_6 => ?_)
        · replace h := (if_pos b_6).symm.trans h
          refine m_iconst hc (v := 0) dX7_hasPart_34 (by decide) ?_
          cases h
          exact m_zret hc hr (v := (0 : Int32)) (by decide) dX7_hasPart_35
        · replace h := (if_neg b_6).symm.trans h
          refine m_iconst hc (v := 1) dX7_hasPart_30 (by decide) ?_
          refine m_goto hc (tgt := 35) dX7_hasPart_31 (by decide) ?_
          cases h
          exact m_zret hc hr (v := (1 : Int32)) (by decide) dX7_hasPart_35
def L_X7_copy_101 (x1 : Int32) (x2 : Int32) (x5 : Int32) : Nat → Int32 → Mm → Option (Mm)
  | 0, _, _ => none
  | n_29 + 1, x6_22, M_23 =>
    if x5 ≤ x6_22 then (
     some M_23)
    else (
     ck (ib ((((30 : Int32) * x1) + x2) + x6_22) 120) (
     ck (ib x6_22 30) (
     nm (mw M_23 227 x6_22.toNatClampNeg (M_23 217 ((((30 : Int32) * x1) + x2) + x6_22).toNatClampNeg)) (fun M_34 =>
     L_X7_copy_101 x1 x2 x5 n_29 (x6_22 + 1) M_34))))
def L_X7_copy_138 (x3 : Int32) (x4 : Int32) (x5 : Int32) : Nat → Int32 → Mm → Option (Mm)
  | 0, _, _ => none
  | n_43 + 1, x6_36, M_37 =>
    if x5 ≤ x6_36 then (
     some M_37)
    else (
     ck (ib x6_36 30) (
     ck (ib ((((30 : Int32) * x3) + x4) + x6_36) 120) (
     nm (mw M_37 217 ((((30 : Int32) * x3) + x4) + x6_36).toNatClampNeg (M_37 227 x6_36.toNatClampNeg)) (fun M_48 =>
     L_X7_copy_138 x3 x4 x5 n_43 (x6_36 + 1) M_48))))
def f_X7_copy (x1 : Int32) (x2 : Int32) (x3 : Int32) (x4 : Int32) (x5 : Int32) (M : Mm) : Option (Int32 × Mm) :=
 if (f_X7_isSheet x1) = 0 then (
 nm (f_X7_finding (-100001 : Int32) M) (fun q_2 =>
 some (q_2.1, q_2.2)))
else (
 if (f_X7_isSheet x3) = 0 then (
 nm (f_X7_finding (-100001 : Int32) M) (fun q_56 =>
 some (q_56.1, q_56.2)))
else (
 ck (ib x1 4) (
 if (M 215 x1.toNatClampNeg) = 0 then (
 nm (f_X7_finding (-100002 : Int32) M) (fun q_7 =>
 some (q_7.1, q_7.2)))
else (
 ck (ib x3 4) (
 if (M 215 x3.toNatClampNeg) = 0 then (
 nm (f_X7_finding (-100002 : Int32) M) (fun q_54 =>
 some (q_54.1, q_54.2)))
else (
 ck (ib x1 4) (
 ck (ib x3 4) (
 if (M 215 x1.toNatClampNeg) = (M 215 x3.toNatClampNeg) then (
 Option.bind (f_X7_hasPart x1 x2 x5 M) (fun q_14 =>
 if q_14 = 0 then (
 nm (f_X7_finding (-100001 : Int32) M) (fun q_17 =>
 some (q_17.1, q_17.2)))
else (
 Option.bind (f_X7_hasPart x3 x4 x5 M) (fun q_19 =>
 if q_19 = 0 then (
 nm (f_X7_finding (-100001 : Int32) M) (fun q_50 =>
 some (q_50.1, q_50.2)))
else (
 Option.bind (L_X7_copy_101 x1 x2 x5 FU (0 : Int32) M) (fun q_24 =>
 Option.bind (L_X7_copy_138 x3 x4 x5 FU (0 : Int32) q_24) (fun q_38 =>
 some (x5, q_38))))))))
else (
 nm (f_X7_finding (-100004 : Int32) M) (fun q_52 =>
 some (q_52.1, q_52.2)))))))))))
set_option maxRecDepth 100000 in
set_option maxHeartbeats 4000000 in
theorem c_X7_copy {G : Gm} {l : Launch} (d : Nat) {x1 : Int32} {x2 : Int32} {x3 : Int32} {x4 : Int32} {x5 : Int32} {M : Mm} {r : Int32 × Mm}  (h : f_X7_copy x1 x2 x3 x4 x5 M = some r) : Cm G l (d + 2) yX7_copy cX7_copy 7 (some .int) [.ref (gR G 212), .int x1, .int x2, .int x3, .int x4, .int x5] M (some (.int r.1)) r.2 := by
  unfold f_X7_copy at h
  refine m_met (lv := [some (.ref (gR G 212)), some (.int x1), some (.int x2), some (.int x3), some (.int x4), some (.int x5), none]) (own := RX7) (by decide +kernel) rfl rfl (Nat.le_of_ble_eq_true rfl) rfl ?_
  intro X hX hc hr
  subst hX
  refine m_iload_n hc dX7_copy_0 rfl ?_
  refine m_callSi hc (c_X7_isSheet (d + 0) rfl) (by omega) (by decide) wm_X7_168 wt_X7_isSheet wv_X7_isSheet wc_X7_isSheet wz_X7_isSheet rfl (st := []) rfl rfl (Nat.le_of_ble_eq_true rfl) dX7_copy_1 ?_
  refine m_ifeq hc (tgt := 14) dX7_copy_4 (by decide) (fun b_1 => ?_) (fun b_1 => ?_)
  · replace h := (if_pos b_1).symm.trans h
    refine m_aload_n hc dX7_copy_14 rfl ?_
    refine m_ldc hc dX7_copy_15 wk_X7_83 ?_
    obtain ⟨q_2, c_3, h⟩ := nm_o h
    refine m_callVi hc yO_212 rfl (c_X7_finding (d + 1) c_3) (by omega) (by decide) wm_X7_72 wi_X7_finding we_X7_finding wn_X7 wc_X7_finding wy_X7_finding rfl (st := []) rfl rfl (Nat.le_of_ble_eq_true rfl) dX7_copy_17 ?_
    cases h
    exact m_iret hc hr dX7_copy_20
  · replace h := (if_neg b_1).symm.trans h
    refine m_iload_n hc dX7_copy_7 rfl ?_
    refine m_callSi hc (c_X7_isSheet (d + 0) rfl) (by omega) (by decide) wm_X7_168 wt_X7_isSheet wv_X7_isSheet wc_X7_isSheet wz_X7_isSheet rfl (st := []) rfl rfl (Nat.le_of_ble_eq_true rfl) dX7_copy_8 ?_
    refine m_ifne hc (tgt := 21) dX7_copy_11 (by decide) (fun b_4 => ?_) (fun b_4 => ?_)
    · replace h := (if_neg b_4).symm.trans h
      refine m_aload_n hc dX7_copy_21 rfl ?_
      refine m_getR hc (q := 215) yO_212 rfl tbX7 3 (by decide) wf_X7_16 rfl dX7_copy_22 ?_
      refine m_iload_n hc dX7_copy_25 rfl ?_
      obtain ⟨b_5, h⟩ := ck_o h
      refine m_iald hc yA_215 b_5 dX7_copy_26 ?_
      refine m_ifeq hc (tgt := 39) dX7_copy_27 (by decide) (fun b_6 => ?_) (fun b_6 => ?_)
      · replace h := (if_pos b_6).symm.trans h
        refine m_aload_n hc dX7_copy_39 rfl ?_
        refine m_ldc hc dX7_copy_40 wk_X7_171 ?_
        obtain ⟨q_7, c_8, h⟩ := nm_o h
        refine m_callVi hc yO_212 rfl (c_X7_finding (d + 1) c_8) (by omega) (by decide) wm_X7_72 wi_X7_finding we_X7_finding wn_X7 wc_X7_finding wy_X7_finding rfl (st := []) rfl rfl (Nat.le_of_ble_eq_true rfl) dX7_copy_42 ?_
        cases h
        exact m_iret hc hr dX7_copy_45
      · replace h := (if_neg b_6).symm.trans h
        refine m_aload_n hc dX7_copy_30 rfl ?_
        refine m_getR hc (q := 215) yO_212 rfl tbX7 3 (by decide) wf_X7_16 rfl dX7_copy_31 ?_
        refine m_iload_n hc dX7_copy_34 rfl ?_
        obtain ⟨b_9, h⟩ := ck_o h
        refine m_iald hc yA_215 b_9 dX7_copy_35 ?_
        refine m_ifne hc (tgt := 46) dX7_copy_36 (by decide) (fun b_10 => ?_) (fun b_10 => ?_)
        · replace h := (if_neg b_10).symm.trans h
          refine m_aload_n hc dX7_copy_46 rfl ?_
          refine m_getR hc (q := 215) yO_212 rfl tbX7 3 (by decide) wf_X7_16 rfl dX7_copy_47 ?_
          refine m_iload_n hc dX7_copy_50 rfl ?_
          obtain ⟨b_11, h⟩ := ck_o h
          refine m_iald hc yA_215 b_11 dX7_copy_51 ?_
          refine m_aload_n hc dX7_copy_52 rfl ?_
          refine m_getR hc (q := 215) yO_212 rfl tbX7 3 (by decide) wf_X7_16 rfl dX7_copy_53 ?_
          refine m_iload_n hc dX7_copy_56 rfl ?_
          obtain ⟨b_12, h⟩ := ck_o h
          refine m_iald hc yA_215 b_12 dX7_copy_57 ?_
          refine m_iceq hc (tgt := 68) dX7_copy_58 (by decide) (fun b_13 => ?_) (fun b_13 => ?_)
          · replace h := (if_pos b_13).symm.trans h
            refine m_aload_n hc dX7_copy_68 rfl ?_
            refine m_iload_n hc dX7_copy_69 rfl ?_
            refine m_iload_n hc dX7_copy_70 rfl ?_
            refine m_iload hc dX7_copy_71 rfl ?_
            obtain ⟨q_14, c_15, h⟩ := bd_o h
            refine m_callVi hc yO_212 rfl (c_X7_hasPart (d + 1) c_15) (by omega) (by decide) wm_X7_172 wi_X7_hasPart we_X7_hasPart wn_X7 wc_X7_hasPart wy_X7_hasPart rfl (st := []) rfl rfl (Nat.le_of_ble_eq_true rfl) dX7_copy_73 ?_
            refine m_ifeq hc (tgt := 91) dX7_copy_76 (by decide) (fun b_16 => ?_) (fun b_16 => ?_)
            · replace h := (if_pos b_16).symm.trans h
              refine m_aload_n hc dX7_copy_91 rfl ?_
              refine m_ldc hc dX7_copy_92 wk_X7_83 ?_
              obtain ⟨q_17, c_18, h⟩ := nm_o h
              refine m_callVi hc yO_212 rfl (c_X7_finding (d + 1) c_18) (by omega) (by decide) wm_X7_72 wi_X7_finding we_X7_finding wn_X7 wc_X7_finding wy_X7_finding rfl (st := []) rfl rfl (Nat.le_of_ble_eq_true rfl) dX7_copy_94 ?_
              cases h
              exact m_iret hc hr dX7_copy_97
            · replace h := (if_neg b_16).symm.trans h
              refine m_aload_n hc dX7_copy_79 rfl ?_
              refine m_iload_n hc dX7_copy_80 rfl ?_
              refine m_iload hc dX7_copy_81 rfl ?_
              refine m_iload hc dX7_copy_83 rfl ?_
              obtain ⟨q_19, c_20, h⟩ := bd_o h
              refine m_callVi hc yO_212 rfl (c_X7_hasPart (d + 1) c_20) (by omega) (by decide) wm_X7_172 wi_X7_hasPart we_X7_hasPart wn_X7 wc_X7_hasPart wy_X7_hasPart rfl (st := []) rfl rfl (Nat.le_of_ble_eq_true rfl) dX7_copy_85 ?_
              refine m_ifne hc (tgt := 98) dX7_copy_88 (by decide) (fun b_21 => ?_) (fun b_21 => ?_)
              · replace h := (if_neg b_21).symm.trans h
                refine m_iconst hc (v := 0) dX7_copy_98 (by decide) ?_
                refine m_istore hc (lv' := [some (.ref (gR G 212)), some (.int x1), some (.int x2), some (.int x3), some (.int x4), some (.int x5), some (.int (0 : Int32))]) dX7_copy_99 (Nat.le_of_ble_eq_true rfl) rfl rfl ?_
                obtain ⟨q_24, c_25, h⟩ := bd_o h
                have J_26 : WM G X (qQ G X (some (.int r.1)) r.2) q_24 135 [some (.ref (gR G 212)), some (.int x1), some (.int x2), some (.int x3), some (.int x4), some (.int x5), none] [] := by
                  refine m_iconst hc (v := 0) dX7_copy_135 (by decide) ?_
                  refine m_istore hc (lv' := [some (.ref (gR G 212)), some (.int x1), some (.int x2), some (.int x3), some (.int x4), some (.int x5), some (.int (0 : Int32))]) dX7_copy_136 (Nat.le_of_ble_eq_true rfl) rfl rfl ?_
                  obtain ⟨q_38, c_39, h⟩ := bd_o h
                  have J_40 : WM G X (qQ G X (some (.int r.1)) r.2) q_38 173 [some (.ref (gR G 212)), some (.int x1), some (.int x2), some (.int x3), some (.int x4), some (.int x5), none] [] := by
                    refine m_iload hc dX7_copy_173 rfl ?_
                    cases h
                    exact m_iret hc hr dX7_copy_175
                  have L_41 : ∀ (n_43 : Nat) (x6_36 : Int32) (M_37 : Mm), L_X7_copy_138 x3 x4 x5 n_43 x6_36 M_37 = some q_38 → WM G X (qQ G X (some (.int r.1)) r.2) M_37 138 [some (.ref (gR G 212)), some (.int x1), some (.int x2), some (.int x3), some (.int x4), some (.int x5), some (.int x6_36)] [] := by
                    intro n_43
                    induction n_43 with
                    | zero =>
                      intro x6_36 M_37 h
                      cases (show none = some _ from h)
                    | succ n_43 i_44 =>
                      intro x6_36 M_37 h
                      rw [L_X7_copy_138] at h
                      refine m_iload hc dX7_copy_138 rfl ?_
                      refine m_iload hc dX7_copy_140 rfl ?_
                      refine m_icge hc (tgt := 173) dX7_copy_142 (by decide) (fun b_45 => ?_) (fun b_45 => ?_)
                      · replace h := (if_pos b_45).symm.trans h
                        cases h
                        exact m_fg [6] rfl J_40
                      · replace h := (if_neg b_45).symm.trans h
                        refine m_aload_n hc dX7_copy_145 rfl ?_
                        refine m_getR hc (q := 217) yO_212 rfl tbX7 5 (by decide) wf_X7_22 rfl dX7_copy_146 ?_
                        refine m_bipush hc (v := (30 : Int32)) dX7_copy_149 (by decide) ?_
                        refine m_iload_n hc dX7_copy_151 rfl ?_
                        refine m_imul hc dX7_copy_152 ?_
                        refine m_iload hc dX7_copy_153 rfl ?_
                        refine m_iadd hc dX7_copy_155 ?_
                        refine m_iload hc dX7_copy_156 rfl ?_
                        refine m_iadd hc dX7_copy_158 ?_
                        refine m_aload_n hc dX7_copy_159 rfl ?_
                        refine m_getR hc (q := 227) yO_212 rfl tbX7 17 (by decide) wf_X7_53 rfl dX7_copy_160 ?_
                        refine m_iload hc dX7_copy_163 rfl ?_
                        obtain ⟨b_46, h⟩ := ck_o h
                        refine m_iald hc yA_227 b_46 dX7_copy_165 ?_
                        obtain ⟨b_47, h⟩ := ck_o h
                        refine m_iast hc yA_217 b_47 dX7_copy_166 ?_
                        refine m_topM (fun M_48 e_49 => ?_)
                        replace h := nm_x e_49 h
                        refine m_iinc hc (v := x6_36 + 1) (lv' := [some (.ref (gR G 212)), some (.int x1), some (.int x2), some (.int x3), some (.int x4), some (.int x5), some (.int (x6_36 + 1))]) dX7_copy_167 rfl rfl rfl rfl ?_
                        refine m_goto hc (tgt := 138) dX7_copy_170 (by decide) ?_
                        exact m_fg [] rfl (i_44 _ _ h)
                  exact m_fg [] rfl (L_41 _ _ _ c_39)
                have L_27 : ∀ (n_29 : Nat) (x6_22 : Int32) (M_23 : Mm), L_X7_copy_101 x1 x2 x5 n_29 x6_22 M_23 = some q_24 → WM G X (qQ G X (some (.int r.1)) r.2) M_23 101 [some (.ref (gR G 212)), some (.int x1), some (.int x2), some (.int x3), some (.int x4), some (.int x5), some (.int x6_22)] [] := by
                  intro n_29
                  induction n_29 with
                  | zero =>
                    intro x6_22 M_23 h
                    cases (show none = some _ from h)
                  | succ n_29 i_30 =>
                    intro x6_22 M_23 h
                    rw [L_X7_copy_101] at h
                    refine m_iload hc dX7_copy_101 rfl ?_
                    refine m_iload hc dX7_copy_103 rfl ?_
                    refine m_icge hc (tgt := 135) dX7_copy_105 (by decide) (fun b_31 => ?_) (fun b_31 => ?_)
                    · replace h := (if_pos b_31).symm.trans h
                      cases h
                      exact m_fg [6] rfl J_26
                    · replace h := (if_neg b_31).symm.trans h
                      refine m_aload_n hc dX7_copy_108 rfl ?_
                      refine m_getR hc (q := 227) yO_212 rfl tbX7 17 (by decide) wf_X7_53 rfl dX7_copy_109 ?_
                      refine m_iload hc dX7_copy_112 rfl ?_
                      refine m_aload_n hc dX7_copy_114 rfl ?_
                      refine m_getR hc (q := 217) yO_212 rfl tbX7 5 (by decide) wf_X7_22 rfl dX7_copy_115 ?_
                      refine m_bipush hc (v := (30 : Int32)) dX7_copy_118 (by decide) ?_
                      refine m_iload_n hc dX7_copy_120 rfl ?_
                      refine m_imul hc dX7_copy_121 ?_
                      refine m_iload_n hc dX7_copy_122 rfl ?_
                      refine m_iadd hc dX7_copy_123 ?_
                      refine m_iload hc dX7_copy_124 rfl ?_
                      refine m_iadd hc dX7_copy_126 ?_
                      obtain ⟨b_32, h⟩ := ck_o h
                      refine m_iald hc yA_217 b_32 dX7_copy_127 ?_
                      obtain ⟨b_33, h⟩ := ck_o h
                      refine m_iast hc yA_227 b_33 dX7_copy_128 ?_
                      refine m_topM (fun M_34 e_35 => ?_)
                      replace h := nm_x e_35 h
                      refine m_iinc hc (v := x6_22 + 1) (lv' := [some (.ref (gR G 212)), some (.int x1), some (.int x2), some (.int x3), some (.int x4), some (.int x5), some (.int (x6_22 + 1))]) dX7_copy_129 rfl rfl rfl rfl ?_
                      refine m_goto hc (tgt := 101) dX7_copy_132 (by decide) ?_
                      exact m_fg [] rfl (i_30 _ _ h)
                exact m_fg [] rfl (L_27 _ _ _ c_25)
              · replace h := (if_pos b_21).symm.trans h
                refine m_aload_n hc dX7_copy_91 rfl ?_
                refine m_ldc hc dX7_copy_92 wk_X7_83 ?_
                obtain ⟨q_50, c_51, h⟩ := nm_o h
                refine m_callVi hc yO_212 rfl (c_X7_finding (d + 1) c_51) (by omega) (by decide) wm_X7_72 wi_X7_finding we_X7_finding wn_X7 wc_X7_finding wy_X7_finding rfl (st := []) rfl rfl (Nat.le_of_ble_eq_true rfl) dX7_copy_94 ?_
                cases h
                exact m_iret hc hr dX7_copy_97
          · replace h := (if_neg b_13).symm.trans h
            refine m_aload_n hc dX7_copy_61 rfl ?_
            refine m_ldc hc dX7_copy_62 wk_X7_97 ?_
            obtain ⟨q_52, c_53, h⟩ := nm_o h
            refine m_callVi hc yO_212 rfl (c_X7_finding (d + 1) c_53) (by omega) (by decide) wm_X7_72 wi_X7_finding we_X7_finding wn_X7 wc_X7_finding wy_X7_finding rfl (st := []) rfl rfl (Nat.le_of_ble_eq_true rfl) dX7_copy_64 ?_
            cases h
            exact m_iret hc hr dX7_copy_67
        · replace h := (if_pos b_10).symm.trans h
          refine m_aload_n hc dX7_copy_39 rfl ?_
          refine m_ldc hc dX7_copy_40 wk_X7_171 ?_
          obtain ⟨q_54, c_55, h⟩ := nm_o h
          refine m_callVi hc yO_212 rfl (c_X7_finding (d + 1) c_55) (by omega) (by decide) wm_X7_72 wi_X7_finding we_X7_finding wn_X7 wc_X7_finding wy_X7_finding rfl (st := []) rfl rfl (Nat.le_of_ble_eq_true rfl) dX7_copy_42 ?_
          cases h
          exact m_iret hc hr dX7_copy_45
    · replace h := (if_pos b_4).symm.trans h
      refine m_aload_n hc dX7_copy_14 rfl ?_
      refine m_ldc hc dX7_copy_15 wk_X7_83 ?_
      obtain ⟨q_56, c_57, h⟩ := nm_o h
      refine m_callVi hc yO_212 rfl (c_X7_finding (d + 1) c_57) (by omega) (by decide) wm_X7_72 wi_X7_finding we_X7_finding wn_X7 wc_X7_finding wy_X7_finding rfl (st := []) rfl rfl (Nat.le_of_ble_eq_true rfl) dX7_copy_17 ?_
      cases h
      exact m_iret hc hr dX7_copy_20
