def L_X7_tune_50 (x1 : Int32) (M : Mm) : Nat → Int32 → Option ((Unit) ⊕ (Int32 × Mm))
  | 0, _ => none
  | n_12 + 1, x2_6 =>
    ck (ib x1 4) (
     if (M 216 x1.toNatClampNeg) ≤ x2_6 then (
     some (.inl ()))
    else (
     ck (ib (((30 : Int32) * x1) + x2_6) 120) (
     if (M 217 (((30 : Int32) * x1) + x2_6).toNatClampNeg) ≤ (100 : Int32) then (
     L_X7_tune_50 x1 M n_12 (x2_6 + 1))
    else (
     nm (f_X7_finding (-100001 : Int32) M) (fun q_19 =>
     some (.inr (q_19.1, q_19.2)))))))
def L_X7_tune_97 (x1 : Int32) : Nat → Int32 → Int32 → Mm → Option (Int32 × Mm)
  | 0, _, _, _ => none
  | n_31 + 1, x2_23, x3_24, M_25 =>
    ck (ib x1 4) (
     if (M_25 216 x1.toNatClampNeg) ≤ x3_24 then (
     some (x2_23, M_25))
    else (
     ck (ib (((30 : Int32) * x1) + x3_24) 120) (
     nm ((M_25 217 (((30 : Int32) * x1) + x3_24).toNatClampNeg)) (fun x4_36 =>
     nm (
     if (-1 : Int32) ≤ x4_36 then (
     (1 : Int32))
    else (
     (0 : Int32))) (fun q_39 =>
     ck (ib ((1 : Int32) + x3_24) 320) (
     nm (mw M_25 213 ((1 : Int32) + x3_24).toNatClampNeg q_39) (fun M_44 =>
     Option.bind (f_X7_lay x3_24 (0 : Int32) (0 : Int32) x4_36 (0 : Int32) M_44) (fun q_46 =>
     ck (ib ((1 : Int32) + x3_24) 320) (
     nm ((x2_23 + (q_46 213 ((1 : Int32) + x3_24).toNatClampNeg))) (fun x2_49 =>
     L_X7_tune_97 x1 n_31 x2_49 (x3_24 + 1) q_46))))))))))
def f_X7_tune (x1 : Int32) (M : Mm) : Option (Int32 × Mm) :=
 if (f_X7_isSheet x1) = 0 then (
 nm (f_X7_finding (-100001 : Int32) M) (fun q_55 =>
 some (q_55.1, q_55.2)))
else (
 ck (ib x1 4) (
 if (M 215 x1.toNatClampNeg) = 0 then (
 nm (f_X7_finding (-100002 : Int32) M) (fun q_53 =>
 some (q_53.1, q_53.2)))
else (
 ck (ib x1 4) (
 if (M 216 x1.toNatClampNeg) ≤ (12 : Int32) then (
 Option.bind (L_X7_tune_50 x1 M FU (0 : Int32)) (fun q_7 => Sum.elim (fun w_14 =>
 Option.bind (f_X7_keep M) (fun q_21 =>
 Option.bind (L_X7_tune_97 x1 FU (0 : Int32) (0 : Int32) q_21) (fun q_26 =>
 some (q_26.1, q_26.2)))) (fun r => some r) q_7))
else (
 nm (f_X7_finding (-100003 : Int32) M) (fun q_51 =>
 some (q_51.1, q_51.2)))))))
set_option maxRecDepth 100000 in
set_option maxHeartbeats 4000000 in
theorem c_X7_tune {G : Gm} {l : Launch} (d : Nat) {x1 : Int32} {M : Mm} {r : Int32 × Mm}  (h : f_X7_tune x1 M = some r) : Cm G l (d + 2) yX7_tune cX7_tune 5 (some .int) [.ref (gR G 212), .int x1] M (some (.int r.1)) r.2 := by
  unfold f_X7_tune at h
  refine m_met (lv := [some (.ref (gR G 212)), some (.int x1), none, none, none]) (own := RX7) (by decide +kernel) rfl rfl (Nat.le_of_ble_eq_true rfl) rfl ?_
  intro X hX hc hr
  subst hX
  refine m_iload_n hc dX7_tune_0 rfl ?_
  refine m_callSi hc (c_X7_isSheet (d + 0) rfl) (by omega) (by decide) wm_X7_168 wt_X7_isSheet wv_X7_isSheet wc_X7_isSheet wz_X7_isSheet rfl (st := []) rfl rfl (Nat.le_of_ble_eq_true rfl) dX7_tune_1 ?_
  refine m_ifne hc (tgt := 14) dX7_tune_4 (by decide) (fun b_1 => ?_) (fun b_1 => ?_)
  · replace h := (if_neg b_1).symm.trans h
    refine m_aload_n hc dX7_tune_14 rfl ?_
    refine m_getR hc (q := 215) yO_212 rfl tbX7 3 (by decide) wf_X7_16 rfl dX7_tune_15 ?_
    refine m_iload_n hc dX7_tune_18 rfl ?_
    obtain ⟨b_2, h⟩ := ck_o h
    refine m_iald hc yA_215 b_2 dX7_tune_19 ?_
    refine m_ifne hc (tgt := 30) dX7_tune_20 (by decide) (fun b_3 => ?_) (fun b_3 => ?_)
    · replace h := (if_neg b_3).symm.trans h
      refine m_aload_n hc dX7_tune_30 rfl ?_
      refine m_getR hc (q := 216) yO_212 rfl tbX7 4 (by decide) wf_X7_19 rfl dX7_tune_31 ?_
      refine m_iload_n hc dX7_tune_34 rfl ?_
      obtain ⟨b_4, h⟩ := ck_o h
      refine m_iald hc yA_216 b_4 dX7_tune_35 ?_
      refine m_bipush hc (v := (12 : Int32)) dX7_tune_36 (by decide) ?_
      refine m_icle hc (tgt := 48) dX7_tune_38 (by decide) (fun b_5 => ?_) (fun b_5 => ?_)
      · replace h := (if_pos b_5).symm.trans h
        refine m_iconst hc (v := 0) dX7_tune_48 (by decide) ?_
        refine m_istore_n hc (lv' := [some (.ref (gR G 212)), some (.int x1), some (.int (0 : Int32)), none, none]) dX7_tune_49 (Nat.le_of_ble_eq_true rfl) rfl rfl ?_
        obtain ⟨q_7, c_8, g_11⟩ := bd_o h
        have J_9 : ∀ (w_14 : Unit), (Option.bind (f_X7_keep M) (fun q_21 =>  Option.bind (L_X7_tune_97 x1 FU (0 : Int32) (0 : Int32) q_21) (fun q_26 =>  some (q_26.1, q_26.2)))) = some r → WM G X (qQ G X (some (.int r.1)) r.2) M 89 [some (.ref (gR G 212)), some (.int x1), none, none, none] [] := by
          intro w_14 h
          refine m_aload_n hc dX7_tune_89 rfl ?_
          obtain ⟨q_21, c_22, h⟩ := bd_o h
          refine m_callVv hc yO_212 rfl (c_X7_keep (d + 1) c_22) (by omega) (by decide) wm_X7_76 wi_X7_keep we_X7_keep wn_X7 wc_X7_keep wy_X7_keep rfl (st := []) rfl rfl (Nat.le_of_ble_eq_true rfl) dX7_tune_90 ?_
          refine m_iconst hc (v := 0) dX7_tune_93 (by decide) ?_
          refine m_istore_n hc (lv' := [some (.ref (gR G 212)), some (.int x1), some (.int (0 : Int32)), none, none]) dX7_tune_94 (Nat.le_of_ble_eq_true rfl) rfl rfl ?_
          refine m_iconst hc (v := 0) dX7_tune_95 (by decide) ?_
          refine m_istore_n hc (lv' := [some (.ref (gR G 212)), some (.int x1), some (.int (0 : Int32)), some (.int (0 : Int32)), none]) dX7_tune_96 (Nat.le_of_ble_eq_true rfl) rfl rfl ?_
          obtain ⟨q_26, c_27, h⟩ := bd_o h
          have J_28 : WM G X (qQ G X (some (.int r.1)) r.2) q_26.2 166 [some (.ref (gR G 212)), some (.int x1), some (.int q_26.1), none, none] [] := by
            refine m_iload_n hc dX7_tune_166 rfl ?_
            cases h
            exact m_iret hc hr dX7_tune_167
          have L_29 : ∀ (n_31 : Nat) (x2_23 : Int32) (x3_24 : Int32) (M_25 : Mm), L_X7_tune_97 x1 n_31 x2_23 x3_24 M_25 = some q_26 → WM G X (qQ G X (some (.int r.1)) r.2) M_25 97 [some (.ref (gR G 212)), some (.int x1), some (.int x2_23), some (.int x3_24), none] [] := by
            intro n_31
            induction n_31 with
            | zero =>
              intro x2_23 x3_24 M_25 h
              cases (show none = some _ from h)
            | succ n_31 i_32 =>
              intro x2_23 x3_24 M_25 h
              rw [L_X7_tune_97] at h
              refine m_iload_n hc dX7_tune_97 rfl ?_
              refine m_aload_n hc dX7_tune_98 rfl ?_
              refine m_getR hc (q := 216) yO_212 rfl tbX7 4 (by decide) wf_X7_19 rfl dX7_tune_99 ?_
              refine m_iload_n hc dX7_tune_102 rfl ?_
              obtain ⟨b_33, h⟩ := ck_o h
              refine m_iald hc yA_216 b_33 dX7_tune_103 ?_
              refine m_icge hc (tgt := 166) dX7_tune_104 (by decide) (fun b_34 => ?_) (fun b_34 => ?_)
              · replace h := (if_pos b_34).symm.trans h
                cases h
                exact m_fg [3] rfl J_28
              · replace h := (if_neg b_34).symm.trans h
                refine m_aload_n hc dX7_tune_107 rfl ?_
                refine m_getR hc (q := 217) yO_212 rfl tbX7 5 (by decide) wf_X7_22 rfl dX7_tune_108 ?_
                refine m_bipush hc (v := (30 : Int32)) dX7_tune_111 (by decide) ?_
                refine m_iload_n hc dX7_tune_113 rfl ?_
                refine m_imul hc dX7_tune_114 ?_
                refine m_iload_n hc dX7_tune_115 rfl ?_
                refine m_iadd hc dX7_tune_116 ?_
                obtain ⟨b_35, h⟩ := ck_o h
                refine m_iald hc yA_217 b_35 dX7_tune_117 ?_
                refine m_topI (fun x4_36 e_37 => ?_)
                replace h := nm_x e_37 h
                refine m_istore hc (lv' := [some (.ref (gR G 212)), some (.int x1), some (.int x2_23), some (.int x3_24), some (.int x4_36)]) dX7_tune_118 (Nat.le_of_ble_eq_true rfl) rfl rfl ?_
                refine m_aload_n hc dX7_tune_120 rfl ?_
                refine m_getR hc (q := 213) yO_212 rfl tbX7 0 (by decide) wf_X7_7 rfl dX7_tune_121 ?_
                refine m_iconst hc (v := 1) dX7_tune_124 (by decide) ?_
                refine m_iload_n hc dX7_tune_125 rfl ?_
                refine m_iadd hc dX7_tune_126 ?_
                refine m_iload hc dX7_tune_127 rfl ?_
                refine m_iconst hc (v := (-1)) dX7_tune_129 (by decide) ?_
                obtain ⟨q_39, c_40, h⟩ := nm_o h
                have J_41 : WM G X (qQ G X (some (.int r.1)) r.2) M_25 138 [some (.ref (gR G 212)), some (.int x1), some (.int x2_23), some (.int x3_24), some (.int x4_36)] [.int q_39, .int ((1 : Int32) + x3_24), .ref (gR G 213)] := by
                  obtain ⟨b_43, h⟩ := ck_o h
                  refine m_iast hc yA_213 b_43 dX7_tune_138 ?_
                  refine m_topM (fun M_44 e_45 => ?_)
                  replace h := nm_x e_45 h
                  refine m_aload_n hc dX7_tune_139 rfl ?_
                  refine m_iload_n hc dX7_tune_140 rfl ?_
                  refine m_iconst hc (v := 0) dX7_tune_141 (by decide) ?_
                  refine m_iconst hc (v := 0) dX7_tune_142 (by decide) ?_
                  refine m_iload hc dX7_tune_143 rfl ?_
                  refine m_iconst hc (v := 0) dX7_tune_145 (by decide) ?_
                  obtain ⟨q_46, c_47, h⟩ := bd_o h
                  refine m_callVv hc yO_212 rfl (c_X7_lay (d + 1) c_47) (by omega) (by decide) wm_X7_85 wi_X7_lay we_X7_lay wn_X7 wc_X7_lay wy_X7_lay rfl (st := []) rfl rfl (Nat.le_of_ble_eq_true rfl) dX7_tune_146 ?_
                  refine m_iload_n hc dX7_tune_149 rfl ?_
                  refine m_aload_n hc dX7_tune_150 rfl ?_
                  refine m_getR hc (q := 213) yO_212 rfl tbX7 0 (by decide) wf_X7_7 rfl dX7_tune_151 ?_
                  refine m_iconst hc (v := 1) dX7_tune_154 (by decide) ?_
                  refine m_iload_n hc dX7_tune_155 rfl ?_
                  refine m_iadd hc dX7_tune_156 ?_
                  obtain ⟨b_48, h⟩ := ck_o h
                  refine m_iald hc yA_213 b_48 dX7_tune_157 ?_
                  refine m_iadd hc dX7_tune_158 ?_
                  refine m_topI (fun x2_49 e_50 => ?_)
                  replace h := nm_x e_50 h
                  refine m_istore_n hc (lv' := [some (.ref (gR G 212)), some (.int x1), some (.int x2_49), some (.int x3_24), some (.int x4_36)]) dX7_tune_159 (Nat.le_of_ble_eq_true rfl) rfl rfl ?_
                  refine m_iinc hc (v := x3_24 + 1) (lv' := [some (.ref (gR G 212)), some (.int x1), some (.int x2_49), some (.int (x3_24 + 1)), some (.int x4_36)]) dX7_tune_160 rfl rfl rfl rfl ?_
                  refine m_goto hc (tgt := 97) dX7_tune_163 (by decide) ?_
                  exact m_fg [4] rfl (i_32 _ _ _ h)
                replace h := c_40
                refine m_icge hc (tgt := 137) dX7_tune_130 (by decide) (fun b_42 => ?_) (fun b_42 => ?_)
                · replace h := (if_pos b_42).symm.trans h
                  refine m_iconst hc (v := 1) dX7_tune_137 (by decide) ?_
                  subst h
                  exact m_fg [] rfl J_41
                · replace h := (if_neg b_42).symm.trans h
                  refine m_iconst hc (v := 0) dX7_tune_133 (by decide) ?_
                  refine m_goto hc (tgt := 138) dX7_tune_134 (by decide) ?_
                  subst h
                  exact m_fg [] rfl J_41
          exact m_fg [] rfl (L_29 _ _ _ _ c_27)
        have L_10 : ∀ (n_12 : Nat) (x2_6 : Int32), L_X7_tune_50 x1 M n_12 x2_6 = some q_7 → WM G X (qQ G X (some (.int r.1)) r.2) M 50 [some (.ref (gR G 212)), some (.int x1), some (.int x2_6), none, none] [] := by
          intro n_12
          induction n_12 with
          | zero =>
            intro x2_6 h
            cases (show none = some _ from h)
          | succ n_12 i_13 =>
            intro x2_6 h
            rw [L_X7_tune_50] at h
            refine m_iload_n hc dX7_tune_50 rfl ?_
            refine m_aload_n hc dX7_tune_51 rfl ?_
            refine m_getR hc (q := 216) yO_212 rfl tbX7 4 (by decide) wf_X7_19 rfl dX7_tune_52 ?_
            refine m_iload_n hc dX7_tune_55 rfl ?_
            obtain ⟨b_15, h⟩ := ck_o h
            refine m_iald hc yA_216 b_15 dX7_tune_56 ?_
            refine m_icge hc (tgt := 89) dX7_tune_57 (by decide) (fun b_16 => ?_) (fun b_16 => ?_)
            · replace h := (if_pos b_16).symm.trans h
              cases h
              exact m_fg [2] rfl (J_9 () g_11)
            · replace h := (if_neg b_16).symm.trans h
              refine m_aload_n hc dX7_tune_60 rfl ?_
              refine m_getR hc (q := 217) yO_212 rfl tbX7 5 (by decide) wf_X7_22 rfl dX7_tune_61 ?_
              refine m_bipush hc (v := (30 : Int32)) dX7_tune_64 (by decide) ?_
              refine m_iload_n hc dX7_tune_66 rfl ?_
              refine m_imul hc dX7_tune_67 ?_
              refine m_iload_n hc dX7_tune_68 rfl ?_
              refine m_iadd hc dX7_tune_69 ?_
              obtain ⟨b_17, h⟩ := ck_o h
              refine m_iald hc yA_217 b_17 dX7_tune_70 ?_
              refine m_bipush hc (v := (100 : Int32)) dX7_tune_71 (by decide) ?_
              refine m_icle hc (tgt := 83) dX7_tune_73 (by decide) (fun b_18 => ?_) (fun b_18 => ?_)
              · replace h := (if_pos b_18).symm.trans h
                refine m_iinc hc (v := x2_6 + 1) (lv' := [some (.ref (gR G 212)), some (.int x1), some (.int (x2_6 + 1)), none, none]) dX7_tune_83 rfl rfl rfl rfl ?_
                refine m_goto hc (tgt := 50) dX7_tune_86 (by decide) ?_
                exact m_fg [] rfl (i_13 _ h)
              · replace h := (if_neg b_18).symm.trans h
                refine m_aload_n hc dX7_tune_76 rfl ?_
                refine m_ldc hc dX7_tune_77 wk_X7_83 ?_
                obtain ⟨q_19, c_20, h⟩ := nm_o h
                refine m_callVi hc yO_212 rfl (c_X7_finding (d + 1) c_20) (by omega) (by decide) wm_X7_72 wi_X7_finding we_X7_finding wn_X7 wc_X7_finding wy_X7_finding rfl (st := []) rfl rfl (Nat.le_of_ble_eq_true rfl) dX7_tune_79 ?_
                cases h
                have g_11 : some (q_19.1, q_19.2) = some r := g_11
                cases g_11
                exact m_iret hc hr dX7_tune_82
        exact m_fg [] rfl (L_10 _ _ c_8)
      · replace h := (if_neg b_5).symm.trans h
        refine m_aload_n hc dX7_tune_41 rfl ?_
        refine m_ldc hc dX7_tune_42 wk_X7_98 ?_
        obtain ⟨q_51, c_52, h⟩ := nm_o h
        refine m_callVi hc yO_212 rfl (c_X7_finding (d + 1) c_52) (by omega) (by decide) wm_X7_72 wi_X7_finding we_X7_finding wn_X7 wc_X7_finding wy_X7_finding rfl (st := []) rfl rfl (Nat.le_of_ble_eq_true rfl) dX7_tune_44 ?_
        cases h
        exact m_iret hc hr dX7_tune_47
    · replace h := (if_pos b_3).symm.trans h
      refine m_aload_n hc dX7_tune_23 rfl ?_
      refine m_ldc hc dX7_tune_24 wk_X7_171 ?_
      obtain ⟨q_53, c_54, h⟩ := nm_o h
      refine m_callVi hc yO_212 rfl (c_X7_finding (d + 1) c_54) (by omega) (by decide) wm_X7_72 wi_X7_finding we_X7_finding wn_X7 wc_X7_finding wy_X7_finding rfl (st := []) rfl rfl (Nat.le_of_ble_eq_true rfl) dX7_tune_26 ?_
      cases h
      exact m_iret hc hr dX7_tune_29
  · replace h := (if_pos b_1).symm.trans h
    refine m_aload_n hc dX7_tune_7 rfl ?_
    refine m_ldc hc dX7_tune_8 wk_X7_83 ?_
    obtain ⟨q_55, c_56, h⟩ := nm_o h
    refine m_callVi hc yO_212 rfl (c_X7_finding (d + 1) c_56) (by omega) (by decide) wm_X7_72 wi_X7_finding we_X7_finding wn_X7 wc_X7_finding wy_X7_finding rfl (st := []) rfl rfl (Nat.le_of_ble_eq_true rfl) dX7_tune_10 ?_
    cases h
    exact m_iret hc hr dX7_tune_13
def L_X7_all_48 (M : Mm) : Nat → Int32 → Int32 → Option (Int32)
  | 0, _, _ => none
  | n_14 + 1, x2_7, x3_8 =>
    if (313 : Int32) ≤ x3_8 then (
     some x2_7)
    else (
     ck (ib x3_8 320) (
     nm (
     if (M 213 x3_8.toNatClampNeg) < 0 then (
     (0 : Int32))
    else (
     (1 : Int32))) (fun q_19 =>
     nm ((x2_7 + q_19)) (fun x2_23 =>
     L_X7_all_48 M n_14 x2_23 (x3_8 + 1)))))
def f_X7_all (x1 : Int32) (M : Mm) : Option (Int32 × Mm) :=
 if x1 = (0 : Int32) then (
 ck (ib (0 : Int32) 320) (
 some ((M 213 (0 : Int32).toNatClampNeg), M)))
else (
 if x1 = (1 : Int32) then (
 Option.bind (f_X7_notes M) (fun q_4 =>
 some (q_4, M)))
else (
 if x1 = (2 : Int32) then (
 Option.bind (L_X7_all_48 M FU (0 : Int32) (229 : Int32)) (fun q_9 =>
 some (q_9, M)))
else (
 if x1 = (3 : Int32) then (
 some ((M 212 6), M))
else (
 nm (f_X7_finding (-100001 : Int32) M) (fun q_26 =>
 some (q_26.1, q_26.2))))))
set_option maxRecDepth 100000 in
set_option maxHeartbeats 4000000 in
theorem c_X7_all {G : Gm} {l : Launch} (d : Nat) {x1 : Int32} {M : Mm} {r : Int32 × Mm}  (h : f_X7_all x1 M = some r) : Cm G l (d + 1) yX7_all cX7_all 4 (some .int) [.ref (gR G 212), .int x1] M (some (.int r.1)) r.2 := by
  unfold f_X7_all at h
  refine m_met (lv := [some (.ref (gR G 212)), some (.int x1), none, none]) (own := RX7) (by decide +kernel) rfl rfl (Nat.le_of_ble_eq_true rfl) rfl ?_
  intro X hX hc hr
  subst hX
  refine m_iconst hc (v := 0) dX7_all_0 (by decide) ?_
  refine m_istore_n hc (lv' := [some (.ref (gR G 212)), some (.int x1), some (.int (0 : Int32)), none]) dX7_all_1 (Nat.le_of_ble_eq_true rfl) rfl rfl ?_
  refine m_iload_n hc dX7_all_2 rfl ?_
  by_cases b_1 : x1 = (0 : Int32)
  · replace h := (if_pos b_1).symm.trans h
    refine m_tsK hc (tgt := 32) b_1 dX7_all_3 (by decide) (by decide) rfl (by decide) ?_
    refine m_aload_n hc dX7_all_32 rfl ?_
    refine m_getR hc (q := 213) yO_212 rfl tbX7 0 (by decide) wf_X7_7 rfl dX7_all_33 ?_
    refine m_iconst hc (v := 0) dX7_all_36 (by decide) ?_
    obtain ⟨b_2, h⟩ := ck_o h
    refine m_iald hc yA_213 b_2 dX7_all_37 ?_
    cases h
    exact m_iret hc hr dX7_all_38
  · replace h := (if_neg b_1).symm.trans h
    by_cases b_3 : x1 = (1 : Int32)
    · replace h := (if_pos b_3).symm.trans h
      refine m_tsK hc (tgt := 39) b_3 dX7_all_3 (by decide) (by decide) rfl (by decide) ?_
      refine m_aload_n hc dX7_all_39 rfl ?_
      obtain ⟨q_4, c_5, h⟩ := bd_o h
      refine m_callVi hc yO_212 rfl (c_X7_notes (d + 0) c_5) (by omega) (by decide) wm_X7_99 wi_X7_notes we_X7_notes wn_X7 wc_X7_notes wy_X7_notes rfl (st := []) rfl rfl (Nat.le_of_ble_eq_true rfl) dX7_all_40 ?_
      cases h
      exact m_iret hc hr dX7_all_43
    · replace h := (if_neg b_3).symm.trans h
      by_cases b_6 : x1 = (2 : Int32)
      · replace h := (if_pos b_6).symm.trans h
        refine m_tsK hc (tgt := 44) b_6 dX7_all_3 (by decide) (by decide) rfl (by decide) ?_
        refine m_sipush hc (v := (229 : Int32)) dX7_all_44 (by decide) ?_
        refine m_istore_n hc (lv' := [some (.ref (gR G 212)), some (.int x1), some (.int (0 : Int32)), some (.int (229 : Int32))]) dX7_all_47 (Nat.le_of_ble_eq_true rfl) rfl rfl ?_
        obtain ⟨q_9, c_10, h⟩ := bd_o h
        have J_11 : WM G X (qQ G X (some (.int r.1)) r.2) M 78 [some (.ref (gR G 212)), some (.int x1), some (.int q_9), none] [] := by
          refine m_iload_n hc dX7_all_78 rfl ?_
          cases h
          exact m_iret hc hr dX7_all_79
        have L_12 : ∀ (n_14 : Nat) (x2_7 : Int32) (x3_8 : Int32), L_X7_all_48 M n_14 x2_7 x3_8 = some q_9 → WM G X (qQ G X (some (.int r.1)) r.2) M 48 [some (.ref (gR G 212)), some (.int x1), some (.int x2_7), some (.int x3_8)] [] := by
          intro n_14
          induction n_14 with
          | zero =>
            intro x2_7 x3_8 h
            cases (show none = some _ from h)
          | succ n_14 i_15 =>
            intro x2_7 x3_8 h
            rw [L_X7_all_48] at h
            refine m_iload_n hc dX7_all_48 rfl ?_
            refine m_sipush hc (v := (313 : Int32)) dX7_all_49 (by decide) ?_
            refine m_icge hc (tgt := 78) dX7_all_52 (by decide) (fun b_16 => ?_) (fun b_16 => ?_)
            · replace h := (if_pos b_16).symm.trans h
              cases h
              exact m_fg [3] rfl J_11
            · replace h := (if_neg b_16).symm.trans h
              refine m_iload_n hc dX7_all_55 rfl ?_
              refine m_aload_n hc dX7_all_56 rfl ?_
              refine m_getR hc (q := 213) yO_212 rfl tbX7 0 (by decide) wf_X7_7 rfl dX7_all_57 ?_
              refine m_iload_n hc dX7_all_60 rfl ?_
              obtain ⟨b_17, h⟩ := ck_o h
              refine m_iald hc yA_213 b_17 dX7_all_61 ?_
              obtain ⟨q_19, c_20, h⟩ := nm_o h
              have J_21 : WM G X (qQ G X (some (.int r.1)) r.2) M 70 [some (.ref (gR G 212)), some (.int x1), some (.int x2_7), some (.int x3_8)] [.int q_19, .int x2_7] := by
                refine m_iadd hc dX7_all_70 ?_
                refine m_topI (fun x2_23 e_24 => ?_)
                replace h := nm_x e_24 h
                refine m_istore_n hc (lv' := [some (.ref (gR G 212)), some (.int x1), some (.int x2_23), some (.int x3_8)]) dX7_all_71 (Nat.le_of_ble_eq_true rfl) rfl rfl ?_
                refine m_iinc hc (v := x3_8 + 1) (lv' := [some (.ref (gR G 212)), some (.int x1), some (.int x2_23), some (.int (x3_8 + 1))]) dX7_all_72 rfl rfl rfl rfl ?_
                refine m_goto hc (tgt := 48) dX7_all_75 (by decide) ?_
                exact m_fg [] rfl (i_15 _ _ h)
              replace h := c_20
              refine m_iflt hc (tgt := 69) dX7_all_62 (by decide) (fun b_22 => ?_) (fun b_22 => ?_)
              · replace h := (if_pos b_22).symm.trans h
                refine m_iconst hc (v := 0) dX7_all_69 (by decide) ?_
                subst h
                exact m_fg [] rfl J_21
              · replace h := (if_neg b_22).symm.trans h
                refine m_iconst hc (v := 1) dX7_all_65 (by decide) ?_
                refine m_goto hc (tgt := 70) dX7_all_66 (by decide) ?_
                subst h
                exact m_fg [] rfl J_21
        exact m_fg [] rfl (L_12 _ _ _ c_10)
      · replace h := (if_neg b_6).symm.trans h
        by_cases b_25 : x1 = (3 : Int32)
        · replace h := (if_pos b_25).symm.trans h
          refine m_tsK hc (tgt := 80) b_25 dX7_all_3 (by decide) (by decide) rfl (by decide) ?_
          refine m_aload_n hc dX7_all_80 rfl ?_
          refine m_getI hc yO_212 rfl tbX7 6 (by decide) wf_X7_56 rfl dX7_all_81 ?_
          cases h
          exact m_iret hc hr dX7_all_84
        · replace h := (if_neg b_25).symm.trans h
          refine m_tsOut hc (tgt := 85) dX7_all_3 (by have nb_1 := sw_ne (a := 0) b_1 (by decide); have nb_3 := sw_ne (a := 1) b_3 (by decide); have nb_6 := sw_ne (a := 2) b_6 (by decide); have nb_25 := sw_ne (a := 3) b_25 (by decide); omega) (by decide) ?_
          refine m_aload_n hc dX7_all_85 rfl ?_
          refine m_ldc hc dX7_all_86 wk_X7_83 ?_
          obtain ⟨q_26, c_27, h⟩ := nm_o h
          refine m_callVi hc yO_212 rfl (c_X7_finding (d + 0) c_27) (by omega) (by decide) wm_X7_72 wi_X7_finding we_X7_finding wn_X7 wc_X7_finding wy_X7_finding rfl (st := []) rfl rfl (Nat.le_of_ble_eq_true rfl) dX7_all_88 ?_
          cases h
          exact m_iret hc hr dX7_all_91
