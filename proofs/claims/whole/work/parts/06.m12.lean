def L_X7_tellWay_15 (q_1 : Int32 × Mm) : Nat → Int32 → Option (Int32)
  | 0, _ => none
  | n_10 + 1, x2_4 =>
    Option.bind (f_X7_ahead x2_4 q_1.2) (fun q_12 =>
     ck (ib x2_4 26244) (
     if (q_12 + (q_1.2 218 x2_4.toNatClampNeg)) = q_1.1 then (
     some x2_4)
    else (
     L_X7_tellWay_15 q_1 n_10 (x2_4 + 1))))
def L_X7_tellWay_79 (x3_19 : Int32) (q_31 : Mm) : Nat → Int32 → Int32 → Option (Int32)
  | 0, _, _ => none
  | n_40 + 1, x4_33, x5_34 =>
    if (q_31 212 11) ≤ x5_34 then (
     some x4_33)
    else (
     ck (ib x5_34 63) (
     ck (ib x5_34 63) (
     ck (ib (((2187 : Int32) * x3_19) + (q_31 220 x5_34.toNatClampNeg)) 26244) (
     ck (ib (x3_19 - (1 : Int32)) 12) (
     ck (ib (((2187 : Int32) * (x3_19 - (1 : Int32))) + (q_31 222 (x3_19 - (1 : Int32)).toNatClampNeg)) 26244) (
     nm (
     if ((q_31 221 x5_34.toNatClampNeg) + (q_31 218 (((2187 : Int32) * x3_19) + (q_31 220 x5_34.toNatClampNeg)).toNatClampNeg)) = (q_31 218 (((2187 : Int32) * (x3_19 - (1 : Int32))) + (q_31 222 (x3_19 - (1 : Int32)).toNatClampNeg)).toNatClampNeg) then (
     (1 : Int32))
    else (
     (0 : Int32))) (fun q_49 =>
     Option.bind (
     if q_49 = 0 then (
     some x4_33)
    else (
     ck (ib x5_34 63) (
     if x4_33 ≤ (q_31 220 x5_34.toNatClampNeg) then (
     some x4_33)
    else (
     ck (ib x5_34 63) (
     some (q_31 220 x5_34.toNatClampNeg)))))) (fun q_57 =>
     L_X7_tellWay_79 x3_19 q_31 n_40 q_57 (x5_34 + 1)))))))))
def L_X7_tellWay_46 : Nat → Int32 → Mm → Option (Mm)
  | 0, _, _ => none
  | n_26 + 1, x3_19, M_20 =>
    ck (ib (0 : Int32) 320) (
     if (M_20 213 (0 : Int32).toNatClampNeg) ≤ x3_19 then (
     some M_20)
    else (
     ck (ib (x3_19 - (1 : Int32)) 12) (
     Option.bind (f_X7_tellNext (x3_19 - (1 : Int32)) (M_20 222 (x3_19 - (1 : Int32)).toNatClampNeg) M_20) (fun q_31 =>
     Option.bind (L_X7_tellWay_79 x3_19 q_31 FU (2187 : Int32) (0 : Int32)) (fun q_35 =>
     ck (ib x3_19 12) (
     nm (mw q_31 222 x3_19.toNatClampNeg q_35) (fun M_65 =>
     L_X7_tellWay_46 n_26 (x3_19 + 1) M_65)))))))
def f_X7_tellWay (M : Mm) : Option (Int32 × Mm) :=
 Option.bind (f_X7_tell M) (fun q_1 =>
 if q_1.1 = (100000 : Int32) then (
 some (q_1.1, q_1.2))
else (
 Option.bind (L_X7_tellWay_15 q_1 FU (0 : Int32)) (fun q_5 =>
 ck (ib (0 : Int32) 12) (
 nm (mw q_1.2 222 (0 : Int32).toNatClampNeg q_5) (fun M_17 =>
 Option.bind (L_X7_tellWay_46 FU (1 : Int32) M_17) (fun q_21 =>
 some (q_1.1, q_21)))))))
set_option maxRecDepth 100000 in
set_option maxHeartbeats 4000000 in
theorem c_X7_tellWay {G : Gm} {l : Launch} (d : Nat) {M : Mm} {r : Int32 × Mm}  (h : f_X7_tellWay M = some r) : Cm G l (d + 6) yX7_tellWay cX7_tellWay 7 (some .int) [.ref (gR G 212)] M (some (.int r.1)) r.2 := by
  unfold f_X7_tellWay at h
  refine m_met (lv := [some (.ref (gR G 212)), none, none, none, none, none, none]) (own := RX7) (by decide +kernel) rfl rfl (Nat.le_of_ble_eq_true rfl) rfl ?_
  intro X hX hc hr
  subst hX
  refine m_aload_n hc dX7_tellWay_0 rfl ?_
  obtain ⟨q_1, c_2, h⟩ := bd_o h
  refine m_callVi hc yO_212 rfl (c_X7_tell (d + 0) c_2) (by omega) (by decide) wm_X7_150 wi_X7_tell we_X7_tell wn_X7 wc_X7_tell wy_X7_tell rfl (st := []) rfl rfl (Nat.le_of_ble_eq_true rfl) dX7_tellWay_1 ?_
  refine m_istore_n hc (lv' := [some (.ref (gR G 212)), some (.int q_1.1), none, none, none, none, none]) dX7_tellWay_4 (Nat.le_of_ble_eq_true rfl) rfl rfl ?_
  refine m_iload_n hc dX7_tellWay_5 rfl ?_
  refine m_ldc hc dX7_tellWay_6 wk_X7_140 ?_
  refine m_icne hc (tgt := 13) dX7_tellWay_8 (by decide) (fun b_3 => ?_) (fun b_3 => ?_)
  · replace h := (if_neg b_3).symm.trans h
    refine m_iconst hc (v := 0) dX7_tellWay_13 (by decide) ?_
    refine m_istore_n hc (lv' := [some (.ref (gR G 212)), some (.int q_1.1), some (.int (0 : Int32)), none, none, none, none]) dX7_tellWay_14 (Nat.le_of_ble_eq_true rfl) rfl rfl ?_
    obtain ⟨q_5, c_6, h⟩ := bd_o h
    have J_7 : WM G X (qQ G X (some (.int r.1)) r.2) q_1.2 37 [some (.ref (gR G 212)), some (.int q_1.1), some (.int q_5), none, none, none, none] [] := by
      refine m_aload_n hc dX7_tellWay_37 rfl ?_
      refine m_getR hc (q := 222) yO_212 rfl tbX7 12 (by decide) wf_X7_37 rfl dX7_tellWay_38 ?_
      refine m_iconst hc (v := 0) dX7_tellWay_41 (by decide) ?_
      refine m_iload_n hc dX7_tellWay_42 rfl ?_
      obtain ⟨b_16, h⟩ := ck_o h
      refine m_iast hc yA_222 b_16 dX7_tellWay_43 ?_
      refine m_topM (fun M_17 e_18 => ?_)
      replace h := nm_x e_18 h
      refine m_iconst hc (v := 1) dX7_tellWay_44 (by decide) ?_
      refine m_istore_n hc (lv' := [some (.ref (gR G 212)), some (.int q_1.1), some (.int q_5), some (.int (1 : Int32)), none, none, none]) dX7_tellWay_45 (Nat.le_of_ble_eq_true rfl) rfl rfl ?_
      obtain ⟨q_21, c_22, h⟩ := bd_o h
      have J_23 : WM G X (qQ G X (some (.int r.1)) r.2) q_21 196 [some (.ref (gR G 212)), some (.int q_1.1), some (.int q_5), none, none, none, none] [] := by
        refine m_iload_n hc dX7_tellWay_196 rfl ?_
        cases h
        exact m_iret hc hr dX7_tellWay_197
      have L_24 : ∀ (n_26 : Nat) (x3_19 : Int32) (M_20 : Mm), L_X7_tellWay_46 n_26 x3_19 M_20 = some q_21 → WM G X (qQ G X (some (.int r.1)) r.2) M_20 46 [some (.ref (gR G 212)), some (.int q_1.1), some (.int q_5), some (.int x3_19), none, none, none] [] := by
        intro n_26
        induction n_26 with
        | zero =>
          intro x3_19 M_20 h
          cases (show none = some _ from h)
        | succ n_26 i_27 =>
          intro x3_19 M_20 h
          rw [L_X7_tellWay_46] at h
          refine m_iload_n hc dX7_tellWay_46 rfl ?_
          refine m_aload_n hc dX7_tellWay_47 rfl ?_
          refine m_getR hc (q := 213) yO_212 rfl tbX7 0 (by decide) wf_X7_7 rfl dX7_tellWay_48 ?_
          refine m_iconst hc (v := 0) dX7_tellWay_51 (by decide) ?_
          obtain ⟨b_28, h⟩ := ck_o h
          refine m_iald hc yA_213 b_28 dX7_tellWay_52 ?_
          refine m_icge hc (tgt := 196) dX7_tellWay_53 (by decide) (fun b_29 => ?_) (fun b_29 => ?_)
          · replace h := (if_pos b_29).symm.trans h
            cases h
            exact m_fg [3] rfl J_23
          · replace h := (if_neg b_29).symm.trans h
            refine m_aload_n hc dX7_tellWay_56 rfl ?_
            refine m_iload_n hc dX7_tellWay_57 rfl ?_
            refine m_iconst hc (v := 1) dX7_tellWay_58 (by decide) ?_
            refine m_isub hc dX7_tellWay_59 ?_
            refine m_aload_n hc dX7_tellWay_60 rfl ?_
            refine m_getR hc (q := 222) yO_212 rfl tbX7 12 (by decide) wf_X7_37 rfl dX7_tellWay_61 ?_
            refine m_iload_n hc dX7_tellWay_64 rfl ?_
            refine m_iconst hc (v := 1) dX7_tellWay_65 (by decide) ?_
            refine m_isub hc dX7_tellWay_66 ?_
            obtain ⟨b_30, h⟩ := ck_o h
            refine m_iald hc yA_222 b_30 dX7_tellWay_67 ?_
            obtain ⟨q_31, c_32, h⟩ := bd_o h
            refine m_callVv hc yO_212 rfl (c_X7_tellNext (d + 1) c_32) (by omega) (by decide) wm_X7_142 wi_X7_tellNext we_X7_tellNext wn_X7 wc_X7_tellNext wy_X7_tellNext rfl (st := []) rfl rfl (Nat.le_of_ble_eq_true rfl) dX7_tellWay_68 ?_
            refine m_sipush hc (v := (2187 : Int32)) dX7_tellWay_71 (by decide) ?_
            refine m_istore hc (lv' := [some (.ref (gR G 212)), some (.int q_1.1), some (.int q_5), some (.int x3_19), some (.int (2187 : Int32)), none, none]) dX7_tellWay_74 (Nat.le_of_ble_eq_true rfl) rfl rfl ?_
            refine m_iconst hc (v := 0) dX7_tellWay_76 (by decide) ?_
            refine m_istore hc (lv' := [some (.ref (gR G 212)), some (.int q_1.1), some (.int q_5), some (.int x3_19), some (.int (2187 : Int32)), some (.int (0 : Int32)), none]) dX7_tellWay_77 (Nat.le_of_ble_eq_true rfl) rfl rfl ?_
            obtain ⟨q_35, c_36, h⟩ := bd_o h
            have J_37 : WM G X (qQ G X (some (.int r.1)) r.2) q_31 182 [some (.ref (gR G 212)), some (.int q_1.1), some (.int q_5), some (.int x3_19), some (.int q_35), none, none] [] := by
              refine m_aload_n hc dX7_tellWay_182 rfl ?_
              refine m_getR hc (q := 222) yO_212 rfl tbX7 12 (by decide) wf_X7_37 rfl dX7_tellWay_183 ?_
              refine m_iload_n hc dX7_tellWay_186 rfl ?_
              refine m_iload hc dX7_tellWay_187 rfl ?_
              obtain ⟨b_64, h⟩ := ck_o h
              refine m_iast hc yA_222 b_64 dX7_tellWay_189 ?_
              refine m_topM (fun M_65 e_66 => ?_)
              replace h := nm_x e_66 h
              refine m_iinc hc (v := x3_19 + 1) (lv' := [some (.ref (gR G 212)), some (.int q_1.1), some (.int q_5), some (.int (x3_19 + 1)), some (.int q_35), none, none]) dX7_tellWay_190 rfl rfl rfl rfl ?_
              refine m_goto hc (tgt := 46) dX7_tellWay_193 (by decide) ?_
              exact m_fg [4] rfl (i_27 _ _ h)
            have L_38 : ∀ (n_40 : Nat) (x4_33 : Int32) (x5_34 : Int32), L_X7_tellWay_79 x3_19 q_31 n_40 x4_33 x5_34 = some q_35 → WM G X (qQ G X (some (.int r.1)) r.2) q_31 79 [some (.ref (gR G 212)), some (.int q_1.1), some (.int q_5), some (.int x3_19), some (.int x4_33), some (.int x5_34), none] [] := by
              intro n_40
              induction n_40 with
              | zero =>
                intro x4_33 x5_34 h
                cases (show none = some _ from h)
              | succ n_40 i_41 =>
                intro x4_33 x5_34 h
                rw [L_X7_tellWay_79] at h
                refine m_iload hc dX7_tellWay_79 rfl ?_
                refine m_aload_n hc dX7_tellWay_81 rfl ?_
                refine m_getI hc yO_212 rfl tbX7 11 (by decide) wf_X7_130 rfl dX7_tellWay_82 ?_
                refine m_icge hc (tgt := 182) dX7_tellWay_85 (by decide) (fun b_42 => ?_) (fun b_42 => ?_)
                · replace h := (if_pos b_42).symm.trans h
                  cases h
                  exact m_fg [5] rfl J_37
                · replace h := (if_neg b_42).symm.trans h
                  refine m_aload_n hc dX7_tellWay_88 rfl ?_
                  refine m_getR hc (q := 221) yO_212 rfl tbX7 10 (by decide) wf_X7_34 rfl dX7_tellWay_89 ?_
                  refine m_iload hc dX7_tellWay_92 rfl ?_
                  obtain ⟨b_43, h⟩ := ck_o h
                  refine m_iald hc yA_221 b_43 dX7_tellWay_94 ?_
                  refine m_aload_n hc dX7_tellWay_95 rfl ?_
                  refine m_getR hc (q := 218) yO_212 rfl tbX7 7 (by decide) wf_X7_25 rfl dX7_tellWay_96 ?_
                  refine m_sipush hc (v := (2187 : Int32)) dX7_tellWay_99 (by decide) ?_
                  refine m_iload_n hc dX7_tellWay_102 rfl ?_
                  refine m_imul hc dX7_tellWay_103 ?_
                  refine m_aload_n hc dX7_tellWay_104 rfl ?_
                  refine m_getR hc (q := 220) yO_212 rfl tbX7 9 (by decide) wf_X7_31 rfl dX7_tellWay_105 ?_
                  refine m_iload hc dX7_tellWay_108 rfl ?_
                  obtain ⟨b_44, h⟩ := ck_o h
                  refine m_iald hc yA_220 b_44 dX7_tellWay_110 ?_
                  refine m_iadd hc dX7_tellWay_111 ?_
                  obtain ⟨b_45, h⟩ := ck_o h
                  refine m_iald hc yA_218 b_45 dX7_tellWay_112 ?_
                  refine m_iadd hc dX7_tellWay_113 ?_
                  refine m_aload_n hc dX7_tellWay_114 rfl ?_
                  refine m_getR hc (q := 218) yO_212 rfl tbX7 7 (by decide) wf_X7_25 rfl dX7_tellWay_115 ?_
                  refine m_sipush hc (v := (2187 : Int32)) dX7_tellWay_118 (by decide) ?_
                  refine m_iload_n hc dX7_tellWay_121 rfl ?_
                  refine m_iconst hc (v := 1) dX7_tellWay_122 (by decide) ?_
                  refine m_isub hc dX7_tellWay_123 ?_
                  refine m_imul hc dX7_tellWay_124 ?_
                  refine m_aload_n hc dX7_tellWay_125 rfl ?_
                  refine m_getR hc (q := 222) yO_212 rfl tbX7 12 (by decide) wf_X7_37 rfl dX7_tellWay_126 ?_
                  refine m_iload_n hc dX7_tellWay_129 rfl ?_
                  refine m_iconst hc (v := 1) dX7_tellWay_130 (by decide) ?_
                  refine m_isub hc dX7_tellWay_131 ?_
                  obtain ⟨b_46, h⟩ := ck_o h
                  refine m_iald hc yA_222 b_46 dX7_tellWay_132 ?_
                  refine m_iadd hc dX7_tellWay_133 ?_
                  obtain ⟨b_47, h⟩ := ck_o h
                  refine m_iald hc yA_218 b_47 dX7_tellWay_134 ?_
                  obtain ⟨q_49, c_50, h⟩ := nm_o h
                  have J_51 : WM G X (qQ G X (some (.int r.1)) r.2) q_31 143 [some (.ref (gR G 212)), some (.int q_1.1), some (.int q_5), some (.int x3_19), some (.int x4_33), some (.int x5_34), none] [.int q_49] := by
                    refine m_istore hc (lv' := [some (.ref (gR G 212)), some (.int q_1.1), some (.int q_5), some (.int x3_19), some (.int x4_33), some (.int x5_34), some (.int q_49)]) dX7_tellWay_143 (Nat.le_of_ble_eq_true rfl) rfl rfl ?_
                    refine m_iload hc dX7_tellWay_145 rfl ?_
                    obtain ⟨q_57, c_58, h⟩ := bd_o h
                    have J_59 : WM G X (qQ G X (some (.int r.1)) r.2) q_31 174 [some (.ref (gR G 212)), some (.int q_1.1), some (.int q_5), some (.int x3_19), some (.int x4_33), some (.int x5_34), some (.int q_49)] [.int q_57] := by
                      refine m_istore hc (lv' := [some (.ref (gR G 212)), some (.int q_1.1), some (.int q_5), some (.int x3_19), some (.int q_57), some (.int x5_34), some (.int q_49)]) dX7_tellWay_174 (Nat.le_of_ble_eq_true rfl) rfl rfl ?_
                      refine m_iinc hc (v := x5_34 + 1) (lv' := [some (.ref (gR G 212)), some (.int q_1.1), some (.int q_5), some (.int x3_19), some (.int q_57), some (.int (x5_34 + 1)), some (.int q_49)]) dX7_tellWay_176 rfl rfl rfl rfl ?_
                      refine m_goto hc (tgt := 79) dX7_tellWay_179 (by decide) ?_
                      exact m_fg [6] rfl (i_41 _ _ h)
                    replace h := c_58
                    refine m_ifeq hc (tgt := 172) dX7_tellWay_147 (by decide) (fun b_60 => ?_) (fun b_60 => ?_)
                    · replace h := (if_pos b_60).symm.trans h
                      refine m_iload hc dX7_tellWay_172 rfl ?_
                      cases h
                      exact m_fg [] rfl J_59
                    · replace h := (if_neg b_60).symm.trans h
                      refine m_aload_n hc dX7_tellWay_150 rfl ?_
                      refine m_getR hc (q := 220) yO_212 rfl tbX7 9 (by decide) wf_X7_31 rfl dX7_tellWay_151 ?_
                      refine m_iload hc dX7_tellWay_154 rfl ?_
                      obtain ⟨b_61, h⟩ := ck_o h
                      refine m_iald hc yA_220 b_61 dX7_tellWay_156 ?_
                      refine m_iload hc dX7_tellWay_157 rfl ?_
                      refine m_icge hc (tgt := 172) dX7_tellWay_159 (by decide) (fun b_62 => ?_) (fun b_62 => ?_)
                      · replace h := (if_pos b_62).symm.trans h
                        refine m_iload hc dX7_tellWay_172 rfl ?_
                        cases h
                        exact m_fg [] rfl J_59
                      · replace h := (if_neg b_62).symm.trans h
                        refine m_aload_n hc dX7_tellWay_162 rfl ?_
                        refine m_getR hc (q := 220) yO_212 rfl tbX7 9 (by decide) wf_X7_31 rfl dX7_tellWay_163 ?_
                        refine m_iload hc dX7_tellWay_166 rfl ?_
                        obtain ⟨b_63, h⟩ := ck_o h
                        refine m_iald hc yA_220 b_63 dX7_tellWay_168 ?_
                        refine m_goto hc (tgt := 174) dX7_tellWay_169 (by decide) ?_
                        cases h
                        exact m_fg [] rfl J_59
                  replace h := c_50
                  refine m_icne hc (tgt := 142) dX7_tellWay_135 (by decide) (fun b_52 => ?_) (fun b_52 => ?_)
                  · replace h := (if_neg b_52).symm.trans h
                    refine m_iconst hc (v := 0) dX7_tellWay_142 (by decide) ?_
                    subst h
                    exact m_fg [] rfl J_51
                  · replace h := (if_pos b_52).symm.trans h
                    refine m_iconst hc (v := 1) dX7_tellWay_138 (by decide) ?_
                    refine m_goto hc (tgt := 143) dX7_tellWay_139 (by decide) ?_
                    subst h
                    exact m_fg [] rfl J_51
            exact m_fg [] rfl (L_38 _ _ _ c_36)
      exact m_fg [] rfl (L_24 _ _ _ c_22)
    have L_8 : ∀ (n_10 : Nat) (x2_4 : Int32), L_X7_tellWay_15 q_1 n_10 x2_4 = some q_5 → WM G X (qQ G X (some (.int r.1)) r.2) q_1.2 15 [some (.ref (gR G 212)), some (.int q_1.1), some (.int x2_4), none, none, none, none] [] := by
      intro n_10
      induction n_10 with
      | zero =>
        intro x2_4 h
        cases (show none = some _ from h)
      | succ n_10 i_11 =>
        intro x2_4 h
        rw [L_X7_tellWay_15] at h
        refine m_aload_n hc dX7_tellWay_15 rfl ?_
        refine m_iload_n hc dX7_tellWay_16 rfl ?_
        obtain ⟨q_12, c_13, h⟩ := bd_o h
        refine m_callVi hc yO_212 rfl (c_X7_ahead (d + 4) c_13) (by omega) (by decide) wm_X7_147 wi_X7_ahead we_X7_ahead wn_X7 wc_X7_ahead wy_X7_ahead rfl (st := []) rfl rfl (Nat.le_of_ble_eq_true rfl) dX7_tellWay_17 ?_
        refine m_aload_n hc dX7_tellWay_20 rfl ?_
        refine m_getR hc (q := 218) yO_212 rfl tbX7 7 (by decide) wf_X7_25 rfl dX7_tellWay_21 ?_
        refine m_iload_n hc dX7_tellWay_24 rfl ?_
        obtain ⟨b_14, h⟩ := ck_o h
        refine m_iald hc yA_218 b_14 dX7_tellWay_25 ?_
        refine m_iadd hc dX7_tellWay_26 ?_
        refine m_iload_n hc dX7_tellWay_27 rfl ?_
        refine m_iceq hc (tgt := 37) dX7_tellWay_28 (by decide) (fun b_15 => ?_) (fun b_15 => ?_)
        · replace h := (if_pos b_15).symm.trans h
          cases h
          exact m_fg [] rfl J_7
        · replace h := (if_neg b_15).symm.trans h
          refine m_iinc hc (v := x2_4 + 1) (lv' := [some (.ref (gR G 212)), some (.int q_1.1), some (.int (x2_4 + 1)), none, none, none, none]) dX7_tellWay_31 rfl rfl rfl rfl ?_
          refine m_goto hc (tgt := 15) dX7_tellWay_34 (by decide) ?_
          exact m_fg [] rfl (i_11 _ h)
    exact m_fg [] rfl (L_8 _ _ c_6)
  · replace h := (if_pos b_3).symm.trans h
    refine m_iload_n hc dX7_tellWay_11 rfl ?_
    cases h
    exact m_iret hc hr dX7_tellWay_12
def f_X7_moves (M : Mm) : Option (Int32 × Mm) :=
 Option.bind (f_X7_tell M) (fun q_1 =>
 if q_1.1 = (100000 : Int32) then (
 nm (f_X7_finding (-100006 : Int32) q_1.2) (fun q_4 =>
 some (q_4.1, q_4.2)))
else (
 some (q_1.1, q_1.2)))
set_option maxRecDepth 100000 in
set_option maxHeartbeats 4000000 in
theorem c_X7_moves {G : Gm} {l : Launch} (d : Nat) {M : Mm} {r : Int32 × Mm}  (h : f_X7_moves M = some r) : Cm G l (d + 6) yX7_moves cX7_moves 2 (some .int) [.ref (gR G 212)] M (some (.int r.1)) r.2 := by
  unfold f_X7_moves at h
  refine m_met (lv := [some (.ref (gR G 212)), none]) (own := RX7) (by decide +kernel) rfl rfl (Nat.le_of_ble_eq_true rfl) rfl ?_
  intro X hX hc hr
  subst hX
  refine m_aload_n hc dX7_moves_0 rfl ?_
  obtain ⟨q_1, c_2, h⟩ := bd_o h
  refine m_callVi hc yO_212 rfl (c_X7_tell (d + 0) c_2) (by omega) (by decide) wm_X7_150 wi_X7_tell we_X7_tell wn_X7 wc_X7_tell wy_X7_tell rfl (st := []) rfl rfl (Nat.le_of_ble_eq_true rfl) dX7_moves_1 ?_
  refine m_istore_n hc (lv' := [some (.ref (gR G 212)), some (.int q_1.1)]) dX7_moves_4 (Nat.le_of_ble_eq_true rfl) rfl rfl ?_
  refine m_iload_n hc dX7_moves_5 rfl ?_
  refine m_ldc hc dX7_moves_6 wk_X7_140 ?_
  refine m_icne hc (tgt := 20) dX7_moves_8 (by decide) (fun b_3 => ?_) (fun b_3 => ?_)
  · replace h := (if_neg b_3).symm.trans h
    refine m_iload_n hc dX7_moves_20 rfl ?_
    cases h
    exact m_iret hc hr dX7_moves_21
  · replace h := (if_pos b_3).symm.trans h
    refine m_aload_n hc dX7_moves_11 rfl ?_
    refine m_ldc hc dX7_moves_12 wk_X7_71 ?_
    obtain ⟨q_4, c_5, h⟩ := nm_o h
    refine m_callVi hc yO_212 rfl (c_X7_finding (d + 5) c_5) (by omega) (by decide) wm_X7_72 wi_X7_finding we_X7_finding wn_X7 wc_X7_finding wy_X7_finding rfl (st := []) rfl rfl (Nat.le_of_ble_eq_true rfl) dX7_moves_14 ?_
    refine m_goto hc (tgt := 21) dX7_moves_17 (by decide) ?_
    cases h
    exact m_iret hc hr dX7_moves_21
def f_X7_diagram (x1 : Int32) (M : Mm) : Option (Int32 × Mm) :=
 Option.bind (f_X7_isPlayed x1 M) (fun q_1 =>
 if q_1 = 0 then (
 nm (f_X7_finding (-100001 : Int32) M) (fun q_10 =>
 some (q_10.1, q_10.2)))
else (
 Option.bind (f_X7_tellWay M) (fun q_4 =>
 if q_4.1 = (100000 : Int32) then (
 nm (f_X7_finding (-100006 : Int32) q_4.2) (fun q_8 =>
 some (q_8.1, q_8.2)))
else (
 ck (ib x1 12) (
 some ((q_4.2 222 x1.toNatClampNeg), q_4.2))))))
set_option maxRecDepth 100000 in
set_option maxHeartbeats 4000000 in
theorem c_X7_diagram {G : Gm} {l : Launch} (d : Nat) {x1 : Int32} {M : Mm} {r : Int32 × Mm}  (h : f_X7_diagram x1 M = some r) : Cm G l (d + 7) yX7_diagram cX7_diagram 2 (some .int) [.ref (gR G 212), .int x1] M (some (.int r.1)) r.2 := by
  unfold f_X7_diagram at h
  refine m_met (lv := [some (.ref (gR G 212)), some (.int x1)]) (own := RX7) (by decide +kernel) rfl rfl (Nat.le_of_ble_eq_true rfl) rfl ?_
  intro X hX hc hr
  subst hX
  refine m_aload_n hc dX7_diagram_0 rfl ?_
  refine m_iload_n hc dX7_diagram_1 rfl ?_
  obtain ⟨q_1, c_2, h⟩ := bd_o h
  refine m_callVi hc yO_212 rfl (c_X7_isPlayed (d + 5) c_2) (by omega) (by decide) wm_X7_153 wi_X7_isPlayed we_X7_isPlayed wn_X7 wc_X7_isPlayed wy_X7_isPlayed rfl (st := []) rfl rfl (Nat.le_of_ble_eq_true rfl) dX7_diagram_2 ?_
  refine m_ifne hc (tgt := 15) dX7_diagram_5 (by decide) (fun b_3 => ?_) (fun b_3 => ?_)
  · replace h := (if_neg b_3).symm.trans h
    refine m_aload_n hc dX7_diagram_15 rfl ?_
    obtain ⟨q_4, c_5, h⟩ := bd_o h
    refine m_callVi hc yO_212 rfl (c_X7_tellWay (d + 0) c_5) (by omega) (by decide) wm_X7_156 wi_X7_tellWay we_X7_tellWay wn_X7 wc_X7_tellWay wy_X7_tellWay rfl (st := []) rfl rfl (Nat.le_of_ble_eq_true rfl) dX7_diagram_16 ?_
    refine m_ldc hc dX7_diagram_19 wk_X7_140 ?_
    refine m_icne hc (tgt := 33) dX7_diagram_21 (by decide) (fun b_6 => ?_) (fun b_6 => ?_)
    · replace h := (if_neg b_6).symm.trans h
      refine m_aload_n hc dX7_diagram_33 rfl ?_
      refine m_getR hc (q := 222) yO_212 rfl tbX7 12 (by decide) wf_X7_37 rfl dX7_diagram_34 ?_
      refine m_iload_n hc dX7_diagram_37 rfl ?_
      obtain ⟨b_7, h⟩ := ck_o h
      refine m_iald hc yA_222 b_7 dX7_diagram_38 ?_
      cases h
      exact m_iret hc hr dX7_diagram_39
    · replace h := (if_pos b_6).symm.trans h
      refine m_aload_n hc dX7_diagram_24 rfl ?_
      refine m_ldc hc dX7_diagram_25 wk_X7_71 ?_
      obtain ⟨q_8, c_9, h⟩ := nm_o h
      refine m_callVi hc yO_212 rfl (c_X7_finding (d + 6) c_9) (by omega) (by decide) wm_X7_72 wi_X7_finding we_X7_finding wn_X7 wc_X7_finding wy_X7_finding rfl (st := []) rfl rfl (Nat.le_of_ble_eq_true rfl) dX7_diagram_27 ?_
      refine m_goto hc (tgt := 39) dX7_diagram_30 (by decide) ?_
      cases h
      exact m_iret hc hr dX7_diagram_39
  · replace h := (if_pos b_3).symm.trans h
    refine m_aload_n hc dX7_diagram_8 rfl ?_
    refine m_ldc hc dX7_diagram_9 wk_X7_83 ?_
    obtain ⟨q_10, c_11, h⟩ := nm_o h
    refine m_callVi hc yO_212 rfl (c_X7_finding (d + 6) c_11) (by omega) (by decide) wm_X7_72 wi_X7_finding we_X7_finding wn_X7 wc_X7_finding wy_X7_finding rfl (st := []) rfl rfl (Nat.le_of_ble_eq_true rfl) dX7_diagram_11 ?_
    cases h
    exact m_iret hc hr dX7_diagram_14
def f_X7_stand (x1 : Int32) (x2 : Int32) (M : Mm) : Option (Int32 × Mm) :=
 Option.bind (f_X7_isPlayed x1 M) (fun q_1 =>
 if q_1 = 0 then (
 nm (f_X7_finding (-100001 : Int32) M) (fun q_4 =>
 some (q_4.1, q_4.2)))
else (
 if (f_X7_isPedal x2) = 0 then (
 nm (f_X7_finding (-100001 : Int32) M) (fun q_15 =>
 some (q_15.1, q_15.2)))
else (
 Option.bind (f_X7_tellWay M) (fun q_7 =>
 if q_7.1 = (100000 : Int32) then (
 nm (f_X7_finding (-100006 : Int32) q_7.2) (fun q_13 =>
 some (q_13.1, q_13.2)))
else (
 ck (ib x1 12) (
 Option.bind (f_X7_standOf (q_7.2 222 x1.toNatClampNeg) x2) (fun q_11 =>
 some (q_11, q_7.2))))))))
set_option maxRecDepth 100000 in
set_option maxHeartbeats 4000000 in
theorem c_X7_stand {G : Gm} {l : Launch} (d : Nat) {x1 : Int32} {x2 : Int32} {M : Mm} {r : Int32 × Mm}  (h : f_X7_stand x1 x2 M = some r) : Cm G l (d + 7) yX7_stand cX7_stand 3 (some .int) [.ref (gR G 212), .int x1, .int x2] M (some (.int r.1)) r.2 := by
  unfold f_X7_stand at h
  refine m_met (lv := [some (.ref (gR G 212)), some (.int x1), some (.int x2)]) (own := RX7) (by decide +kernel) rfl rfl (Nat.le_of_ble_eq_true rfl) rfl ?_
  intro X hX hc hr
  subst hX
  refine m_aload_n hc dX7_stand_0 rfl ?_
  refine m_iload_n hc dX7_stand_1 rfl ?_
  obtain ⟨q_1, c_2, h⟩ := bd_o h
  refine m_callVi hc yO_212 rfl (c_X7_isPlayed (d + 5) c_2) (by omega) (by decide) wm_X7_153 wi_X7_isPlayed we_X7_isPlayed wn_X7 wc_X7_isPlayed wy_X7_isPlayed rfl (st := []) rfl rfl (Nat.le_of_ble_eq_true rfl) dX7_stand_2 ?_
  refine m_ifeq hc (tgt := 15) dX7_stand_5 (by decide) (fun b_3 => ?_) (fun b_3 => ?_)
  · replace h := (if_pos b_3).symm.trans h
    refine m_aload_n hc dX7_stand_15 rfl ?_
    refine m_ldc hc dX7_stand_16 wk_X7_83 ?_
    obtain ⟨q_4, c_5, h⟩ := nm_o h
    refine m_callVi hc yO_212 rfl (c_X7_finding (d + 6) c_5) (by omega) (by decide) wm_X7_72 wi_X7_finding we_X7_finding wn_X7 wc_X7_finding wy_X7_finding rfl (st := []) rfl rfl (Nat.le_of_ble_eq_true rfl) dX7_stand_18 ?_
    cases h
    exact m_iret hc hr dX7_stand_21
  · replace h := (if_neg b_3).symm.trans h
    refine m_iload_n hc dX7_stand_8 rfl ?_
    refine m_callSi hc (c_X7_isPedal (d + 5) rfl) (by omega) (by decide) wm_X7_103 wt_X7_isPedal wv_X7_isPedal wc_X7_isPedal wz_X7_isPedal rfl (st := []) rfl rfl (Nat.le_of_ble_eq_true rfl) dX7_stand_9 ?_
    refine m_ifne hc (tgt := 22) dX7_stand_12 (by decide) (fun b_6 => ?_) (fun b_6 => ?_)
    · replace h := (if_neg b_6).symm.trans h
      refine m_aload_n hc dX7_stand_22 rfl ?_
      obtain ⟨q_7, c_8, h⟩ := bd_o h
      refine m_callVi hc yO_212 rfl (c_X7_tellWay (d + 0) c_8) (by omega) (by decide) wm_X7_156 wi_X7_tellWay we_X7_tellWay wn_X7 wc_X7_tellWay wy_X7_tellWay rfl (st := []) rfl rfl (Nat.le_of_ble_eq_true rfl) dX7_stand_23 ?_
      refine m_ldc hc dX7_stand_26 wk_X7_140 ?_
      refine m_icne hc (tgt := 40) dX7_stand_28 (by decide) (fun b_9 => ?_) (fun b_9 => ?_)
      · replace h := (if_neg b_9).symm.trans h
        refine m_aload_n hc dX7_stand_40 rfl ?_
        refine m_getR hc (q := 222) yO_212 rfl tbX7 12 (by decide) wf_X7_37 rfl dX7_stand_41 ?_
        refine m_iload_n hc dX7_stand_44 rfl ?_
        obtain ⟨b_10, h⟩ := ck_o h
        refine m_iald hc yA_222 b_10 dX7_stand_45 ?_
        refine m_iload_n hc dX7_stand_46 rfl ?_
        obtain ⟨q_11, c_12, h⟩ := bd_o h
        refine m_callSi hc (c_X7_standOf (d + 6) c_12) (by omega) (by decide) wm_X7_112 wt_X7_standOf wv_X7_standOf wc_X7_standOf wz_X7_standOf rfl (st := []) rfl rfl (Nat.le_of_ble_eq_true rfl) dX7_stand_47 ?_
        cases h
        exact m_iret hc hr dX7_stand_50
      · replace h := (if_pos b_9).symm.trans h
        refine m_aload_n hc dX7_stand_31 rfl ?_
        refine m_ldc hc dX7_stand_32 wk_X7_71 ?_
        obtain ⟨q_13, c_14, h⟩ := nm_o h
        refine m_callVi hc yO_212 rfl (c_X7_finding (d + 6) c_14) (by omega) (by decide) wm_X7_72 wi_X7_finding we_X7_finding wn_X7 wc_X7_finding wy_X7_finding rfl (st := []) rfl rfl (Nat.le_of_ble_eq_true rfl) dX7_stand_34 ?_
        refine m_goto hc (tgt := 50) dX7_stand_37 (by decide) ?_
        cases h
        exact m_iret hc hr dX7_stand_50
    · replace h := (if_pos b_6).symm.trans h
      refine m_aload_n hc dX7_stand_15 rfl ?_
      refine m_ldc hc dX7_stand_16 wk_X7_83 ?_
      obtain ⟨q_15, c_16, h⟩ := nm_o h
      refine m_callVi hc yO_212 rfl (c_X7_finding (d + 6) c_16) (by omega) (by decide) wm_X7_72 wi_X7_finding we_X7_finding wn_X7 wc_X7_finding wy_X7_finding rfl (st := []) rfl rfl (Nat.le_of_ble_eq_true rfl) dX7_stand_18 ?_
      cases h
      exact m_iret hc hr dX7_stand_21
def L_X7_foot_41 (x1 : Int32) (x2 : Int32) (q_4 : Int32 × Mm) : Nat → Int32 → Option ((Unit) ⊕ (Int32 × Mm))
  | 0, _ => none
  | n_18 + 1, x3_12 =>
    nm (
     if x2 = 0 then (
     (3 : Int32))
    else (
     (7 : Int32))) (fun q_22 =>
     if q_22 ≤ x3_12 then (
     some (.inl ()))
    else (
     ck (ib x3_12 7) (
     nm ((st_ 9 x3_12.toNatClampNeg)) (fun x4_28 =>
     Option.bind (
     if x1 = 0 then (
     ck (ib ((313 : Int32) + x4_28) 320) (
     some (q_4.2 213 ((313 : Int32) + x4_28).toNatClampNeg)))
    else (
     ck (ib (x1 - (1 : Int32)) 12) (
     Option.bind (f_X7_standOf (q_4.2 222 (x1 - (1 : Int32)).toNatClampNeg) x4_28) (fun q_40 =>
     some q_40)))) (fun q_35 =>
     if q_35 < 0 then (
     L_X7_foot_41 x1 x2 q_4 n_18 (x3_12 + 1))
    else (
     ck (ib x1 12) (
     Option.bind (f_X7_standOf (q_4.2 222 x1.toNatClampNeg) x4_28) (fun q_45 =>
     if q_35 = q_45 then (
     L_X7_foot_41 x1 x2 q_4 n_18 (x3_12 + 1))
    else (
     some (.inr (x4_28, q_4.2)))))))))))
def f_X7_foot (x1 : Int32) (x2 : Int32) (M : Mm) : Option (Int32 × Mm) :=
 Option.bind (f_X7_isPlayed x1 M) (fun q_1 =>
 if q_1 = 0 then (
 nm (f_X7_finding (-100001 : Int32) M) (fun q_50 =>
 some (q_50.1, q_50.2)))
else (
 Option.bind (f_X7_tellWay M) (fun q_4 =>
 if q_4.1 = (100000 : Int32) then (
 nm (f_X7_finding (-100006 : Int32) q_4.2) (fun q_48 =>
 some (q_48.1, q_48.2)))
else (
 nm (
 if x2 = 0 then (
 (0 : Int32))
else (
 (3 : Int32))) (fun q_8 =>
 Option.bind (L_X7_foot_41 x1 x2 q_4 FU q_8) (fun q_13 => Sum.elim (fun w_20 =>
 some ((-1 : Int32), q_4.2)) (fun r => some r) q_13))))))
set_option maxRecDepth 100000 in
set_option maxHeartbeats 4000000 in
theorem c_X7_foot {G : Gm} {l : Launch} (d : Nat) {x1 : Int32} {x2 : Int32} {M : Mm} {r : Int32 × Mm}  (h : f_X7_foot x1 x2 M = some r) : Cm G l (d + 7) yX7_foot cX7_foot 6 (some .int) [.ref (gR G 212), .int x1, .int x2] M (some (.int r.1)) r.2 := by
  unfold f_X7_foot at h
  refine m_met (lv := [some (.ref (gR G 212)), some (.int x1), some (.int x2), none, none, none]) (own := RX7) (by decide +kernel) rfl rfl (Nat.le_of_ble_eq_true rfl) rfl ?_
  intro X hX hc hr
  subst hX
  refine m_aload_n hc dX7_foot_0 rfl ?_
  refine m_iload_n hc dX7_foot_1 rfl ?_
  obtain ⟨q_1, c_2, h⟩ := bd_o h
  refine m_callVi hc yO_212 rfl (c_X7_isPlayed (d + 5) c_2) (by omega) (by decide) wm_X7_153 wi_X7_isPlayed we_X7_isPlayed wn_X7 wc_X7_isPlayed wy_X7_isPlayed rfl (st := []) rfl rfl (Nat.le_of_ble_eq_true rfl) dX7_foot_2 ?_
  refine m_ifne hc (tgt := 15) dX7_foot_5 (by decide) (fun b_3 => ?_) (fun b_3 => ?_)
  · replace h := (if_neg b_3).symm.trans h
    refine m_aload_n hc dX7_foot_15 rfl ?_
    obtain ⟨q_4, c_5, h⟩ := bd_o h
    refine m_callVi hc yO_212 rfl (c_X7_tellWay (d + 0) c_5) (by omega) (by decide) wm_X7_156 wi_X7_tellWay we_X7_tellWay wn_X7 wc_X7_tellWay wy_X7_tellWay rfl (st := []) rfl rfl (Nat.le_of_ble_eq_true rfl) dX7_foot_16 ?_
    refine m_ldc hc dX7_foot_19 wk_X7_140 ?_
    refine m_icne hc (tgt := 31) dX7_foot_21 (by decide) (fun b_6 => ?_) (fun b_6 => ?_)
    · replace h := (if_neg b_6).symm.trans h
      refine m_iload_n hc dX7_foot_31 rfl ?_
      obtain ⟨q_8, c_9, h⟩ := nm_o h
      have J_10 : WM G X (qQ G X (some (.int r.1)) r.2) q_4.2 40 [some (.ref (gR G 212)), some (.int x1), some (.int x2), none, none, none] [.int q_8] := by
        refine m_istore_n hc (lv' := [some (.ref (gR G 212)), some (.int x1), some (.int x2), some (.int q_8), none, none]) dX7_foot_40 (Nat.le_of_ble_eq_true rfl) rfl rfl ?_
        obtain ⟨q_13, c_14, g_17⟩ := bd_o h
        have J_15 : ∀ (w_20 : Unit), (some ((-1 : Int32), q_4.2)) = some r → WM G X (qQ G X (some (.int r.1)) r.2) q_4.2 125 [some (.ref (gR G 212)), some (.int x1), some (.int x2), none, none, none] [] := by
          intro w_20 h
          refine m_iconst hc (v := (-1)) dX7_foot_125 (by decide) ?_
          cases h
          exact m_iret hc hr dX7_foot_126
        have L_16 : ∀ (n_18 : Nat) (x3_12 : Int32), L_X7_foot_41 x1 x2 q_4 n_18 x3_12 = some q_13 → WM G X (qQ G X (some (.int r.1)) r.2) q_4.2 41 [some (.ref (gR G 212)), some (.int x1), some (.int x2), some (.int x3_12), none, none] [] := by
          intro n_18
          induction n_18 with
          | zero =>
            intro x3_12 h
            cases (show none = some _ from h)
          | succ n_18 i_19 =>
            intro x3_12 h
            rw [L_X7_foot_41] at h
            refine m_iload_n hc dX7_foot_41 rfl ?_
            refine m_iload_n hc dX7_foot_42 rfl ?_
            obtain ⟨q_22, c_23, h⟩ := nm_o h
            have J_24 : WM G X (qQ G X (some (.int r.1)) r.2) q_4.2 52 [some (.ref (gR G 212)), some (.int x1), some (.int x2), some (.int x3_12), none, none] [.int q_22, .int x3_12] := by
              refine m_icge hc (tgt := 125) dX7_foot_52 (by decide) (fun b_26 => ?_) (fun b_26 => ?_)
              · replace h := (if_pos b_26).symm.trans h
                cases h
                exact m_fg [3] rfl (J_15 () g_17)
              · replace h := (if_neg b_26).symm.trans h
                refine m_sget hc 9 (by decide) ws_X7_133 dX7_foot_55 ?_
                refine m_iload_n hc dX7_foot_58 rfl ?_
                obtain ⟨b_27, h⟩ := ck_o h
                refine m_sald hc 9 (by decide) rfl b_27 dX7_foot_59 ?_
                refine m_topI (fun x4_28 e_29 => ?_)
                replace h := nm_x e_29 h
                refine m_istore hc (lv' := [some (.ref (gR G 212)), some (.int x1), some (.int x2), some (.int x3_12), some (.int x4_28), none]) dX7_foot_60 (Nat.le_of_ble_eq_true rfl) rfl rfl ?_
                refine m_iload_n hc dX7_foot_62 rfl ?_
                obtain ⟨q_35, c_36, h⟩ := bd_o h
                have J_37 : WM G X (qQ G X (some (.int r.1)) r.2) q_4.2 93 [some (.ref (gR G 212)), some (.int x1), some (.int x2), some (.int x3_12), some (.int x4_28), none] [.int q_35] := by
                  refine m_istore hc (lv' := [some (.ref (gR G 212)), some (.int x1), some (.int x2), some (.int x3_12), some (.int x4_28), some (.int q_35)]) dX7_foot_93 (Nat.le_of_ble_eq_true rfl) rfl rfl ?_
                  refine m_iload hc dX7_foot_95 rfl ?_
                  refine m_iflt hc (tgt := 119) dX7_foot_97 (by decide) (fun b_43 => ?_) (fun b_43 => ?_)
                  · replace h := (if_pos b_43).symm.trans h
                    refine m_iinc hc (v := x3_12 + 1) (lv' := [some (.ref (gR G 212)), some (.int x1), some (.int x2), some (.int (x3_12 + 1)), some (.int x4_28), some (.int q_35)]) dX7_foot_119 rfl rfl rfl rfl ?_
                    refine m_goto hc (tgt := 41) dX7_foot_122 (by decide) ?_
                    exact m_fg [4, 5] rfl (i_19 _ h)
                  · replace h := (if_neg b_43).symm.trans h
                    refine m_iload hc dX7_foot_100 rfl ?_
                    refine m_aload_n hc dX7_foot_102 rfl ?_
                    refine m_getR hc (q := 222) yO_212 rfl tbX7 12 (by decide) wf_X7_37 rfl dX7_foot_103 ?_
                    refine m_iload_n hc dX7_foot_106 rfl ?_
                    obtain ⟨b_44, h⟩ := ck_o h
                    refine m_iald hc yA_222 b_44 dX7_foot_107 ?_
                    refine m_iload hc dX7_foot_108 rfl ?_
                    obtain ⟨q_45, c_46, h⟩ := bd_o h
                    refine m_callSi hc (c_X7_standOf (d + 6) c_46) (by omega) (by decide) wm_X7_112 wt_X7_standOf wv_X7_standOf wc_X7_standOf wz_X7_standOf rfl (st := [.int q_35]) rfl rfl (Nat.le_of_ble_eq_true rfl) dX7_foot_110 ?_
                    refine m_iceq hc (tgt := 119) dX7_foot_113 (by decide) (fun b_47 => ?_) (fun b_47 => ?_)
                    · replace h := (if_pos b_47).symm.trans h
                      refine m_iinc hc (v := x3_12 + 1) (lv' := [some (.ref (gR G 212)), some (.int x1), some (.int x2), some (.int (x3_12 + 1)), some (.int x4_28), some (.int q_35)]) dX7_foot_119 rfl rfl rfl rfl ?_
                      refine m_goto hc (tgt := 41) dX7_foot_122 (by decide) ?_
                      exact m_fg [4, 5] rfl (i_19 _ h)
                    · replace h := (if_neg b_47).symm.trans h
                      refine m_iload hc dX7_foot_116 rfl ?_
                      cases h
                      have g_17 : some (x4_28, q_4.2) = some r := g_17
                      cases g_17
                      exact m_iret hc hr dX7_foot_118
                replace h := c_36
                refine m_ifne hc (tgt := 80) dX7_foot_63 (by decide) (fun b_38 => ?_) (fun b_38 => ?_)
                · replace h := (if_neg b_38).symm.trans h
                  refine m_aload_n hc dX7_foot_80 rfl ?_
                  refine m_getR hc (q := 222) yO_212 rfl tbX7 12 (by decide) wf_X7_37 rfl dX7_foot_81 ?_
                  refine m_iload_n hc dX7_foot_84 rfl ?_
                  refine m_iconst hc (v := 1) dX7_foot_85 (by decide) ?_
                  refine m_isub hc dX7_foot_86 ?_
                  obtain ⟨b_39, h⟩ := ck_o h
                  refine m_iald hc yA_222 b_39 dX7_foot_87 ?_
                  refine m_iload hc dX7_foot_88 rfl ?_
                  obtain ⟨q_40, c_41, h⟩ := bd_o h
                  refine m_callSi hc (c_X7_standOf (d + 6) c_41) (by omega) (by decide) wm_X7_112 wt_X7_standOf wv_X7_standOf wc_X7_standOf wz_X7_standOf rfl (st := []) rfl rfl (Nat.le_of_ble_eq_true rfl) dX7_foot_90 ?_
                  cases h
                  exact m_fg [] rfl J_37
                · replace h := (if_pos b_38).symm.trans h
                  refine m_aload_n hc dX7_foot_66 rfl ?_
                  refine m_getR hc (q := 213) yO_212 rfl tbX7 0 (by decide) wf_X7_7 rfl dX7_foot_67 ?_
                  refine m_sipush hc (v := (313 : Int32)) dX7_foot_70 (by decide) ?_
                  refine m_iload hc dX7_foot_73 rfl ?_
                  refine m_iadd hc dX7_foot_75 ?_
                  obtain ⟨b_42, h⟩ := ck_o h
                  refine m_iald hc yA_213 b_42 dX7_foot_76 ?_
                  refine m_goto hc (tgt := 93) dX7_foot_77 (by decide) ?_
                  cases h
                  exact m_fg [] rfl J_37
            replace h := c_23
            refine m_ifeq hc (tgt := 51) dX7_foot_43 (by decide) (fun b_25 => ?_) (fun b_25 => ?_)
            · replace h := (if_pos b_25).symm.trans h
              refine m_iconst hc (v := 3) dX7_foot_51 (by decide) ?_
              subst h
              exact m_fg [] rfl J_24
            · replace h := (if_neg b_25).symm.trans h
              refine m_bipush hc (v := (7 : Int32)) dX7_foot_46 (by decide) ?_
              refine m_goto hc (tgt := 52) dX7_foot_48 (by decide) ?_
              subst h
              exact m_fg [] rfl J_24
        exact m_fg [] rfl (L_16 _ _ c_14)
      replace h := c_9
      refine m_ifeq hc (tgt := 39) dX7_foot_32 (by decide) (fun b_11 => ?_) (fun b_11 => ?_)
      · replace h := (if_pos b_11).symm.trans h
        refine m_iconst hc (v := 0) dX7_foot_39 (by decide) ?_
        subst h
        exact m_fg [] rfl J_10
      · replace h := (if_neg b_11).symm.trans h
        refine m_iconst hc (v := 3) dX7_foot_35 (by decide) ?_
        refine m_goto hc (tgt := 40) dX7_foot_36 (by decide) ?_
        subst h
        exact m_fg [] rfl J_10
    · replace h := (if_pos b_6).symm.trans h
      refine m_aload_n hc dX7_foot_24 rfl ?_
      refine m_ldc hc dX7_foot_25 wk_X7_71 ?_
      obtain ⟨q_48, c_49, h⟩ := nm_o h
      refine m_callVi hc yO_212 rfl (c_X7_finding (d + 6) c_49) (by omega) (by decide) wm_X7_72 wi_X7_finding we_X7_finding wn_X7 wc_X7_finding wy_X7_finding rfl (st := []) rfl rfl (Nat.le_of_ble_eq_true rfl) dX7_foot_27 ?_
      cases h
      exact m_iret hc hr dX7_foot_30
  · replace h := (if_pos b_3).symm.trans h
    refine m_aload_n hc dX7_foot_8 rfl ?_
    refine m_ldc hc dX7_foot_9 wk_X7_83 ?_
    obtain ⟨q_50, c_51, h⟩ := nm_o h
    refine m_callVi hc yO_212 rfl (c_X7_finding (d + 6) c_51) (by omega) (by decide) wm_X7_72 wi_X7_finding we_X7_finding wn_X7 wc_X7_finding wy_X7_finding rfl (st := []) rfl rfl (Nat.le_of_ble_eq_true rfl) dX7_foot_11 ?_
    cases h
    exact m_iret hc hr dX7_foot_14
def L_X7_ways_22 (q_1 : Int32 × Mm) : Nat → Int32 → Int32 → Option (Int32)
  | 0, _, _ => none
  | n_11 + 1, x2_4, x3_5 =>
    if (2187 : Int32) ≤ x3_5 then (
     some x2_4)
    else (
     Option.bind (f_X7_ahead x3_5 q_1.2) (fun q_14 =>
     ck (ib x3_5 26244) (
     Option.bind (
     if (q_14 + (q_1.2 218 x3_5.toNatClampNeg)) = q_1.1 then (
     ck (ib x3_5 26244) (
     some (q_1.2 219 x3_5.toNatClampNeg)))
    else (
     some (0 : Int32))) (fun q_19 =>
     nm ((x2_4 + q_19)) (fun x2_24 =>
     nm (
     if x2_24 ≤ (1000000 : Int32) then (
     x2_24)
    else (
     (1000000 : Int32))) (fun q_27 =>
     L_X7_ways_22 q_1 n_11 q_27 (x3_5 + 1)))))))
def f_X7_ways (M : Mm) : Option (Int32 × Mm) :=
 Option.bind (f_X7_tell M) (fun q_1 =>
 if q_1.1 = (100000 : Int32) then (
 nm (f_X7_finding (-100006 : Int32) q_1.2) (fun q_31 =>
 some (q_31.1, q_31.2)))
else (
 Option.bind (L_X7_ways_22 q_1 FU (0 : Int32) (0 : Int32)) (fun q_6 =>
 some (q_6, q_1.2))))
set_option maxRecDepth 100000 in
set_option maxHeartbeats 4000000 in
theorem c_X7_ways {G : Gm} {l : Launch} (d : Nat) {M : Mm} {r : Int32 × Mm}  (h : f_X7_ways M = some r) : Cm G l (d + 6) yX7_ways cX7_ways 4 (some .int) [.ref (gR G 212)] M (some (.int r.1)) r.2 := by
  unfold f_X7_ways at h
  refine m_met (lv := [some (.ref (gR G 212)), none, none, none]) (own := RX7) (by decide +kernel) rfl rfl (Nat.le_of_ble_eq_true rfl) rfl ?_
  intro X hX hc hr
  subst hX
  refine m_aload_n hc dX7_ways_0 rfl ?_
  obtain ⟨q_1, c_2, h⟩ := bd_o h
  refine m_callVi hc yO_212 rfl (c_X7_tell (d + 0) c_2) (by omega) (by decide) wm_X7_150 wi_X7_tell we_X7_tell wn_X7 wc_X7_tell wy_X7_tell rfl (st := []) rfl rfl (Nat.le_of_ble_eq_true rfl) dX7_ways_1 ?_
  refine m_istore_n hc (lv' := [some (.ref (gR G 212)), some (.int q_1.1), none, none]) dX7_ways_4 (Nat.le_of_ble_eq_true rfl) rfl rfl ?_
  refine m_iload_n hc dX7_ways_5 rfl ?_
  refine m_ldc hc dX7_ways_6 wk_X7_140 ?_
  refine m_icne hc (tgt := 18) dX7_ways_8 (by decide) (fun b_3 => ?_) (fun b_3 => ?_)
  · replace h := (if_neg b_3).symm.trans h
    refine m_iconst hc (v := 0) dX7_ways_18 (by decide) ?_
    refine m_istore_n hc (lv' := [some (.ref (gR G 212)), some (.int q_1.1), some (.int (0 : Int32)), none]) dX7_ways_19 (Nat.le_of_ble_eq_true rfl) rfl rfl ?_
    refine m_iconst hc (v := 0) dX7_ways_20 (by decide) ?_
    refine m_istore_n hc (lv' := [some (.ref (gR G 212)), some (.int q_1.1), some (.int (0 : Int32)), some (.int (0 : Int32))]) dX7_ways_21 (Nat.le_of_ble_eq_true rfl) rfl rfl ?_
    obtain ⟨q_6, c_7, h⟩ := bd_o h
    have J_8 : WM G X (qQ G X (some (.int r.1)) r.2) q_1.2 77 [some (.ref (gR G 212)), some (.int q_1.1), some (.int q_6), none] [] := by
      refine m_iload_n hc dX7_ways_77 rfl ?_
      cases h
      exact m_iret hc hr dX7_ways_78
    have L_9 : ∀ (n_11 : Nat) (x2_4 : Int32) (x3_5 : Int32), L_X7_ways_22 q_1 n_11 x2_4 x3_5 = some q_6 → WM G X (qQ G X (some (.int r.1)) r.2) q_1.2 22 [some (.ref (gR G 212)), some (.int q_1.1), some (.int x2_4), some (.int x3_5)] [] := by
      intro n_11
      induction n_11 with
      | zero =>
        intro x2_4 x3_5 h
        cases (show none = some _ from h)
      | succ n_11 i_12 =>
        intro x2_4 x3_5 h
        rw [L_X7_ways_22] at h
        refine m_iload_n hc dX7_ways_22 rfl ?_
        refine m_sipush hc (v := (2187 : Int32)) dX7_ways_23 (by decide) ?_
        refine m_icge hc (tgt := 77) dX7_ways_26 (by decide) (fun b_13 => ?_) (fun b_13 => ?_)
        · replace h := (if_pos b_13).symm.trans h
          cases h
          exact m_fg [3] rfl J_8
        · replace h := (if_neg b_13).symm.trans h
          refine m_iload_n hc dX7_ways_29 rfl ?_
          refine m_aload_n hc dX7_ways_30 rfl ?_
          refine m_iload_n hc dX7_ways_31 rfl ?_
          obtain ⟨q_14, c_15, h⟩ := bd_o h
          refine m_callVi hc yO_212 rfl (c_X7_ahead (d + 4) c_15) (by omega) (by decide) wm_X7_147 wi_X7_ahead we_X7_ahead wn_X7 wc_X7_ahead wy_X7_ahead rfl (st := [.int x2_4]) rfl rfl (Nat.le_of_ble_eq_true rfl) dX7_ways_32 ?_
          refine m_aload_n hc dX7_ways_35 rfl ?_
          refine m_getR hc (q := 218) yO_212 rfl tbX7 7 (by decide) wf_X7_25 rfl dX7_ways_36 ?_
          refine m_iload_n hc dX7_ways_39 rfl ?_
          obtain ⟨b_16, h⟩ := ck_o h
          refine m_iald hc yA_218 b_16 dX7_ways_40 ?_
          refine m_iadd hc dX7_ways_41 ?_
          refine m_iload_n hc dX7_ways_42 rfl ?_
          obtain ⟨q_19, c_20, h⟩ := bd_o h
          have J_21 : WM G X (qQ G X (some (.int r.1)) r.2) q_1.2 56 [some (.ref (gR G 212)), some (.int q_1.1), some (.int x2_4), some (.int x3_5)] [.int q_19, .int x2_4] := by
            refine m_iadd hc dX7_ways_56 ?_
            refine m_topI (fun x2_24 e_25 => ?_)
            replace h := nm_x e_25 h
            refine m_istore_n hc (lv' := [some (.ref (gR G 212)), some (.int q_1.1), some (.int x2_24), some (.int x3_5)]) dX7_ways_57 (Nat.le_of_ble_eq_true rfl) rfl rfl ?_
            refine m_iload_n hc dX7_ways_58 rfl ?_
            refine m_ldc hc dX7_ways_59 wk_X7_146 ?_
            obtain ⟨q_27, c_28, h⟩ := nm_o h
            have J_29 : WM G X (qQ G X (some (.int r.1)) r.2) q_1.2 70 [some (.ref (gR G 212)), some (.int q_1.1), some (.int x2_24), some (.int x3_5)] [.int q_27] := by
              refine m_istore_n hc (lv' := [some (.ref (gR G 212)), some (.int q_1.1), some (.int q_27), some (.int x3_5)]) dX7_ways_70 (Nat.le_of_ble_eq_true rfl) rfl rfl ?_
              refine m_iinc hc (v := x3_5 + 1) (lv' := [some (.ref (gR G 212)), some (.int q_1.1), some (.int q_27), some (.int (x3_5 + 1))]) dX7_ways_71 rfl rfl rfl rfl ?_
              refine m_goto hc (tgt := 22) dX7_ways_74 (by decide) ?_
              exact m_fg [] rfl (i_12 _ _ h)
            replace h := c_28
            refine m_icle hc (tgt := 69) dX7_ways_61 (by decide) (fun b_30 => ?_) (fun b_30 => ?_)
            · replace h := (if_pos b_30).symm.trans h
              refine m_iload_n hc dX7_ways_69 rfl ?_
              subst h
              exact m_fg [] rfl J_29
            · replace h := (if_neg b_30).symm.trans h
              refine m_ldc hc dX7_ways_64 wk_X7_146 ?_
              refine m_goto hc (tgt := 70) dX7_ways_66 (by decide) ?_
              subst h
              exact m_fg [] rfl J_29
          replace h := c_20
          refine m_icne hc (tgt := 55) dX7_ways_43 (by decide) (fun b_22 => ?_) (fun b_22 => ?_)
          · replace h := (if_neg b_22).symm.trans h
            refine m_iconst hc (v := 0) dX7_ways_55 (by decide) ?_
            cases h
            exact m_fg [] rfl J_21
          · replace h := (if_pos b_22).symm.trans h
            refine m_aload_n hc dX7_ways_46 rfl ?_
            refine m_getR hc (q := 219) yO_212 rfl tbX7 8 (by decide) wf_X7_28 rfl dX7_ways_47 ?_
            refine m_iload_n hc dX7_ways_50 rfl ?_
            obtain ⟨b_23, h⟩ := ck_o h
            refine m_iald hc yA_219 b_23 dX7_ways_51 ?_
            refine m_goto hc (tgt := 56) dX7_ways_52 (by decide) ?_
            cases h
            exact m_fg [] rfl J_21
    exact m_fg [] rfl (L_9 _ _ _ c_7)
  · replace h := (if_pos b_3).symm.trans h
    refine m_aload_n hc dX7_ways_11 rfl ?_
    refine m_ldc hc dX7_ways_12 wk_X7_71 ?_
    obtain ⟨q_31, c_32, h⟩ := nm_o h
    refine m_callVi hc yO_212 rfl (c_X7_finding (d + 5) c_32) (by omega) (by decide) wm_X7_72 wi_X7_finding we_X7_finding wn_X7 wc_X7_finding wy_X7_finding rfl (st := []) rfl rfl (Nat.le_of_ble_eq_true rfl) dX7_ways_14 ?_
    cases h
    exact m_iret hc hr dX7_ways_17
def L_X7_stuck_2 : Nat → Int32 → Mm → Option (Mm)
  | 0, _, _ => none
  | n_8 + 1, x1_1, M_2 =>
    if (2187 : Int32) ≤ x1_1 then (
     some M_2)
    else (
     Option.bind (f_X7_ahead x1_1 M_2) (fun q_11 =>
     nm (
     if (100000 : Int32) ≤ q_11 then (
     (0 : Int32))
    else (
     (1 : Int32))) (fun q_14 =>
     ck (ib x1_1 2187) (
     nm (mw M_2 224 x1_1.toNatClampNeg (vp_nar .boolean q_14)) (fun M_19 =>
     L_X7_stuck_2 n_8 (x1_1 + 1) M_19)))))
def L_X7_stuck_52 (x1_21 : Int32) : Nat → Int32 → Int32 → Mm → Option (Int32 × Mm)
  | 0, _, _, _ => none
  | n_41 + 1, x2_33, x3_34, M_35 =>
    if (2187 : Int32) ≤ x3_34 then (
     some (x2_33, M_35))
    else (
     ck (ib x3_34 2187) (
     Option.bind (
     if (M_35 224 x3_34.toNatClampNeg) = 0 then (
     some (0 : Int32))
    else (
     Option.bind (f_X7_doesFor x1_21 x3_34 M_35) (fun q_53 =>
     if q_53 = 0 then (
     some (0 : Int32))
    else (
     some (1 : Int32))))) (fun q_49 =>
     ck (ib x3_34 2187) (
     nm (mw M_35 223 x3_34.toNatClampNeg (vp_nar .boolean q_49)) (fun M_57 =>
     ck (ib x3_34 2187) (
     nm ((x2_33 ||| (M_57 223 x3_34.toNatClampNeg))) (fun x2_60 =>
     ck (ib x3_34 2187) (
     nm (mw M_57 224 x3_34.toNatClampNeg (vp_nar .boolean (0 : Int32))) (fun M_63 =>
     L_X7_stuck_52 x1_21 n_41 x2_60 (x3_34 + 1) M_63)))))))))
def L_X7_stuck_143 : Nat → Int32 → Mm → Option (Mm)
  | 0, _, _ => none
  | n_107 + 1, x4_100, M_101 =>
    if (M_101 212 11) ≤ x4_100 then (
     some M_101)
    else (
     ck (ib x4_100 63) (
     ck (ib (M_101 220 x4_100.toNatClampNeg) 2187) (
     nm (mw M_101 224 (M_101 220 x4_100.toNatClampNeg).toNatClampNeg (vp_nar .boolean (1 : Int32))) (fun M_112 =>
     L_X7_stuck_143 n_107 (x4_100 + 1) M_112))))
def L_X7_stuck_118 (x1_21 : Int32) : Nat → Int32 → Mm → Option (Mm)
  | 0, _, _ => none
  | n_73 + 1, x3_66, M_67 =>
    if (2187 : Int32) ≤ x3_66 then (
     some M_67)
    else (
     ck (ib x3_66 2187) (
     Option.bind (
     if (M_67 223 x3_66.toNatClampNeg) = 0 then (
     some M_67)
    else (
     Option.bind (f_X7_tellNext x1_21 x3_66 M_67) (fun q_98 =>
     Option.bind (L_X7_stuck_143 FU (0 : Int32) q_98) (fun q_102 =>
     some q_102)))) (fun q_94 =>
     L_X7_stuck_118 x1_21 n_73 (x3_66 + 1) q_94)))
def L_X7_stuck_38 : Nat → Int32 → Mm → Option ((Mm) ⊕ (Int32 × Mm))
  | 0, _, _ => none
  | n_28 + 1, x1_21, M_22 =>
    ck (ib (0 : Int32) 320) (
     if (M_22 213 (0 : Int32).toNatClampNeg) ≤ x1_21 then (
     some (.inl M_22))
    else (
     Option.bind (L_X7_stuck_52 x1_21 FU (0 : Int32) (0 : Int32) M_22) (fun q_36 =>
     if q_36.1 = 0 then (
     some (.inr (x1_21, q_36.2)))
    else (
     Option.bind (L_X7_stuck_118 x1_21 FU (0 : Int32) q_36.2) (fun q_68 =>
     L_X7_stuck_38 n_28 (x1_21 + 1) q_68)))))
def f_X7_stuck (M : Mm) : Option (Int32 × Mm) :=
 Option.bind (L_X7_stuck_2 FU (0 : Int32) M) (fun q_3 =>
 Option.bind (L_X7_stuck_38 FU (0 : Int32) q_3) (fun q_23 => Sum.elim (fun w_30 =>
 some ((-1 : Int32), w_30)) (fun r => some r) q_23))
set_option maxRecDepth 100000 in
set_option maxHeartbeats 4000000 in
theorem c_X7_stuck {G : Gm} {l : Launch} (d : Nat) {M : Mm} {r : Int32 × Mm}  (h : f_X7_stuck M = some r) : Cm G l (d + 5) yX7_stuck cX7_stuck 5 (some .int) [.ref (gR G 212)] M (some (.int r.1)) r.2 := by
  unfold f_X7_stuck at h
  refine m_met (lv := [some (.ref (gR G 212)), none, none, none, none]) (own := RX7) (by decide +kernel) rfl rfl (Nat.le_of_ble_eq_true rfl) rfl ?_
  intro X hX hc hr
  subst hX
  refine m_iconst hc (v := 0) dX7_stuck_0 (by decide) ?_
  refine m_istore_n hc (lv' := [some (.ref (gR G 212)), some (.int (0 : Int32)), none, none, none]) dX7_stuck_1 (Nat.le_of_ble_eq_true rfl) rfl rfl ?_
  obtain ⟨q_3, c_4, h⟩ := bd_o h
  have J_5 : WM G X (qQ G X (some (.int r.1)) r.2) q_3 36 [some (.ref (gR G 212)), none, none, none, none] [] := by
    refine m_iconst hc (v := 0) dX7_stuck_36 (by decide) ?_
    refine m_istore_n hc (lv' := [some (.ref (gR G 212)), some (.int (0 : Int32)), none, none, none]) dX7_stuck_37 (Nat.le_of_ble_eq_true rfl) rfl rfl ?_
    obtain ⟨q_23, c_24, g_27⟩ := bd_o h
    have J_25 : ∀ (w_30 : Mm), (some ((-1 : Int32), w_30)) = some r → WM G X (qQ G X (some (.int r.1)) r.2) w_30 183 [some (.ref (gR G 212)), none, none, none, none] [] := by
      intro w_30 h
      refine m_iconst hc (v := (-1)) dX7_stuck_183 (by decide) ?_
      cases h
      exact m_iret hc hr dX7_stuck_184
    have L_26 : ∀ (n_28 : Nat) (x1_21 : Int32) (M_22 : Mm), L_X7_stuck_38 n_28 x1_21 M_22 = some q_23 → WM G X (qQ G X (some (.int r.1)) r.2) M_22 38 [some (.ref (gR G 212)), some (.int x1_21), none, none, none] [] := by
      intro n_28
      induction n_28 with
      | zero =>
        intro x1_21 M_22 h
        cases (show none = some _ from h)
      | succ n_28 i_29 =>
        intro x1_21 M_22 h
        rw [L_X7_stuck_38] at h
        refine m_iload_n hc dX7_stuck_38 rfl ?_
        refine m_aload_n hc dX7_stuck_39 rfl ?_
        refine m_getR hc (q := 213) yO_212 rfl tbX7 0 (by decide) wf_X7_7 rfl dX7_stuck_40 ?_
        refine m_iconst hc (v := 0) dX7_stuck_43 (by decide) ?_
        obtain ⟨b_31, h⟩ := ck_o h
        refine m_iald hc yA_213 b_31 dX7_stuck_44 ?_
        refine m_icge hc (tgt := 183) dX7_stuck_45 (by decide) (fun b_32 => ?_) (fun b_32 => ?_)
        · replace h := (if_pos b_32).symm.trans h
          cases h
          exact m_fg [1] rfl (J_25 M_22 g_27)
        · replace h := (if_neg b_32).symm.trans h
          refine m_iconst hc (v := 0) dX7_stuck_48 (by decide) ?_
          refine m_istore_n hc (lv' := [some (.ref (gR G 212)), some (.int x1_21), some (.int (0 : Int32)), none, none]) dX7_stuck_49 (Nat.le_of_ble_eq_true rfl) rfl rfl ?_
          refine m_iconst hc (v := 0) dX7_stuck_50 (by decide) ?_
          refine m_istore_n hc (lv' := [some (.ref (gR G 212)), some (.int x1_21), some (.int (0 : Int32)), some (.int (0 : Int32)), none]) dX7_stuck_51 (Nat.le_of_ble_eq_true rfl) rfl rfl ?_
          obtain ⟨q_36, c_37, h⟩ := bd_o h
          have J_38 : WM G X (qQ G X (some (.int r.1)) r.2) q_36.2 110 [some (.ref (gR G 212)), some (.int x1_21), some (.int q_36.1), none, none] [] := by
            refine m_iload_n hc dX7_stuck_110 rfl ?_
            refine m_ifne hc (tgt := 116) dX7_stuck_111 (by decide) (fun b_65 => ?_) (fun b_65 => ?_)
            · replace h := (if_neg b_65).symm.trans h
              refine m_iconst hc (v := 0) dX7_stuck_116 (by decide) ?_
              refine m_istore_n hc (lv' := [some (.ref (gR G 212)), some (.int x1_21), some (.int q_36.1), some (.int (0 : Int32)), none]) dX7_stuck_117 (Nat.le_of_ble_eq_true rfl) rfl rfl ?_
              obtain ⟨q_68, c_69, h⟩ := bd_o h
              have J_70 : WM G X (qQ G X (some (.int r.1)) r.2) q_68 177 [some (.ref (gR G 212)), some (.int x1_21), some (.int q_36.1), none, none] [] := by
                refine m_iinc hc (v := x1_21 + 1) (lv' := [some (.ref (gR G 212)), some (.int (x1_21 + 1)), some (.int q_36.1), none, none]) dX7_stuck_177 rfl rfl rfl rfl ?_
                refine m_goto hc (tgt := 38) dX7_stuck_180 (by decide) ?_
                exact m_fg [2] rfl (i_29 _ _ h)
              have L_71 : ∀ (n_73 : Nat) (x3_66 : Int32) (M_67 : Mm), L_X7_stuck_118 x1_21 n_73 x3_66 M_67 = some q_68 → WM G X (qQ G X (some (.int r.1)) r.2) M_67 118 [some (.ref (gR G 212)), some (.int x1_21), some (.int q_36.1), some (.int x3_66), none] [] := by
                intro n_73
                induction n_73 with
                | zero =>
                  intro x3_66 M_67 h
                  cases (show none = some _ from h)
                | succ n_73 i_74 =>
                  intro x3_66 M_67 h
                  rw [L_X7_stuck_118] at h
                  refine m_iload_n hc dX7_stuck_118 rfl ?_
                  refine m_sipush hc (v := (2187 : Int32)) dX7_stuck_119 (by decide) ?_
                  refine m_icge hc (tgt := 177) dX7_stuck_122 (by decide) (fun b_75 => ?_) (fun b_75 => ?_)
                  · replace h := (if_pos b_75).symm.trans h
                    cases h
                    exact m_fg [3] rfl J_70
                  · replace h := (if_neg b_75).symm.trans h
                    refine m_aload_n hc dX7_stuck_125 rfl ?_
                    refine m_getR hc (q := 223) yO_212 rfl tbX7 13 (by decide) wf_X7_40 rfl dX7_stuck_126 ?_
                    refine m_iload_n hc dX7_stuck_129 rfl ?_
                    obtain ⟨b_76, h⟩ := ck_o h
                    refine m_zald hc yB_223 b_76 dX7_stuck_130 ?_
                    obtain ⟨q_94, c_95, h⟩ := bd_o h
                    have J_96 : WM G X (qQ G X (some (.int r.1)) r.2) q_94 171 [some (.ref (gR G 212)), some (.int x1_21), some (.int q_36.1), some (.int x3_66), none] [] := by
                      refine m_iinc hc (v := x3_66 + 1) (lv' := [some (.ref (gR G 212)), some (.int x1_21), some (.int q_36.1), some (.int (x3_66 + 1)), none]) dX7_stuck_171 rfl rfl rfl rfl ?_
                      refine m_goto hc (tgt := 118) dX7_stuck_174 (by decide) ?_
                      exact m_fg [] rfl (i_74 _ _ h)
                    replace h := c_95
                    refine m_ifeq hc (tgt := 171) dX7_stuck_131 (by decide) (fun b_97 => ?_) (fun b_97 => ?_)
                    · replace h := (if_pos b_97).symm.trans h
                      cases h
                      exact m_fg [] rfl J_96
                    · replace h := (if_neg b_97).symm.trans h
                      refine m_aload_n hc dX7_stuck_134 rfl ?_
                      refine m_iload_n hc dX7_stuck_135 rfl ?_
                      refine m_iload_n hc dX7_stuck_136 rfl ?_
                      obtain ⟨q_98, c_99, h⟩ := bd_o h
                      refine m_callVv hc yO_212 rfl (c_X7_tellNext (d + 0) c_99) (by omega) (by decide) wm_X7_142 wi_X7_tellNext we_X7_tellNext wn_X7 wc_X7_tellNext wy_X7_tellNext rfl (st := []) rfl rfl (Nat.le_of_ble_eq_true rfl) dX7_stuck_137 ?_
                      refine m_iconst hc (v := 0) dX7_stuck_140 (by decide) ?_
                      refine m_istore hc (lv' := [some (.ref (gR G 212)), some (.int x1_21), some (.int q_36.1), some (.int x3_66), some (.int (0 : Int32))]) dX7_stuck_141 (Nat.le_of_ble_eq_true rfl) rfl rfl ?_
                      obtain ⟨q_102, c_103, h⟩ := bd_o h
                      have J_104 : WM G X (qQ G X (some (.int r.1)) r.2) q_102 171 [some (.ref (gR G 212)), some (.int x1_21), some (.int q_36.1), some (.int x3_66), none] [] := by
                        cases h
                        exact m_fg [] rfl J_96
                      have L_105 : ∀ (n_107 : Nat) (x4_100 : Int32) (M_101 : Mm), L_X7_stuck_143 n_107 x4_100 M_101 = some q_102 → WM G X (qQ G X (some (.int r.1)) r.2) M_101 143 [some (.ref (gR G 212)), some (.int x1_21), some (.int q_36.1), some (.int x3_66), some (.int x4_100)] [] := by
                        intro n_107
                        induction n_107 with
                        | zero =>
                          intro x4_100 M_101 h
                          cases (show none = some _ from h)
                        | succ n_107 i_108 =>
                          intro x4_100 M_101 h
                          rw [L_X7_stuck_143] at h
                          refine m_iload hc dX7_stuck_143 rfl ?_
                          refine m_aload_n hc dX7_stuck_145 rfl ?_
                          refine m_getI hc yO_212 rfl tbX7 11 (by decide) wf_X7_130 rfl dX7_stuck_146 ?_
                          refine m_icge hc (tgt := 171) dX7_stuck_149 (by decide) (fun b_109 => ?_) (fun b_109 => ?_)
                          · replace h := (if_pos b_109).symm.trans h
                            cases h
                            exact m_fg [4] rfl J_104
                          · replace h := (if_neg b_109).symm.trans h
                            refine m_aload_n hc dX7_stuck_152 rfl ?_
                            refine m_getR hc (q := 224) yO_212 rfl tbX7 14 (by decide) wf_X7_44 rfl dX7_stuck_153 ?_
                            refine m_aload_n hc dX7_stuck_156 rfl ?_
                            refine m_getR hc (q := 220) yO_212 rfl tbX7 9 (by decide) wf_X7_31 rfl dX7_stuck_157 ?_
                            refine m_iload hc dX7_stuck_160 rfl ?_
                            obtain ⟨b_110, h⟩ := ck_o h
                            refine m_iald hc yA_220 b_110 dX7_stuck_162 ?_
                            refine m_iconst hc (v := 1) dX7_stuck_163 (by decide) ?_
                            obtain ⟨b_111, h⟩ := ck_o h
                            refine m_zast hc yB_224 b_111 dX7_stuck_164 ?_
                            refine m_topM (fun M_112 e_113 => ?_)
                            replace h := nm_x e_113 h
                            refine m_iinc hc (v := x4_100 + 1) (lv' := [some (.ref (gR G 212)), some (.int x1_21), some (.int q_36.1), some (.int x3_66), some (.int (x4_100 + 1))]) dX7_stuck_165 rfl rfl rfl rfl ?_
                            refine m_goto hc (tgt := 143) dX7_stuck_168 (by decide) ?_
                            exact m_fg [] rfl (i_108 _ _ h)
                      exact m_fg [] rfl (L_105 _ _ _ c_103)
              exact m_fg [] rfl (L_71 _ _ _ c_69)
            · replace h := (if_pos b_65).symm.trans h
              refine m_iload_n hc dX7_stuck_114 rfl ?_
              cases h
              have g_27 : some (x1_21, q_36.2) = some r := g_27
              cases g_27
              exact m_iret hc hr dX7_stuck_115
          have L_39 : ∀ (n_41 : Nat) (x2_33 : Int32) (x3_34 : Int32) (M_35 : Mm), L_X7_stuck_52 x1_21 n_41 x2_33 x3_34 M_35 = some q_36 → WM G X (qQ G X (some (.int r.1)) r.2) M_35 52 [some (.ref (gR G 212)), some (.int x1_21), some (.int x2_33), some (.int x3_34), none] [] := by
            intro n_41
            induction n_41 with
            | zero =>
              intro x2_33 x3_34 M_35 h
              cases (show none = some _ from h)
            | succ n_41 i_42 =>
              intro x2_33 x3_34 M_35 h
              rw [L_X7_stuck_52] at h
              refine m_iload_n hc dX7_stuck_52 rfl ?_
              refine m_sipush hc (v := (2187 : Int32)) dX7_stuck_53 (by decide) ?_
              refine m_icge hc (tgt := 110) dX7_stuck_56 (by decide) (fun b_43 => ?_) (fun b_43 => ?_)
              · replace h := (if_pos b_43).symm.trans h
                cases h
                exact m_fg [3] rfl J_38
              · replace h := (if_neg b_43).symm.trans h
                refine m_aload_n hc dX7_stuck_59 rfl ?_
                refine m_getR hc (q := 223) yO_212 rfl tbX7 13 (by decide) wf_X7_40 rfl dX7_stuck_60 ?_
                refine m_iload_n hc dX7_stuck_63 rfl ?_
                refine m_aload_n hc dX7_stuck_64 rfl ?_
                refine m_getR hc (q := 224) yO_212 rfl tbX7 14 (by decide) wf_X7_44 rfl dX7_stuck_65 ?_
                refine m_iload_n hc dX7_stuck_68 rfl ?_
                obtain ⟨b_44, h⟩ := ck_o h
                refine m_zald hc yB_224 b_44 dX7_stuck_69 ?_
                obtain ⟨q_49, c_50, h⟩ := bd_o h
                have J_51 : WM G X (qQ G X (some (.int r.1)) r.2) M_35 87 [some (.ref (gR G 212)), some (.int x1_21), some (.int x2_33), some (.int x3_34), none] [.int q_49, .int x3_34, .ref (gR G 223)] := by
                  obtain ⟨b_56, h⟩ := ck_o h
                  refine m_zast hc yB_223 b_56 dX7_stuck_87 ?_
                  refine m_topM (fun M_57 e_58 => ?_)
                  replace h := nm_x e_58 h
                  refine m_iload_n hc dX7_stuck_88 rfl ?_
                  refine m_aload_n hc dX7_stuck_89 rfl ?_
                  refine m_getR hc (q := 223) yO_212 rfl tbX7 13 (by decide) wf_X7_40 rfl dX7_stuck_90 ?_
                  refine m_iload_n hc dX7_stuck_93 rfl ?_
                  obtain ⟨b_59, h⟩ := ck_o h
                  refine m_zald hc yB_223 b_59 dX7_stuck_94 ?_
                  refine m_ior hc dX7_stuck_95 ?_
                  refine m_topI (fun x2_60 e_61 => ?_)
                  replace h := nm_x e_61 h
                  refine m_istore_n hc (lv' := [some (.ref (gR G 212)), some (.int x1_21), some (.int x2_60), some (.int x3_34), none]) dX7_stuck_96 (Nat.le_of_ble_eq_true rfl) rfl rfl ?_
                  refine m_aload_n hc dX7_stuck_97 rfl ?_
                  refine m_getR hc (q := 224) yO_212 rfl tbX7 14 (by decide) wf_X7_44 rfl dX7_stuck_98 ?_
                  refine m_iload_n hc dX7_stuck_101 rfl ?_
                  refine m_iconst hc (v := 0) dX7_stuck_102 (by decide) ?_
                  obtain ⟨b_62, h⟩ := ck_o h
                  refine m_zast hc yB_224 b_62 dX7_stuck_103 ?_
                  refine m_topM (fun M_63 e_64 => ?_)
                  replace h := nm_x e_64 h
                  refine m_iinc hc (v := x3_34 + 1) (lv' := [some (.ref (gR G 212)), some (.int x1_21), some (.int x2_60), some (.int (x3_34 + 1)), none]) dX7_stuck_104 rfl rfl rfl rfl ?_
                  refine m_goto hc (tgt := 52) dX7_stuck_107 (by decide) ?_
                  exact m_fg [] rfl (i_42 _ _ _ h)
                replace h := c_50
                refine m_ifeq hc (tgt := 86) dX7_stuck_70 (by decide) (fun b_52 => ?_) (fun b_52 => ?_)
                · replace h := (if_pos b_52).symm.trans h
                  refine m_iconst hc (v := 0) dX7_stuck_86 (by decide) ?_
                  cases h
                  exact m_fg [] rfl J_51
                · replace h := (if_neg b_52).symm.trans h
                  refine m_aload_n hc dX7_stuck_73 rfl ?_
                  refine m_iload_n hc dX7_stuck_74 rfl ?_
                  refine m_iload_n hc dX7_stuck_75 rfl ?_
                  obtain ⟨q_53, c_54, h⟩ := bd_o h
                  refine m_callVi hc yO_212 rfl (c_X7_doesFor (d + 1) c_54) (by omega) (by decide) wm_X7_124 wi_X7_doesFor we_X7_doesFor wn_X7 wc_X7_doesFor wy_X7_doesFor rfl (st := [.int x3_34, .ref (gR G 223)]) rfl rfl (Nat.le_of_ble_eq_true rfl) dX7_stuck_76 ?_
                  refine m_ifeq hc (tgt := 86) dX7_stuck_79 (by decide) (fun b_55 => ?_) (fun b_55 => ?_)
                  · replace h := (if_pos b_55).symm.trans h
                    refine m_iconst hc (v := 0) dX7_stuck_86 (by decide) ?_
                    cases h
                    exact m_fg [] rfl J_51
                  · replace h := (if_neg b_55).symm.trans h
                    refine m_iconst hc (v := 1) dX7_stuck_82 (by decide) ?_
                    refine m_goto hc (tgt := 87) dX7_stuck_83 (by decide) ?_
                    cases h
                    exact m_fg [] rfl J_51
          exact m_fg [] rfl (L_39 _ _ _ _ c_37)
    exact m_fg [] rfl (L_26 _ _ _ c_24)
  have L_6 : ∀ (n_8 : Nat) (x1_1 : Int32) (M_2 : Mm), L_X7_stuck_2 n_8 x1_1 M_2 = some q_3 → WM G X (qQ G X (some (.int r.1)) r.2) M_2 2 [some (.ref (gR G 212)), some (.int x1_1), none, none, none] [] := by
    intro n_8
    induction n_8 with
    | zero =>
      intro x1_1 M_2 h
      cases (show none = some _ from h)
    | succ n_8 i_9 =>
      intro x1_1 M_2 h
      rw [L_X7_stuck_2] at h
      refine m_iload_n hc dX7_stuck_2 rfl ?_
      refine m_sipush hc (v := (2187 : Int32)) dX7_stuck_3 (by decide) ?_
      refine m_icge hc (tgt := 36) dX7_stuck_6 (by decide) (fun b_10 => ?_) (fun b_10 => ?_)
      · replace h := (if_pos b_10).symm.trans h
        cases h
        exact m_fg [1] rfl J_5
      · replace h := (if_neg b_10).symm.trans h
        refine m_aload_n hc dX7_stuck_9 rfl ?_
        refine m_getR hc (q := 224) yO_212 rfl tbX7 14 (by decide) wf_X7_44 rfl dX7_stuck_10 ?_
        refine m_iload_n hc dX7_stuck_13 rfl ?_
        refine m_aload_n hc dX7_stuck_14 rfl ?_
        refine m_iload_n hc dX7_stuck_15 rfl ?_
        obtain ⟨q_11, c_12, h⟩ := bd_o h
        refine m_callVi hc yO_212 rfl (c_X7_ahead (d + 3) c_12) (by omega) (by decide) wm_X7_147 wi_X7_ahead we_X7_ahead wn_X7 wc_X7_ahead wy_X7_ahead rfl (st := [.int x1_1, .ref (gR G 224)]) rfl rfl (Nat.le_of_ble_eq_true rfl) dX7_stuck_16 ?_
        refine m_ldc hc dX7_stuck_19 wk_X7_140 ?_
        obtain ⟨q_14, c_15, h⟩ := nm_o h
        have J_16 : WM G X (qQ G X (some (.int r.1)) r.2) M_2 29 [some (.ref (gR G 212)), some (.int x1_1), none, none, none] [.int q_14, .int x1_1, .ref (gR G 224)] := by
          obtain ⟨b_18, h⟩ := ck_o h
          refine m_zast hc yB_224 b_18 dX7_stuck_29 ?_
          refine m_topM (fun M_19 e_20 => ?_)
          replace h := nm_x e_20 h
          refine m_iinc hc (v := x1_1 + 1) (lv' := [some (.ref (gR G 212)), some (.int (x1_1 + 1)), none, none, none]) dX7_stuck_30 rfl rfl rfl rfl ?_
          refine m_goto hc (tgt := 2) dX7_stuck_33 (by decide) ?_
          exact m_fg [] rfl (i_9 _ _ h)
        replace h := c_15
        refine m_icge hc (tgt := 28) dX7_stuck_21 (by decide) (fun b_17 => ?_) (fun b_17 => ?_)
        · replace h := (if_pos b_17).symm.trans h
          refine m_iconst hc (v := 0) dX7_stuck_28 (by decide) ?_
          subst h
          exact m_fg [] rfl J_16
        · replace h := (if_neg b_17).symm.trans h
          refine m_iconst hc (v := 1) dX7_stuck_24 (by decide) ?_
          refine m_goto hc (tgt := 29) dX7_stuck_25 (by decide) ?_
          subst h
          exact m_fg [] rfl J_16
  exact m_fg [] rfl (L_6 _ _ _ c_4)
