def L_X7_shift_28 (x1 : Int32) (M : Mm) (x2_2 : Int32) : Nat → Int32 → Option ((Unit) ⊕ (Int32 × Mm))
  | 0, _ => none
  | n_18 + 1, x3_12 =>
    ck (ib ((1 : Int32) + x2_2) 320) (
     if (M 213 ((1 : Int32) + x2_2).toNatClampNeg) ≤ x3_12 then (
     some (.inl ()))
    else (
     Option.bind (f_X7_note x2_2 x3_12 (1 : Int32) M) (fun q_23 =>
     if (f_X7_isIn (q_23 + x1) (-1 : Int32) (100 : Int32)) = 0 then (
     nm (f_X7_finding (-100003 : Int32) M) (fun q_26 =>
     some (.inr (q_26.1, q_26.2))))
    else (
     L_X7_shift_28 x1 M x2_2 n_18 (x3_12 + 1)))))
def L_X7_shift_20 (x1 : Int32) (M : Mm) : Nat → Int32 → Option ((Unit) ⊕ (Int32 × Mm))
  | 0, _ => none
  | n_8 + 1, x2_2 =>
    if (12 : Int32) ≤ x2_2 then (
     some (.inl ()))
    else (
     Option.bind (L_X7_shift_28 x1 M x2_2 FU (0 : Int32)) (fun q_13 => Sum.elim (fun w_20 =>
     L_X7_shift_20 x1 M n_8 (x2_2 + 1)) (fun r => some (.inr r)) q_13))
def L_X7_shift_91 (x1 : Int32) (x2_30 : Int32) : Nat → Int32 → Mm → Option (Mm)
  | 0, _, _ => none
  | n_47 + 1, x3_40, M_41 =>
    ck (ib ((1 : Int32) + x2_30) 320) (
     if (M_41 213 ((1 : Int32) + x2_30).toNatClampNeg) ≤ x3_40 then (
     some M_41)
    else (
     ck (ib (((13 : Int32) + ((3 : Int32) * (((6 : Int32) * x2_30) + x3_40))) + (1 : Int32)) 320) (
     ck (ib (((13 : Int32) + ((3 : Int32) * (((6 : Int32) * x2_30) + x3_40))) + (1 : Int32)) 320) (
     nm (mw M_41 213 (((13 : Int32) + ((3 : Int32) * (((6 : Int32) * x2_30) + x3_40))) + (1 : Int32)).toNatClampNeg ((M_41 213 (((13 : Int32) + ((3 : Int32) * (((6 : Int32) * x2_30) + x3_40))) + (1 : Int32)).toNatClampNeg) + x1)) (fun M_53 =>
     L_X7_shift_91 x1 x2_30 n_47 (x3_40 + 1) M_53)))))
def L_X7_shift_83 (x1 : Int32) : Nat → Int32 → Mm → Option (Mm)
  | 0, _, _ => none
  | n_37 + 1, x2_30, M_31 =>
    if (12 : Int32) ≤ x2_30 then (
     some M_31)
    else (
     Option.bind (L_X7_shift_91 x1 x2_30 FU (0 : Int32) M_31) (fun q_42 =>
     L_X7_shift_83 x1 n_37 (x2_30 + 1) q_42))
def f_X7_shift (x1 : Int32) (M : Mm) : Option (Int32 × Mm) :=
 if (f_X7_isIn x1 (-12 : Int32) (12 : Int32)) = 0 then (
 nm (f_X7_finding (-100001 : Int32) M) (fun q_57 =>
 some (q_57.1, q_57.2)))
else (
 Option.bind (L_X7_shift_20 x1 M FU (0 : Int32)) (fun q_3 => Sum.elim (fun w_10 =>
 Option.bind (f_X7_keep M) (fun q_28 =>
 Option.bind (L_X7_shift_83 x1 FU (0 : Int32) q_28) (fun q_32 =>
 Option.bind (f_X7_notes q_32) (fun q_55 =>
 some (q_55, q_32))))) (fun r => some r) q_3))
set_option maxRecDepth 100000 in
set_option maxHeartbeats 4000000 in
theorem c_X7_shift {G : Gm} {l : Launch} (d : Nat) {x1 : Int32} {M : Mm} {r : Int32 × Mm}  (h : f_X7_shift x1 M = some r) : Cm G l (d + 1) yX7_shift cX7_shift 4 (some .int) [.ref (gR G 212), .int x1] M (some (.int r.1)) r.2 := by
  unfold f_X7_shift at h
  refine m_met (lv := [some (.ref (gR G 212)), some (.int x1), none, none]) (own := RX7) (by decide +kernel) rfl rfl (Nat.le_of_ble_eq_true rfl) rfl ?_
  intro X hX hc hr
  subst hX
  refine m_iload_n hc dX7_shift_0 rfl ?_
  refine m_bipush hc (v := (-12 : Int32)) dX7_shift_1 (by decide) ?_
  refine m_bipush hc (v := (12 : Int32)) dX7_shift_3 (by decide) ?_
  refine m_callSi hc (c_X7_isIn (d + 0) rfl) (by omega) (by decide) wm_X7_60 wt_X7_isIn wv_X7_isIn wc_X7_isIn wz_X7_isIn rfl (st := []) rfl rfl (Nat.le_of_ble_eq_true rfl) dX7_shift_5 ?_
  refine m_ifne hc (tgt := 18) dX7_shift_8 (by decide) (fun b_1 => ?_) (fun b_1 => ?_)
  · replace h := (if_neg b_1).symm.trans h
    refine m_iconst hc (v := 0) dX7_shift_18 (by decide) ?_
    refine m_istore_n hc (lv' := [some (.ref (gR G 212)), some (.int x1), some (.int (0 : Int32)), none]) dX7_shift_19 (Nat.le_of_ble_eq_true rfl) rfl rfl ?_
    obtain ⟨q_3, c_4, g_7⟩ := bd_o h
    have J_5 : ∀ (w_10 : Unit), (Option.bind (f_X7_keep M) (fun q_28 =>  Option.bind (L_X7_shift_83 x1 FU (0 : Int32) q_28) (fun q_32 =>  Option.bind (f_X7_notes q_32) (fun q_55 =>  some (q_55, q_32))))) = some r → WM G X (qQ G X (some (.int r.1)) r.2) M 77 [some (.ref (gR G 212)), some (.int x1), none, none] [] := by
      intro w_10 h
      refine m_aload_n hc dX7_shift_77 rfl ?_
      obtain ⟨q_28, c_29, h⟩ := bd_o h
      refine m_callVv hc yO_212 rfl (c_X7_keep (d + 0) c_29) (by omega) (by decide) wm_X7_76 wi_X7_keep we_X7_keep wn_X7 wc_X7_keep wy_X7_keep rfl (st := []) rfl rfl (Nat.le_of_ble_eq_true rfl) dX7_shift_78 ?_
      refine m_iconst hc (v := 0) dX7_shift_81 (by decide) ?_
      refine m_istore_n hc (lv' := [some (.ref (gR G 212)), some (.int x1), some (.int (0 : Int32)), none]) dX7_shift_82 (Nat.le_of_ble_eq_true rfl) rfl rfl ?_
      obtain ⟨q_32, c_33, h⟩ := bd_o h
      have J_34 : WM G X (qQ G X (some (.int r.1)) r.2) q_32 137 [some (.ref (gR G 212)), some (.int x1), none, none] [] := by
        refine m_aload_n hc dX7_shift_137 rfl ?_
        obtain ⟨q_55, c_56, h⟩ := bd_o h
        refine m_callVi hc yO_212 rfl (c_X7_notes (d + 0) c_56) (by omega) (by decide) wm_X7_99 wi_X7_notes we_X7_notes wn_X7 wc_X7_notes wy_X7_notes rfl (st := []) rfl rfl (Nat.le_of_ble_eq_true rfl) dX7_shift_138 ?_
        cases h
        exact m_iret hc hr dX7_shift_141
      have L_35 : ∀ (n_37 : Nat) (x2_30 : Int32) (M_31 : Mm), L_X7_shift_83 x1 n_37 x2_30 M_31 = some q_32 → WM G X (qQ G X (some (.int r.1)) r.2) M_31 83 [some (.ref (gR G 212)), some (.int x1), some (.int x2_30), none] [] := by
        intro n_37
        induction n_37 with
        | zero =>
          intro x2_30 M_31 h
          cases (show none = some _ from h)
        | succ n_37 i_38 =>
          intro x2_30 M_31 h
          rw [L_X7_shift_83] at h
          refine m_iload_n hc dX7_shift_83 rfl ?_
          refine m_bipush hc (v := (12 : Int32)) dX7_shift_84 (by decide) ?_
          refine m_icge hc (tgt := 137) dX7_shift_86 (by decide) (fun b_39 => ?_) (fun b_39 => ?_)
          · replace h := (if_pos b_39).symm.trans h
            cases h
            exact m_fg [2] rfl J_34
          · replace h := (if_neg b_39).symm.trans h
            refine m_iconst hc (v := 0) dX7_shift_89 (by decide) ?_
            refine m_istore_n hc (lv' := [some (.ref (gR G 212)), some (.int x1), some (.int x2_30), some (.int (0 : Int32))]) dX7_shift_90 (Nat.le_of_ble_eq_true rfl) rfl rfl ?_
            obtain ⟨q_42, c_43, h⟩ := bd_o h
            have J_44 : WM G X (qQ G X (some (.int r.1)) r.2) q_42 131 [some (.ref (gR G 212)), some (.int x1), some (.int x2_30), none] [] := by
              refine m_iinc hc (v := x2_30 + 1) (lv' := [some (.ref (gR G 212)), some (.int x1), some (.int (x2_30 + 1)), none]) dX7_shift_131 rfl rfl rfl rfl ?_
              refine m_goto hc (tgt := 83) dX7_shift_134 (by decide) ?_
              exact m_fg [] rfl (i_38 _ _ h)
            have L_45 : ∀ (n_47 : Nat) (x3_40 : Int32) (M_41 : Mm), L_X7_shift_91 x1 x2_30 n_47 x3_40 M_41 = some q_42 → WM G X (qQ G X (some (.int r.1)) r.2) M_41 91 [some (.ref (gR G 212)), some (.int x1), some (.int x2_30), some (.int x3_40)] [] := by
              intro n_47
              induction n_47 with
              | zero =>
                intro x3_40 M_41 h
                cases (show none = some _ from h)
              | succ n_47 i_48 =>
                intro x3_40 M_41 h
                rw [L_X7_shift_91] at h
                refine m_iload_n hc dX7_shift_91 rfl ?_
                refine m_aload_n hc dX7_shift_92 rfl ?_
                refine m_getR hc (q := 213) yO_212 rfl tbX7 0 (by decide) wf_X7_7 rfl dX7_shift_93 ?_
                refine m_iconst hc (v := 1) dX7_shift_96 (by decide) ?_
                refine m_iload_n hc dX7_shift_97 rfl ?_
                refine m_iadd hc dX7_shift_98 ?_
                obtain ⟨b_49, h⟩ := ck_o h
                refine m_iald hc yA_213 b_49 dX7_shift_99 ?_
                refine m_icge hc (tgt := 131) dX7_shift_100 (by decide) (fun b_50 => ?_) (fun b_50 => ?_)
                · replace h := (if_pos b_50).symm.trans h
                  cases h
                  exact m_fg [3] rfl J_44
                · replace h := (if_neg b_50).symm.trans h
                  refine m_aload_n hc dX7_shift_103 rfl ?_
                  refine m_getR hc (q := 213) yO_212 rfl tbX7 0 (by decide) wf_X7_7 rfl dX7_shift_104 ?_
                  refine m_bipush hc (v := (13 : Int32)) dX7_shift_107 (by decide) ?_
                  refine m_iconst hc (v := 3) dX7_shift_109 (by decide) ?_
                  refine m_bipush hc (v := (6 : Int32)) dX7_shift_110 (by decide) ?_
                  refine m_iload_n hc dX7_shift_112 rfl ?_
                  refine m_imul hc dX7_shift_113 ?_
                  refine m_iload_n hc dX7_shift_114 rfl ?_
                  refine m_iadd hc dX7_shift_115 ?_
                  refine m_imul hc dX7_shift_116 ?_
                  refine m_iadd hc dX7_shift_117 ?_
                  refine m_iconst hc (v := 1) dX7_shift_118 (by decide) ?_
                  refine m_iadd hc dX7_shift_119 ?_
                  refine m_dup2 hc dX7_shift_120 rfl rfl ?_
                  obtain ⟨b_51, h⟩ := ck_o h
                  refine m_iald hc yA_213 b_51 dX7_shift_121 ?_
                  refine m_iload_n hc dX7_shift_122 rfl ?_
                  refine m_iadd hc dX7_shift_123 ?_
                  obtain ⟨b_52, h⟩ := ck_o h
                  refine m_iast hc yA_213 b_52 dX7_shift_124 ?_
                  refine m_topM (fun M_53 e_54 => ?_)
                  replace h := nm_x e_54 h
                  refine m_iinc hc (v := x3_40 + 1) (lv' := [some (.ref (gR G 212)), some (.int x1), some (.int x2_30), some (.int (x3_40 + 1))]) dX7_shift_125 rfl rfl rfl rfl ?_
                  refine m_goto hc (tgt := 91) dX7_shift_128 (by decide) ?_
                  exact m_fg [] rfl (i_48 _ _ h)
            exact m_fg [] rfl (L_45 _ _ _ c_43)
      exact m_fg [] rfl (L_35 _ _ _ c_33)
    have L_6 : ∀ (n_8 : Nat) (x2_2 : Int32), L_X7_shift_20 x1 M n_8 x2_2 = some q_3 → WM G X (qQ G X (some (.int r.1)) r.2) M 20 [some (.ref (gR G 212)), some (.int x1), some (.int x2_2), none] [] := by
      intro n_8
      induction n_8 with
      | zero =>
        intro x2_2 h
        cases (show none = some _ from h)
      | succ n_8 i_9 =>
        intro x2_2 h
        rw [L_X7_shift_20] at h
        refine m_iload_n hc dX7_shift_20 rfl ?_
        refine m_bipush hc (v := (12 : Int32)) dX7_shift_21 (by decide) ?_
        refine m_icge hc (tgt := 77) dX7_shift_23 (by decide) (fun b_11 => ?_) (fun b_11 => ?_)
        · replace h := (if_pos b_11).symm.trans h
          cases h
          exact m_fg [2] rfl (J_5 () g_7)
        · replace h := (if_neg b_11).symm.trans h
          refine m_iconst hc (v := 0) dX7_shift_26 (by decide) ?_
          refine m_istore_n hc (lv' := [some (.ref (gR G 212)), some (.int x1), some (.int x2_2), some (.int (0 : Int32))]) dX7_shift_27 (Nat.le_of_ble_eq_true rfl) rfl rfl ?_
          obtain ⟨q_13, c_14, g_17⟩ := bd_o h
          have J_15 : ∀ (w_20 : Unit), (L_X7_shift_20 x1 M n_8 (x2_2 + 1)) = some q_3 → WM G X (qQ G X (some (.int r.1)) r.2) M 71 [some (.ref (gR G 212)), some (.int x1), some (.int x2_2), none] [] := by
            intro w_20 h
            refine m_iinc hc (v := x2_2 + 1) (lv' := [some (.ref (gR G 212)), some (.int x1), some (.int (x2_2 + 1)), none]) dX7_shift_71 rfl rfl rfl rfl ?_
            refine m_goto hc (tgt := 20) dX7_shift_74 (by decide) ?_
            exact m_fg [] rfl (i_9 _ h)
          have L_16 : ∀ (n_18 : Nat) (x3_12 : Int32), L_X7_shift_28 x1 M x2_2 n_18 x3_12 = some q_13 → WM G X (qQ G X (some (.int r.1)) r.2) M 28 [some (.ref (gR G 212)), some (.int x1), some (.int x2_2), some (.int x3_12)] [] := by
            intro n_18
            induction n_18 with
            | zero =>
              intro x3_12 h
              cases (show none = some _ from h)
            | succ n_18 i_19 =>
              intro x3_12 h
              rw [L_X7_shift_28] at h
              refine m_iload_n hc dX7_shift_28 rfl ?_
              refine m_aload_n hc dX7_shift_29 rfl ?_
              refine m_getR hc (q := 213) yO_212 rfl tbX7 0 (by decide) wf_X7_7 rfl dX7_shift_30 ?_
              refine m_iconst hc (v := 1) dX7_shift_33 (by decide) ?_
              refine m_iload_n hc dX7_shift_34 rfl ?_
              refine m_iadd hc dX7_shift_35 ?_
              obtain ⟨b_21, h⟩ := ck_o h
              refine m_iald hc yA_213 b_21 dX7_shift_36 ?_
              refine m_icge hc (tgt := 71) dX7_shift_37 (by decide) (fun b_22 => ?_) (fun b_22 => ?_)
              · replace h := (if_pos b_22).symm.trans h
                cases h
                exact m_fg [3] rfl (J_15 () g_17)
              · replace h := (if_neg b_22).symm.trans h
                refine m_aload_n hc dX7_shift_40 rfl ?_
                refine m_iload_n hc dX7_shift_41 rfl ?_
                refine m_iload_n hc dX7_shift_42 rfl ?_
                refine m_iconst hc (v := 1) dX7_shift_43 (by decide) ?_
                obtain ⟨q_23, c_24, h⟩ := bd_o h
                refine m_callVi hc yO_212 rfl (c_X7_note (d + 0) c_24) (by omega) (by decide) wm_X7_93 wi_X7_note we_X7_note wn_X7 wc_X7_note wy_X7_note rfl (st := []) rfl rfl (Nat.le_of_ble_eq_true rfl) dX7_shift_44 ?_
                refine m_iload_n hc dX7_shift_47 rfl ?_
                refine m_iadd hc dX7_shift_48 ?_
                refine m_iconst hc (v := (-1)) dX7_shift_49 (by decide) ?_
                refine m_bipush hc (v := (100 : Int32)) dX7_shift_50 (by decide) ?_
                refine m_callSi hc (c_X7_isIn (d + 0) rfl) (by omega) (by decide) wm_X7_60 wt_X7_isIn wv_X7_isIn wc_X7_isIn wz_X7_isIn rfl (st := []) rfl rfl (Nat.le_of_ble_eq_true rfl) dX7_shift_52 ?_
                refine m_ifne hc (tgt := 65) dX7_shift_55 (by decide) (fun b_25 => ?_) (fun b_25 => ?_)
                · replace h := (if_neg b_25).symm.trans h
                  refine m_iinc hc (v := x3_12 + 1) (lv' := [some (.ref (gR G 212)), some (.int x1), some (.int x2_2), some (.int (x3_12 + 1))]) dX7_shift_65 rfl rfl rfl rfl ?_
                  refine m_goto hc (tgt := 28) dX7_shift_68 (by decide) ?_
                  exact m_fg [] rfl (i_19 _ h)
                · replace h := (if_pos b_25).symm.trans h
                  refine m_aload_n hc dX7_shift_58 rfl ?_
                  refine m_ldc hc dX7_shift_59 wk_X7_98 ?_
                  obtain ⟨q_26, c_27, h⟩ := nm_o h
                  refine m_callVi hc yO_212 rfl (c_X7_finding (d + 0) c_27) (by omega) (by decide) wm_X7_72 wi_X7_finding we_X7_finding wn_X7 wc_X7_finding wy_X7_finding rfl (st := []) rfl rfl (Nat.le_of_ble_eq_true rfl) dX7_shift_61 ?_
                  cases h
                  have g_17 : some (Sum.inr (q_26.1, q_26.2)) = some q_3 := g_17
                  cases g_17
                  have g_7 : some (q_26.1, q_26.2) = some r := g_7
                  cases g_7
                  exact m_iret hc hr dX7_shift_64
          exact m_fg [] rfl (L_16 _ _ c_14)
    exact m_fg [] rfl (L_6 _ _ c_4)
  · replace h := (if_pos b_1).symm.trans h
    refine m_aload_n hc dX7_shift_11 rfl ?_
    refine m_ldc hc dX7_shift_12 wk_X7_83 ?_
    obtain ⟨q_57, c_58, h⟩ := nm_o h
    refine m_callVi hc yO_212 rfl (c_X7_finding (d + 0) c_58) (by omega) (by decide) wm_X7_72 wi_X7_finding we_X7_finding wn_X7 wc_X7_finding wy_X7_finding rfl (st := []) rfl rfl (Nat.le_of_ble_eq_true rfl) dX7_shift_14 ?_
    cases h
    exact m_iret hc hr dX7_shift_17
def f_X7_mark (x1 : Int32) (x2 : Int32) (x3 : Int32) (M : Mm) : Option (Int32 × Mm) :=
 if (f_X7_isBeat x1) = 0 then (
 nm (f_X7_finding (-100001 : Int32) M) (fun q_2 =>
 some (q_2.1, q_2.2)))
else (
 if (f_X7_isPedal x2) = 0 then (
 nm (f_X7_finding (-100001 : Int32) M) (fun q_5 =>
 some (q_5.1, q_5.2)))
else (
 if (f_X7_isIn x3 (-1 : Int32) (2 : Int32)) = 0 then (
 nm (f_X7_finding (-100001 : Int32) M) (fun q_8 =>
 some (q_8.1, q_8.2)))
else (
 Option.bind (f_X7_becomes (((229 : Int32) + ((7 : Int32) * x1)) + x2) x3 M) (fun q_10 =>
 some (q_10.1, q_10.2)))))
set_option maxRecDepth 100000 in
set_option maxHeartbeats 4000000 in
theorem c_X7_mark {G : Gm} {l : Launch} (d : Nat) {x1 : Int32} {x2 : Int32} {x3 : Int32} {M : Mm} {r : Int32 × Mm}  (h : f_X7_mark x1 x2 x3 M = some r) : Cm G l (d + 2) yX7_mark cX7_mark 4 (some .int) [.ref (gR G 212), .int x1, .int x2, .int x3] M (some (.int r.1)) r.2 := by
  unfold f_X7_mark at h
  refine m_met (lv := [some (.ref (gR G 212)), some (.int x1), some (.int x2), some (.int x3)]) (own := RX7) (by decide +kernel) rfl rfl (Nat.le_of_ble_eq_true rfl) rfl ?_
  intro X hX hc hr
  subst hX
  refine m_iload_n hc dX7_mark_0 rfl ?_
  refine m_callSi hc (c_X7_isBeat (d + 0) rfl) (by omega) (by decide) wm_X7_64 wt_X7_isBeat wv_X7_isBeat wc_X7_isBeat wz_X7_isBeat rfl (st := []) rfl rfl (Nat.le_of_ble_eq_true rfl) dX7_mark_1 ?_
  refine m_ifeq hc (tgt := 41) dX7_mark_4 (by decide) (fun b_1 => ?_) (fun b_1 => ?_)
  · replace h := (if_pos b_1).symm.trans h
    refine m_aload_n hc dX7_mark_41 rfl ?_
    refine m_ldc hc dX7_mark_42 wk_X7_83 ?_
    obtain ⟨q_2, c_3, h⟩ := nm_o h
    refine m_callVi hc yO_212 rfl (c_X7_finding (d + 1) c_3) (by omega) (by decide) wm_X7_72 wi_X7_finding we_X7_finding wn_X7 wc_X7_finding wy_X7_finding rfl (st := []) rfl rfl (Nat.le_of_ble_eq_true rfl) dX7_mark_44 ?_
    cases h
    exact m_iret hc hr dX7_mark_47
  · replace h := (if_neg b_1).symm.trans h
    refine m_iload_n hc dX7_mark_7 rfl ?_
    refine m_callSi hc (c_X7_isPedal (d + 0) rfl) (by omega) (by decide) wm_X7_103 wt_X7_isPedal wv_X7_isPedal wc_X7_isPedal wz_X7_isPedal rfl (st := []) rfl rfl (Nat.le_of_ble_eq_true rfl) dX7_mark_8 ?_
    refine m_ifeq hc (tgt := 41) dX7_mark_11 (by decide) (fun b_4 => ?_) (fun b_4 => ?_)
    · replace h := (if_pos b_4).symm.trans h
      refine m_aload_n hc dX7_mark_41 rfl ?_
      refine m_ldc hc dX7_mark_42 wk_X7_83 ?_
      obtain ⟨q_5, c_6, h⟩ := nm_o h
      refine m_callVi hc yO_212 rfl (c_X7_finding (d + 1) c_6) (by omega) (by decide) wm_X7_72 wi_X7_finding we_X7_finding wn_X7 wc_X7_finding wy_X7_finding rfl (st := []) rfl rfl (Nat.le_of_ble_eq_true rfl) dX7_mark_44 ?_
      cases h
      exact m_iret hc hr dX7_mark_47
    · replace h := (if_neg b_4).symm.trans h
      refine m_iload_n hc dX7_mark_14 rfl ?_
      refine m_iconst hc (v := (-1)) dX7_mark_15 (by decide) ?_
      refine m_iconst hc (v := 2) dX7_mark_16 (by decide) ?_
      refine m_callSi hc (c_X7_isIn (d + 1) rfl) (by omega) (by decide) wm_X7_60 wt_X7_isIn wv_X7_isIn wc_X7_isIn wz_X7_isIn rfl (st := []) rfl rfl (Nat.le_of_ble_eq_true rfl) dX7_mark_17 ?_
      refine m_ifeq hc (tgt := 41) dX7_mark_20 (by decide) (fun b_7 => ?_) (fun b_7 => ?_)
      · replace h := (if_pos b_7).symm.trans h
        refine m_aload_n hc dX7_mark_41 rfl ?_
        refine m_ldc hc dX7_mark_42 wk_X7_83 ?_
        obtain ⟨q_8, c_9, h⟩ := nm_o h
        refine m_callVi hc yO_212 rfl (c_X7_finding (d + 1) c_9) (by omega) (by decide) wm_X7_72 wi_X7_finding we_X7_finding wn_X7 wc_X7_finding wy_X7_finding rfl (st := []) rfl rfl (Nat.le_of_ble_eq_true rfl) dX7_mark_44 ?_
        cases h
        exact m_iret hc hr dX7_mark_47
      · replace h := (if_neg b_7).symm.trans h
        refine m_aload_n hc dX7_mark_23 rfl ?_
        refine m_sipush hc (v := (229 : Int32)) dX7_mark_24 (by decide) ?_
        refine m_bipush hc (v := (7 : Int32)) dX7_mark_27 (by decide) ?_
        refine m_iload_n hc dX7_mark_29 rfl ?_
        refine m_imul hc dX7_mark_30 ?_
        refine m_iadd hc dX7_mark_31 ?_
        refine m_iload_n hc dX7_mark_32 rfl ?_
        refine m_iadd hc dX7_mark_33 ?_
        refine m_iload_n hc dX7_mark_34 rfl ?_
        obtain ⟨q_10, c_11, h⟩ := bd_o h
        refine m_callVi hc yO_212 rfl (c_X7_becomes (d + 0) c_11) (by omega) (by decide) wm_X7_79 wi_X7_becomes we_X7_becomes wn_X7 wc_X7_becomes wy_X7_becomes rfl (st := []) rfl rfl (Nat.le_of_ble_eq_true rfl) dX7_mark_35 ?_
        refine m_goto hc (tgt := 47) dX7_mark_38 (by decide) ?_
        cases h
        exact m_iret hc hr dX7_mark_47
def f_X7_start (x1 : Int32) (x2 : Int32) (M : Mm) : Option (Int32 × Mm) :=
 if (f_X7_isPedal x1) = 0 then (
 nm (f_X7_finding (-100001 : Int32) M) (fun q_2 =>
 some (q_2.1, q_2.2)))
else (
 if (f_X7_isIn x2 (-1 : Int32) (2 : Int32)) = 0 then (
 nm (f_X7_finding (-100001 : Int32) M) (fun q_5 =>
 some (q_5.1, q_5.2)))
else (
 Option.bind (f_X7_becomes ((313 : Int32) + x1) x2 M) (fun q_7 =>
 some (q_7.1, q_7.2))))
set_option maxRecDepth 100000 in
set_option maxHeartbeats 4000000 in
theorem c_X7_start {G : Gm} {l : Launch} (d : Nat) {x1 : Int32} {x2 : Int32} {M : Mm} {r : Int32 × Mm}  (h : f_X7_start x1 x2 M = some r) : Cm G l (d + 2) yX7_start cX7_start 3 (some .int) [.ref (gR G 212), .int x1, .int x2] M (some (.int r.1)) r.2 := by
  unfold f_X7_start at h
  refine m_met (lv := [some (.ref (gR G 212)), some (.int x1), some (.int x2)]) (own := RX7) (by decide +kernel) rfl rfl (Nat.le_of_ble_eq_true rfl) rfl ?_
  intro X hX hc hr
  subst hX
  refine m_iload_n hc dX7_start_0 rfl ?_
  refine m_callSi hc (c_X7_isPedal (d + 0) rfl) (by omega) (by decide) wm_X7_103 wt_X7_isPedal wv_X7_isPedal wc_X7_isPedal wz_X7_isPedal rfl (st := []) rfl rfl (Nat.le_of_ble_eq_true rfl) dX7_start_1 ?_
  refine m_ifeq hc (tgt := 29) dX7_start_4 (by decide) (fun b_1 => ?_) (fun b_1 => ?_)
  · replace h := (if_pos b_1).symm.trans h
    refine m_aload_n hc dX7_start_29 rfl ?_
    refine m_ldc hc dX7_start_30 wk_X7_83 ?_
    obtain ⟨q_2, c_3, h⟩ := nm_o h
    refine m_callVi hc yO_212 rfl (c_X7_finding (d + 1) c_3) (by omega) (by decide) wm_X7_72 wi_X7_finding we_X7_finding wn_X7 wc_X7_finding wy_X7_finding rfl (st := []) rfl rfl (Nat.le_of_ble_eq_true rfl) dX7_start_32 ?_
    cases h
    exact m_iret hc hr dX7_start_35
  · replace h := (if_neg b_1).symm.trans h
    refine m_iload_n hc dX7_start_7 rfl ?_
    refine m_iconst hc (v := (-1)) dX7_start_8 (by decide) ?_
    refine m_iconst hc (v := 2) dX7_start_9 (by decide) ?_
    refine m_callSi hc (c_X7_isIn (d + 1) rfl) (by omega) (by decide) wm_X7_60 wt_X7_isIn wv_X7_isIn wc_X7_isIn wz_X7_isIn rfl (st := []) rfl rfl (Nat.le_of_ble_eq_true rfl) dX7_start_10 ?_
    refine m_ifeq hc (tgt := 29) dX7_start_13 (by decide) (fun b_4 => ?_) (fun b_4 => ?_)
    · replace h := (if_pos b_4).symm.trans h
      refine m_aload_n hc dX7_start_29 rfl ?_
      refine m_ldc hc dX7_start_30 wk_X7_83 ?_
      obtain ⟨q_5, c_6, h⟩ := nm_o h
      refine m_callVi hc yO_212 rfl (c_X7_finding (d + 1) c_6) (by omega) (by decide) wm_X7_72 wi_X7_finding we_X7_finding wn_X7 wc_X7_finding wy_X7_finding rfl (st := []) rfl rfl (Nat.le_of_ble_eq_true rfl) dX7_start_32 ?_
      cases h
      exact m_iret hc hr dX7_start_35
    · replace h := (if_neg b_4).symm.trans h
      refine m_aload_n hc dX7_start_16 rfl ?_
      refine m_sipush hc (v := (313 : Int32)) dX7_start_17 (by decide) ?_
      refine m_iload_n hc dX7_start_20 rfl ?_
      refine m_iadd hc dX7_start_21 ?_
      refine m_iload_n hc dX7_start_22 rfl ?_
      obtain ⟨q_7, c_8, h⟩ := bd_o h
      refine m_callVi hc yO_212 rfl (c_X7_becomes (d + 0) c_8) (by omega) (by decide) wm_X7_79 wi_X7_becomes we_X7_becomes wn_X7 wc_X7_becomes wy_X7_becomes rfl (st := []) rfl rfl (Nat.le_of_ble_eq_true rfl) dX7_start_23 ?_
      refine m_goto hc (tgt := 35) dX7_start_26 (by decide) ?_
      cases h
      exact m_iret hc hr dX7_start_35
def f_X7_standOf (x0 : Int32) (x1 : Int32) : Option (Int32) :=
 ck (ib x1 7) (
 ck (¬ (st_ 8 x1.toNatClampNeg) = 0) (
 some ((x0 / (st_ 8 x1.toNatClampNeg)) - (x0 / (st_ 8 x1.toNatClampNeg)) / (3 : Int32) * (3 : Int32))))
set_option maxRecDepth 100000 in
set_option maxHeartbeats 4000000 in
theorem c_X7_standOf {G : Gm} {l : Launch} (d : Nat) {x0 : Int32} {x1 : Int32} {M : Mm} {r : Int32}  (h : f_X7_standOf x0 x1 = some r) : Cm G l (d + 0) yX7_standOf cX7_standOf 2 (some .int) [.int x0, .int x1] M (some (.int r)) M := by
  unfold f_X7_standOf at h
  refine m_met (lv := [some (.int x0), some (.int x1)]) (own := RX7) (by decide +kernel) rfl rfl (Nat.le_of_ble_eq_true rfl) rfl ?_
  intro X hX hc hr
  subst hX
  refine m_iload_n hc dX7_standOf_0 rfl ?_
  refine m_sget hc 8 (by decide) ws_X7_106 dX7_standOf_1 ?_
  refine m_iload_n hc dX7_standOf_4 rfl ?_
  obtain ⟨b_1, h⟩ := ck_o h
  refine m_sald hc 8 (by decide) rfl b_1 dX7_standOf_5 ?_
  obtain ⟨b_2, h⟩ := ck_o h
  refine m_idiv hc dX7_standOf_6 b_2 ?_
  refine m_iconst hc (v := 3) dX7_standOf_7 (by decide) ?_
  refine m_irem hc dX7_standOf_8 (by decide) ?_
  cases h
  exact m_iret hc hr dX7_standOf_9
def f_X7_pitchOf (x0 : Int32) (x1 : Int32) : Option (Int32) :=
 ck (ib (x0 - x0 / (7 : Int32) * (7 : Int32)) 7) (
 Option.bind (f_X7_standOf x1 (x0 - x0 / (7 : Int32) * (7 : Int32))) (fun q_2 =>
 some (((((12 : Int32) * (x0 / (7 : Int32))) + (st_ 7 (x0 - x0 / (7 : Int32) * (7 : Int32)).toNatClampNeg)) + q_2) - (1 : Int32))))
set_option maxRecDepth 100000 in
set_option maxHeartbeats 4000000 in
theorem c_X7_pitchOf {G : Gm} {l : Launch} (d : Nat) {x0 : Int32} {x1 : Int32} {M : Mm} {r : Int32}  (h : f_X7_pitchOf x0 x1 = some r) : Cm G l (d + 1) yX7_pitchOf cX7_pitchOf 2 (some .int) [.int x0, .int x1] M (some (.int r)) M := by
  unfold f_X7_pitchOf at h
  refine m_met (lv := [some (.int x0), some (.int x1)]) (own := RX7) (by decide +kernel) rfl rfl (Nat.le_of_ble_eq_true rfl) rfl ?_
  intro X hX hc hr
  subst hX
  refine m_bipush hc (v := (12 : Int32)) dX7_pitchOf_0 (by decide) ?_
  refine m_iload_n hc dX7_pitchOf_2 rfl ?_
  refine m_bipush hc (v := (7 : Int32)) dX7_pitchOf_3 (by decide) ?_
  refine m_idiv hc dX7_pitchOf_5 (by decide) ?_
  refine m_imul hc dX7_pitchOf_6 ?_
  refine m_sget hc 7 (by decide) ws_X7_109 dX7_pitchOf_7 ?_
  refine m_iload_n hc dX7_pitchOf_10 rfl ?_
  refine m_bipush hc (v := (7 : Int32)) dX7_pitchOf_11 (by decide) ?_
  refine m_irem hc dX7_pitchOf_13 (by decide) ?_
  obtain ⟨b_1, h⟩ := ck_o h
  refine m_sald hc 7 (by decide) rfl b_1 dX7_pitchOf_14 ?_
  refine m_iadd hc dX7_pitchOf_15 ?_
  refine m_iload_n hc dX7_pitchOf_16 rfl ?_
  refine m_iload_n hc dX7_pitchOf_17 rfl ?_
  refine m_bipush hc (v := (7 : Int32)) dX7_pitchOf_18 (by decide) ?_
  refine m_irem hc dX7_pitchOf_20 (by decide) ?_
  obtain ⟨q_2, c_3, h⟩ := bd_o h
  refine m_callSi hc (c_X7_standOf (d + 0) c_3) (by omega) (by decide) wm_X7_112 wt_X7_standOf wv_X7_standOf wc_X7_standOf wz_X7_standOf rfl (st := [.int (((12 : Int32) * (x0 / (7 : Int32))) + (st_ 7 (x0 - x0 / (7 : Int32) * (7 : Int32)).toNatClampNeg))]) rfl rfl (Nat.le_of_ble_eq_true rfl) dX7_pitchOf_21 ?_
  refine m_iadd hc dX7_pitchOf_24 ?_
  refine m_iconst hc (v := 1) dX7_pitchOf_25 (by decide) ?_
  refine m_isub hc dX7_pitchOf_26 ?_
  cases h
  exact m_iret hc hr dX7_pitchOf_27
def f_X7_pitch (x1 : Int32) (x2 : Int32) (M : Mm) : Option (Int32 × Mm) :=
 if (f_X7_isIn x1 (0 : Int32) (41 : Int32)) = 0 then (
 nm (f_X7_finding (-100001 : Int32) M) (fun q_2 =>
 some (q_2.1, q_2.2)))
else (
 if (f_X7_isDiagram x2) = 0 then (
 nm (f_X7_finding (-100001 : Int32) M) (fun q_5 =>
 some (q_5.1, q_5.2)))
else (
 Option.bind (f_X7_pitchOf x1 x2) (fun q_7 =>
 some (q_7, M))))
set_option maxRecDepth 100000 in
set_option maxHeartbeats 4000000 in
theorem c_X7_pitch {G : Gm} {l : Launch} (d : Nat) {x1 : Int32} {x2 : Int32} {M : Mm} {r : Int32 × Mm}  (h : f_X7_pitch x1 x2 M = some r) : Cm G l (d + 2) yX7_pitch cX7_pitch 3 (some .int) [.ref (gR G 212), .int x1, .int x2] M (some (.int r.1)) r.2 := by
  unfold f_X7_pitch at h
  refine m_met (lv := [some (.ref (gR G 212)), some (.int x1), some (.int x2)]) (own := RX7) (by decide +kernel) rfl rfl (Nat.le_of_ble_eq_true rfl) rfl ?_
  intro X hX hc hr
  subst hX
  refine m_iload_n hc dX7_pitch_0 rfl ?_
  refine m_iconst hc (v := 0) dX7_pitch_1 (by decide) ?_
  refine m_bipush hc (v := (41 : Int32)) dX7_pitch_2 (by decide) ?_
  refine m_callSi hc (c_X7_isIn (d + 1) rfl) (by omega) (by decide) wm_X7_60 wt_X7_isIn wv_X7_isIn wc_X7_isIn wz_X7_isIn rfl (st := []) rfl rfl (Nat.le_of_ble_eq_true rfl) dX7_pitch_4 ?_
  refine m_ifeq hc (tgt := 25) dX7_pitch_7 (by decide) (fun b_1 => ?_) (fun b_1 => ?_)
  · replace h := (if_pos b_1).symm.trans h
    refine m_aload_n hc dX7_pitch_25 rfl ?_
    refine m_ldc hc dX7_pitch_26 wk_X7_83 ?_
    obtain ⟨q_2, c_3, h⟩ := nm_o h
    refine m_callVi hc yO_212 rfl (c_X7_finding (d + 1) c_3) (by omega) (by decide) wm_X7_72 wi_X7_finding we_X7_finding wn_X7 wc_X7_finding wy_X7_finding rfl (st := []) rfl rfl (Nat.le_of_ble_eq_true rfl) dX7_pitch_28 ?_
    cases h
    exact m_iret hc hr dX7_pitch_31
  · replace h := (if_neg b_1).symm.trans h
    refine m_iload_n hc dX7_pitch_10 rfl ?_
    refine m_callSi hc (c_X7_isDiagram (d + 0) rfl) (by omega) (by decide) wm_X7_115 wt_X7_isDiagram wv_X7_isDiagram wc_X7_isDiagram wz_X7_isDiagram rfl (st := []) rfl rfl (Nat.le_of_ble_eq_true rfl) dX7_pitch_11 ?_
    refine m_ifeq hc (tgt := 25) dX7_pitch_14 (by decide) (fun b_4 => ?_) (fun b_4 => ?_)
    · replace h := (if_pos b_4).symm.trans h
      refine m_aload_n hc dX7_pitch_25 rfl ?_
      refine m_ldc hc dX7_pitch_26 wk_X7_83 ?_
      obtain ⟨q_5, c_6, h⟩ := nm_o h
      refine m_callVi hc yO_212 rfl (c_X7_finding (d + 1) c_6) (by omega) (by decide) wm_X7_72 wi_X7_finding we_X7_finding wn_X7 wc_X7_finding wy_X7_finding rfl (st := []) rfl rfl (Nat.le_of_ble_eq_true rfl) dX7_pitch_28 ?_
      cases h
      exact m_iret hc hr dX7_pitch_31
    · replace h := (if_neg b_4).symm.trans h
      refine m_iload_n hc dX7_pitch_17 rfl ?_
      refine m_iload_n hc dX7_pitch_18 rfl ?_
      obtain ⟨q_7, c_8, h⟩ := bd_o h
      refine m_callSi hc (c_X7_pitchOf (d + 0) c_8) (by omega) (by decide) wm_X7_118 wt_X7_pitchOf wv_X7_pitchOf wc_X7_pitchOf wz_X7_pitchOf rfl (st := []) rfl rfl (Nat.le_of_ble_eq_true rfl) dX7_pitch_19 ?_
      refine m_goto hc (tgt := 31) dX7_pitch_22 (by decide) ?_
      cases h
      exact m_iret hc hr dX7_pitch_31
def L_X7_stringOf_48 (x3 : Int32) (x5_12 : Int32) : Nat → Int32 → Int32 → Option (Int32)
  | 0, _, _ => none
  | n_21 + 1, x6_14, x7_15 =>
    if (7 : Int32) ≤ x7_15 then (
     some x6_14)
    else (
     Option.bind (f_X7_pitchOf x7_15 x3) (fun q_24 =>
     nm ((x5_12 - q_24)) (fun x8_26 =>
     nm (
     if x8_26 < 0 then (
     x6_14)
    else (
     if (x8_26 - x8_26 / (12 : Int32) * (12 : Int32)) = 0 then (
     if (6 : Int32) ≤ (x8_26 / (12 : Int32)) then (
     x6_14)
    else (
     nm ((((7 : Int32) * (x8_26 / (12 : Int32))) + x7_15)) (fun x9_46 =>
     nm (
     if x6_14 < 0 then (
     x9_46)
    else (
     if x6_14 ≤ x9_46 then (
     x6_14)
    else (
     x9_46))) (fun q_50 =>
     q_50))))
    else (
     x6_14))) (fun q_40 =>
     L_X7_stringOf_48 x3 x5_12 n_21 q_40 (x7_15 + 1)))))
def f_X7_stringOf (x1 : Int32) (x2 : Int32) (x3 : Int32) (M : Mm) : Option (Int32) :=
 Option.bind (f_X7_note x1 x2 (0 : Int32) M) (fun q_1 =>
 Option.bind (f_X7_note x1 x2 (1 : Int32) M) (fun q_3 =>
 nm (
 if q_1 = (1 : Int32) then (
 (12 : Int32))
else (
 if q_1 = (3 : Int32) then (
 (19 : Int32))
else (
 (0 : Int32)))) (fun q_7 =>
 nm ((q_3 - q_7)) (fun x5_12 =>
 Option.bind (L_X7_stringOf_48 x3 x5_12 FU (-1 : Int32) (0 : Int32)) (fun q_16 =>
 some q_16)))))
set_option maxRecDepth 100000 in
set_option maxHeartbeats 4000000 in
theorem c_X7_stringOf {G : Gm} {l : Launch} (d : Nat) {x1 : Int32} {x2 : Int32} {x3 : Int32} {M : Mm} {r : Int32}  (h : f_X7_stringOf x1 x2 x3 M = some r) : Cm G l (d + 2) yX7_stringOf cX7_stringOf 10 (some .int) [.ref (gR G 212), .int x1, .int x2, .int x3] M (some (.int r)) M := by
  unfold f_X7_stringOf at h
  refine m_met (lv := [some (.ref (gR G 212)), some (.int x1), some (.int x2), some (.int x3), none, none, none, none, none, none]) (own := RX7) (by decide +kernel) rfl rfl (Nat.le_of_ble_eq_true rfl) rfl ?_
  intro X hX hc hr
  subst hX
  refine m_aload_n hc dX7_stringOf_0 rfl ?_
  refine m_iload_n hc dX7_stringOf_1 rfl ?_
  refine m_iload_n hc dX7_stringOf_2 rfl ?_
  refine m_iconst hc (v := 0) dX7_stringOf_3 (by decide) ?_
  obtain ⟨q_1, c_2, h⟩ := bd_o h
  refine m_callVi hc yO_212 rfl (c_X7_note (d + 1) c_2) (by omega) (by decide) wm_X7_93 wi_X7_note we_X7_note wn_X7 wc_X7_note wy_X7_note rfl (st := []) rfl rfl (Nat.le_of_ble_eq_true rfl) dX7_stringOf_4 ?_
  refine m_istore hc (lv' := [some (.ref (gR G 212)), some (.int x1), some (.int x2), some (.int x3), some (.int q_1), none, none, none, none, none]) dX7_stringOf_7 (Nat.le_of_ble_eq_true rfl) rfl rfl ?_
  refine m_aload_n hc dX7_stringOf_9 rfl ?_
  refine m_iload_n hc dX7_stringOf_10 rfl ?_
  refine m_iload_n hc dX7_stringOf_11 rfl ?_
  refine m_iconst hc (v := 1) dX7_stringOf_12 (by decide) ?_
  obtain ⟨q_3, c_4, h⟩ := bd_o h
  refine m_callVi hc yO_212 rfl (c_X7_note (d + 1) c_4) (by omega) (by decide) wm_X7_93 wi_X7_note we_X7_note wn_X7 wc_X7_note wy_X7_note rfl (st := []) rfl rfl (Nat.le_of_ble_eq_true rfl) dX7_stringOf_13 ?_
  refine m_iload hc dX7_stringOf_16 rfl ?_
  refine m_iconst hc (v := 1) dX7_stringOf_18 (by decide) ?_
  obtain ⟨q_7, c_8, h⟩ := nm_o h
  have J_9 : WM G X (qQ G X (some (.int r)) M) M 39 [some (.ref (gR G 212)), some (.int x1), some (.int x2), some (.int x3), some (.int q_1), none, none, none, none, none] [.int q_7, .int q_3] := by
    refine m_isub hc dX7_stringOf_39 ?_
    refine m_topI (fun x5_12 e_13 => ?_)
    replace h := nm_x e_13 h
    refine m_istore hc (lv' := [some (.ref (gR G 212)), some (.int x1), some (.int x2), some (.int x3), some (.int q_1), some (.int x5_12), none, none, none, none]) dX7_stringOf_40 (Nat.le_of_ble_eq_true rfl) rfl rfl ?_
    refine m_iconst hc (v := (-1)) dX7_stringOf_42 (by decide) ?_
    refine m_istore hc (lv' := [some (.ref (gR G 212)), some (.int x1), some (.int x2), some (.int x3), some (.int q_1), some (.int x5_12), some (.int (-1 : Int32)), none, none, none]) dX7_stringOf_43 (Nat.le_of_ble_eq_true rfl) rfl rfl ?_
    refine m_iconst hc (v := 0) dX7_stringOf_45 (by decide) ?_
    refine m_istore hc (lv' := [some (.ref (gR G 212)), some (.int x1), some (.int x2), some (.int x3), some (.int q_1), some (.int x5_12), some (.int (-1 : Int32)), some (.int (0 : Int32)), none, none]) dX7_stringOf_46 (Nat.le_of_ble_eq_true rfl) rfl rfl ?_
    obtain ⟨q_16, c_17, h⟩ := bd_o h
    have J_18 : WM G X (qQ G X (some (.int r)) M) M 129 [some (.ref (gR G 212)), some (.int x1), some (.int x2), some (.int x3), some (.int q_1), some (.int x5_12), some (.int q_16), none, none, none] [] := by
      refine m_iload hc dX7_stringOf_129 rfl ?_
      cases h
      exact m_iret hc hr dX7_stringOf_131
    have L_19 : ∀ (n_21 : Nat) (x6_14 : Int32) (x7_15 : Int32), L_X7_stringOf_48 x3 x5_12 n_21 x6_14 x7_15 = some q_16 → WM G X (qQ G X (some (.int r)) M) M 48 [some (.ref (gR G 212)), some (.int x1), some (.int x2), some (.int x3), some (.int q_1), some (.int x5_12), some (.int x6_14), some (.int x7_15), none, none] [] := by
      intro n_21
      induction n_21 with
      | zero =>
        intro x6_14 x7_15 h
        cases (show none = some _ from h)
      | succ n_21 i_22 =>
        intro x6_14 x7_15 h
        rw [L_X7_stringOf_48] at h
        refine m_iload hc dX7_stringOf_48 rfl ?_
        refine m_bipush hc (v := (7 : Int32)) dX7_stringOf_50 (by decide) ?_
        refine m_icge hc (tgt := 129) dX7_stringOf_52 (by decide) (fun b_23 => ?_) (fun b_23 => ?_)
        · replace h := (if_pos b_23).symm.trans h
          cases h
          exact m_fg [7] rfl J_18
        · replace h := (if_neg b_23).symm.trans h
          refine m_iload hc dX7_stringOf_55 rfl ?_
          refine m_iload hc dX7_stringOf_57 rfl ?_
          refine m_iload_n hc dX7_stringOf_59 rfl ?_
          obtain ⟨q_24, c_25, h⟩ := bd_o h
          refine m_callSi hc (c_X7_pitchOf (d + 0) c_25) (by omega) (by decide) wm_X7_118 wt_X7_pitchOf wv_X7_pitchOf wc_X7_pitchOf wz_X7_pitchOf rfl (st := [.int x5_12]) rfl rfl (Nat.le_of_ble_eq_true rfl) dX7_stringOf_60 ?_
          refine m_isub hc dX7_stringOf_63 ?_
          refine m_topI (fun x8_26 e_27 => ?_)
          replace h := nm_x e_27 h
          refine m_istore hc (lv' := [some (.ref (gR G 212)), some (.int x1), some (.int x2), some (.int x3), some (.int q_1), some (.int x5_12), some (.int x6_14), some (.int x7_15), some (.int x8_26), none]) dX7_stringOf_64 (Nat.le_of_ble_eq_true rfl) rfl rfl ?_
          refine m_iload hc dX7_stringOf_66 rfl ?_
          obtain ⟨q_40, c_41, h⟩ := nm_o h
          have J_42 : WM G X (qQ G X (some (.int r)) M) M 123 [some (.ref (gR G 212)), some (.int x1), some (.int x2), some (.int x3), some (.int q_1), some (.int x5_12), some (.int q_40), some (.int x7_15), some (.int x8_26), none] [] := by
            refine m_iinc hc (v := x7_15 + 1) (lv' := [some (.ref (gR G 212)), some (.int x1), some (.int x2), some (.int x3), some (.int q_1), some (.int x5_12), some (.int q_40), some (.int (x7_15 + 1)), some (.int x8_26), none]) dX7_stringOf_123 rfl rfl rfl rfl ?_
            refine m_goto hc (tgt := 48) dX7_stringOf_126 (by decide) ?_
            exact m_fg [8] rfl (i_22 _ _ h)
          replace h := c_41
          refine m_iflt hc (tgt := 123) dX7_stringOf_68 (by decide) (fun b_43 => ?_) (fun b_43 => ?_)
          · replace h := (if_pos b_43).symm.trans h
            subst h
            exact m_fg [] rfl J_42
          · replace h := (if_neg b_43).symm.trans h
            refine m_iload hc dX7_stringOf_71 rfl ?_
            refine m_bipush hc (v := (12 : Int32)) dX7_stringOf_73 (by decide) ?_
            refine m_irem hc dX7_stringOf_75 (by decide) ?_
            refine m_ifne hc (tgt := 123) dX7_stringOf_76 (by decide) (fun b_44 => ?_) (fun b_44 => ?_)
            · replace h := (if_neg b_44).symm.trans h
              subst h
              exact m_fg [] rfl J_42
            · replace h := (if_pos b_44).symm.trans h
              refine m_iload hc dX7_stringOf_79 rfl ?_
              refine m_bipush hc (v := (12 : Int32)) dX7_stringOf_81 (by decide) ?_
              refine m_idiv hc dX7_stringOf_83 (by decide) ?_
              refine m_bipush hc (v := (6 : Int32)) dX7_stringOf_84 (by decide) ?_
              refine m_icge hc (tgt := 123) dX7_stringOf_86 (by decide) (fun b_45 => ?_) (fun b_45 => ?_)
              · replace h := (if_pos b_45).symm.trans h
                subst h
                exact m_fg [] rfl J_42
              · replace h := (if_neg b_45).symm.trans h
                refine m_bipush hc (v := (7 : Int32)) dX7_stringOf_89 (by decide) ?_
                refine m_iload hc dX7_stringOf_91 rfl ?_
                refine m_bipush hc (v := (12 : Int32)) dX7_stringOf_93 (by decide) ?_
                refine m_idiv hc dX7_stringOf_95 (by decide) ?_
                refine m_imul hc dX7_stringOf_96 ?_
                refine m_iload hc dX7_stringOf_97 rfl ?_
                refine m_iadd hc dX7_stringOf_99 ?_
                refine m_topI (fun x9_46 e_47 => ?_)
                replace h := nm_x e_47 h
                refine m_istore hc (lv' := [some (.ref (gR G 212)), some (.int x1), some (.int x2), some (.int x3), some (.int q_1), some (.int x5_12), some (.int x6_14), some (.int x7_15), some (.int x8_26), some (.int x9_46)]) dX7_stringOf_100 (Nat.le_of_ble_eq_true rfl) rfl rfl ?_
                refine m_iload hc dX7_stringOf_102 rfl ?_
                obtain ⟨q_50, c_51, h⟩ := nm_o h
                have J_52 : WM G X (qQ G X (some (.int r)) M) M 121 [some (.ref (gR G 212)), some (.int x1), some (.int x2), some (.int x3), some (.int q_1), some (.int x5_12), some (.int x6_14), some (.int x7_15), some (.int x8_26), some (.int x9_46)] [.int q_50] := by
                  refine m_istore hc (lv' := [some (.ref (gR G 212)), some (.int x1), some (.int x2), some (.int x3), some (.int q_1), some (.int x5_12), some (.int q_50), some (.int x7_15), some (.int x8_26), some (.int x9_46)]) dX7_stringOf_121 (Nat.le_of_ble_eq_true rfl) rfl rfl ?_
                  subst h
                  exact m_fg [9] rfl J_42
                replace h := c_51
                refine m_iflt hc (tgt := 114) dX7_stringOf_104 (by decide) (fun b_53 => ?_) (fun b_53 => ?_)
                · replace h := (if_pos b_53).symm.trans h
                  refine m_iload hc dX7_stringOf_114 rfl ?_
                  refine m_goto hc (tgt := 121) dX7_stringOf_116 (by decide) ?_
                  subst h
                  exact m_fg [] rfl J_52
                · replace h := (if_neg b_53).symm.trans h
                  refine m_iload hc dX7_stringOf_107 rfl ?_
                  refine m_iload hc dX7_stringOf_109 rfl ?_
                  refine m_icge hc (tgt := 119) dX7_stringOf_111 (by decide) (fun b_54 => ?_) (fun b_54 => ?_)
                  · replace h := (if_pos b_54).symm.trans h
                    refine m_iload hc dX7_stringOf_119 rfl ?_
                    subst h
                    exact m_fg [] rfl J_52
                  · replace h := (if_neg b_54).symm.trans h
                    refine m_iload hc dX7_stringOf_114 rfl ?_
                    refine m_goto hc (tgt := 121) dX7_stringOf_116 (by decide) ?_
                    subst h
                    exact m_fg [] rfl J_52
    exact m_fg [] rfl (L_19 _ _ _ c_17)
  replace h := c_8
  refine m_icne hc (tgt := 27) dX7_stringOf_19 (by decide) (fun b_10 => ?_) (fun b_10 => ?_)
  · replace h := (if_neg b_10).symm.trans h
    refine m_iload hc dX7_stringOf_27 rfl ?_
    refine m_iconst hc (v := 3) dX7_stringOf_29 (by decide) ?_
    refine m_icne hc (tgt := 38) dX7_stringOf_30 (by decide) (fun b_11 => ?_) (fun b_11 => ?_)
    · replace h := (if_neg b_11).symm.trans h
      refine m_iconst hc (v := 0) dX7_stringOf_38 (by decide) ?_
      subst h
      exact m_fg [] rfl J_9
    · replace h := (if_pos b_11).symm.trans h
      refine m_bipush hc (v := (19 : Int32)) dX7_stringOf_33 (by decide) ?_
      refine m_goto hc (tgt := 39) dX7_stringOf_35 (by decide) ?_
      subst h
      exact m_fg [] rfl J_9
  · replace h := (if_pos b_10).symm.trans h
    refine m_bipush hc (v := (12 : Int32)) dX7_stringOf_22 (by decide) ?_
    refine m_goto hc (tgt := 39) dX7_stringOf_24 (by decide) ?_
    subst h
    exact m_fg [] rfl J_9
def f_X7_string (x1 : Int32) (x2 : Int32) (x3 : Int32) (M : Mm) : Option (Int32 × Mm) :=
 Option.bind (f_X7_isNote x1 x2 M) (fun q_1 =>
 if q_1 = 0 then (
 nm (f_X7_finding (-100001 : Int32) M) (fun q_4 =>
 some (q_4.1, q_4.2)))
else (
 if (f_X7_isDiagram x3) = 0 then (
 nm (f_X7_finding (-100001 : Int32) M) (fun q_12 =>
 some (q_12.1, q_12.2)))
else (
 Option.bind (f_X7_stringOf x1 x2 x3 M) (fun q_7 =>
 if 0 ≤ q_7 then (
 some (q_7, M))
else (
 nm (f_X7_finding (-100006 : Int32) M) (fun q_10 =>
 some (q_10.1, q_10.2)))))))
set_option maxRecDepth 100000 in
set_option maxHeartbeats 4000000 in
theorem c_X7_string {G : Gm} {l : Launch} (d : Nat) {x1 : Int32} {x2 : Int32} {x3 : Int32} {M : Mm} {r : Int32 × Mm}  (h : f_X7_string x1 x2 x3 M = some r) : Cm G l (d + 3) yX7_string cX7_string 5 (some .int) [.ref (gR G 212), .int x1, .int x2, .int x3] M (some (.int r.1)) r.2 := by
  unfold f_X7_string at h
  refine m_met (lv := [some (.ref (gR G 212)), some (.int x1), some (.int x2), some (.int x3), none]) (own := RX7) (by decide +kernel) rfl rfl (Nat.le_of_ble_eq_true rfl) rfl ?_
  intro X hX hc hr
  subst hX
  refine m_aload_n hc dX7_string_0 rfl ?_
  refine m_iload_n hc dX7_string_1 rfl ?_
  refine m_iload_n hc dX7_string_2 rfl ?_
  obtain ⟨q_1, c_2, h⟩ := bd_o h
  refine m_callVi hc yO_212 rfl (c_X7_isNote (d + 0) c_2) (by omega) (by decide) wm_X7_89 wi_X7_isNote we_X7_isNote wn_X7 wc_X7_isNote wy_X7_isNote rfl (st := []) rfl rfl (Nat.le_of_ble_eq_true rfl) dX7_string_3 ?_
  refine m_ifeq hc (tgt := 16) dX7_string_6 (by decide) (fun b_3 => ?_) (fun b_3 => ?_)
  · replace h := (if_pos b_3).symm.trans h
    refine m_aload_n hc dX7_string_16 rfl ?_
    refine m_ldc hc dX7_string_17 wk_X7_83 ?_
    obtain ⟨q_4, c_5, h⟩ := nm_o h
    refine m_callVi hc yO_212 rfl (c_X7_finding (d + 2) c_5) (by omega) (by decide) wm_X7_72 wi_X7_finding we_X7_finding wn_X7 wc_X7_finding wy_X7_finding rfl (st := []) rfl rfl (Nat.le_of_ble_eq_true rfl) dX7_string_19 ?_
    cases h
    exact m_iret hc hr dX7_string_22
  · replace h := (if_neg b_3).symm.trans h
    refine m_iload_n hc dX7_string_9 rfl ?_
    refine m_callSi hc (c_X7_isDiagram (d + 1) rfl) (by omega) (by decide) wm_X7_115 wt_X7_isDiagram wv_X7_isDiagram wc_X7_isDiagram wz_X7_isDiagram rfl (st := []) rfl rfl (Nat.le_of_ble_eq_true rfl) dX7_string_10 ?_
    refine m_ifne hc (tgt := 23) dX7_string_13 (by decide) (fun b_6 => ?_) (fun b_6 => ?_)
    · replace h := (if_neg b_6).symm.trans h
      refine m_aload_n hc dX7_string_23 rfl ?_
      refine m_iload_n hc dX7_string_24 rfl ?_
      refine m_iload_n hc dX7_string_25 rfl ?_
      refine m_iload_n hc dX7_string_26 rfl ?_
      obtain ⟨q_7, c_8, h⟩ := bd_o h
      refine m_callVi hc yO_212 rfl (c_X7_stringOf (d + 0) c_8) (by omega) (by decide) wm_X7_121 wi_X7_stringOf we_X7_stringOf wn_X7 wc_X7_stringOf wy_X7_stringOf rfl (st := []) rfl rfl (Nat.le_of_ble_eq_true rfl) dX7_string_27 ?_
      refine m_istore hc (lv' := [some (.ref (gR G 212)), some (.int x1), some (.int x2), some (.int x3), some (.int q_7)]) dX7_string_30 (Nat.le_of_ble_eq_true rfl) rfl rfl ?_
      refine m_iload hc dX7_string_32 rfl ?_
      refine m_ifge hc (tgt := 46) dX7_string_34 (by decide) (fun b_9 => ?_) (fun b_9 => ?_)
      · replace h := (if_pos b_9).symm.trans h
        refine m_iload hc dX7_string_46 rfl ?_
        cases h
        exact m_iret hc hr dX7_string_48
      · replace h := (if_neg b_9).symm.trans h
        refine m_aload_n hc dX7_string_37 rfl ?_
        refine m_ldc hc dX7_string_38 wk_X7_71 ?_
        obtain ⟨q_10, c_11, h⟩ := nm_o h
        refine m_callVi hc yO_212 rfl (c_X7_finding (d + 2) c_11) (by omega) (by decide) wm_X7_72 wi_X7_finding we_X7_finding wn_X7 wc_X7_finding wy_X7_finding rfl (st := []) rfl rfl (Nat.le_of_ble_eq_true rfl) dX7_string_40 ?_
        refine m_goto hc (tgt := 48) dX7_string_43 (by decide) ?_
        cases h
        exact m_iret hc hr dX7_string_48
    · replace h := (if_pos b_6).symm.trans h
      refine m_aload_n hc dX7_string_16 rfl ?_
      refine m_ldc hc dX7_string_17 wk_X7_83 ?_
      obtain ⟨q_12, c_13, h⟩ := nm_o h
      refine m_callVi hc yO_212 rfl (c_X7_finding (d + 2) c_13) (by omega) (by decide) wm_X7_72 wi_X7_finding we_X7_finding wn_X7 wc_X7_finding wy_X7_finding rfl (st := []) rfl rfl (Nat.le_of_ble_eq_true rfl) dX7_string_19 ?_
      cases h
      exact m_iret hc hr dX7_string_22
def L_X7_doesFor_2 (x1 : Int32) (x2 : Int32) (M : Mm) : Nat → Int32 → Option ((Unit) ⊕ (Int32))
  | 0, _ => none
  | n_7 + 1, x3_1 =>
    if (7 : Int32) ≤ x3_1 then (
     some (.inl ()))
    else (
     ck (ib (((229 : Int32) + ((7 : Int32) * x1)) + x3_1) 320) (
     nm ((M 213 (((229 : Int32) + ((7 : Int32) * x1)) + x3_1).toNatClampNeg)) (fun x4_12 =>
     if x4_12 < 0 then (
     L_X7_doesFor_2 x1 x2 M n_7 (x3_1 + 1))
    else (
     Option.bind (f_X7_standOf x2 x3_1) (fun q_15 =>
     if x4_12 = q_15 then (
     L_X7_doesFor_2 x1 x2 M n_7 (x3_1 + 1))
    else (
     some (.inr (0 : Int32))))))))
def L_X7_doesFor_53 (x1 : Int32) (x2 : Int32) (M : Mm) : Nat → Int64 → Int32 → Option ((Unit) ⊕ (Int32))
  | 0, _, _ => none
  | n_25 + 1, x3_18, x5_19 =>
    ck (ib ((1 : Int32) + x1) 320) (
     if (M 213 ((1 : Int32) + x1).toNatClampNeg) ≤ x5_19 then (
     some (.inl ()))
    else (
     Option.bind (f_X7_stringOf x1 x5_19 x2 M) (fun q_30 =>
     if q_30 < 0 then (
     some (.inr (0 : Int32)))
    else (
     if (lg_cmp ((x3_18 >>> (q_30.toInt64 &&& 63)) &&& (1 : Int64)) (1 : Int64)) = 0 then (
     some (.inr (0 : Int32)))
    else (
     nm ((x3_18 ||| ((1 : Int64) <<< (q_30.toInt64 &&& 63)))) (fun x3_34 =>
     L_X7_doesFor_53 x1 x2 M n_25 x3_34 (x5_19 + 1)))))))
def f_X7_doesFor (x1 : Int32) (x2 : Int32) (M : Mm) : Option (Int32) :=
 Option.bind (L_X7_doesFor_2 x1 x2 M FU (0 : Int32)) (fun q_2 => Sum.elim (fun w_9 =>
 Option.bind (L_X7_doesFor_53 x1 x2 M FU (0 : Int64) (0 : Int32)) (fun q_20 => Sum.elim (fun w_27 =>
 some (1 : Int32)) (fun r => some r) q_20)) (fun r => some r) q_2)
set_option maxRecDepth 100000 in
set_option maxHeartbeats 4000000 in
theorem c_X7_doesFor {G : Gm} {l : Launch} (d : Nat) {x1 : Int32} {x2 : Int32} {M : Mm} {r : Int32}  (h : f_X7_doesFor x1 x2 M = some r) : Cm G l (d + 3) yX7_doesFor cX7_doesFor 7 (some .boolean) [.ref (gR G 212), .int x1, .int x2] M (some (.int r)) M := by
  unfold f_X7_doesFor at h
  refine m_met (lv := [some (.ref (gR G 212)), some (.int x1), some (.int x2), none, none, none, none]) (own := RX7) (by decide +kernel) rfl rfl (Nat.le_of_ble_eq_true rfl) rfl ?_
  intro X hX hc hr
  subst hX
  refine m_iconst hc (v := 0) dX7_doesFor_0 (by decide) ?_
  refine m_istore_n hc (lv' := [some (.ref (gR G 212)), some (.int x1), some (.int x2), some (.int (0 : Int32)), none, none, none]) dX7_doesFor_1 (Nat.le_of_ble_eq_true rfl) rfl rfl ?_
  obtain ⟨q_2, c_3, g_6⟩ := bd_o h
  have J_4 : ∀ (w_9 : Unit), (Option.bind (L_X7_doesFor_53 x1 x2 M FU (0 : Int64) (0 : Int32)) (fun q_20 => Sum.elim (fun w_27 =>  some (1 : Int32)) (fun r => some r) q_20)) = some r → WM G X (qQ G X (some (.int r)) M) M 48 [some (.ref (gR G 212)), some (.int x1), some (.int x2), none, none, none, none] [] := by
    intro w_9 h
    refine m_lconst hc (v := 0) dX7_doesFor_48 (by decide) ?_
    refine m_lstore_n hc (lv' := [some (.ref (gR G 212)), some (.int x1), some (.int x2), some (.long (0 : Int64)), none, none, none]) dX7_doesFor_49 (Nat.le_of_ble_eq_true rfl) rfl rfl ?_
    refine m_iconst hc (v := 0) dX7_doesFor_50 (by decide) ?_
    refine m_istore hc (lv' := [some (.ref (gR G 212)), some (.int x1), some (.int x2), some (.long (0 : Int64)), none, some (.int (0 : Int32)), none]) dX7_doesFor_51 (Nat.le_of_ble_eq_true rfl) rfl rfl ?_
    obtain ⟨q_20, c_21, g_24⟩ := bd_o h
    have J_22 : ∀ (w_27 : Unit), (some (1 : Int32)) = some r → WM G X (qQ G X (some (.int r)) M) M 107 [some (.ref (gR G 212)), some (.int x1), some (.int x2), none, none, none, none] [] := by
      intro w_27 h
      refine m_iconst hc (v := 1) dX7_doesFor_107 (by decide) ?_
      cases h
      exact m_zret hc hr (v := (1 : Int32)) (by decide) dX7_doesFor_108
    have L_23 : ∀ (n_25 : Nat) (x3_18 : Int64) (x5_19 : Int32), L_X7_doesFor_53 x1 x2 M n_25 x3_18 x5_19 = some q_20 → WM G X (qQ G X (some (.int r)) M) M 53 [some (.ref (gR G 212)), some (.int x1), some (.int x2), some (.long x3_18), none, some (.int x5_19), none] [] := by
      intro n_25
      induction n_25 with
      | zero =>
        intro x3_18 x5_19 h
        cases (show none = some _ from h)
      | succ n_25 i_26 =>
        intro x3_18 x5_19 h
        rw [L_X7_doesFor_53] at h
        refine m_iload hc dX7_doesFor_53 rfl ?_
        refine m_aload_n hc dX7_doesFor_55 rfl ?_
        refine m_getR hc (q := 213) yO_212 rfl tbX7 0 (by decide) wf_X7_7 rfl dX7_doesFor_56 ?_
        refine m_iconst hc (v := 1) dX7_doesFor_59 (by decide) ?_
        refine m_iload_n hc dX7_doesFor_60 rfl ?_
        refine m_iadd hc dX7_doesFor_61 ?_
        obtain ⟨b_28, h⟩ := ck_o h
        refine m_iald hc yA_213 b_28 dX7_doesFor_62 ?_
        refine m_icge hc (tgt := 107) dX7_doesFor_63 (by decide) (fun b_29 => ?_) (fun b_29 => ?_)
        · replace h := (if_pos b_29).symm.trans h
          cases h
          exact m_fg [3, 5] rfl (J_22 () g_24)
        · replace h := (if_neg b_29).symm.trans h
          refine m_aload_n hc dX7_doesFor_66 rfl ?_
          refine m_iload_n hc dX7_doesFor_67 rfl ?_
          refine m_iload hc dX7_doesFor_68 rfl ?_
          refine m_iload_n hc dX7_doesFor_70 rfl ?_
          obtain ⟨q_30, c_31, h⟩ := bd_o h
          refine m_callVi hc yO_212 rfl (c_X7_stringOf (d + 0) c_31) (by omega) (by decide) wm_X7_121 wi_X7_stringOf we_X7_stringOf wn_X7 wc_X7_stringOf wy_X7_stringOf rfl (st := []) rfl rfl (Nat.le_of_ble_eq_true rfl) dX7_doesFor_71 ?_
          refine m_istore hc (lv' := [some (.ref (gR G 212)), some (.int x1), some (.int x2), some (.long x3_18), none, some (.int x5_19), some (.int q_30)]) dX7_doesFor_74 (Nat.le_of_ble_eq_true rfl) rfl rfl ?_
          refine m_iload hc dX7_doesFor_76 rfl ?_
          refine m_iflt hc (tgt := 92) dX7_doesFor_78 (by decide) (fun b_32 => ?_) (fun b_32 => ?_)
          · replace h := (if_pos b_32).symm.trans h
            refine m_iconst hc (v := 0) dX7_doesFor_92 (by decide) ?_
            cases h
            have g_24 : some (0 : Int32) = some r := g_24
            cases g_24
            exact m_zret hc hr (v := (0 : Int32)) (by decide) dX7_doesFor_93
          · replace h := (if_neg b_32).symm.trans h
            refine m_lload_n hc dX7_doesFor_81 rfl ?_
            refine m_iload hc dX7_doesFor_82 rfl ?_
            refine m_lshr hc dX7_doesFor_84 ?_
            refine m_lconst hc (v := 1) dX7_doesFor_85 (by decide) ?_
            refine m_land hc dX7_doesFor_86 ?_
            refine m_lconst hc (v := 1) dX7_doesFor_87 (by decide) ?_
            refine m_lcmp hc dX7_doesFor_88 ?_
            refine m_ifne hc (tgt := 94) dX7_doesFor_89 (by decide) (fun b_33 => ?_) (fun b_33 => ?_)
            · replace h := (if_neg b_33).symm.trans h
              refine m_lload_n hc dX7_doesFor_94 rfl ?_
              refine m_lconst hc (v := 1) dX7_doesFor_95 (by decide) ?_
              refine m_iload hc dX7_doesFor_96 rfl ?_
              refine m_lshl hc dX7_doesFor_98 ?_
              refine m_lor hc dX7_doesFor_99 ?_
              refine m_topL (fun x3_34 e_35 => ?_)
              replace h := nm_x e_35 h
              refine m_lstore_n hc (lv' := [some (.ref (gR G 212)), some (.int x1), some (.int x2), some (.long x3_34), none, some (.int x5_19), some (.int q_30)]) dX7_doesFor_100 (Nat.le_of_ble_eq_true rfl) rfl rfl ?_
              refine m_iinc hc (v := x5_19 + 1) (lv' := [some (.ref (gR G 212)), some (.int x1), some (.int x2), some (.long x3_34), none, some (.int (x5_19 + 1)), some (.int q_30)]) dX7_doesFor_101 rfl rfl rfl rfl ?_
              refine m_goto hc (tgt := 53) dX7_doesFor_104 (by decide) ?_
              exact m_fg [6] rfl (i_26 _ _ h)
            · replace h := (if_pos b_33).symm.trans h
              refine m_iconst hc (v := 0) dX7_doesFor_92 (by decide) ?_
              cases h
              have g_24 : some (0 : Int32) = some r := g_24
              cases g_24
              exact m_zret hc hr (v := (0 : Int32)) (by decide) dX7_doesFor_93
    exact m_fg [] rfl (L_23 _ _ _ c_21)
  have L_5 : ∀ (n_7 : Nat) (x3_1 : Int32), L_X7_doesFor_2 x1 x2 M n_7 x3_1 = some q_2 → WM G X (qQ G X (some (.int r)) M) M 2 [some (.ref (gR G 212)), some (.int x1), some (.int x2), some (.int x3_1), none, none, none] [] := by
    intro n_7
    induction n_7 with
    | zero =>
      intro x3_1 h
      cases (show none = some _ from h)
    | succ n_7 i_8 =>
      intro x3_1 h
      rw [L_X7_doesFor_2] at h
      refine m_iload_n hc dX7_doesFor_2 rfl ?_
      refine m_bipush hc (v := (7 : Int32)) dX7_doesFor_3 (by decide) ?_
      refine m_icge hc (tgt := 48) dX7_doesFor_5 (by decide) (fun b_10 => ?_) (fun b_10 => ?_)
      · replace h := (if_pos b_10).symm.trans h
        cases h
        exact m_fg [3] rfl (J_4 () g_6)
      · replace h := (if_neg b_10).symm.trans h
        refine m_aload_n hc dX7_doesFor_8 rfl ?_
        refine m_getR hc (q := 213) yO_212 rfl tbX7 0 (by decide) wf_X7_7 rfl dX7_doesFor_9 ?_
        refine m_sipush hc (v := (229 : Int32)) dX7_doesFor_12 (by decide) ?_
        refine m_bipush hc (v := (7 : Int32)) dX7_doesFor_15 (by decide) ?_
        refine m_iload_n hc dX7_doesFor_17 rfl ?_
        refine m_imul hc dX7_doesFor_18 ?_
        refine m_iadd hc dX7_doesFor_19 ?_
        refine m_iload_n hc dX7_doesFor_20 rfl ?_
        refine m_iadd hc dX7_doesFor_21 ?_
        obtain ⟨b_11, h⟩ := ck_o h
        refine m_iald hc yA_213 b_11 dX7_doesFor_22 ?_
        refine m_topI (fun x4_12 e_13 => ?_)
        replace h := nm_x e_13 h
        refine m_istore hc (lv' := [some (.ref (gR G 212)), some (.int x1), some (.int x2), some (.int x3_1), some (.int x4_12), none, none]) dX7_doesFor_23 (Nat.le_of_ble_eq_true rfl) rfl rfl ?_
        refine m_iload hc dX7_doesFor_25 rfl ?_
        refine m_iflt hc (tgt := 42) dX7_doesFor_27 (by decide) (fun b_14 => ?_) (fun b_14 => ?_)
        · replace h := (if_pos b_14).symm.trans h
          refine m_iinc hc (v := x3_1 + 1) (lv' := [some (.ref (gR G 212)), some (.int x1), some (.int x2), some (.int (x3_1 + 1)), some (.int x4_12), none, none]) dX7_doesFor_42 rfl rfl rfl rfl ?_
          refine m_goto hc (tgt := 2) dX7_doesFor_45 (by decide) ?_
          exact m_fg [4] rfl (i_8 _ h)
        · replace h := (if_neg b_14).symm.trans h
          refine m_iload hc dX7_doesFor_30 rfl ?_
          refine m_iload_n hc dX7_doesFor_32 rfl ?_
          refine m_iload_n hc dX7_doesFor_33 rfl ?_
          obtain ⟨q_15, c_16, h⟩ := bd_o h
          refine m_callSi hc (c_X7_standOf (d + 2) c_16) (by omega) (by decide) wm_X7_112 wt_X7_standOf wv_X7_standOf wc_X7_standOf wz_X7_standOf rfl (st := [.int x4_12]) rfl rfl (Nat.le_of_ble_eq_true rfl) dX7_doesFor_34 ?_
          refine m_iceq hc (tgt := 42) dX7_doesFor_37 (by decide) (fun b_17 => ?_) (fun b_17 => ?_)
          · replace h := (if_pos b_17).symm.trans h
            refine m_iinc hc (v := x3_1 + 1) (lv' := [some (.ref (gR G 212)), some (.int x1), some (.int x2), some (.int (x3_1 + 1)), some (.int x4_12), none, none]) dX7_doesFor_42 rfl rfl rfl rfl ?_
            refine m_goto hc (tgt := 2) dX7_doesFor_45 (by decide) ?_
            exact m_fg [4] rfl (i_8 _ h)
          · replace h := (if_neg b_17).symm.trans h
            refine m_iconst hc (v := 0) dX7_doesFor_40 (by decide) ?_
            cases h
            have g_6 : some (0 : Int32) = some r := g_6
            cases g_6
            exact m_zret hc hr (v := (0 : Int32)) (by decide) dX7_doesFor_41
  exact m_fg [] rfl (L_5 _ _ c_3)
def f_X7_does (x1 : Int32) (x2 : Int32) (M : Mm) : Option (Int32 × Mm) :=
 if (f_X7_isBeat x1) = 0 then (
 nm (f_X7_finding (-100001 : Int32) M) (fun q_2 =>
 some (q_2.1, q_2.2)))
else (
 if (f_X7_isDiagram x2) = 0 then (
 nm (f_X7_finding (-100001 : Int32) M) (fun q_5 =>
 some (q_5.1, q_5.2)))
else (
 Option.bind (f_X7_doesFor x1 x2 M) (fun q_7 =>
 if q_7 = 0 then (
 some ((0 : Int32), M))
else (
 some ((1 : Int32), M)))))
set_option maxRecDepth 100000 in
set_option maxHeartbeats 4000000 in
theorem c_X7_does {G : Gm} {l : Launch} (d : Nat) {x1 : Int32} {x2 : Int32} {M : Mm} {r : Int32 × Mm}  (h : f_X7_does x1 x2 M = some r) : Cm G l (d + 4) yX7_does cX7_does 3 (some .int) [.ref (gR G 212), .int x1, .int x2] M (some (.int r.1)) r.2 := by
  unfold f_X7_does at h
  refine m_met (lv := [some (.ref (gR G 212)), some (.int x1), some (.int x2)]) (own := RX7) (by decide +kernel) rfl rfl (Nat.le_of_ble_eq_true rfl) rfl ?_
  intro X hX hc hr
  subst hX
  refine m_iload_n hc dX7_does_0 rfl ?_
  refine m_callSi hc (c_X7_isBeat (d + 2) rfl) (by omega) (by decide) wm_X7_64 wt_X7_isBeat wv_X7_isBeat wc_X7_isBeat wz_X7_isBeat rfl (st := []) rfl rfl (Nat.le_of_ble_eq_true rfl) dX7_does_1 ?_
  refine m_ifeq hc (tgt := 31) dX7_does_4 (by decide) (fun b_1 => ?_) (fun b_1 => ?_)
  · replace h := (if_pos b_1).symm.trans h
    refine m_aload_n hc dX7_does_31 rfl ?_
    refine m_ldc hc dX7_does_32 wk_X7_83 ?_
    obtain ⟨q_2, c_3, h⟩ := nm_o h
    refine m_callVi hc yO_212 rfl (c_X7_finding (d + 3) c_3) (by omega) (by decide) wm_X7_72 wi_X7_finding we_X7_finding wn_X7 wc_X7_finding wy_X7_finding rfl (st := []) rfl rfl (Nat.le_of_ble_eq_true rfl) dX7_does_34 ?_
    cases h
    exact m_iret hc hr dX7_does_37
  · replace h := (if_neg b_1).symm.trans h
    refine m_iload_n hc dX7_does_7 rfl ?_
    refine m_callSi hc (c_X7_isDiagram (d + 2) rfl) (by omega) (by decide) wm_X7_115 wt_X7_isDiagram wv_X7_isDiagram wc_X7_isDiagram wz_X7_isDiagram rfl (st := []) rfl rfl (Nat.le_of_ble_eq_true rfl) dX7_does_8 ?_
    refine m_ifeq hc (tgt := 31) dX7_does_11 (by decide) (fun b_4 => ?_) (fun b_4 => ?_)
    · replace h := (if_pos b_4).symm.trans h
      refine m_aload_n hc dX7_does_31 rfl ?_
      refine m_ldc hc dX7_does_32 wk_X7_83 ?_
      obtain ⟨q_5, c_6, h⟩ := nm_o h
      refine m_callVi hc yO_212 rfl (c_X7_finding (d + 3) c_6) (by omega) (by decide) wm_X7_72 wi_X7_finding we_X7_finding wn_X7 wc_X7_finding wy_X7_finding rfl (st := []) rfl rfl (Nat.le_of_ble_eq_true rfl) dX7_does_34 ?_
      cases h
      exact m_iret hc hr dX7_does_37
    · replace h := (if_neg b_4).symm.trans h
      refine m_aload_n hc dX7_does_14 rfl ?_
      refine m_iload_n hc dX7_does_15 rfl ?_
      refine m_iload_n hc dX7_does_16 rfl ?_
      obtain ⟨q_7, c_8, h⟩ := bd_o h
      refine m_callVi hc yO_212 rfl (c_X7_doesFor (d + 0) c_8) (by omega) (by decide) wm_X7_124 wi_X7_doesFor we_X7_doesFor wn_X7 wc_X7_doesFor wy_X7_doesFor rfl (st := []) rfl rfl (Nat.le_of_ble_eq_true rfl) dX7_does_17 ?_
      refine m_ifeq hc (tgt := 27) dX7_does_20 (by decide) (fun b_9 => ?_) (fun b_9 => ?_)
      · replace h := (if_pos b_9).symm.trans h
        refine m_iconst hc (v := 0) dX7_does_27 (by decide) ?_
        refine m_goto hc (tgt := 37) dX7_does_28 (by decide) ?_
        cases h
        exact m_iret hc hr dX7_does_37
      · replace h := (if_neg b_9).symm.trans h
        refine m_iconst hc (v := 1) dX7_does_23 (by decide) ?_
        refine m_goto hc (tgt := 37) dX7_does_24 (by decide) ?_
        cases h
        exact m_iret hc hr dX7_does_37
