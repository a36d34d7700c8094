def f_X7_without (x1 : Int32) (x2 : Int32) (M : Mm) : Option (Int32 × Mm) :=
 if (f_X7_isBeat x1) = 0 then (
 nm (f_X7_finding (-100001 : Int32) M) (fun q_2 =>
 some (q_2.1, q_2.2)))
else (
 if (f_X7_isPedal x2) = 0 then (
 nm (f_X7_finding (-100001 : Int32) M) (fun q_28 =>
 some (q_28.1, q_28.2)))
else (
 nm ((((229 : Int32) + ((7 : Int32) * x1)) + x2)) (fun x3_5 =>
 ck (ib x3_5 320) (
 nm ((M 213 x3_5.toNatClampNeg)) (fun x4_8 =>
 if 0 ≤ x4_8 then (
 Option.bind (f_X7_tell M) (fun q_11 =>
 if q_11.1 = (100000 : Int32) then (
 nm (f_X7_finding (-100006 : Int32) q_11.2) (fun q_24 =>
 some (q_24.1, q_24.2)))
else (
 ck (ib x3_5 320) (
 nm (mw q_11.2 213 x3_5.toNatClampNeg (-1 : Int32)) (fun M_15 =>
 Option.bind (f_X7_tell M_15) (fun q_17 =>
 nm ((q_11.1 - q_17.1)) (fun x6_19 =>
 ck (ib x3_5 320) (
 nm (mw q_17.2 213 x3_5.toNatClampNeg x4_8) (fun M_22 =>
 some (x6_19, M_22))))))))))
else (
 nm (f_X7_finding (-100004 : Int32) M) (fun q_26 =>
 some (q_26.1, q_26.2))))))))
set_option maxRecDepth 100000 in
set_option maxHeartbeats 4000000 in
theorem c_X7_without {G : Gm} {l : Launch} (d : Nat) {x1 : Int32} {x2 : Int32} {M : Mm} {r : Int32 × Mm}  (h : f_X7_without x1 x2 M = some r) : Cm G l (d + 6) yX7_without cX7_without 7 (some .int) [.ref (gR G 212), .int x1, .int x2] M (some (.int r.1)) r.2 := by
  unfold f_X7_without at h
  refine m_met (lv := [some (.ref (gR G 212)), some (.int x1), some (.int x2), none, none, none, none]) (own := RX7) (by decide +kernel) rfl rfl (Nat.le_of_ble_eq_true rfl) rfl ?_
  intro X hX hc hr
  subst hX
  refine m_iload_n hc dX7_without_0 rfl ?_
  refine m_callSi hc (c_X7_isBeat (d + 4) rfl) (by omega) (by decide) wm_X7_64 wt_X7_isBeat wv_X7_isBeat wc_X7_isBeat wz_X7_isBeat rfl (st := []) rfl rfl (Nat.le_of_ble_eq_true rfl) dX7_without_1 ?_
  refine m_ifeq hc (tgt := 14) dX7_without_4 (by decide) (fun b_1 => ?_) (fun b_1 => ?_)
  · replace h := (if_pos b_1).symm.trans h
    refine m_aload_n hc dX7_without_14 rfl ?_
    refine m_ldc hc dX7_without_15 wk_X7_83 ?_
    obtain ⟨q_2, c_3, h⟩ := nm_o h
    refine m_callVi hc yO_212 rfl (c_X7_finding (d + 5) c_3) (by omega) (by decide) wm_X7_72 wi_X7_finding we_X7_finding wn_X7 wc_X7_finding wy_X7_finding rfl (st := []) rfl rfl (Nat.le_of_ble_eq_true rfl) dX7_without_17 ?_
    cases h
    exact m_iret hc hr dX7_without_20
  · replace h := (if_neg b_1).symm.trans h
    refine m_iload_n hc dX7_without_7 rfl ?_
    refine m_callSi hc (c_X7_isPedal (d + 4) rfl) (by omega) (by decide) wm_X7_103 wt_X7_isPedal wv_X7_isPedal wc_X7_isPedal wz_X7_isPedal rfl (st := []) rfl rfl (Nat.le_of_ble_eq_true rfl) dX7_without_8 ?_
    refine m_ifne hc (tgt := 21) dX7_without_11 (by decide) (fun b_4 => ?_) (fun b_4 => ?_)
    · replace h := (if_neg b_4).symm.trans h
      refine m_sipush hc (v := (229 : Int32)) dX7_without_21 (by decide) ?_
      refine m_bipush hc (v := (7 : Int32)) dX7_without_24 (by decide) ?_
      refine m_iload_n hc dX7_without_26 rfl ?_
      refine m_imul hc dX7_without_27 ?_
      refine m_iadd hc dX7_without_28 ?_
      refine m_iload_n hc dX7_without_29 rfl ?_
      refine m_iadd hc dX7_without_30 ?_
      refine m_topI (fun x3_5 e_6 => ?_)
      replace h := nm_x e_6 h
      refine m_istore_n hc (lv' := [some (.ref (gR G 212)), some (.int x1), some (.int x2), some (.int x3_5), none, none, none]) dX7_without_31 (Nat.le_of_ble_eq_true rfl) rfl rfl ?_
      refine m_aload_n hc dX7_without_32 rfl ?_
      refine m_getR hc (q := 213) yO_212 rfl tbX7 0 (by decide) wf_X7_7 rfl dX7_without_33 ?_
      refine m_iload_n hc dX7_without_36 rfl ?_
      obtain ⟨b_7, h⟩ := ck_o h
      refine m_iald hc yA_213 b_7 dX7_without_37 ?_
      refine m_topI (fun x4_8 e_9 => ?_)
      replace h := nm_x e_9 h
      refine m_istore hc (lv' := [some (.ref (gR G 212)), some (.int x1), some (.int x2), some (.int x3_5), some (.int x4_8), none, none]) dX7_without_38 (Nat.le_of_ble_eq_true rfl) rfl rfl ?_
      refine m_iload hc dX7_without_40 rfl ?_
      refine m_ifge hc (tgt := 52) dX7_without_42 (by decide) (fun b_10 => ?_) (fun b_10 => ?_)
      · replace h := (if_pos b_10).symm.trans h
        refine m_aload_n hc dX7_without_52 rfl ?_
        obtain ⟨q_11, c_12, h⟩ := bd_o h
        refine m_callVi hc yO_212 rfl (c_X7_tell (d + 0) c_12) (by omega) (by decide) wm_X7_150 wi_X7_tell we_X7_tell wn_X7 wc_X7_tell wy_X7_tell rfl (st := []) rfl rfl (Nat.le_of_ble_eq_true rfl) dX7_without_53 ?_
        refine m_istore hc (lv' := [some (.ref (gR G 212)), some (.int x1), some (.int x2), some (.int x3_5), some (.int x4_8), some (.int q_11.1), none]) dX7_without_56 (Nat.le_of_ble_eq_true rfl) rfl rfl ?_
        refine m_iload hc dX7_without_58 rfl ?_
        refine m_ldc hc dX7_without_60 wk_X7_140 ?_
        refine m_icne hc (tgt := 72) dX7_without_62 (by decide) (fun b_13 => ?_) (fun b_13 => ?_)
        · replace h := (if_neg b_13).symm.trans h
          refine m_aload_n hc dX7_without_72 rfl ?_
          refine m_getR hc (q := 213) yO_212 rfl tbX7 0 (by decide) wf_X7_7 rfl dX7_without_73 ?_
          refine m_iload_n hc dX7_without_76 rfl ?_
          refine m_iconst hc (v := (-1)) dX7_without_77 (by decide) ?_
          obtain ⟨b_14, h⟩ := ck_o h
          refine m_iast hc yA_213 b_14 dX7_without_78 ?_
          refine m_topM (fun M_15 e_16 => ?_)
          replace h := nm_x e_16 h
          refine m_iload hc dX7_without_79 rfl ?_
          refine m_aload_n hc dX7_without_81 rfl ?_
          obtain ⟨q_17, c_18, h⟩ := bd_o h
          refine m_callVi hc yO_212 rfl (c_X7_tell (d + 0) c_18) (by omega) (by decide) wm_X7_150 wi_X7_tell we_X7_tell wn_X7 wc_X7_tell wy_X7_tell rfl (st := [.int q_11.1]) rfl rfl (Nat.le_of_ble_eq_true rfl) dX7_without_82 ?_
          refine m_isub hc dX7_without_85 ?_
          refine m_topI (fun x6_19 e_20 => ?_)
          replace h := nm_x e_20 h
          refine m_istore hc (lv' := [some (.ref (gR G 212)), some (.int x1), some (.int x2), some (.int x3_5), some (.int x4_8), some (.int q_11.1), some (.int x6_19)]) dX7_without_86 (Nat.le_of_ble_eq_true rfl) rfl rfl ?_
          refine m_aload_n hc dX7_without_88 rfl ?_
          refine m_getR hc (q := 213) yO_212 rfl tbX7 0 (by decide) wf_X7_7 rfl dX7_without_89 ?_
          refine m_iload_n hc dX7_without_92 rfl ?_
          refine m_iload hc dX7_without_93 rfl ?_
          obtain ⟨b_21, h⟩ := ck_o h
          refine m_iast hc yA_213 b_21 dX7_without_95 ?_
          refine m_topM (fun M_22 e_23 => ?_)
          replace h := nm_x e_23 h
          refine m_iload hc dX7_without_96 rfl ?_
          cases h
          exact m_iret hc hr dX7_without_98
        · replace h := (if_pos b_13).symm.trans h
          refine m_aload_n hc dX7_without_65 rfl ?_
          refine m_ldc hc dX7_without_66 wk_X7_71 ?_
          obtain ⟨q_24, c_25, h⟩ := nm_o h
          refine m_callVi hc yO_212 rfl (c_X7_finding (d + 5) c_25) (by omega) (by decide) wm_X7_72 wi_X7_finding we_X7_finding wn_X7 wc_X7_finding wy_X7_finding rfl (st := []) rfl rfl (Nat.le_of_ble_eq_true rfl) dX7_without_68 ?_
          cases h
          exact m_iret hc hr dX7_without_71
      · replace h := (if_neg b_10).symm.trans h
        refine m_aload_n hc dX7_without_45 rfl ?_
        refine m_ldc hc dX7_without_46 wk_X7_97 ?_
        obtain ⟨q_26, c_27, h⟩ := nm_o h
        refine m_callVi hc yO_212 rfl (c_X7_finding (d + 5) c_27) (by omega) (by decide) wm_X7_72 wi_X7_finding we_X7_finding wn_X7 wc_X7_finding wy_X7_finding rfl (st := []) rfl rfl (Nat.le_of_ble_eq_true rfl) dX7_without_48 ?_
        cases h
        exact m_iret hc hr dX7_without_51
    · replace h := (if_pos b_4).symm.trans h
      refine m_aload_n hc dX7_without_14 rfl ?_
      refine m_ldc hc dX7_without_15 wk_X7_83 ?_
      obtain ⟨q_28, c_29, h⟩ := nm_o h
      refine m_callVi hc yO_212 rfl (c_X7_finding (d + 5) c_29) (by omega) (by decide) wm_X7_72 wi_X7_finding we_X7_finding wn_X7 wc_X7_finding wy_X7_finding rfl (st := []) rfl rfl (Nat.le_of_ble_eq_true rfl) dX7_without_17 ?_
      cases h
      exact m_iret hc hr dX7_without_20
def L_X7_canHand_5 (x2 : Int32) (M : Mm) : Nat → Int32 → Int32 → Option (Int32)
  | 0, _, _ => none
  | n_8 + 1, x3_1, x4_2 =>
    if x2 ≤ x4_2 then (
     some x3_1)
    else (
     ck (ib x4_2 6) (
     nm ((x3_1 + (M 226 x4_2.toNatClampNeg))) (fun x3_12 =>
     L_X7_canHand_5 x2 M n_8 x3_12 (x4_2 + 1))))
def f_X7_canHand (x1 : Int32) (x2 : Int32) (M : Mm) : Option (Int32) :=
 Option.bind (L_X7_canHand_5 x2 M FU (0 : Int32) x1) (fun q_3 =>
 if x1 = x2 then (
 some (1 : Int32))
else (
 if (4 : Int32) < q_3 then (
 some (0 : Int32))
else (
 ck (ib (x2 - (1 : Int32)) 6) (
 ck (ib x1 6) (
 if (9 : Int32) < ((M 225 (x2 - (1 : Int32)).toNatClampNeg) - (M 225 x1.toNatClampNeg)) then (
 some (0 : Int32))
else (
 some (1 : Int32)))))))
set_option maxRecDepth 100000 in
set_option maxHeartbeats 4000000 in
theorem c_X7_canHand {G : Gm} {l : Launch} (d : Nat) {x1 : Int32} {x2 : Int32} {M : Mm} {r : Int32}  (h : f_X7_canHand x1 x2 M = some r) : Cm G l (d + 0) yX7_canHand cX7_canHand 5 (some .boolean) [.ref (gR G 212), .int x1, .int x2] M (some (.int r)) M := by
  unfold f_X7_canHand at h
  refine m_met (lv := [some (.ref (gR G 212)), some (.int x1), some (.int x2), none, none]) (own := RX7) (by decide +kernel) rfl rfl (Nat.le_of_ble_eq_true rfl) rfl ?_
  intro X hX hc hr
  subst hX
  refine m_iconst hc (v := 0) dX7_canHand_0 (by decide) ?_
  refine m_istore_n hc (lv' := [some (.ref (gR G 212)), some (.int x1), some (.int x2), some (.int (0 : Int32)), none]) dX7_canHand_1 (Nat.le_of_ble_eq_true rfl) rfl rfl ?_
  refine m_iload_n hc dX7_canHand_2 rfl ?_
  refine m_istore hc (lv' := [some (.ref (gR G 212)), some (.int x1), some (.int x2), some (.int (0 : Int32)), some (.int x1)]) dX7_canHand_3 (Nat.le_of_ble_eq_true rfl) rfl rfl ?_
  obtain ⟨q_3, c_4, h⟩ := bd_o h
  have J_5 : WM G X (qQ G X (some (.int r)) M) M 27 [some (.ref (gR G 212)), some (.int x1), some (.int x2), some (.int q_3), none] [] := by
    refine m_iload_n hc dX7_canHand_27 rfl ?_
    refine m_iload_n hc dX7_canHand_28 rfl ?_
    refine m_iceq hc (tgt := 57) dX7_canHand_29 (by decide) (fun b_14 => ?_) (fun b_14 => ?_)
    · replace h := (if_pos b_14).symm.trans h
      refine m_iconst hc (v := 1) dX7_canHand_57 (by decide) ?_
      refine m_goto hc (tgt := 62) dX7_canHand_58 (by decide) ?_
      cases h
      exact m_zret hc hr (v := (1 : Int32)) (by decide) dX7_canHand_62
    · replace h := (if_neg b_14).symm.trans h
      refine m_iload_n hc dX7_canHand_32 rfl ?_
      refine m_iconst hc (v := 4) dX7_canHand_33 (by decide) ?_
      refine m_icgt hc (tgt := 61) dX7_canHand_34 (by decide) (fun b_15 => ?_) (fun b_15 => ?_)
      · replace h := (if_pos b_15).symm.trans h
        refine m_iconst hc (v := 0) dX7_canHand_61 (by decide) ?_
        cases h
        exact m_zret hc hr (v := (0 : Int32)) (by decide) dX7_canHand_62
      · replace h := (if_neg b_15).symm.trans h
        refine m_aload_n hc dX7_canHand_37 rfl ?_
        refine m_getR hc (q := 225) yO_212 rfl tbX7 15 (by decide) wf_X7_47 rfl dX7_canHand_38 ?_
        refine m_iload_n hc dX7_canHand_41 rfl ?_
        refine m_iconst hc (v := 1) dX7_canHand_42 (by decide) ?_
        refine m_isub hc dX7_canHand_43 ?_
        obtain ⟨b_16, h⟩ := ck_o h
        refine m_iald hc yA_225 b_16 dX7_canHand_44 ?_
        refine m_aload_n hc dX7_canHand_45 rfl ?_
        refine m_getR hc (q := 225) yO_212 rfl tbX7 15 (by decide) wf_X7_47 rfl dX7_canHand_46 ?_
        refine m_iload_n hc dX7_canHand_49 rfl ?_
        obtain ⟨b_17, h⟩ := ck_o h
        refine m_iald hc yA_225 b_17 dX7_canHand_50 ?_
        refine m_isub hc dX7_canHand_51 ?_
        refine m_bipush hc (v := (9 : Int32)) dX7_canHand_52 (by decide) ?_
        refine m_icgt hc (tgt := 61) dX7_canHand_54 (by decide) (fun b_18 => ?_) (fun b_18 => ?_)
        · replace h := (if_pos b_18).symm.trans h
          refine m_iconst hc (v := 0) dX7_canHand_61 (by decide) ?_
          cases h
          exact m_zret hc hr (v := (0 : Int32)) (by decide) dX7_canHand_62
        · replace h := (if_neg b_18).symm.trans h
          refine m_iconst hc (v := 1) dX7_canHand_57 (by decide) ?_
          refine m_goto hc (tgt := 62) dX7_canHand_58 (by decide) ?_
          cases h
          exact m_zret hc hr (v := (1 : Int32)) (by decide) dX7_canHand_62
  have L_6 : ∀ (n_8 : Nat) (x3_1 : Int32) (x4_2 : Int32), L_X7_canHand_5 x2 M n_8 x3_1 x4_2 = some q_3 → WM G X (qQ G X (some (.int r)) M) M 5 [some (.ref (gR G 212)), some (.int x1), some (.int x2), some (.int x3_1), some (.int x4_2)] [] := by
    intro n_8
    induction n_8 with
    | zero =>
      intro x3_1 x4_2 h
      cases (show none = some _ from h)
    | succ n_8 i_9 =>
      intro x3_1 x4_2 h
      rw [L_X7_canHand_5] at h
      refine m_iload hc dX7_canHand_5 rfl ?_
      refine m_iload_n hc dX7_canHand_7 rfl ?_
      refine m_icge hc (tgt := 27) dX7_canHand_8 (by decide) (fun b_10 => ?_) (fun b_10 => ?_)
      · replace h := (if_pos b_10).symm.trans h
        cases h
        exact m_fg [4] rfl J_5
      · replace h := (if_neg b_10).symm.trans h
        refine m_iload_n hc dX7_canHand_11 rfl ?_
        refine m_aload_n hc dX7_canHand_12 rfl ?_
        refine m_getR hc (q := 226) yO_212 rfl tbX7 16 (by decide) wf_X7_50 rfl dX7_canHand_13 ?_
        refine m_iload hc dX7_canHand_16 rfl ?_
        obtain ⟨b_11, h⟩ := ck_o h
        refine m_iald hc yA_226 b_11 dX7_canHand_18 ?_
        refine m_iadd hc dX7_canHand_19 ?_
        refine m_topI (fun x3_12 e_13 => ?_)
        replace h := nm_x e_13 h
        refine m_istore_n hc (lv' := [some (.ref (gR G 212)), some (.int x1), some (.int x2), some (.int x3_12), some (.int x4_2)]) dX7_canHand_20 (Nat.le_of_ble_eq_true rfl) rfl rfl ?_
        refine m_iinc hc (v := x4_2 + 1) (lv' := [some (.ref (gR G 212)), some (.int x1), some (.int x2), some (.int x3_12), some (.int (x4_2 + 1))]) dX7_canHand_21 rfl rfl rfl rfl ?_
        refine m_goto hc (tgt := 5) dX7_canHand_24 (by decide) ?_
        exact m_fg [] rfl (i_9 _ _ h)
  exact m_fg [] rfl (L_6 _ _ _ c_4)
def L_X7_splitOf_63 (q_14 : Int32) : Nat → Int32 → Mm → Option (Int32 × Mm)
  | 0, _, _ => none
  | n_36 + 1, x7_29, M_30 =>
    if x7_29 ≤ 0 then (
     some (x7_29, M_30))
    else (
     ck (ib (x7_29 - (1 : Int32)) 6) (
     if (M_30 225 (x7_29 - (1 : Int32)).toNatClampNeg) ≤ q_14 then (
     some (x7_29, M_30))
    else (
     ck (ib (x7_29 - (1 : Int32)) 6) (
     ck (ib x7_29 6) (
     nm (mw M_30 225 x7_29.toNatClampNeg (M_30 225 (x7_29 - (1 : Int32)).toNatClampNeg)) (fun M_43 =>
     ck (ib (x7_29 - (1 : Int32)) 6) (
     ck (ib x7_29 6) (
     nm (mw M_43 226 x7_29.toNatClampNeg (M_43 226 (x7_29 - (1 : Int32)).toNatClampNeg)) (fun M_47 =>
     L_X7_splitOf_63 q_14 n_36 (x7_29 + (-1)) M_47)))))))))
def L_X7_splitOf_12 (x1 : Int32) (x2 : Int32) (x3_2 : Int32) : Nat → Int32 → Mm → Option (Mm)
  | 0, _, _ => none
  | n_11 + 1, x4_4, M_5 =>
    if x3_2 ≤ x4_4 then (
     some M_5)
    else (
     Option.bind (f_X7_stringOf x1 x4_4 x2 M_5) (fun q_14 =>
     Option.bind (f_X7_note x1 x4_4 (0 : Int32) M_5) (fun q_16 =>
     Option.bind (
     if q_16 = (1 : Int32) then (
     some (2 : Int32))
    else (
     Option.bind (f_X7_note x1 x4_4 (0 : Int32) M_5) (fun q_26 =>
     if q_26 = (3 : Int32) then (
     some (2 : Int32))
    else (
     some (1 : Int32))))) (fun q_22 =>
     Option.bind (L_X7_splitOf_63 q_14 FU x4_4 M_5) (fun q_31 =>
     ck (ib q_31.1 6) (
     nm (mw q_31.2 225 q_31.1.toNatClampNeg q_14) (fun M_50 =>
     ck (ib q_31.1 6) (
     nm (mw M_50 226 q_31.1.toNatClampNeg q_22) (fun M_53 =>
     L_X7_splitOf_12 x1 x2 x3_2 n_11 (x4_4 + 1) M_53)))))))))
def L_X7_splitOf_147 (x3_2 : Int32) (q_6 : Mm) : Nat → Int32 → Option ((Unit) ⊕ (Int32 × Mm))
  | 0, _ => none
  | n_61 + 1, x4_55 =>
    if x3_2 < x4_55 then (
     some (.inl ()))
    else (
     Option.bind (f_X7_canHand (0 : Int32) x4_55 q_6) (fun q_65 =>
     if q_65 = 0 then (
     L_X7_splitOf_147 x3_2 q_6 n_61 (x4_55 + 1))
    else (
     Option.bind (f_X7_canHand x4_55 x3_2 q_6) (fun q_68 =>
     if q_68 = 0 then (
     L_X7_splitOf_147 x3_2 q_6 n_61 (x4_55 + 1))
    else (
     some (.inr (x4_55, q_6)))))))
def f_X7_splitOf (x1 : Int32) (x2 : Int32) (M : Mm) : Option (Int32 × Mm) :=
 ck (ib ((1 : Int32) + x1) 320) (
 nm ((M 213 ((1 : Int32) + x1).toNatClampNeg)) (fun x3_2 =>
 Option.bind (L_X7_splitOf_12 x1 x2 x3_2 FU (0 : Int32) M) (fun q_6 =>
 Option.bind (L_X7_splitOf_147 x3_2 q_6 FU (0 : Int32)) (fun q_56 => Sum.elim (fun w_63 =>
 some ((-1 : Int32), q_6)) (fun r => some r) q_56))))
set_option maxRecDepth 100000 in
set_option maxHeartbeats 4000000 in
theorem c_X7_splitOf {G : Gm} {l : Launch} (d : Nat) {x1 : Int32} {x2 : Int32} {M : Mm} {r : Int32 × Mm}  (h : f_X7_splitOf x1 x2 M = some r) : Cm G l (d + 3) yX7_splitOf cX7_splitOf 8 (some .int) [.ref (gR G 212), .int x1, .int x2] M (some (.int r.1)) r.2 := by
  unfold f_X7_splitOf at h
  refine m_met (lv := [some (.ref (gR G 212)), some (.int x1), some (.int x2), none, none, none, none, none]) (own := RX7) (by decide +kernel) rfl rfl (Nat.le_of_ble_eq_true rfl) rfl ?_
  intro X hX hc hr
  subst hX
  refine m_aload_n hc dX7_splitOf_0 rfl ?_
  refine m_getR hc (q := 213) yO_212 rfl tbX7 0 (by decide) wf_X7_7 rfl dX7_splitOf_1 ?_
  refine m_iconst hc (v := 1) dX7_splitOf_4 (by decide) ?_
  refine m_iload_n hc dX7_splitOf_5 rfl ?_
  refine m_iadd hc dX7_splitOf_6 ?_
  obtain ⟨b_1, h⟩ := ck_o h
  refine m_iald hc yA_213 b_1 dX7_splitOf_7 ?_
  refine m_topI (fun x3_2 e_3 => ?_)
  replace h := nm_x e_3 h
  refine m_istore_n hc (lv' := [some (.ref (gR G 212)), some (.int x1), some (.int x2), some (.int x3_2), none, none, none, none]) dX7_splitOf_8 (Nat.le_of_ble_eq_true rfl) rfl rfl ?_
  refine m_iconst hc (v := 0) dX7_splitOf_9 (by decide) ?_
  refine m_istore hc (lv' := [some (.ref (gR G 212)), some (.int x1), some (.int x2), some (.int x3_2), some (.int (0 : Int32)), none, none, none]) dX7_splitOf_10 (Nat.le_of_ble_eq_true rfl) rfl rfl ?_
  obtain ⟨q_6, c_7, h⟩ := bd_o h
  have J_8 : WM G X (qQ G X (some (.int r.1)) r.2) q_6 144 [some (.ref (gR G 212)), some (.int x1), some (.int x2), some (.int x3_2), none, none, none, none] [] := by
    refine m_iconst hc (v := 0) dX7_splitOf_144 (by decide) ?_
    refine m_istore hc (lv' := [some (.ref (gR G 212)), some (.int x1), some (.int x2), some (.int x3_2), some (.int (0 : Int32)), none, none, none]) dX7_splitOf_145 (Nat.le_of_ble_eq_true rfl) rfl rfl ?_
    obtain ⟨q_56, c_57, g_60⟩ := bd_o h
    have J_58 : ∀ (w_63 : Unit), (some ((-1 : Int32), q_6)) = some r → WM G X (qQ G X (some (.int r.1)) r.2) q_6 182 [some (.ref (gR G 212)), some (.int x1), some (.int x2), some (.int x3_2), none, none, none, none] [] := by
      intro w_63 h
      refine m_iconst hc (v := (-1)) dX7_splitOf_182 (by decide) ?_
      cases h
      exact m_iret hc hr dX7_splitOf_183
    have L_59 : ∀ (n_61 : Nat) (x4_55 : Int32), L_X7_splitOf_147 x3_2 q_6 n_61 x4_55 = some q_56 → WM G X (qQ G X (some (.int r.1)) r.2) q_6 147 [some (.ref (gR G 212)), some (.int x1), some (.int x2), some (.int x3_2), some (.int x4_55), none, none, none] [] := by
      intro n_61
      induction n_61 with
      | zero =>
        intro x4_55 h
        cases (show none = some _ from h)
      | succ n_61 i_62 =>
        intro x4_55 h
        rw [L_X7_splitOf_147] at h
        refine m_iload hc dX7_splitOf_147 rfl ?_
        refine m_iload_n hc dX7_splitOf_149 rfl ?_
        refine m_icgt hc (tgt := 182) dX7_splitOf_150 (by decide) (fun b_64 => ?_) (fun b_64 => ?_)
        · replace h := (if_pos b_64).symm.trans h
          cases h
          exact m_fg [4] rfl (J_58 () g_60)
        · replace h := (if_neg b_64).symm.trans h
          refine m_aload_n hc dX7_splitOf_153 rfl ?_
          refine m_iconst hc (v := 0) dX7_splitOf_154 (by decide) ?_
          refine m_iload hc dX7_splitOf_155 rfl ?_
          obtain ⟨q_65, c_66, h⟩ := bd_o h
          refine m_callVi hc yO_212 rfl (c_X7_canHand (d + 2) c_66) (by omega) (by decide) wm_X7_159 wi_X7_canHand we_X7_canHand wn_X7 wc_X7_canHand wy_X7_canHand rfl (st := []) rfl rfl (Nat.le_of_ble_eq_true rfl) dX7_splitOf_157 ?_
          refine m_ifeq hc (tgt := 176) dX7_splitOf_160 (by decide) (fun b_67 => ?_) (fun b_67 => ?_)
          · replace h := (if_pos b_67).symm.trans h
            refine m_iinc hc (v := x4_55 + 1) (lv' := [some (.ref (gR G 212)), some (.int x1), some (.int x2), some (.int x3_2), some (.int (x4_55 + 1)), none, none, none]) dX7_splitOf_176 rfl rfl rfl rfl ?_
            refine m_goto hc (tgt := 147) dX7_splitOf_179 (by decide) ?_
            exact m_fg [] rfl (i_62 _ h)
          · replace h := (if_neg b_67).symm.trans h
            refine m_aload_n hc dX7_splitOf_163 rfl ?_
            refine m_iload hc dX7_splitOf_164 rfl ?_
            refine m_iload_n hc dX7_splitOf_166 rfl ?_
            obtain ⟨q_68, c_69, h⟩ := bd_o h
            refine m_callVi hc yO_212 rfl (c_X7_canHand (d + 2) c_69) (by omega) (by decide) wm_X7_159 wi_X7_canHand we_X7_canHand wn_X7 wc_X7_canHand wy_X7_canHand rfl (st := []) rfl rfl (Nat.le_of_ble_eq_true rfl) dX7_splitOf_167 ?_
            refine m_ifeq hc (tgt := 176) dX7_splitOf_170 (by decide) (fun b_70 => ?_) (fun b_70 => ?_)
            · replace h := (if_pos b_70).symm.trans h
              refine m_iinc hc (v := x4_55 + 1) (lv' := [some (.ref (gR G 212)), some (.int x1), some (.int x2), some (.int x3_2), some (.int (x4_55 + 1)), none, none, none]) dX7_splitOf_176 rfl rfl rfl rfl ?_
              refine m_goto hc (tgt := 147) dX7_splitOf_179 (by decide) ?_
              exact m_fg [] rfl (i_62 _ h)
            · replace h := (if_neg b_70).symm.trans h
              refine m_iload hc dX7_splitOf_173 rfl ?_
              cases h
              have g_60 : some (x4_55, q_6) = some r := g_60
              cases g_60
              exact m_iret hc hr dX7_splitOf_175
    exact m_fg [] rfl (L_59 _ _ c_57)
  have L_9 : ∀ (n_11 : Nat) (x4_4 : Int32) (M_5 : Mm), L_X7_splitOf_12 x1 x2 x3_2 n_11 x4_4 M_5 = some q_6 → WM G X (qQ G X (some (.int r.1)) r.2) M_5 12 [some (.ref (gR G 212)), some (.int x1), some (.int x2), some (.int x3_2), some (.int x4_4), none, none, none] [] := by
    intro n_11
    induction n_11 with
    | zero =>
      intro x4_4 M_5 h
      cases (show none = some _ from h)
    | succ n_11 i_12 =>
      intro x4_4 M_5 h
      rw [L_X7_splitOf_12] at h
      refine m_iload hc dX7_splitOf_12 rfl ?_
      refine m_iload_n hc dX7_splitOf_14 rfl ?_
      refine m_icge hc (tgt := 144) dX7_splitOf_15 (by decide) (fun b_13 => ?_) (fun b_13 => ?_)
      · replace h := (if_pos b_13).symm.trans h
        cases h
        exact m_fg [4] rfl J_8
      · replace h := (if_neg b_13).symm.trans h
        refine m_aload_n hc dX7_splitOf_18 rfl ?_
        refine m_iload_n hc dX7_splitOf_19 rfl ?_
        refine m_iload hc dX7_splitOf_20 rfl ?_
        refine m_iload_n hc dX7_splitOf_22 rfl ?_
        obtain ⟨q_14, c_15, h⟩ := bd_o h
        refine m_callVi hc yO_212 rfl (c_X7_stringOf (d + 0) c_15) (by omega) (by decide) wm_X7_121 wi_X7_stringOf we_X7_stringOf wn_X7 wc_X7_stringOf wy_X7_stringOf rfl (st := []) rfl rfl (Nat.le_of_ble_eq_true rfl) dX7_splitOf_23 ?_
        refine m_istore hc (lv' := [some (.ref (gR G 212)), some (.int x1), some (.int x2), some (.int x3_2), some (.int x4_4), some (.int q_14), none, none]) dX7_splitOf_26 (Nat.le_of_ble_eq_true rfl) rfl rfl ?_
        refine m_aload_n hc dX7_splitOf_28 rfl ?_
        refine m_iload_n hc dX7_splitOf_29 rfl ?_
        refine m_iload hc dX7_splitOf_30 rfl ?_
        refine m_iconst hc (v := 0) dX7_splitOf_32 (by decide) ?_
        obtain ⟨q_16, c_17, h⟩ := bd_o h
        refine m_callVi hc yO_212 rfl (c_X7_note (d + 2) c_17) (by omega) (by decide) wm_X7_93 wi_X7_note we_X7_note wn_X7 wc_X7_note wy_X7_note rfl (st := []) rfl rfl (Nat.le_of_ble_eq_true rfl) dX7_splitOf_33 ?_
        refine m_iconst hc (v := 1) dX7_splitOf_36 (by decide) ?_
        obtain ⟨q_22, c_23, h⟩ := bd_o h
        have J_24 : WM G X (qQ G X (some (.int r.1)) r.2) M_5 57 [some (.ref (gR G 212)), some (.int x1), some (.int x2), some (.int x3_2), some (.int x4_4), some (.int q_14), none, none] [.int q_22] := by
          refine m_istore hc (lv' := [some (.ref (gR G 212)), some (.int x1), some (.int x2), some (.int x3_2), some (.int x4_4), some (.int q_14), some (.int q_22), none]) dX7_splitOf_57 (Nat.le_of_ble_eq_true rfl) rfl rfl ?_
          refine m_iload hc dX7_splitOf_59 rfl ?_
          refine m_istore hc (lv' := [some (.ref (gR G 212)), some (.int x1), some (.int x2), some (.int x3_2), some (.int x4_4), some (.int q_14), some (.int q_22), some (.int x4_4)]) dX7_splitOf_61 (Nat.le_of_ble_eq_true rfl) rfl rfl ?_
          obtain ⟨q_31, c_32, h⟩ := bd_o h
          have J_33 : WM G X (qQ G X (some (.int r.1)) r.2) q_31.2 120 [some (.ref (gR G 212)), some (.int x1), some (.int x2), some (.int x3_2), some (.int x4_4), some (.int q_14), some (.int q_22), some (.int q_31.1)] [] := by
            refine m_aload_n hc dX7_splitOf_120 rfl ?_
            refine m_getR hc (q := 225) yO_212 rfl tbX7 15 (by decide) wf_X7_47 rfl dX7_splitOf_121 ?_
            refine m_iload hc dX7_splitOf_124 rfl ?_
            refine m_iload hc dX7_splitOf_126 rfl ?_
            obtain ⟨b_49, h⟩ := ck_o h
            refine m_iast hc yA_225 b_49 dX7_splitOf_128 ?_
            refine m_topM (fun M_50 e_51 => ?_)
            replace h := nm_x e_51 h
            refine m_aload_n hc dX7_splitOf_129 rfl ?_
            refine m_getR hc (q := 226) yO_212 rfl tbX7 16 (by decide) wf_X7_50 rfl dX7_splitOf_130 ?_
            refine m_iload hc dX7_splitOf_133 rfl ?_
            refine m_iload hc dX7_splitOf_135 rfl ?_
            obtain ⟨b_52, h⟩ := ck_o h
            refine m_iast hc yA_226 b_52 dX7_splitOf_137 ?_
            refine m_topM (fun M_53 e_54 => ?_)
            replace h := nm_x e_54 h
            refine m_iinc hc (v := x4_4 + 1) (lv' := [some (.ref (gR G 212)), some (.int x1), some (.int x2), some (.int x3_2), some (.int (x4_4 + 1)), some (.int q_14), some (.int q_22), some (.int q_31.1)]) dX7_splitOf_138 rfl rfl rfl rfl ?_
            refine m_goto hc (tgt := 12) dX7_splitOf_141 (by decide) ?_
            exact m_fg [5, 6, 7] rfl (i_12 _ _ h)
          have L_34 : ∀ (n_36 : Nat) (x7_29 : Int32) (M_30 : Mm), L_X7_splitOf_63 q_14 n_36 x7_29 M_30 = some q_31 → WM G X (qQ G X (some (.int r.1)) r.2) M_30 63 [some (.ref (gR G 212)), some (.int x1), some (.int x2), some (.int x3_2), some (.int x4_4), some (.int q_14), some (.int q_22), some (.int x7_29)] [] := by
            intro n_36
            induction n_36 with
            | zero =>
              intro x7_29 M_30 h
              cases (show none = some _ from h)
            | succ n_36 i_37 =>
              intro x7_29 M_30 h
              rw [L_X7_splitOf_63] at h
              refine m_iload hc dX7_splitOf_63 rfl ?_
              refine m_ifle hc (tgt := 120) dX7_splitOf_65 (by decide) (fun b_38 => ?_) (fun b_38 => ?_)
              · replace h := (if_pos b_38).symm.trans h
                cases h
                exact m_fg [] rfl J_33
              · replace h := (if_neg b_38).symm.trans h
                refine m_aload_n hc dX7_splitOf_68 rfl ?_
                refine m_getR hc (q := 225) yO_212 rfl tbX7 15 (by decide) wf_X7_47 rfl dX7_splitOf_69 ?_
                refine m_iload hc dX7_splitOf_72 rfl ?_
                refine m_iconst hc (v := 1) dX7_splitOf_74 (by decide) ?_
                refine m_isub hc dX7_splitOf_75 ?_
                obtain ⟨b_39, h⟩ := ck_o h
                refine m_iald hc yA_225 b_39 dX7_splitOf_76 ?_
                refine m_iload hc dX7_splitOf_77 rfl ?_
                refine m_icle hc (tgt := 120) dX7_splitOf_79 (by decide) (fun b_40 => ?_) (fun b_40 => ?_)
                · replace h := (if_pos b_40).symm.trans h
                  cases h
                  exact m_fg [] rfl J_33
                · replace h := (if_neg b_40).symm.trans h
                  refine m_aload_n hc dX7_splitOf_82 rfl ?_
                  refine m_getR hc (q := 225) yO_212 rfl tbX7 15 (by decide) wf_X7_47 rfl dX7_splitOf_83 ?_
                  refine m_iload hc dX7_splitOf_86 rfl ?_
                  refine m_aload_n hc dX7_splitOf_88 rfl ?_
                  refine m_getR hc (q := 225) yO_212 rfl tbX7 15 (by decide) wf_X7_47 rfl dX7_splitOf_89 ?_
                  refine m_iload hc dX7_splitOf_92 rfl ?_
                  refine m_iconst hc (v := 1) dX7_splitOf_94 (by decide) ?_
                  refine m_isub hc dX7_splitOf_95 ?_
                  obtain ⟨b_41, h⟩ := ck_o h
                  refine m_iald hc yA_225 b_41 dX7_splitOf_96 ?_
                  obtain ⟨b_42, h⟩ := ck_o h
                  refine m_iast hc yA_225 b_42 dX7_splitOf_97 ?_
                  refine m_topM (fun M_43 e_44 => ?_)
                  replace h := nm_x e_44 h
                  refine m_aload_n hc dX7_splitOf_98 rfl ?_
                  refine m_getR hc (q := 226) yO_212 rfl tbX7 16 (by decide) wf_X7_50 rfl dX7_splitOf_99 ?_
                  refine m_iload hc dX7_splitOf_102 rfl ?_
                  refine m_aload_n hc dX7_splitOf_104 rfl ?_
                  refine m_getR hc (q := 226) yO_212 rfl tbX7 16 (by decide) wf_X7_50 rfl dX7_splitOf_105 ?_
                  refine m_iload hc dX7_splitOf_108 rfl ?_
                  refine m_iconst hc (v := 1) dX7_splitOf_110 (by decide) ?_
                  refine m_isub hc dX7_splitOf_111 ?_
                  obtain ⟨b_45, h⟩ := ck_o h
                  refine m_iald hc yA_226 b_45 dX7_splitOf_112 ?_
                  obtain ⟨b_46, h⟩ := ck_o h
                  refine m_iast hc yA_226 b_46 dX7_splitOf_113 ?_
                  refine m_topM (fun M_47 e_48 => ?_)
                  replace h := nm_x e_48 h
                  refine m_iinc hc (v := x7_29 + (-1)) (lv' := [some (.ref (gR G 212)), some (.int x1), some (.int x2), some (.int x3_2), some (.int x4_4), some (.int q_14), some (.int q_22), some (.int (x7_29 + (-1)))]) dX7_splitOf_114 rfl rfl rfl rfl ?_
                  refine m_goto hc (tgt := 63) dX7_splitOf_117 (by decide) ?_
                  exact m_fg [] rfl (i_37 _ _ h)
          exact m_fg [] rfl (L_34 _ _ _ c_32)
        replace h := c_23
        refine m_iceq hc (tgt := 52) dX7_splitOf_37 (by decide) (fun b_25 => ?_) (fun b_25 => ?_)
        · replace h := (if_pos b_25).symm.trans h
          refine m_iconst hc (v := 2) dX7_splitOf_52 (by decide) ?_
          refine m_goto hc (tgt := 57) dX7_splitOf_53 (by decide) ?_
          cases h
          exact m_fg [] rfl J_24
        · replace h := (if_neg b_25).symm.trans h
          refine m_aload_n hc dX7_splitOf_40 rfl ?_
          refine m_iload_n hc dX7_splitOf_41 rfl ?_
          refine m_iload hc dX7_splitOf_42 rfl ?_
          refine m_iconst hc (v := 0) dX7_splitOf_44 (by decide) ?_
          obtain ⟨q_26, c_27, h⟩ := bd_o h
          refine m_callVi hc yO_212 rfl (c_X7_note (d + 2) c_27) (by omega) (by decide) wm_X7_93 wi_X7_note we_X7_note wn_X7 wc_X7_note wy_X7_note rfl (st := []) rfl rfl (Nat.le_of_ble_eq_true rfl) dX7_splitOf_45 ?_
          refine m_iconst hc (v := 3) dX7_splitOf_48 (by decide) ?_
          refine m_icne hc (tgt := 56) dX7_splitOf_49 (by decide) (fun b_28 => ?_) (fun b_28 => ?_)
          · replace h := (if_neg b_28).symm.trans h
            refine m_iconst hc (v := 1) dX7_splitOf_56 (by decide) ?_
            cases h
            exact m_fg [] rfl J_24
          · replace h := (if_pos b_28).symm.trans h
            refine m_iconst hc (v := 2) dX7_splitOf_52 (by decide) ?_
            refine m_goto hc (tgt := 57) dX7_splitOf_53 (by decide) ?_
            cases h
            exact m_fg [] rfl J_24
  exact m_fg [] rfl (L_9 _ _ _ c_7)
def f_X7_split (x1 : Int32) (x2 : Int32) (M : Mm) : Option (Int32 × Mm) :=
 if (f_X7_isBeat x1) = 0 then (
 nm (f_X7_finding (-100001 : Int32) M) (fun q_2 =>
 some (q_2.1, q_2.2)))
else (
 if (f_X7_isDiagram x2) = 0 then (
 nm (f_X7_finding (-100001 : Int32) M) (fun q_15 =>
 some (q_15.1, q_15.2)))
else (
 Option.bind (f_X7_doesFor x1 x2 M) (fun q_5 =>
 if q_5 = 0 then (
 nm (f_X7_finding (-100004 : Int32) M) (fun q_13 =>
 some (q_13.1, q_13.2)))
else (
 Option.bind (f_X7_splitOf x1 x2 M) (fun q_8 =>
 if 0 ≤ q_8.1 then (
 some (q_8.1, q_8.2))
else (
 nm (f_X7_finding (-100006 : Int32) q_8.2) (fun q_11 =>
 some (q_11.1, q_11.2))))))))
set_option maxRecDepth 100000 in
set_option maxHeartbeats 4000000 in
theorem c_X7_split {G : Gm} {l : Launch} (d : Nat) {x1 : Int32} {x2 : Int32} {M : Mm} {r : Int32 × Mm}  (h : f_X7_split x1 x2 M = some r) : Cm G l (d + 4) yX7_split cX7_split 4 (some .int) [.ref (gR G 212), .int x1, .int x2] M (some (.int r.1)) r.2 := by
  unfold f_X7_split at h
  refine m_met (lv := [some (.ref (gR G 212)), some (.int x1), some (.int x2), none]) (own := RX7) (by decide +kernel) rfl rfl (Nat.le_of_ble_eq_true rfl) rfl ?_
  intro X hX hc hr
  subst hX
  refine m_iload_n hc dX7_split_0 rfl ?_
  refine m_callSi hc (c_X7_isBeat (d + 2) rfl) (by omega) (by decide) wm_X7_64 wt_X7_isBeat wv_X7_isBeat wc_X7_isBeat wz_X7_isBeat rfl (st := []) rfl rfl (Nat.le_of_ble_eq_true rfl) dX7_split_1 ?_
  refine m_ifeq hc (tgt := 14) dX7_split_4 (by decide) (fun b_1 => ?_) (fun b_1 => ?_)
  · replace h := (if_pos b_1).symm.trans h
    refine m_aload_n hc dX7_split_14 rfl ?_
    refine m_ldc hc dX7_split_15 wk_X7_83 ?_
    obtain ⟨q_2, c_3, h⟩ := nm_o h
    refine m_callVi hc yO_212 rfl (c_X7_finding (d + 3) c_3) (by omega) (by decide) wm_X7_72 wi_X7_finding we_X7_finding wn_X7 wc_X7_finding wy_X7_finding rfl (st := []) rfl rfl (Nat.le_of_ble_eq_true rfl) dX7_split_17 ?_
    cases h
    exact m_iret hc hr dX7_split_20
  · replace h := (if_neg b_1).symm.trans h
    refine m_iload_n hc dX7_split_7 rfl ?_
    refine m_callSi hc (c_X7_isDiagram (d + 2) rfl) (by omega) (by decide) wm_X7_115 wt_X7_isDiagram wv_X7_isDiagram wc_X7_isDiagram wz_X7_isDiagram rfl (st := []) rfl rfl (Nat.le_of_ble_eq_true rfl) dX7_split_8 ?_
    refine m_ifne hc (tgt := 21) dX7_split_11 (by decide) (fun b_4 => ?_) (fun b_4 => ?_)
    · replace h := (if_neg b_4).symm.trans h
      refine m_aload_n hc dX7_split_21 rfl ?_
      refine m_iload_n hc dX7_split_22 rfl ?_
      refine m_iload_n hc dX7_split_23 rfl ?_
      obtain ⟨q_5, c_6, h⟩ := bd_o h
      refine m_callVi hc yO_212 rfl (c_X7_doesFor (d + 0) c_6) (by omega) (by decide) wm_X7_124 wi_X7_doesFor we_X7_doesFor wn_X7 wc_X7_doesFor wy_X7_doesFor rfl (st := []) rfl rfl (Nat.le_of_ble_eq_true rfl) dX7_split_24 ?_
      refine m_ifne hc (tgt := 37) dX7_split_27 (by decide) (fun b_7 => ?_) (fun b_7 => ?_)
      · replace h := (if_neg b_7).symm.trans h
        refine m_aload_n hc dX7_split_37 rfl ?_
        refine m_iload_n hc dX7_split_38 rfl ?_
        refine m_iload_n hc dX7_split_39 rfl ?_
        obtain ⟨q_8, c_9, h⟩ := bd_o h
        refine m_callVi hc yO_212 rfl (c_X7_splitOf (d + 0) c_9) (by omega) (by decide) wm_X7_162 wi_X7_splitOf we_X7_splitOf wn_X7 wc_X7_splitOf wy_X7_splitOf rfl (st := []) rfl rfl (Nat.le_of_ble_eq_true rfl) dX7_split_40 ?_
        refine m_istore_n hc (lv' := [some (.ref (gR G 212)), some (.int x1), some (.int x2), some (.int q_8.1)]) dX7_split_43 (Nat.le_of_ble_eq_true rfl) rfl rfl ?_
        refine m_iload_n hc dX7_split_44 rfl ?_
        refine m_ifge hc (tgt := 57) dX7_split_45 (by decide) (fun b_10 => ?_) (fun b_10 => ?_)
        · replace h := (if_pos b_10).symm.trans h
          refine m_iload_n hc dX7_split_57 rfl ?_
          cases h
          exact m_iret hc hr dX7_split_58
        · replace h := (if_neg b_10).symm.trans h
          refine m_aload_n hc dX7_split_48 rfl ?_
          refine m_ldc hc dX7_split_49 wk_X7_71 ?_
          obtain ⟨q_11, c_12, h⟩ := nm_o h
          refine m_callVi hc yO_212 rfl (c_X7_finding (d + 3) c_12) (by omega) (by decide) wm_X7_72 wi_X7_finding we_X7_finding wn_X7 wc_X7_finding wy_X7_finding rfl (st := []) rfl rfl (Nat.le_of_ble_eq_true rfl) dX7_split_51 ?_
          refine m_goto hc (tgt := 58) dX7_split_54 (by decide) ?_
          cases h
          exact m_iret hc hr dX7_split_58
      · replace h := (if_pos b_7).symm.trans h
        refine m_aload_n hc dX7_split_30 rfl ?_
        refine m_ldc hc dX7_split_31 wk_X7_97 ?_
        obtain ⟨q_13, c_14, h⟩ := nm_o h
        refine m_callVi hc yO_212 rfl (c_X7_finding (d + 3) c_14) (by omega) (by decide) wm_X7_72 wi_X7_finding we_X7_finding wn_X7 wc_X7_finding wy_X7_finding rfl (st := []) rfl rfl (Nat.le_of_ble_eq_true rfl) dX7_split_33 ?_
        cases h
        exact m_iret hc hr dX7_split_36
    · replace h := (if_pos b_4).symm.trans h
      refine m_aload_n hc dX7_split_14 rfl ?_
      refine m_ldc hc dX7_split_15 wk_X7_83 ?_
      obtain ⟨q_15, c_16, h⟩ := nm_o h
      refine m_callVi hc yO_212 rfl (c_X7_finding (d + 3) c_16) (by omega) (by decide) wm_X7_72 wi_X7_finding we_X7_finding wn_X7 wc_X7_finding wy_X7_finding rfl (st := []) rfl rfl (Nat.le_of_ble_eq_true rfl) dX7_split_17 ?_
      cases h
      exact m_iret hc hr dX7_split_20
def L_X7_hard_18 : Nat → Int32 → Mm → Option ((Mm) ⊕ (Int32 × Mm))
  | 0, _, _ => none
  | n_11 + 1, x1_4, M_5 =>
    ck (ib (0 : Int32) 320) (
     if (M_5 213 (0 : Int32).toNatClampNeg) ≤ x1_4 then (
     some (.inl M_5))
    else (
     ck (ib x1_4 12) (
     Option.bind (f_X7_splitOf x1_4 (M_5 222 x1_4.toNatClampNeg) M_5) (fun q_17 =>
     if 0 ≤ q_17.1 then (
     L_X7_hard_18 n_11 (x1_4 + 1) q_17.2)
    else (
     some (.inr (x1_4, q_17.2)))))))
def f_X7_hard (M : Mm) : Option (Int32 × Mm) :=
 Option.bind (f_X7_tellWay M) (fun q_1 =>
 if q_1.1 = (100000 : Int32) then (
 nm (f_X7_finding (-100006 : Int32) q_1.2) (fun q_20 =>
 some (q_20.1, q_20.2)))
else (
 Option.bind (L_X7_hard_18 FU (0 : Int32) q_1.2) (fun q_6 => Sum.elim (fun w_13 =>
 some ((-1 : Int32), w_13)) (fun r => some r) q_6)))
set_option maxRecDepth 100000 in
set_option maxHeartbeats 4000000 in
theorem c_X7_hard {G : Gm} {l : Launch} (d : Nat) {M : Mm} {r : Int32 × Mm}  (h : f_X7_hard M = some r) : Cm G l (d + 7) yX7_hard cX7_hard 2 (some .int) [.ref (gR G 212)] M (some (.int r.1)) r.2 := by
  unfold f_X7_hard at h
  refine m_met (lv := [some (.ref (gR G 212)), none]) (own := RX7) (by decide +kernel) rfl rfl (Nat.le_of_ble_eq_true rfl) rfl ?_
  intro X hX hc hr
  subst hX
  refine m_aload_n hc dX7_hard_0 rfl ?_
  obtain ⟨q_1, c_2, h⟩ := bd_o h
  refine m_callVi hc yO_212 rfl (c_X7_tellWay (d + 0) c_2) (by omega) (by decide) wm_X7_156 wi_X7_tellWay we_X7_tellWay wn_X7 wc_X7_tellWay wy_X7_tellWay rfl (st := []) rfl rfl (Nat.le_of_ble_eq_true rfl) dX7_hard_1 ?_
  refine m_ldc hc dX7_hard_4 wk_X7_140 ?_
  refine m_icne hc (tgt := 16) dX7_hard_6 (by decide) (fun b_3 => ?_) (fun b_3 => ?_)
  · replace h := (if_neg b_3).symm.trans h
    refine m_iconst hc (v := 0) dX7_hard_16 (by decide) ?_
    refine m_istore_n hc (lv' := [some (.ref (gR G 212)), some (.int (0 : Int32))]) dX7_hard_17 (Nat.le_of_ble_eq_true rfl) rfl rfl ?_
    obtain ⟨q_6, c_7, g_10⟩ := bd_o h
    have J_8 : ∀ (w_13 : Mm), (some ((-1 : Int32), w_13)) = some r → WM G X (qQ G X (some (.int r.1)) r.2) w_13 50 [some (.ref (gR G 212)), none] [] := by
      intro w_13 h
      refine m_iconst hc (v := (-1)) dX7_hard_50 (by decide) ?_
      cases h
      exact m_iret hc hr dX7_hard_51
    have L_9 : ∀ (n_11 : Nat) (x1_4 : Int32) (M_5 : Mm), L_X7_hard_18 n_11 x1_4 M_5 = some q_6 → WM G X (qQ G X (some (.int r.1)) r.2) M_5 18 [some (.ref (gR G 212)), some (.int x1_4)] [] := by
      intro n_11
      induction n_11 with
      | zero =>
        intro x1_4 M_5 h
        cases (show none = some _ from h)
      | succ n_11 i_12 =>
        intro x1_4 M_5 h
        rw [L_X7_hard_18] at h
        refine m_iload_n hc dX7_hard_18 rfl ?_
        refine m_aload_n hc dX7_hard_19 rfl ?_
        refine m_getR hc (q := 213) yO_212 rfl tbX7 0 (by decide) wf_X7_7 rfl dX7_hard_20 ?_
        refine m_iconst hc (v := 0) dX7_hard_23 (by decide) ?_
        obtain ⟨b_14, h⟩ := ck_o h
        refine m_iald hc yA_213 b_14 dX7_hard_24 ?_
        refine m_icge hc (tgt := 50) dX7_hard_25 (by decide) (fun b_15 => ?_) (fun b_15 => ?_)
        · replace h := (if_pos b_15).symm.trans h
          cases h
          exact m_fg [1] rfl (J_8 M_5 g_10)
        · replace h := (if_neg b_15).symm.trans h
          refine m_aload_n hc dX7_hard_28 rfl ?_
          refine m_iload_n hc dX7_hard_29 rfl ?_
          refine m_aload_n hc dX7_hard_30 rfl ?_
          refine m_getR hc (q := 222) yO_212 rfl tbX7 12 (by decide) wf_X7_37 rfl dX7_hard_31 ?_
          refine m_iload_n hc dX7_hard_34 rfl ?_
          obtain ⟨b_16, h⟩ := ck_o h
          refine m_iald hc yA_222 b_16 dX7_hard_35 ?_
          obtain ⟨q_17, c_18, h⟩ := bd_o h
          refine m_callVi hc yO_212 rfl (c_X7_splitOf (d + 3) c_18) (by omega) (by decide) wm_X7_162 wi_X7_splitOf we_X7_splitOf wn_X7 wc_X7_splitOf wy_X7_splitOf rfl (st := []) rfl rfl (Nat.le_of_ble_eq_true rfl) dX7_hard_36 ?_
          refine m_ifge hc (tgt := 44) dX7_hard_39 (by decide) (fun b_19 => ?_) (fun b_19 => ?_)
          · replace h := (if_pos b_19).symm.trans h
            refine m_iinc hc (v := x1_4 + 1) (lv' := [some (.ref (gR G 212)), some (.int (x1_4 + 1))]) dX7_hard_44 rfl rfl rfl rfl ?_
            refine m_goto hc (tgt := 18) dX7_hard_47 (by decide) ?_
            exact m_fg [] rfl (i_12 _ _ h)
          · replace h := (if_neg b_19).symm.trans h
            refine m_iload_n hc dX7_hard_42 rfl ?_
            cases h
            have g_10 : some (x1_4, q_17.2) = some r := g_10
            cases g_10
            exact m_iret hc hr dX7_hard_43
    exact m_fg [] rfl (L_9 _ _ _ c_7)
  · replace h := (if_pos b_3).symm.trans h
    refine m_aload_n hc dX7_hard_9 rfl ?_
    refine m_ldc hc dX7_hard_10 wk_X7_71 ?_
    obtain ⟨q_20, c_21, h⟩ := nm_o h
    refine m_callVi hc yO_212 rfl (c_X7_finding (d + 6) c_21) (by omega) (by decide) wm_X7_72 wi_X7_finding we_X7_finding wn_X7 wc_X7_finding wy_X7_finding rfl (st := []) rfl rfl (Nat.le_of_ble_eq_true rfl) dX7_hard_12 ?_
    cases h
    exact m_iret hc hr dX7_hard_15
def f_X7_isRun (x0 : Int32) (x1 : Int32) (x2 : Int32) : Int32 :=
 if (f_X7_isIn x0 (0 : Int32) (41 : Int32)) = 0 then (
 (0 : Int32))
else (
 if (f_X7_isIn x1 (0 : Int32) (41 : Int32)) = 0 then (
 (0 : Int32))
else (
 if (f_X7_isDiagram x2) = 0 then (
 (0 : Int32))
else (
 (1 : Int32))))
set_option maxRecDepth 100000 in
set_option maxHeartbeats 4000000 in
theorem c_X7_isRun {G : Gm} {l : Launch} (d : Nat) {x0 : Int32} {x1 : Int32} {x2 : Int32} {M : Mm} {r : Int32}  (h : f_X7_isRun x0 x1 x2 = r) : Cm G l (d + 2) yX7_isRun cX7_isRun 3 (some .boolean) [.int x0, .int x1, .int x2] M (some (.int r)) M := by
  unfold f_X7_isRun at h
  refine m_met (lv := [some (.int x0), some (.int x1), some (.int x2)]) (own := RX7) (by decide +kernel) rfl rfl (Nat.le_of_ble_eq_true rfl) rfl ?_
  intro X hX hc hr
  subst hX
  refine m_iload_n hc dX7_isRun_0 rfl ?_
  refine m_iconst hc (v := 0) dX7_isRun_1 (by decide) ?_
  refine m_bipush hc (v := (41 : Int32)) dX7_isRun_2 (by decide) ?_
  refine m_callSi hc (c_X7_isIn (d + 1) rfl) (by omega) (by decide) wm_X7_60 wt_X7_isIn wv_X7_isIn wc_X7_isIn wz_X7_isIn rfl (st := []) rfl rfl (Nat.le_of_ble_eq_true rfl) dX7_isRun_4 ?_
  refine m_ifeq hc (tgt := 31) dX7_isRun_7 (by decide) (fun b_1 => ?_) (fun b_1 => ?_)
  · replace h := (if_pos b_1).symm.trans h
    refine m_iconst hc (v := 0) dX7_isRun_31 (by decide) ?_
    subst h
    exact m_zret hc hr (v := (0 : Int32)) (by decide) dX7_isRun_32
  · replace h := (if_neg b_1).symm.trans h
    refine m_iload_n hc dX7_isRun_10 rfl ?_
    refine m_iconst hc (v := 0) dX7_isRun_11 (by decide) ?_
    refine m_bipush hc (v := (41 : Int32)) dX7_isRun_12 (by decide) ?_
    refine m_callSi hc (c_X7_isIn (d + 1) rfl) (by omega) (by decide) wm_X7_60 wt_X7_isIn wv_X7_isIn wc_X7_isIn wz_X7_isIn rfl (st := []) rfl rfl (Nat.le_of_ble_eq_true rfl) dX7_isRun_14 ?_
    refine m_ifeq hc (tgt := 31) dX7_isRun_17 (by decide) (fun b_2 => ?_) (fun b_2 => ?_)
    · replace h := (if_pos b_2).symm.trans h
      refine m_iconst hc (v := 0) dX7_isRun_31 (by decide) ?_
      subst h
      exact m_zret hc hr (v := (0 : Int32)) (by decide) dX7_isRun_32
    · replace h := (if_neg b_2).symm.trans h
      refine m_iload_n hc dX7_isRun_20 rfl ?_
      refine m_callSi hc (c_X7_isDiagram (d + 0) rfl) (by omega) (by decide) wm_X7_115 wt_X7_isDiagram wv_X7_isDiagram wc_X7_isDiagram wz_X7_isDiagram rfl (st := []) rfl rfl (Nat.le_of_ble_eq_true rfl) dX7_isRun_21 ?_
      refine m_ifeq hc (tgt := 31) dX7_isRun_24 (by decide) (fun b_3 => ?_) (fun b_3 => ?_)
      · replace h := (if_pos b_3).symm.trans h
        refine m_iconst hc (v := 0) dX7_isRun_31 (by decide) ?_
        subst h
        exact m_zret hc hr (v := (0 : Int32)) (by decide) dX7_isRun_32
      · replace h := (if_neg b_3).symm.trans h
        refine m_iconst hc (v := 1) dX7_isRun_27 (by decide) ?_
        refine m_goto hc (tgt := 32) dX7_isRun_28 (by decide) ?_
        subst h
        exact m_zret hc hr (v := (1 : Int32)) (by decide) dX7_isRun_32
theorem bz_X7_isRun (x0 : Int32) (x1 : Int32) (x2 : Int32) : narrow .boolean (.int (f_X7_isRun x0 x1 x2)) = .int (f_X7_isRun x0 x1 x2) := by
  unfold f_X7_isRun
  first | (repeat' split) <;> rfl | (first | exact bz_X7_isIn _ _ _ | exact bz_X7_isDiagram _ _ _)
def f_X7_run (x1 : Int32) (x2 : Int32) (x3 : Int32) (x4 : Int32) (M : Mm) : Option (Int32 × Mm) :=
 if (f_X7_isRun x1 x2 x3) = 0 then (
 nm (f_X7_finding (-100001 : Int32) M) (fun q_2 =>
 some (q_2.1, q_2.2)))
else (
 nm (
 if x2 ≤ x1 then (
 (x1 - x2))
else (
 (x2 - x1))) (fun q_5 =>
 if (f_X7_isIn x4 (0 : Int32) q_5) = 0 then (
 nm (f_X7_finding (-100001 : Int32) M) (fun q_17 =>
 some (q_17.1, q_17.2)))
else (
 nm (
 if x2 ≤ x1 then (
 (x1 - x4))
else (
 (x1 + x4))) (fun q_11 =>
 Option.bind (f_X7_pitchOf q_11 x3) (fun q_15 =>
 some (q_15, M))))))
set_option maxRecDepth 100000 in
set_option maxHeartbeats 4000000 in
theorem c_X7_run {G : Gm} {l : Launch} (d : Nat) {x1 : Int32} {x2 : Int32} {x3 : Int32} {x4 : Int32} {M : Mm} {r : Int32 × Mm}  (h : f_X7_run x1 x2 x3 x4 M = some r) : Cm G l (d + 3) yX7_run cX7_run 5 (some .int) [.ref (gR G 212), .int x1, .int x2, .int x3, .int x4] M (some (.int r.1)) r.2 := by
  unfold f_X7_run at h
  refine m_met (lv := [some (.ref (gR G 212)), some (.int x1), some (.int x2), some (.int x3), some (.int x4)]) (own := RX7) (by decide +kernel) rfl rfl (Nat.le_of_ble_eq_true rfl) rfl ?_
  intro X hX hc hr
  subst hX
  refine m_iload_n hc dX7_run_0 rfl ?_
  refine m_iload_n hc dX7_run_1 rfl ?_
  refine m_iload_n hc dX7_run_2 rfl ?_
  refine m_callSi hc (c_X7_isRun (d + 0) rfl) (by omega) (by decide) wm_X7_165 wt_X7_isRun wv_X7_isRun wc_X7_isRun wz_X7_isRun rfl (st := []) rfl rfl (Nat.le_of_ble_eq_true rfl) dX7_run_3 ?_
  refine m_ifeq hc (tgt := 32) dX7_run_6 (by decide) (fun b_1 => ?_) (fun b_1 => ?_)
  · replace h := (if_pos b_1).symm.trans h
    refine m_aload_n hc dX7_run_32 rfl ?_
    refine m_ldc hc dX7_run_33 wk_X7_83 ?_
    obtain ⟨q_2, c_3, h⟩ := nm_o h
    refine m_callVi hc yO_212 rfl (c_X7_finding (d + 2) c_3) (by omega) (by decide) wm_X7_72 wi_X7_finding we_X7_finding wn_X7 wc_X7_finding wy_X7_finding rfl (st := []) rfl rfl (Nat.le_of_ble_eq_true rfl) dX7_run_35 ?_
    cases h
    exact m_iret hc hr dX7_run_38
  · replace h := (if_neg b_1).symm.trans h
    refine m_iload hc dX7_run_9 rfl ?_
    refine m_iconst hc (v := 0) dX7_run_11 (by decide) ?_
    refine m_iload_n hc dX7_run_12 rfl ?_
    refine m_iload_n hc dX7_run_13 rfl ?_
    obtain ⟨q_5, c_6, h⟩ := nm_o h
    have J_7 : WM G X (qQ G X (some (.int r.1)) r.2) M 26 [some (.ref (gR G 212)), some (.int x1), some (.int x2), some (.int x3), some (.int x4)] [.int q_5, .int (0 : Int32), .int x4] := by
      refine m_callSi hc (c_X7_isIn (d + 2) rfl) (by omega) (by decide) wm_X7_60 wt_X7_isIn wv_X7_isIn wc_X7_isIn wz_X7_isIn rfl (st := []) rfl rfl (Nat.le_of_ble_eq_true rfl) dX7_run_26 ?_
      refine m_ifne hc (tgt := 39) dX7_run_29 (by decide) (fun b_9 => ?_) (fun b_9 => ?_)
      · replace h := (if_neg b_9).symm.trans h
        refine m_iload_n hc dX7_run_39 rfl ?_
        refine m_iload_n hc dX7_run_40 rfl ?_
        obtain ⟨q_11, c_12, h⟩ := nm_o h
        have J_13 : WM G X (qQ G X (some (.int r.1)) r.2) M 55 [some (.ref (gR G 212)), some (.int x1), some (.int x2), some (.int x3), some (.int x4)] [.int q_11] := by
          refine m_iload_n hc dX7_run_55 rfl ?_
          obtain ⟨q_15, c_16, h⟩ := bd_o h
          refine m_callSi hc (c_X7_pitchOf (d + 1) c_16) (by omega) (by decide) wm_X7_118 wt_X7_pitchOf wv_X7_pitchOf wc_X7_pitchOf wz_X7_pitchOf rfl (st := []) rfl rfl (Nat.le_of_ble_eq_true rfl) dX7_run_56 ?_
          cases h
          exact m_iret hc hr dX7_run_59
        replace h := c_12
        refine m_icge hc (tgt := 51) dX7_run_41 (by decide) (fun b_14 => ?_) (fun b_14 => ?_)
        · replace h := (if_pos b_14).symm.trans h
          refine m_iload_n hc dX7_run_51 rfl ?_
          refine m_iload hc dX7_run_52 rfl ?_
          refine m_isub hc dX7_run_54 ?_
          subst h
          exact m_fg [] rfl J_13
        · replace h := (if_neg b_14).symm.trans h
          refine m_iload_n hc dX7_run_44 rfl ?_
          refine m_iload hc dX7_run_45 rfl ?_
          refine m_iadd hc dX7_run_47 ?_
          refine m_goto hc (tgt := 55) dX7_run_48 (by decide) ?_
          subst h
          exact m_fg [] rfl J_13
      · replace h := (if_pos b_9).symm.trans h
        refine m_aload_n hc dX7_run_32 rfl ?_
        refine m_ldc hc dX7_run_33 wk_X7_83 ?_
        obtain ⟨q_17, c_18, h⟩ := nm_o h
        refine m_callVi hc yO_212 rfl (c_X7_finding (d + 2) c_18) (by omega) (by decide) wm_X7_72 wi_X7_finding we_X7_finding wn_X7 wc_X7_finding wy_X7_finding rfl (st := []) rfl rfl (Nat.le_of_ble_eq_true rfl) dX7_run_35 ?_
        cases h
        exact m_iret hc hr dX7_run_38
    replace h := c_6
    refine m_icge hc (tgt := 23) dX7_run_14 (by decide) (fun b_8 => ?_) (fun b_8 => ?_)
    · replace h := (if_pos b_8).symm.trans h
      refine m_iload_n hc dX7_run_23 rfl ?_
      refine m_iload_n hc dX7_run_24 rfl ?_
      refine m_isub hc dX7_run_25 ?_
      subst h
      exact m_fg [] rfl J_7
    · replace h := (if_neg b_8).symm.trans h
      refine m_iload_n hc dX7_run_17 rfl ?_
      refine m_iload_n hc dX7_run_18 rfl ?_
      refine m_isub hc dX7_run_19 ?_
      refine m_goto hc (tgt := 26) dX7_run_20 (by decide) ?_
      subst h
      exact m_fg [] rfl J_7
def L_X7_plain_61 (x3 : Int32) (x7_13 : Int32) : Nat → Int32 → Int32 → Option (Int32)
  | 0, _, _ => none
  | n_29 + 1, x8_22, x9_23 =>
    if x7_13 ≤ x9_23 then (
     some x8_22)
    else (
     Option.bind (f_X7_pitchOf x9_23 x3) (fun q_32 =>
     Option.bind (f_X7_pitchOf x7_13 x3) (fun q_34 =>
     nm (
     if q_32 = q_34 then (
     (0 : Int32))
    else (
     (1 : Int32))) (fun q_37 =>
     nm ((x8_22 &&& q_37)) (fun x8_41 =>
     L_X7_plain_61 x3 x7_13 n_29 x8_41 (x9_23 + 1))))))
def L_X7_plain_47 (x3 : Int32) (q_3 : Int32) (q_8 : Int32) : Nat → Int32 → Int32 → Option (Int32)
  | 0, _, _ => none
  | n_19 + 1, x6_12, x7_13 =>
    if q_8 < x7_13 then (
     some x6_12)
    else (
     Option.bind (L_X7_plain_61 x3 x7_13 FU (1 : Int32) q_3) (fun q_24 =>
     nm (
     if q_24 = 0 then (
     (0 : Int32))
    else (
     (1 : Int32))) (fun q_44 =>
     nm ((x6_12 + q_44)) (fun x6_48 =>
     L_X7_plain_47 x3 q_3 q_8 n_19 x6_48 (x7_13 + 1)))))
def f_X7_plain (x1 : Int32) (x2 : Int32) (x3 : Int32) (M : Mm) : Option (Int32 × Mm) :=
 if (f_X7_isRun x1 x2 x3) = 0 then (
 nm (f_X7_finding (-100001 : Int32) M) (fun q_50 =>
 some (q_50.1, q_50.2)))
else (
 nm (
 if x2 ≤ x1 then (
 x2)
else (
 x1)) (fun q_3 =>
 nm (
 if x2 ≤ x1 then (
 x1)
else (
 x2)) (fun q_8 =>
 Option.bind (L_X7_plain_47 x3 q_3 q_8 FU (0 : Int32) q_3) (fun q_14 =>
 some (q_14, M)))))
set_option maxRecDepth 100000 in
set_option maxHeartbeats 4000000 in
theorem c_X7_plain {G : Gm} {l : Launch} (d : Nat) {x1 : Int32} {x2 : Int32} {x3 : Int32} {M : Mm} {r : Int32 × Mm}  (h : f_X7_plain x1 x2 x3 M = some r) : Cm G l (d + 3) yX7_plain cX7_plain 10 (some .int) [.ref (gR G 212), .int x1, .int x2, .int x3] M (some (.int r.1)) r.2 := by
  unfold f_X7_plain at h
  refine m_met (lv := [some (.ref (gR G 212)), some (.int x1), some (.int x2), some (.int x3), none, none, none, none, none, none]) (own := RX7) (by decide +kernel) rfl rfl (Nat.le_of_ble_eq_true rfl) rfl ?_
  intro X hX hc hr
  subst hX
  refine m_iload_n hc dX7_plain_0 rfl ?_
  refine m_iload_n hc dX7_plain_1 rfl ?_
  refine m_iload_n hc dX7_plain_2 rfl ?_
  refine m_callSi hc (c_X7_isRun (d + 0) rfl) (by omega) (by decide) wm_X7_165 wt_X7_isRun wv_X7_isRun wc_X7_isRun wz_X7_isRun rfl (st := []) rfl rfl (Nat.le_of_ble_eq_true rfl) dX7_plain_3 ?_
  refine m_ifne hc (tgt := 16) dX7_plain_6 (by decide) (fun b_1 => ?_) (fun b_1 => ?_)
  · replace h := (if_neg b_1).symm.trans h
    refine m_iload_n hc dX7_plain_16 rfl ?_
    refine m_iload_n hc dX7_plain_17 rfl ?_
    obtain ⟨q_3, c_4, h⟩ := nm_o h
    have J_5 : WM G X (qQ G X (some (.int r.1)) r.2) M 26 [some (.ref (gR G 212)), some (.int x1), some (.int x2), some (.int x3), none, none, none, none, none, none] [.int q_3] := by
      refine m_istore hc (lv' := [some (.ref (gR G 212)), some (.int x1), some (.int x2), some (.int x3), some (.int q_3), none, none, none, none, none]) dX7_plain_26 (Nat.le_of_ble_eq_true rfl) rfl rfl ?_
      refine m_iload_n hc dX7_plain_28 rfl ?_
      refine m_iload_n hc dX7_plain_29 rfl ?_
      obtain ⟨q_8, c_9, h⟩ := nm_o h
      have J_10 : WM G X (qQ G X (some (.int r.1)) r.2) M 38 [some (.ref (gR G 212)), some (.int x1), some (.int x2), some (.int x3), some (.int q_3), none, none, none, none, none] [.int q_8] := by
        refine m_istore hc (lv' := [some (.ref (gR G 212)), some (.int x1), some (.int x2), some (.int x3), some (.int q_3), some (.int q_8), none, none, none, none]) dX7_plain_38 (Nat.le_of_ble_eq_true rfl) rfl rfl ?_
        refine m_iconst hc (v := 0) dX7_plain_40 (by decide) ?_
        refine m_istore hc (lv' := [some (.ref (gR G 212)), some (.int x1), some (.int x2), some (.int x3), some (.int q_3), some (.int q_8), some (.int (0 : Int32)), none, none, none]) dX7_plain_41 (Nat.le_of_ble_eq_true rfl) rfl rfl ?_
        refine m_iload hc dX7_plain_43 rfl ?_
        refine m_istore hc (lv' := [some (.ref (gR G 212)), some (.int x1), some (.int x2), some (.int x3), some (.int q_3), some (.int q_8), some (.int (0 : Int32)), some (.int q_3), none, none]) dX7_plain_45 (Nat.le_of_ble_eq_true rfl) rfl rfl ?_
        obtain ⟨q_14, c_15, h⟩ := bd_o h
        have J_16 : WM G X (qQ G X (some (.int r.1)) r.2) M 120 [some (.ref (gR G 212)), some (.int x1), some (.int x2), some (.int x3), some (.int q_3), some (.int q_8), some (.int q_14), none, none, none] [] := by
          refine m_iload hc dX7_plain_120 rfl ?_
          cases h
          exact m_iret hc hr dX7_plain_122
        have L_17 : ∀ (n_19 : Nat) (x6_12 : Int32) (x7_13 : Int32), L_X7_plain_47 x3 q_3 q_8 n_19 x6_12 x7_13 = some q_14 → WM G X (qQ G X (some (.int r.1)) r.2) M 47 [some (.ref (gR G 212)), some (.int x1), some (.int x2), some (.int x3), some (.int q_3), some (.int q_8), some (.int x6_12), some (.int x7_13), none, none] [] := by
          intro n_19
          induction n_19 with
          | zero =>
            intro x6_12 x7_13 h
            cases (show none = some _ from h)
          | succ n_19 i_20 =>
            intro x6_12 x7_13 h
            rw [L_X7_plain_47] at h
            refine m_iload hc dX7_plain_47 rfl ?_
            refine m_iload hc dX7_plain_49 rfl ?_
            refine m_icgt hc (tgt := 120) dX7_plain_51 (by decide) (fun b_21 => ?_) (fun b_21 => ?_)
            · replace h := (if_pos b_21).symm.trans h
              cases h
              exact m_fg [7] rfl J_16
            · replace h := (if_neg b_21).symm.trans h
              refine m_iconst hc (v := 1) dX7_plain_54 (by decide) ?_
              refine m_istore hc (lv' := [some (.ref (gR G 212)), some (.int x1), some (.int x2), some (.int x3), some (.int q_3), some (.int q_8), some (.int x6_12), some (.int x7_13), some (.int (1 : Int32)), none]) dX7_plain_55 (Nat.le_of_ble_eq_true rfl) rfl rfl ?_
              refine m_iload hc dX7_plain_57 rfl ?_
              refine m_istore hc (lv' := [some (.ref (gR G 212)), some (.int x1), some (.int x2), some (.int x3), some (.int q_3), some (.int q_8), some (.int x6_12), some (.int x7_13), some (.int (1 : Int32)), some (.int q_3)]) dX7_plain_59 (Nat.le_of_ble_eq_true rfl) rfl rfl ?_
              obtain ⟨q_24, c_25, h⟩ := bd_o h
              have J_26 : WM G X (qQ G X (some (.int r.1)) r.2) M 99 [some (.ref (gR G 212)), some (.int x1), some (.int x2), some (.int x3), some (.int q_3), some (.int q_8), some (.int x6_12), some (.int x7_13), some (.int q_24), none] [] := by
                refine m_iload hc dX7_plain_99 rfl ?_
                refine m_iload hc dX7_plain_101 rfl ?_
                obtain ⟨q_44, c_45, h⟩ := nm_o h
                have J_46 : WM G X (qQ G X (some (.int r.1)) r.2) M 111 [some (.ref (gR G 212)), some (.int x1), some (.int x2), some (.int x3), some (.int q_3), some (.int q_8), some (.int x6_12), some (.int x7_13), some (.int q_24), none] [.int q_44, .int x6_12] := by
                  refine m_iadd hc dX7_plain_111 ?_
                  refine m_topI (fun x6_48 e_49 => ?_)
                  replace h := nm_x e_49 h
                  refine m_istore hc (lv' := [some (.ref (gR G 212)), some (.int x1), some (.int x2), some (.int x3), some (.int q_3), some (.int q_8), some (.int x6_48), some (.int x7_13), some (.int q_24), none]) dX7_plain_112 (Nat.le_of_ble_eq_true rfl) rfl rfl ?_
                  refine m_iinc hc (v := x7_13 + 1) (lv' := [some (.ref (gR G 212)), some (.int x1), some (.int x2), some (.int x3), some (.int q_3), some (.int q_8), some (.int x6_48), some (.int (x7_13 + 1)), some (.int q_24), none]) dX7_plain_114 rfl rfl rfl rfl ?_
                  refine m_goto hc (tgt := 47) dX7_plain_117 (by decide) ?_
                  exact m_fg [8] rfl (i_20 _ _ h)
                replace h := c_45
                refine m_ifeq hc (tgt := 110) dX7_plain_103 (by decide) (fun b_47 => ?_) (fun b_47 => ?_)
                · replace h := (if_pos b_47).symm.trans h
                  refine m_iconst hc (v := 0) dX7_plain_110 (by decide) ?_
                  subst h
                  exact m_fg [] rfl J_46
                · replace h := (if_neg b_47).symm.trans h
                  refine m_iconst hc (v := 1) dX7_plain_106 (by decide) ?_
                  refine m_goto hc (tgt := 111) dX7_plain_107 (by decide) ?_
                  subst h
                  exact m_fg [] rfl J_46
              have L_27 : ∀ (n_29 : Nat) (x8_22 : Int32) (x9_23 : Int32), L_X7_plain_61 x3 x7_13 n_29 x8_22 x9_23 = some q_24 → WM G X (qQ G X (some (.int r.1)) r.2) M 61 [some (.ref (gR G 212)), some (.int x1), some (.int x2), some (.int x3), some (.int q_3), some (.int q_8), some (.int x6_12), some (.int x7_13), some (.int x8_22), some (.int x9_23)] [] := by
                intro n_29
                induction n_29 with
                | zero =>
                  intro x8_22 x9_23 h
                  cases (show none = some _ from h)
                | succ n_29 i_30 =>
                  intro x8_22 x9_23 h
                  rw [L_X7_plain_61] at h
                  refine m_iload hc dX7_plain_61 rfl ?_
                  refine m_iload hc dX7_plain_63 rfl ?_
                  refine m_icge hc (tgt := 99) dX7_plain_65 (by decide) (fun b_31 => ?_) (fun b_31 => ?_)
                  · replace h := (if_pos b_31).symm.trans h
                    cases h
                    exact m_fg [9] rfl J_26
                  · replace h := (if_neg b_31).symm.trans h
                    refine m_iload hc dX7_plain_68 rfl ?_
                    refine m_iload hc dX7_plain_70 rfl ?_
                    refine m_iload_n hc dX7_plain_72 rfl ?_
                    obtain ⟨q_32, c_33, h⟩ := bd_o h
                    refine m_callSi hc (c_X7_pitchOf (d + 1) c_33) (by omega) (by decide) wm_X7_118 wt_X7_pitchOf wv_X7_pitchOf wc_X7_pitchOf wz_X7_pitchOf rfl (st := [.int x8_22]) rfl rfl (Nat.le_of_ble_eq_true rfl) dX7_plain_73 ?_
                    refine m_iload hc dX7_plain_76 rfl ?_
                    refine m_iload_n hc dX7_plain_78 rfl ?_
                    obtain ⟨q_34, c_35, h⟩ := bd_o h
                    refine m_callSi hc (c_X7_pitchOf (d + 1) c_35) (by omega) (by decide) wm_X7_118 wt_X7_pitchOf wv_X7_pitchOf wc_X7_pitchOf wz_X7_pitchOf rfl (st := [.int q_32, .int x8_22]) rfl rfl (Nat.le_of_ble_eq_true rfl) dX7_plain_79 ?_
                    obtain ⟨q_37, c_38, h⟩ := nm_o h
                    have J_39 : WM G X (qQ G X (some (.int r.1)) r.2) M 90 [some (.ref (gR G 212)), some (.int x1), some (.int x2), some (.int x3), some (.int q_3), some (.int q_8), some (.int x6_12), some (.int x7_13), some (.int x8_22), some (.int x9_23)] [.int q_37, .int x8_22] := by
                      refine m_iand hc dX7_plain_90 ?_
                      refine m_topI (fun x8_41 e_42 => ?_)
                      replace h := nm_x e_42 h
                      refine m_istore hc (lv' := [some (.ref (gR G 212)), some (.int x1), some (.int x2), some (.int x3), some (.int q_3), some (.int q_8), some (.int x6_12), some (.int x7_13), some (.int x8_41), some (.int x9_23)]) dX7_plain_91 (Nat.le_of_ble_eq_true rfl) rfl rfl ?_
                      refine m_iinc hc (v := x9_23 + 1) (lv' := [some (.ref (gR G 212)), some (.int x1), some (.int x2), some (.int x3), some (.int q_3), some (.int q_8), some (.int x6_12), some (.int x7_13), some (.int x8_41), some (.int (x9_23 + 1))]) dX7_plain_93 rfl rfl rfl rfl ?_
                      refine m_goto hc (tgt := 61) dX7_plain_96 (by decide) ?_
                      exact m_fg [] rfl (i_30 _ _ h)
                    replace h := c_38
                    refine m_iceq hc (tgt := 89) dX7_plain_82 (by decide) (fun b_40 => ?_) (fun b_40 => ?_)
                    · replace h := (if_pos b_40).symm.trans h
                      refine m_iconst hc (v := 0) dX7_plain_89 (by decide) ?_
                      subst h
                      exact m_fg [] rfl J_39
                    · replace h := (if_neg b_40).symm.trans h
                      refine m_iconst hc (v := 1) dX7_plain_85 (by decide) ?_
                      refine m_goto hc (tgt := 90) dX7_plain_86 (by decide) ?_
                      subst h
                      exact m_fg [] rfl J_39
              exact m_fg [] rfl (L_27 _ _ _ c_25)
        exact m_fg [] rfl (L_17 _ _ _ c_15)
      replace h := c_9
      refine m_icge hc (tgt := 37) dX7_plain_30 (by decide) (fun b_11 => ?_) (fun b_11 => ?_)
      · replace h := (if_pos b_11).symm.trans h
        refine m_iload_n hc dX7_plain_37 rfl ?_
        subst h
        exact m_fg [] rfl J_10
      · replace h := (if_neg b_11).symm.trans h
        refine m_iload_n hc dX7_plain_33 rfl ?_
        refine m_goto hc (tgt := 38) dX7_plain_34 (by decide) ?_
        subst h
        exact m_fg [] rfl J_10
    replace h := c_4
    refine m_icge hc (tgt := 25) dX7_plain_18 (by decide) (fun b_6 => ?_) (fun b_6 => ?_)
    · replace h := (if_pos b_6).symm.trans h
      refine m_iload_n hc dX7_plain_25 rfl ?_
      subst h
      exact m_fg [] rfl J_5
    · replace h := (if_neg b_6).symm.trans h
      refine m_iload_n hc dX7_plain_21 rfl ?_
      refine m_goto hc (tgt := 26) dX7_plain_22 (by decide) ?_
      subst h
      exact m_fg [] rfl J_5
  · replace h := (if_pos b_1).symm.trans h
    refine m_aload_n hc dX7_plain_9 rfl ?_
    refine m_ldc hc dX7_plain_10 wk_X7_83 ?_
    obtain ⟨q_50, c_51, h⟩ := nm_o h
    refine m_callVi hc yO_212 rfl (c_X7_finding (d + 2) c_51) (by omega) (by decide) wm_X7_72 wi_X7_finding we_X7_finding wn_X7 wc_X7_finding wy_X7_finding rfl (st := []) rfl rfl (Nat.le_of_ble_eq_true rfl) dX7_plain_12 ?_
    cases h
    exact m_iret hc hr dX7_plain_15
