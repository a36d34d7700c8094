def f_X6_stand (x1 : Int32) (x2 : Int32) (M : Mm) : Option (Int32 × Mm) :=
 if (f_X6_isPlayed x1 M) = 0 then (
 nm (f_X6_finding (-100001 : Int32) M) (fun q_2 =>
 some (q_2.1, q_2.2)))
else (
 if (f_X6_isPedal x2) = 0 then (
 nm (f_X6_finding (-100001 : Int32) M) (fun q_12 =>
 some (q_12.1, q_12.2)))
else (
 Option.bind (f_X5_exists M) (fun q_5 =>
 if q_5.1 = 0 then (
 nm (f_X6_finding (-100006 : Int32) q_5.2) (fun q_10 =>
 some (q_10.1, q_10.2)))
else (
 ck (ib x1 12) (
 ck (ib (q_5.2 203 x1.toNatClampNeg) 2187) (
 some ((f_X1_standIn (q_5.2 2 (q_5.2 203 x1.toNatClampNeg).toNatClampNeg) x2), q_5.2)))))))
set_option maxRecDepth 100000 in
set_option maxHeartbeats 4000000 in
theorem c_X6_stand {G : Gm} {l : Launch} (d : Nat) {x1 : Int32} {x2 : Int32} {M : Mm} {r : Int32 × Mm}  (h : f_X6_stand x1 x2 M = some r) : Cm G l (d + 6) yX6_stand cX6_stand 3 (some .int) [.ref (gR G 0), .int x1, .int x2] M (some (.int r.1)) r.2 := by
  unfold f_X6_stand at h
  refine m_met (lv := [some (.ref (gR G 0)), some (.int x1), some (.int x2)]) (own := RX6) (by decide +kernel) rfl rfl (Nat.le_of_ble_eq_true rfl) rfl ?_
  intro X hX hc hr
  subst hX
  refine m_aload_n hc dX6_stand_0 rfl ?_
  refine m_iload_n hc dX6_stand_1 rfl ?_
  refine m_callVi hc yO_0 rfl (c_X6_isPlayed (d + 5) rfl) (by omega) (by decide) wm_X6_170 wi_X6_isPlayed we_X6_isPlayed wn_X6 wc_X6_isPlayed wy_X6_isPlayed rfl (st := []) rfl rfl (Nat.le_of_ble_eq_true rfl) dX6_stand_2 ?_
  refine m_ifeq hc (tgt := 15) dX6_stand_5 (by decide) (fun b_1 => ?_) (fun b_1 => ?_)
  · replace h := (if_pos b_1).symm.trans h
    refine m_aload_n hc dX6_stand_15 rfl ?_
    refine m_ldc hc dX6_stand_16 wk_X6_57 ?_
    obtain ⟨q_2, c_3, h⟩ := nm_o h
    refine m_callVi hc yO_0 rfl (c_X6_finding (d + 5) c_3) (by omega) (by decide) wm_X6_58 wi_X6_finding we_X6_finding wn_X6 wc_X6_finding wy_X6_finding rfl (st := []) rfl rfl (Nat.le_of_ble_eq_true rfl) dX6_stand_18 ?_
    cases h
    exact m_iret hc hr dX6_stand_21
  · replace h := (if_neg b_1).symm.trans h
    refine m_iload_n hc dX6_stand_8 rfl ?_
    refine m_callSi hc (c_X6_isPedal (d + 5) rfl) (by omega) (by decide) wm_X6_126 wt_X6_isPedal wv_X6_isPedal wc_X6_isPedal wz_X6_isPedal rfl (st := []) rfl rfl (Nat.le_of_ble_eq_true rfl) dX6_stand_9 ?_
    refine m_ifne hc (tgt := 22) dX6_stand_12 (by decide) (fun b_4 => ?_) (fun b_4 => ?_)
    · replace h := (if_neg b_4).symm.trans h
      refine m_aload_n hc dX6_stand_22 rfl ?_
      refine m_getR hc (q := 161) yO_0 rfl tbX6 4 (by decide) wf_X6_42 rfl dX6_stand_23 ?_
      obtain ⟨q_5, c_6, h⟩ := bd_o h
      refine m_callVi hc yO_161 rfl (c_X5_exists (d + 0) c_6) (by omega) (by decide) wm_X6_163 wi_X5_exists we_X5_exists wn_X5 wc_X5_exists wy_X5_exists rfl (st := []) rfl rfl (Nat.le_of_ble_eq_true rfl) dX6_stand_26 ?_
      refine m_ifne hc (tgt := 39) dX6_stand_29 (by decide) (fun b_7 => ?_) (fun b_7 => ?_)
      · replace h := (if_neg b_7).symm.trans h
        refine m_aload_n hc dX6_stand_39 rfl ?_
        refine m_getR hc (q := 1) yO_0 rfl tbX6 0 (by decide) wf_X6_10 rfl dX6_stand_40 ?_
        refine m_getR hc (q := 2) yO_1 rfl tbX1 0 (by decide) wf_X6_154 rfl dX6_stand_43 ?_
        refine m_aload_n hc dX6_stand_46 rfl ?_
        refine m_getR hc (q := 161) yO_0 rfl tbX6 4 (by decide) wf_X6_42 rfl dX6_stand_47 ?_
        refine m_getR hc (q := 203) yO_161 rfl tbX5 11 (by decide) wf_X6_173 rfl dX6_stand_50 ?_
        refine m_iload_n hc dX6_stand_53 rfl ?_
        obtain ⟨b_8, h⟩ := ck_o h
        refine m_iald hc yA_203 b_8 dX6_stand_54 ?_
        obtain ⟨b_9, h⟩ := ck_o h
        refine m_iald hc yA_2 b_9 dX6_stand_55 ?_
        refine m_iload_n hc dX6_stand_56 rfl ?_
        refine m_callSi hc (c_X1_standIn (d + 5) rfl) (by omega) (by decide) wm_X6_176 wt_X1_standIn wv_X1_standIn wc_X1_standIn wz_X1_standIn rfl (st := []) rfl rfl (Nat.le_of_ble_eq_true rfl) dX6_stand_57 ?_
        cases h
        exact m_iret hc hr dX6_stand_60
      · replace h := (if_pos b_7).symm.trans h
        refine m_aload_n hc dX6_stand_32 rfl ?_
        refine m_ldc hc dX6_stand_33 wk_X6_92 ?_
        obtain ⟨q_10, c_11, h⟩ := nm_o h
        refine m_callVi hc yO_0 rfl (c_X6_finding (d + 5) c_11) (by omega) (by decide) wm_X6_58 wi_X6_finding we_X6_finding wn_X6 wc_X6_finding wy_X6_finding rfl (st := []) rfl rfl (Nat.le_of_ble_eq_true rfl) dX6_stand_35 ?_
        cases h
        exact m_iret hc hr dX6_stand_38
    · replace h := (if_pos b_4).symm.trans h
      refine m_aload_n hc dX6_stand_15 rfl ?_
      refine m_ldc hc dX6_stand_16 wk_X6_57 ?_
      obtain ⟨q_12, c_13, h⟩ := nm_o h
      refine m_callVi hc yO_0 rfl (c_X6_finding (d + 5) c_13) (by omega) (by decide) wm_X6_58 wi_X6_finding we_X6_finding wn_X6 wc_X6_finding wy_X6_finding rfl (st := []) rfl rfl (Nat.le_of_ble_eq_true rfl) dX6_stand_18 ?_
      cases h
      exact m_iret hc hr dX6_stand_21
def L_X5_movedTo_50 (x2 : Int32) (q_10 : Int32) : Nat → Int32 → Option ((Unit) ⊕ (Int32))
  | 0, _ => none
  | n_24 + 1, x5_18 =>
    if (7 : Int32) ≤ x5_18 then (
     some (.inl ()))
    else (
     if ((x2 >>> (x5_18 &&& 31)) &&& (1 : Int32)) = 0 then (
     L_X5_movedTo_50 x2 q_10 n_24 (x5_18 + 1))
    else (
     if (f_X1_standIn q_10 x5_18) = 0 then (
     L_X5_movedTo_50 x2 q_10 n_24 (x5_18 + 1))
    else (
     some (.inr x5_18))))
def f_X5_movedTo (x1 : Int32) (x2 : Int32) (M : Mm) : Option (Int32) :=
 ck (ib x1 12) (
 ck (ib (M 203 x1.toNatClampNeg) 2187) (
 nm ((M 2 (M 203 x1.toNatClampNeg).toNatClampNeg)) (fun x3_3 =>
 Option.bind (
 if x1 ≤ 0 then (
 Option.bind (f_X5_unlikeStart x3_3 M) (fun q_14 =>
 some q_14))
else (
 ck (ib (x1 - (1 : Int32)) 12) (
 ck (ib (M 203 (x1 - (1 : Int32)).toNatClampNeg) 2187) (
 some (x3_3 ^^^ (M 2 (M 203 (x1 - (1 : Int32)).toNatClampNeg).toNatClampNeg)))))) (fun q_10 =>
 Option.bind (L_X5_movedTo_50 x2 q_10 FU (0 : Int32)) (fun q_19 => Sum.elim (fun w_26 =>
 some (-1 : Int32)) (fun r => some r) q_19)))))
set_option maxRecDepth 100000 in
set_option maxHeartbeats 4000000 in
theorem c_X5_movedTo {G : Gm} {l : Launch} (d : Nat) {x1 : Int32} {x2 : Int32} {M : Mm} {r : Int32}  (h : f_X5_movedTo x1 x2 M = some r) : Cm G l (d + 2) yX5_movedTo cX5_movedTo 6 (some .int) [.ref (gR G 161), .int x1, .int x2] M (some (.int r)) M := by
  unfold f_X5_movedTo at h
  refine m_met (lv := [some (.ref (gR G 161)), some (.int x1), some (.int x2), none, none, none]) (own := RX5) (by decide +kernel) rfl rfl (Nat.le_of_ble_eq_true rfl) rfl ?_
  intro X hX hc hr
  subst hX
  refine m_aload_n hc dX5_movedTo_0 rfl ?_
  refine m_getR hc (q := 1) yO_161 rfl tbX5 0 (by decide) wf_X5_11 rfl dX5_movedTo_1 ?_
  refine m_getR hc (q := 2) yO_1 rfl tbX1 0 (by decide) wf_X5_125 rfl dX5_movedTo_4 ?_
  refine m_aload_n hc dX5_movedTo_7 rfl ?_
  refine m_getR hc (q := 203) yO_161 rfl tbX5 11 (by decide) wf_X5_54 rfl dX5_movedTo_8 ?_
  refine m_iload_n hc dX5_movedTo_11 rfl ?_
  obtain ⟨b_1, h⟩ := ck_o h
  refine m_iald hc yA_203 b_1 dX5_movedTo_12 ?_
  obtain ⟨b_2, h⟩ := ck_o h
  refine m_iald hc yA_2 b_2 dX5_movedTo_13 ?_
  refine m_topI (fun x3_3 e_4 => ?_)
  replace h := nm_x e_4 h
  refine m_istore_n hc (lv' := [some (.ref (gR G 161)), some (.int x1), some (.int x2), some (.int x3_3), none, none]) dX5_movedTo_14 (Nat.le_of_ble_eq_true rfl) rfl rfl ?_
  refine m_iload_n hc dX5_movedTo_15 rfl ?_
  obtain ⟨q_10, c_11, h⟩ := bd_o h
  have J_12 : WM G X (qQ G X (some (.int r)) M) M 45 [some (.ref (gR G 161)), some (.int x1), some (.int x2), some (.int x3_3), none, none] [.int q_10] := by
    refine m_istore hc (lv' := [some (.ref (gR G 161)), some (.int x1), some (.int x2), some (.int x3_3), some (.int q_10), none]) dX5_movedTo_45 (Nat.le_of_ble_eq_true rfl) rfl rfl ?_
    refine m_iconst hc (v := 0) dX5_movedTo_47 (by decide) ?_
    refine m_istore hc (lv' := [some (.ref (gR G 161)), some (.int x1), some (.int x2), some (.int x3_3), some (.int q_10), some (.int (0 : Int32))]) dX5_movedTo_48 (Nat.le_of_ble_eq_true rfl) rfl rfl ?_
    obtain ⟨q_19, c_20, g_23⟩ := bd_o h
    have J_21 : ∀ (w_26 : Unit), (some (-1 : Int32)) = some r → WM G X (qQ G X (some (.int r)) M) M 85 [some (.ref (gR G 161)), some (.int x1), some (.int x2), some (.int x3_3), some (.int q_10), none] [] := by
      intro w_26 h
      refine m_iconst hc (v := (-1)) dX5_movedTo_85 (by decide) ?_
      cases h
      exact m_iret hc hr dX5_movedTo_86
    have L_22 : ∀ (n_24 : Nat) (x5_18 : Int32), L_X5_movedTo_50 x2 q_10 n_24 x5_18 = some q_19 → WM G X (qQ G X (some (.int r)) M) M 50 [some (.ref (gR G 161)), some (.int x1), some (.int x2), some (.int x3_3), some (.int q_10), some (.int x5_18)] [] := by
      intro n_24
      induction n_24 with
      | zero =>
        intro x5_18 h
        cases (show none = some _ from h)
      | succ n_24 i_25 =>
        intro x5_18 h
        rw [L_X5_movedTo_50] at h
        refine m_iload hc dX5_movedTo_50 rfl ?_
        refine m_bipush hc (v := (7 : Int32)) dX5_movedTo_52 (by decide) ?_
        refine m_icge hc (tgt := 85) dX5_movedTo_54 (by decide) (fun b_27 => ?_) (fun b_27 => ?_)
        · replace h := (if_pos b_27).symm.trans h
          cases h
          exact m_fg [5] rfl (J_21 () g_23)
        · replace h := (if_neg b_27).symm.trans h
          refine m_iload_n hc dX5_movedTo_57 rfl ?_
          refine m_iload hc dX5_movedTo_58 rfl ?_
          refine m_ishr hc dX5_movedTo_60 ?_
          refine m_iconst hc (v := 1) dX5_movedTo_61 (by decide) ?_
          refine m_iand hc dX5_movedTo_62 ?_
          refine m_ifeq hc (tgt := 79) dX5_movedTo_63 (by decide) (fun b_28 => ?_) (fun b_28 => ?_)
          · replace h := (if_pos b_28).symm.trans h
            refine m_iinc hc (v := x5_18 + 1) (lv' := [some (.ref (gR G 161)), some (.int x1), some (.int x2), some (.int x3_3), some (.int q_10), some (.int (x5_18 + 1))]) dX5_movedTo_79 rfl rfl rfl rfl ?_
            refine m_goto hc (tgt := 50) dX5_movedTo_82 (by decide) ?_
            exact m_fg [] rfl (i_25 _ h)
          · replace h := (if_neg b_28).symm.trans h
            refine m_iload hc dX5_movedTo_66 rfl ?_
            refine m_iload hc dX5_movedTo_68 rfl ?_
            refine m_callSi hc (c_X1_standIn (d + 1) rfl) (by omega) (by decide) wm_X5_134 wt_X1_standIn wv_X1_standIn wc_X1_standIn wz_X1_standIn rfl (st := []) rfl rfl (Nat.le_of_ble_eq_true rfl) dX5_movedTo_70 ?_
            refine m_ifeq hc (tgt := 79) dX5_movedTo_73 (by decide) (fun b_29 => ?_) (fun b_29 => ?_)
            · replace h := (if_pos b_29).symm.trans h
              refine m_iinc hc (v := x5_18 + 1) (lv' := [some (.ref (gR G 161)), some (.int x1), some (.int x2), some (.int x3_3), some (.int q_10), some (.int (x5_18 + 1))]) dX5_movedTo_79 rfl rfl rfl rfl ?_
              refine m_goto hc (tgt := 50) dX5_movedTo_82 (by decide) ?_
              exact m_fg [] rfl (i_25 _ h)
            · replace h := (if_neg b_29).symm.trans h
              refine m_iload hc dX5_movedTo_76 rfl ?_
              cases h
              have g_23 : some x5_18 = some r := g_23
              cases g_23
              exact m_iret hc hr dX5_movedTo_78
    exact m_fg [] rfl (L_22 _ _ c_20)
  replace h := c_11
  refine m_ifle hc (tgt := 40) dX5_movedTo_16 (by decide) (fun b_13 => ?_) (fun b_13 => ?_)
  · replace h := (if_pos b_13).symm.trans h
    refine m_aload_n hc dX5_movedTo_40 rfl ?_
    refine m_iload_n hc dX5_movedTo_41 rfl ?_
    obtain ⟨q_14, c_15, h⟩ := bd_o h
    refine m_callVi hc yO_161 rfl (c_X5_unlikeStart (d + 0) c_15) (by omega) (by decide) wm_X5_130 wi_X5_unlikeStart we_X5_unlikeStart wn_X5 wc_X5_unlikeStart wy_X5_unlikeStart rfl (st := []) rfl rfl (Nat.le_of_ble_eq_true rfl) dX5_movedTo_42 ?_
    cases h
    exact m_fg [] rfl J_12
  · replace h := (if_neg b_13).symm.trans h
    refine m_iload_n hc dX5_movedTo_19 rfl ?_
    refine m_aload_n hc dX5_movedTo_20 rfl ?_
    refine m_getR hc (q := 1) yO_161 rfl tbX5 0 (by decide) wf_X5_11 rfl dX5_movedTo_21 ?_
    refine m_getR hc (q := 2) yO_1 rfl tbX1 0 (by decide) wf_X5_125 rfl dX5_movedTo_24 ?_
    refine m_aload_n hc dX5_movedTo_27 rfl ?_
    refine m_getR hc (q := 203) yO_161 rfl tbX5 11 (by decide) wf_X5_54 rfl dX5_movedTo_28 ?_
    refine m_iload_n hc dX5_movedTo_31 rfl ?_
    refine m_iconst hc (v := 1) dX5_movedTo_32 (by decide) ?_
    refine m_isub hc dX5_movedTo_33 ?_
    obtain ⟨b_16, h⟩ := ck_o h
    refine m_iald hc yA_203 b_16 dX5_movedTo_34 ?_
    obtain ⟨b_17, h⟩ := ck_o h
    refine m_iald hc yA_2 b_17 dX5_movedTo_35 ?_
    refine m_ixor hc dX5_movedTo_36 ?_
    refine m_goto hc (tgt := 45) dX5_movedTo_37 (by decide) ?_
    cases h
    exact m_fg [] rfl J_12
def f_X6_foot (x1 : Int32) (x2 : Int32) (M : Mm) : Option (Int32 × Mm) :=
 if (f_X6_isPlayed x1 M) = 0 then (
 nm (f_X6_finding (-100001 : Int32) M) (fun q_14 =>
 some (q_14.1, q_14.2)))
else (
 Option.bind (f_X5_exists M) (fun q_2 =>
 if q_2.1 = 0 then (
 nm (f_X6_finding (-100006 : Int32) q_2.2) (fun q_12 =>
 some (q_12.1, q_12.2)))
else (
 nm (
 if x2 = 0 then (
 (67 : Int32))
else (
 (60 : Int32))) (fun q_6 =>
 Option.bind (f_X5_movedTo x1 q_6 q_2.2) (fun q_10 =>
 some (q_10, q_2.2))))))
set_option maxRecDepth 100000 in
set_option maxHeartbeats 4000000 in
theorem c_X6_foot {G : Gm} {l : Launch} (d : Nat) {x1 : Int32} {x2 : Int32} {M : Mm} {r : Int32 × Mm}  (h : f_X6_foot x1 x2 M = some r) : Cm G l (d + 6) yX6_foot cX6_foot 3 (some .int) [.ref (gR G 0), .int x1, .int x2] M (some (.int r.1)) r.2 := by
  unfold f_X6_foot at h
  refine m_met (lv := [some (.ref (gR G 0)), some (.int x1), some (.int x2)]) (own := RX6) (by decide +kernel) rfl rfl (Nat.le_of_ble_eq_true rfl) rfl ?_
  intro X hX hc hr
  subst hX
  refine m_aload_n hc dX6_foot_0 rfl ?_
  refine m_iload_n hc dX6_foot_1 rfl ?_
  refine m_callVi hc yO_0 rfl (c_X6_isPlayed (d + 5) rfl) (by omega) (by decide) wm_X6_170 wi_X6_isPlayed we_X6_isPlayed wn_X6 wc_X6_isPlayed wy_X6_isPlayed rfl (st := []) rfl rfl (Nat.le_of_ble_eq_true rfl) dX6_foot_2 ?_
  refine m_ifne hc (tgt := 15) dX6_foot_5 (by decide) (fun b_1 => ?_) (fun b_1 => ?_)
  · replace h := (if_neg b_1).symm.trans h
    refine m_aload_n hc dX6_foot_15 rfl ?_
    refine m_getR hc (q := 161) yO_0 rfl tbX6 4 (by decide) wf_X6_42 rfl dX6_foot_16 ?_
    obtain ⟨q_2, c_3, h⟩ := bd_o h
    refine m_callVi hc yO_161 rfl (c_X5_exists (d + 0) c_3) (by omega) (by decide) wm_X6_163 wi_X5_exists we_X5_exists wn_X5 wc_X5_exists wy_X5_exists rfl (st := []) rfl rfl (Nat.le_of_ble_eq_true rfl) dX6_foot_19 ?_
    refine m_ifne hc (tgt := 32) dX6_foot_22 (by decide) (fun b_4 => ?_) (fun b_4 => ?_)
    · replace h := (if_neg b_4).symm.trans h
      refine m_aload_n hc dX6_foot_32 rfl ?_
      refine m_getR hc (q := 161) yO_0 rfl tbX6 4 (by decide) wf_X6_42 rfl dX6_foot_33 ?_
      refine m_iload_n hc dX6_foot_36 rfl ?_
      refine m_iload_n hc dX6_foot_37 rfl ?_
      obtain ⟨q_6, c_7, h⟩ := nm_o h
      have J_8 : WM G X (qQ G X (some (.int r.1)) r.2) q_2.2 48 [some (.ref (gR G 0)), some (.int x1), some (.int x2)] [.int q_6, .int x1, .ref (gR G 161)] := by
        obtain ⟨q_10, c_11, h⟩ := bd_o h
        refine m_callVi hc yO_161 rfl (c_X5_movedTo (d + 3) c_11) (by omega) (by decide) wm_X6_179 wi_X5_movedTo we_X5_movedTo wn_X5 wc_X5_movedTo wy_X5_movedTo rfl (st := []) rfl rfl (Nat.le_of_ble_eq_true rfl) dX6_foot_48 ?_
        cases h
        exact m_iret hc hr dX6_foot_51
      replace h := c_7
      refine m_ifeq hc (tgt := 46) dX6_foot_38 (by decide) (fun b_9 => ?_) (fun b_9 => ?_)
      · replace h := (if_pos b_9).symm.trans h
        refine m_bipush hc (v := (67 : Int32)) dX6_foot_46 (by decide) ?_
        subst h
        exact m_fg [] rfl J_8
      · replace h := (if_neg b_9).symm.trans h
        refine m_bipush hc (v := (60 : Int32)) dX6_foot_41 (by decide) ?_
        refine m_goto hc (tgt := 48) dX6_foot_43 (by decide) ?_
        subst h
        exact m_fg [] rfl J_8
    · replace h := (if_pos b_4).symm.trans h
      refine m_aload_n hc dX6_foot_25 rfl ?_
      refine m_ldc hc dX6_foot_26 wk_X6_92 ?_
      obtain ⟨q_12, c_13, h⟩ := nm_o h
      refine m_callVi hc yO_0 rfl (c_X6_finding (d + 5) c_13) (by omega) (by decide) wm_X6_58 wi_X6_finding we_X6_finding wn_X6 wc_X6_finding wy_X6_finding rfl (st := []) rfl rfl (Nat.le_of_ble_eq_true rfl) dX6_foot_28 ?_
      cases h
      exact m_iret hc hr dX6_foot_31
  · replace h := (if_pos b_1).symm.trans h
    refine m_aload_n hc dX6_foot_8 rfl ?_
    refine m_ldc hc dX6_foot_9 wk_X6_57 ?_
    obtain ⟨q_14, c_15, h⟩ := nm_o h
    refine m_callVi hc yO_0 rfl (c_X6_finding (d + 5) c_15) (by omega) (by decide) wm_X6_58 wi_X6_finding we_X6_finding wn_X6 wc_X6_finding wy_X6_finding rfl (st := []) rfl rfl (Nat.le_of_ble_eq_true rfl) dX6_foot_11 ?_
    cases h
    exact m_iret hc hr dX6_foot_14
def f_X5_count (M : Mm) : Int32 :=
 ((M 161 15) &&& (1048575 : Int32))
set_option maxRecDepth 100000 in
set_option maxHeartbeats 4000000 in
theorem c_X5_count {G : Gm} {l : Launch} (d : Nat) {M : Mm} {r : Int32}  (h : f_X5_count M = r) : Cm G l (d + 0) yX5_count cX5_count 1 (some .int) [.ref (gR G 161)] M (some (.int r)) M := by
  unfold f_X5_count at h
  refine m_met (lv := [some (.ref (gR G 161))]) (own := RX5) (by decide +kernel) rfl rfl (Nat.le_of_ble_eq_true rfl) rfl ?_
  intro X hX hc hr
  subst hX
  refine m_aload_n hc dX5_count_0 rfl ?_
  refine m_getI hc yO_161 rfl tbX5 15 (by decide) wf_X5_69 rfl dX5_count_1 ?_
  refine m_ldc hc dX5_count_4 wk_X5_124 ?_
  refine m_iand hc dX5_count_6 ?_
  subst h
  exact m_iret hc hr dX5_count_7
def f_X6_ways (M : Mm) : Option (Int32 × Mm) :=
 Option.bind (f_X5_exists M) (fun q_1 =>
 if q_1.1 = 0 then (
 nm (f_X6_finding (-100006 : Int32) q_1.2) (fun q_4 =>
 some (q_4.1, q_4.2)))
else (
 some ((f_X5_count q_1.2), q_1.2)))
set_option maxRecDepth 100000 in
set_option maxHeartbeats 4000000 in
theorem c_X6_ways {G : Gm} {l : Launch} (d : Nat) {M : Mm} {r : Int32 × Mm}  (h : f_X6_ways M = some r) : Cm G l (d + 6) yX6_ways cX6_ways 1 (some .int) [.ref (gR G 0)] M (some (.int r.1)) r.2 := by
  unfold f_X6_ways at h
  refine m_met (lv := [some (.ref (gR G 0))]) (own := RX6) (by decide +kernel) rfl rfl (Nat.le_of_ble_eq_true rfl) rfl ?_
  intro X hX hc hr
  subst hX
  refine m_aload_n hc dX6_ways_0 rfl ?_
  refine m_getR hc (q := 161) yO_0 rfl tbX6 4 (by decide) wf_X6_42 rfl dX6_ways_1 ?_
  obtain ⟨q_1, c_2, h⟩ := bd_o h
  refine m_callVi hc yO_161 rfl (c_X5_exists (d + 0) c_2) (by omega) (by decide) wm_X6_163 wi_X5_exists we_X5_exists wn_X5 wc_X5_exists wy_X5_exists rfl (st := []) rfl rfl (Nat.le_of_ble_eq_true rfl) dX6_ways_4 ?_
  refine m_ifeq hc (tgt := 20) dX6_ways_7 (by decide) (fun b_3 => ?_) (fun b_3 => ?_)
  · replace h := (if_pos b_3).symm.trans h
    refine m_aload_n hc dX6_ways_20 rfl ?_
    refine m_ldc hc dX6_ways_21 wk_X6_92 ?_
    obtain ⟨q_4, c_5, h⟩ := nm_o h
    refine m_callVi hc yO_0 rfl (c_X6_finding (d + 5) c_5) (by omega) (by decide) wm_X6_58 wi_X6_finding we_X6_finding wn_X6 wc_X6_finding wy_X6_finding rfl (st := []) rfl rfl (Nat.le_of_ble_eq_true rfl) dX6_ways_23 ?_
    cases h
    exact m_iret hc hr dX6_ways_26
  · replace h := (if_neg b_3).symm.trans h
    refine m_aload_n hc dX6_ways_10 rfl ?_
    refine m_getR hc (q := 161) yO_0 rfl tbX6 4 (by decide) wf_X6_42 rfl dX6_ways_11 ?_
    refine m_callVi hc yO_161 rfl (c_X5_count (d + 5) rfl) (by omega) (by decide) wm_X6_182 wi_X5_count we_X5_count wn_X5 wc_X5_count wy_X5_count rfl (st := []) rfl rfl (Nat.le_of_ble_eq_true rfl) dX6_ways_14 ?_
    refine m_goto hc (tgt := 26) dX6_ways_17 (by decide) ?_
    cases h
    exact m_iret hc hr dX6_ways_26
def L_X5_canStandAt_14 (x1 : Int32) (q_1 : Mm) : Nat → Int32 → Option ((Unit) ⊕ (Int32 × Mm))
  | 0, _ => none
  | n_9 + 1, x2_3 =>
    if (2187 : Int32) ≤ x2_3 then (
     some (.inl ()))
    else (
     ck (ib x1 12) (
     ck (ib x2_3 2187) (
     if (66060288 : Int32) ≤ (q_1 (186 + x1.toNatClampNeg) x2_3.toNatClampNeg) then (
     L_X5_canStandAt_14 x1 q_1 n_9 (x2_3 + 1))
    else (
     ck (ib x2_3 2187) (
     Option.bind (f_X0_locksBy 162 (q_1 2 x2_3.toNatClampNeg) q_1) (fun q_17 =>
     if q_17 < 0 then (
     L_X5_canStandAt_14 x1 q_1 n_9 (x2_3 + 1))
    else (
     some (.inr ((1 : Int32), q_1)))))))))
def f_X5_canStandAt (x1 : Int32) (M : Mm) : Option (Int32 × Mm) :=
 Option.bind (f_X0_read 162 3 x1 M) (fun q_1 =>
 Option.bind (L_X5_canStandAt_14 x1 q_1 FU (0 : Int32)) (fun q_4 => Sum.elim (fun w_11 =>
 some ((0 : Int32), q_1)) (fun r => some r) q_4))
set_option maxRecDepth 100000 in
set_option maxHeartbeats 4000000 in
theorem c_X5_canStandAt {G : Gm} {l : Launch} (d : Nat) {x1 : Int32} {M : Mm} {r : Int32 × Mm}  (h : f_X5_canStandAt x1 M = some r) : Cm G l (d + 3) yX5_canStandAt cX5_canStandAt 3 (some .boolean) [.ref (gR G 161), .int x1] M (some (.int r.1)) r.2 := by
  unfold f_X5_canStandAt at h
  refine m_met (lv := [some (.ref (gR G 161)), some (.int x1), none]) (own := RX5) (by decide +kernel) rfl rfl (Nat.le_of_ble_eq_true rfl) rfl ?_
  intro X hX hc hr
  subst hX
  refine m_aload_n hc dX5_canStandAt_0 rfl ?_
  refine m_getR hc (q := 162) yO_161 rfl tbX5 2 (by decide) wf_X5_22 rfl dX5_canStandAt_1 ?_
  refine m_aload_n hc dX5_canStandAt_4 rfl ?_
  refine m_getR hc (q := 3) yO_161 rfl tbX5 1 (by decide) wf_X5_15 rfl dX5_canStandAt_5 ?_
  refine m_iload_n hc dX5_canStandAt_8 rfl ?_
  obtain ⟨q_1, c_2, h⟩ := bd_o h
  refine m_callVv hc yO_162 rfl (c_X0_read (d + 0) kC_162 kP_3lit c_2) (by omega) (by decide) wm_X5_101 wi_X0_read we_X0_read wn_X0 wc_X0_read wy_X0_read rfl (st := []) rfl rfl (Nat.le_of_ble_eq_true rfl) dX5_canStandAt_9 ?_
  refine m_iconst hc (v := 0) dX5_canStandAt_12 (by decide) ?_
  refine m_istore_n hc (lv' := [some (.ref (gR G 161)), some (.int x1), some (.int (0 : Int32))]) dX5_canStandAt_13 (Nat.le_of_ble_eq_true rfl) rfl rfl ?_
  obtain ⟨q_4, c_5, g_8⟩ := bd_o h
  have J_6 : ∀ (w_11 : Unit), (some ((0 : Int32), q_1)) = some r → WM G X (qQ G X (some (.int r.1)) r.2) q_1 61 [some (.ref (gR G 161)), some (.int x1), none] [] := by
    intro w_11 h
    refine m_iconst hc (v := 0) dX5_canStandAt_61 (by decide) ?_
    cases h
    exact m_zret hc hr (v := (0 : Int32)) (by decide) dX5_canStandAt_62
  have L_7 : ∀ (n_9 : Nat) (x2_3 : Int32), L_X5_canStandAt_14 x1 q_1 n_9 x2_3 = some q_4 → WM G X (qQ G X (some (.int r.1)) r.2) q_1 14 [some (.ref (gR G 161)), some (.int x1), some (.int x2_3)] [] := by
    intro n_9
    induction n_9 with
    | zero =>
      intro x2_3 h
      cases (show none = some _ from h)
    | succ n_9 i_10 =>
      intro x2_3 h
      rw [L_X5_canStandAt_14] at h
      refine m_iload_n hc dX5_canStandAt_14 rfl ?_
      refine m_sipush hc (v := (2187 : Int32)) dX5_canStandAt_15 (by decide) ?_
      refine m_icge hc (tgt := 61) dX5_canStandAt_18 (by decide) (fun b_12 => ?_) (fun b_12 => ?_)
      · replace h := (if_pos b_12).symm.trans h
        cases h
        exact m_fg [2] rfl (J_6 () g_8)
      · replace h := (if_neg b_12).symm.trans h
        refine m_aload_n hc dX5_canStandAt_21 rfl ?_
        refine m_getR hc (q := 185) yO_161 rfl tbX5 5 (by decide) wf_X5_35 rfl dX5_canStandAt_22 ?_
        refine m_iload_n hc dX5_canStandAt_25 rfl ?_
        obtain ⟨b_13, h⟩ := ck_o h
        refine m_jald hc yJ_185 b_13 (tAr_d _ (ib_lt b_13)) dX5_canStandAt_26 ?_
        refine m_iload_n hc dX5_canStandAt_27 rfl ?_
        obtain ⟨b_14, h⟩ := ck_o h
        refine m_iald hc (jAr_d _ (ib_lt b_13)) b_14 dX5_canStandAt_28 ?_
        refine m_ldc hc dX5_canStandAt_29 wk_X5_68 ?_
        refine m_icge hc (tgt := 55) dX5_canStandAt_31 (by decide) (fun b_15 => ?_) (fun b_15 => ?_)
        · replace h := (if_pos b_15).symm.trans h
          refine m_iinc hc (v := x2_3 + 1) (lv' := [some (.ref (gR G 161)), some (.int x1), some (.int (x2_3 + 1))]) dX5_canStandAt_55 rfl rfl rfl rfl ?_
          refine m_goto hc (tgt := 14) dX5_canStandAt_58 (by decide) ?_
          exact m_fg [] rfl (i_10 _ h)
        · replace h := (if_neg b_15).symm.trans h
          refine m_aload_n hc dX5_canStandAt_34 rfl ?_
          refine m_getR hc (q := 162) yO_161 rfl tbX5 2 (by decide) wf_X5_22 rfl dX5_canStandAt_35 ?_
          refine m_aload_n hc dX5_canStandAt_38 rfl ?_
          refine m_getR hc (q := 1) yO_161 rfl tbX5 0 (by decide) wf_X5_11 rfl dX5_canStandAt_39 ?_
          refine m_getR hc (q := 2) yO_1 rfl tbX1 0 (by decide) wf_X5_125 rfl dX5_canStandAt_42 ?_
          refine m_iload_n hc dX5_canStandAt_45 rfl ?_
          obtain ⟨b_16, h⟩ := ck_o h
          refine m_iald hc yA_2 b_16 dX5_canStandAt_46 ?_
          obtain ⟨q_17, c_18, h⟩ := bd_o h
          refine m_callVi hc yO_162 rfl (c_X0_locksBy (d + 0) kC_162 c_18) (by omega) (by decide) wm_X5_141 wi_X0_locksBy we_X0_locksBy wn_X0 wc_X0_locksBy wy_X0_locksBy rfl (st := []) rfl rfl (Nat.le_of_ble_eq_true rfl) dX5_canStandAt_47 ?_
          refine m_iflt hc (tgt := 55) dX5_canStandAt_50 (by decide) (fun b_19 => ?_) (fun b_19 => ?_)
          · replace h := (if_pos b_19).symm.trans h
            refine m_iinc hc (v := x2_3 + 1) (lv' := [some (.ref (gR G 161)), some (.int x1), some (.int (x2_3 + 1))]) dX5_canStandAt_55 rfl rfl rfl rfl ?_
            refine m_goto hc (tgt := 14) dX5_canStandAt_58 (by decide) ?_
            exact m_fg [] rfl (i_10 _ h)
          · replace h := (if_neg b_19).symm.trans h
            refine m_iconst hc (v := 1) dX5_canStandAt_53 (by decide) ?_
            cases h
            have g_8 : some ((1 : Int32), q_1) = some r := g_8
            cases g_8
            exact m_zret hc hr (v := (1 : Int32)) (by decide) dX5_canStandAt_54
  exact m_fg [] rfl (L_7 _ _ c_5)
def L_X5_stuckBeat_17 : Nat → Mm → Option (Mm)
  | 0, _ => none
  | n_12 + 1, M_6 =>
    if ((M_6 3 0) - (1 : Int32)) ≤ (M_6 161 17) then (
     some M_6)
    else (
     Option.bind (f_X5_canStandAt (M_6 161 17) M_6) (fun q_15 =>
     if q_15.1 = 0 then (
     some q_15.2)
    else (
     nm (mw q_15.2 161 17 ((q_15.2 161 17) + (1 : Int32))) (fun M_18 =>
     Option.bind (f_X5_makeArrival (M_18 161 17) M_18) (fun q_20 =>
     L_X5_stuckBeat_17 n_12 q_20)))))
def f_X5_stuckBeat (M : Mm) : Option (Int32 × Mm) :=
 if (M 161 16) = 0 then (
 nm (mw M 161 17 (0 : Int32)) (fun M_2 =>
 Option.bind (f_X5_makeArrival (0 : Int32) M_2) (fun q_4 =>
 Option.bind (L_X5_stuckBeat_17 FU q_4) (fun q_7 =>
 nm (mw q_7 161 16 (1 : Int32)) (fun M_22 =>
 some ((M_22 161 17), M_22))))))
else (
 some ((M 161 17), M))
set_option maxRecDepth 100000 in
set_option maxHeartbeats 4000000 in
theorem c_X5_stuckBeat {G : Gm} {l : Launch} (d : Nat) {M : Mm} {r : Int32 × Mm}  (h : f_X5_stuckBeat M = some r) : Cm G l (d + 5) yX5_stuckBeat cX5_stuckBeat 1 (some .int) [.ref (gR G 161)] M (some (.int r.1)) r.2 := by
  unfold f_X5_stuckBeat at h
  refine m_met (lv := [some (.ref (gR G 161))]) (own := RX5) (by decide +kernel) rfl rfl (Nat.le_of_ble_eq_true rfl) rfl ?_
  intro X hX hc hr
  subst hX
  refine m_aload_n hc dX5_stuckBeat_0 rfl ?_
  refine m_getI hc yO_161 rfl tbX5 16 (by decide) wf_X5_72 rfl dX5_stuckBeat_1 ?_
  refine m_ifne hc (tgt := 70) dX5_stuckBeat_4 (by decide) (fun b_1 => ?_) (fun b_1 => ?_)
  · replace h := (if_neg b_1).symm.trans h
    refine m_aload_n hc dX5_stuckBeat_70 rfl ?_
    refine m_getI hc yO_161 rfl tbX5 17 (by decide) wf_X5_75 rfl dX5_stuckBeat_71 ?_
    cases h
    exact m_iret hc hr dX5_stuckBeat_74
  · replace h := (if_pos b_1).symm.trans h
    refine m_aload_n hc dX5_stuckBeat_7 rfl ?_
    refine m_iconst hc (v := 0) dX5_stuckBeat_8 (by decide) ?_
    refine m_putI hc yO_161 rfl tbX5 tyX5 tyX5_ok nmX5 17 (by decide) wf_X5_75 rfl rfl rfl rfl dX5_stuckBeat_9 ?_
    refine m_topM (fun M_2 e_3 => ?_)
    replace h := nm_x e_3 h
    refine m_aload_n hc dX5_stuckBeat_12 rfl ?_
    refine m_iconst hc (v := 0) dX5_stuckBeat_13 (by decide) ?_
    obtain ⟨q_4, c_5, h⟩ := bd_o h
    refine m_callVv hc yO_161 rfl (c_X5_makeArrival (d + 0) c_5) (by omega) (by decide) wm_X5_113 wi_X5_makeArrival we_X5_makeArrival wn_X5 wc_X5_makeArrival wy_X5_makeArrival rfl (st := []) rfl rfl (Nat.le_of_ble_eq_true rfl) dX5_stuckBeat_14 ?_
    obtain ⟨q_7, c_8, h⟩ := bd_o h
    have J_9 : WM G X (qQ G X (some (.int r.1)) r.2) q_7 65 [some (.ref (gR G 161))] [] := by
      refine m_aload_n hc dX5_stuckBeat_65 rfl ?_
      refine m_iconst hc (v := 1) dX5_stuckBeat_66 (by decide) ?_
      refine m_putI hc yO_161 rfl tbX5 tyX5 tyX5_ok nmX5 16 (by decide) wf_X5_72 rfl rfl rfl rfl dX5_stuckBeat_67 ?_
      refine m_topM (fun M_22 e_23 => ?_)
      replace h := nm_x e_23 h
      refine m_aload_n hc dX5_stuckBeat_70 rfl ?_
      refine m_getI hc yO_161 rfl tbX5 17 (by decide) wf_X5_75 rfl dX5_stuckBeat_71 ?_
      cases h
      exact m_iret hc hr dX5_stuckBeat_74
    have L_10 : ∀ (n_12 : Nat) (M_6 : Mm), L_X5_stuckBeat_17 n_12 M_6 = some q_7 → WM G X (qQ G X (some (.int r.1)) r.2) M_6 17 [some (.ref (gR G 161))] [] := by
      intro n_12
      induction n_12 with
      | zero =>
        intro M_6 h
        cases (show none = some _ from h)
      | succ n_12 i_13 =>
        intro M_6 h
        rw [L_X5_stuckBeat_17] at h
        refine m_aload_n hc dX5_stuckBeat_17 rfl ?_
        refine m_getI hc yO_161 rfl tbX5 17 (by decide) wf_X5_75 rfl dX5_stuckBeat_18 ?_
        refine m_aload_n hc dX5_stuckBeat_21 rfl ?_
        refine m_getR hc (q := 3) yO_161 rfl tbX5 1 (by decide) wf_X5_15 rfl dX5_stuckBeat_22 ?_
        refine m_getI hc yO_3 rfl tbX3 0 (by decide) wf_X5_93 rfl dX5_stuckBeat_25 ?_
        refine m_iconst hc (v := 1) dX5_stuckBeat_28 (by decide) ?_
        refine m_isub hc dX5_stuckBeat_29 ?_
        refine m_icge hc (tgt := 65) dX5_stuckBeat_30 (by decide) (fun b_14 => ?_) (fun b_14 => ?_)
        · replace h := (if_pos b_14).symm.trans h
          cases h
          exact m_fg [] rfl J_9
        · replace h := (if_neg b_14).symm.trans h
          refine m_aload_n hc dX5_stuckBeat_33 rfl ?_
          refine m_aload_n hc dX5_stuckBeat_34 rfl ?_
          refine m_getI hc yO_161 rfl tbX5 17 (by decide) wf_X5_75 rfl dX5_stuckBeat_35 ?_
          obtain ⟨q_15, c_16, h⟩ := bd_o h
          refine m_callVi hc yO_161 rfl (c_X5_canStandAt (d + 1) c_16) (by omega) (by decide) wm_X5_137 wi_X5_canStandAt we_X5_canStandAt wn_X5 wc_X5_canStandAt wy_X5_canStandAt rfl (st := []) rfl rfl (Nat.le_of_ble_eq_true rfl) dX5_stuckBeat_38 ?_
          refine m_ifeq hc (tgt := 65) dX5_stuckBeat_41 (by decide) (fun b_17 => ?_) (fun b_17 => ?_)
          · replace h := (if_pos b_17).symm.trans h
            cases h
            exact m_fg [] rfl J_9
          · replace h := (if_neg b_17).symm.trans h
            refine m_aload_n hc dX5_stuckBeat_44 rfl ?_
            refine m_dup hc dX5_stuckBeat_45 rfl ?_
            refine m_getI hc yO_161 rfl tbX5 17 (by decide) wf_X5_75 rfl dX5_stuckBeat_46 ?_
            refine m_iconst hc (v := 1) dX5_stuckBeat_49 (by decide) ?_
            refine m_iadd hc dX5_stuckBeat_50 ?_
            refine m_putI hc yO_161 rfl tbX5 tyX5 tyX5_ok nmX5 17 (by decide) wf_X5_75 rfl rfl rfl rfl dX5_stuckBeat_51 ?_
            refine m_topM (fun M_18 e_19 => ?_)
            replace h := nm_x e_19 h
            refine m_aload_n hc dX5_stuckBeat_54 rfl ?_
            refine m_aload_n hc dX5_stuckBeat_55 rfl ?_
            refine m_getI hc yO_161 rfl tbX5 17 (by decide) wf_X5_75 rfl dX5_stuckBeat_56 ?_
            obtain ⟨q_20, c_21, h⟩ := bd_o h
            refine m_callVv hc yO_161 rfl (c_X5_makeArrival (d + 0) c_21) (by omega) (by decide) wm_X5_113 wi_X5_makeArrival we_X5_makeArrival wn_X5 wc_X5_makeArrival wy_X5_makeArrival rfl (st := []) rfl rfl (Nat.le_of_ble_eq_true rfl) dX5_stuckBeat_59 ?_
            refine m_goto hc (tgt := 17) dX5_stuckBeat_62 (by decide) ?_
            exact m_fg [] rfl (i_13 _ h)
    exact m_fg [] rfl (L_10 _ _ c_8)
def f_X6_stuck (M : Mm) : Option (Int32 × Mm) :=
 Option.bind (f_X5_exists M) (fun q_1 =>
 if q_1.1 = 0 then (
 Option.bind (f_X5_stuckBeat q_1.2) (fun q_4 =>
 some (q_4.1, q_4.2)))
else (
 some ((-1 : Int32), q_1.2)))
set_option maxRecDepth 100000 in
set_option maxHeartbeats 4000000 in
theorem c_X6_stuck {G : Gm} {l : Launch} (d : Nat) {M : Mm} {r : Int32 × Mm}  (h : f_X6_stuck M = some r) : Cm G l (d + 6) yX6_stuck cX6_stuck 1 (some .int) [.ref (gR G 0)] M (some (.int r.1)) r.2 := by
  unfold f_X6_stuck at h
  refine m_met (lv := [some (.ref (gR G 0))]) (own := RX6) (by decide +kernel) rfl rfl (Nat.le_of_ble_eq_true rfl) rfl ?_
  intro X hX hc hr
  subst hX
  refine m_aload_n hc dX6_stuck_0 rfl ?_
  refine m_getR hc (q := 161) yO_0 rfl tbX6 4 (by decide) wf_X6_42 rfl dX6_stuck_1 ?_
  obtain ⟨q_1, c_2, h⟩ := bd_o h
  refine m_callVi hc yO_161 rfl (c_X5_exists (d + 0) c_2) (by omega) (by decide) wm_X6_163 wi_X5_exists we_X5_exists wn_X5 wc_X5_exists wy_X5_exists rfl (st := []) rfl rfl (Nat.le_of_ble_eq_true rfl) dX6_stuck_4 ?_
  refine m_ifeq hc (tgt := 14) dX6_stuck_7 (by decide) (fun b_3 => ?_) (fun b_3 => ?_)
  · replace h := (if_pos b_3).symm.trans h
    refine m_aload_n hc dX6_stuck_14 rfl ?_
    refine m_getR hc (q := 161) yO_0 rfl tbX6 4 (by decide) wf_X6_42 rfl dX6_stuck_15 ?_
    obtain ⟨q_4, c_5, h⟩ := bd_o h
    refine m_callVi hc yO_161 rfl (c_X5_stuckBeat (d + 0) c_5) (by omega) (by decide) wm_X6_185 wi_X5_stuckBeat we_X5_stuckBeat wn_X5 wc_X5_stuckBeat wy_X5_stuckBeat rfl (st := []) rfl rfl (Nat.le_of_ble_eq_true rfl) dX6_stuck_18 ?_
    cases h
    exact m_iret hc hr dX6_stuck_21
  · replace h := (if_neg b_3).symm.trans h
    refine m_iconst hc (v := (-1)) dX6_stuck_10 (by decide) ?_
    refine m_goto hc (tgt := 21) dX6_stuck_11 (by decide) ?_
    cases h
    exact m_iret hc hr dX6_stuck_21
def f_X0_forgetMark (a0 : Nat) (x1 : Int32) (M : Mm) : Mm :=
 nm (mw M a0 7 ((M a0 7) &&& ((f_X1_bitsOf x1) ^^^ (-1 : Int32)))) (fun M_1 =>
 nm (mw M_1 a0 8 ((M_1 a0 8) &&& ((f_X1_bitsOf x1) ^^^ (-1 : Int32)))) (fun M_3 =>
 M_3))
set_option maxRecDepth 100000 in
set_option maxHeartbeats 4000000 in
theorem c_X0_forgetMark {G : Gm} {l : Launch} (d : Nat) {a0 : Nat} {x1 : Int32} {M : Mm} {r : Mm} (h0 : kC a0) (h : f_X0_forgetMark a0 x1 M = r) : Cm G l (d + 1) yX0_forgetMark cX0_forgetMark 2 none [.ref (gR G a0), .int x1] M none r := by
  unfold f_X0_forgetMark at h
  refine m_met (lv := [some (.ref (gR G a0)), some (.int x1)]) (own := RX0) (by decide +kernel) rfl rfl (Nat.le_of_ble_eq_true rfl) rfl ?_
  intro X hX hc hr
  subst hX
  refine m_aload_n hc dX0_forgetMark_0 rfl ?_
  refine m_dup hc dX0_forgetMark_1 rfl ?_
  refine m_getI hc (kC_o h0) rfl tbX0 7 (by decide) wf_X0_34 rfl dX0_forgetMark_2 ?_
  refine m_iload_n hc dX0_forgetMark_5 rfl ?_
  refine m_callSi hc (c_X1_bitsOf (d + 0) rfl) (by omega) (by decide) wm_X0_75 wt_X1_bitsOf wv_X1_bitsOf wc_X1_bitsOf wz_X1_bitsOf rfl (st := [.int (M a0 7), .ref (gR G a0)]) rfl rfl (Nat.le_of_ble_eq_true rfl) dX0_forgetMark_6 ?_
  refine m_iconst hc (v := (-1)) dX0_forgetMark_9 (by decide) ?_
  refine m_ixor hc dX0_forgetMark_10 ?_
  refine m_iand hc dX0_forgetMark_11 ?_
  refine m_putI hc (kC_o h0) rfl tbX0 tyX0 tyX0_ok nmX0 7 (by decide) wf_X0_34 rfl rfl rfl rfl dX0_forgetMark_12 ?_
  refine m_topM (fun M_1 e_2 => ?_)
  replace h := nm_x e_2 h
  refine m_aload_n hc dX0_forgetMark_15 rfl ?_
  refine m_dup hc dX0_forgetMark_16 rfl ?_
  refine m_getI hc (kC_o h0) rfl tbX0 8 (by decide) wf_X0_37 rfl dX0_forgetMark_17 ?_
  refine m_iload_n hc dX0_forgetMark_20 rfl ?_
  refine m_callSi hc (c_X1_bitsOf (d + 0) rfl) (by omega) (by decide) wm_X0_75 wt_X1_bitsOf wv_X1_bitsOf wc_X1_bitsOf wz_X1_bitsOf rfl (st := [.int (M_1 a0 8), .ref (gR G a0)]) rfl rfl (Nat.le_of_ble_eq_true rfl) dX0_forgetMark_21 ?_
  refine m_iconst hc (v := (-1)) dX0_forgetMark_24 (by decide) ?_
  refine m_ixor hc dX0_forgetMark_25 ?_
  refine m_iand hc dX0_forgetMark_26 ?_
  refine m_putI hc (kC_o h0) rfl tbX0 tyX0 tyX0_ok nmX0 8 (by decide) wf_X0_37 rfl rfl rfl rfl dX0_forgetMark_27 ?_
  refine m_topM (fun M_3 e_4 => ?_)
  replace h := nm_x e_4 h
  subst h
  exact m_vret hc hr dX0_forgetMark_30
def f_X5_sparedWithout (x1 : Int32) (x2 : Int32) (M : Mm) : Option (Int32 × Mm) :=
 if x1 < (M 3 0) then (
 Option.bind (f_X5_makeArrival x1 M) (fun q_2 =>
 Option.bind (f_X0_read 162 3 x1 q_2) (fun q_4 =>
 nm (f_X0_forgetMark 162 x2 q_4) (fun q_6 =>
 Option.bind (f_X5_fillOnward x1 198 q_6) (fun q_8 =>
 ck (ib x1 12) (
 Option.bind (f_X5_bestOf (186 + x1.toNatClampNeg) 198 q_8) (fun q_11 =>
 some (((f_X5_cost q_8) - (q_11 >>> ((20 : Int32) &&& 31))), q_8))))))))
else (
 some ((0 : Int32), M))
set_option maxRecDepth 100000 in
set_option maxHeartbeats 4000000 in
theorem c_X5_sparedWithout {G : Gm} {l : Launch} (d : Nat) {x1 : Int32} {x2 : Int32} {M : Mm} {r : Int32 × Mm}  (h : f_X5_sparedWithout x1 x2 M = some r) : Cm G l (d + 5) yX5_sparedWithout cX5_sparedWithout 3 (some .int) [.ref (gR G 161), .int x1, .int x2] M (some (.int r.1)) r.2 := by
  unfold f_X5_sparedWithout at h
  refine m_met (lv := [some (.ref (gR G 161)), some (.int x1), some (.int x2)]) (own := RX5) (by decide +kernel) rfl rfl (Nat.le_of_ble_eq_true rfl) rfl ?_
  intro X hX hc hr
  subst hX
  refine m_iload_n hc dX5_sparedWithout_0 rfl ?_
  refine m_aload_n hc dX5_sparedWithout_1 rfl ?_
  refine m_getR hc (q := 3) yO_161 rfl tbX5 1 (by decide) wf_X5_15 rfl dX5_sparedWithout_2 ?_
  refine m_getI hc yO_3 rfl tbX3 0 (by decide) wf_X5_93 rfl dX5_sparedWithout_5 ?_
  refine m_iclt hc (tgt := 13) dX5_sparedWithout_8 (by decide) (fun b_1 => ?_) (fun b_1 => ?_)
  · replace h := (if_pos b_1).symm.trans h
    refine m_aload_n hc dX5_sparedWithout_13 rfl ?_
    refine m_iload_n hc dX5_sparedWithout_14 rfl ?_
    obtain ⟨q_2, c_3, h⟩ := bd_o h
    refine m_callVv hc yO_161 rfl (c_X5_makeArrival (d + 0) c_3) (by omega) (by decide) wm_X5_113 wi_X5_makeArrival we_X5_makeArrival wn_X5 wc_X5_makeArrival wy_X5_makeArrival rfl (st := []) rfl rfl (Nat.le_of_ble_eq_true rfl) dX5_sparedWithout_15 ?_
    refine m_aload_n hc dX5_sparedWithout_18 rfl ?_
    refine m_getR hc (q := 162) yO_161 rfl tbX5 2 (by decide) wf_X5_22 rfl dX5_sparedWithout_19 ?_
    refine m_aload_n hc dX5_sparedWithout_22 rfl ?_
    refine m_getR hc (q := 3) yO_161 rfl tbX5 1 (by decide) wf_X5_15 rfl dX5_sparedWithout_23 ?_
    refine m_iload_n hc dX5_sparedWithout_26 rfl ?_
    obtain ⟨q_4, c_5, h⟩ := bd_o h
    refine m_callVv hc yO_162 rfl (c_X0_read (d + 2) kC_162 kP_3lit c_5) (by omega) (by decide) wm_X5_101 wi_X0_read we_X0_read wn_X0 wc_X0_read wy_X0_read rfl (st := []) rfl rfl (Nat.le_of_ble_eq_true rfl) dX5_sparedWithout_27 ?_
    refine m_aload_n hc dX5_sparedWithout_30 rfl ?_
    refine m_getR hc (q := 162) yO_161 rfl tbX5 2 (by decide) wf_X5_22 rfl dX5_sparedWithout_31 ?_
    refine m_iload_n hc dX5_sparedWithout_34 rfl ?_
    obtain ⟨q_6, c_7, h⟩ := nm_o h
    refine m_callVv hc yO_162 rfl (c_X0_forgetMark (d + 3) kC_162 c_7) (by omega) (by decide) wm_X5_144 wi_X0_forgetMark we_X0_forgetMark wn_X0 wc_X0_forgetMark wy_X0_forgetMark rfl (st := []) rfl rfl (Nat.le_of_ble_eq_true rfl) dX5_sparedWithout_35 ?_
    refine m_aload_n hc dX5_sparedWithout_38 rfl ?_
    refine m_iload_n hc dX5_sparedWithout_39 rfl ?_
    refine m_aload_n hc dX5_sparedWithout_40 rfl ?_
    refine m_getR hc (q := 198) yO_161 rfl tbX5 6 (by decide) wf_X5_38 rfl dX5_sparedWithout_41 ?_
    obtain ⟨q_8, c_9, h⟩ := bd_o h
    refine m_callVv hc yO_161 rfl (c_X5_fillOnward (d + 0) yA_198 c_9) (by omega) (by decide) wm_X5_105 wi_X5_fillOnward we_X5_fillOnward wn_X5 wc_X5_fillOnward wy_X5_fillOnward rfl (st := []) rfl rfl (Nat.le_of_ble_eq_true rfl) dX5_sparedWithout_44 ?_
    refine m_aload_n hc dX5_sparedWithout_47 rfl ?_
    refine m_callVi hc yO_161 rfl (c_X5_cost (d + 4) rfl) (by omega) (by decide) wm_X5_147 wi_X5_cost we_X5_cost wn_X5 wc_X5_cost wy_X5_cost rfl (st := []) rfl rfl (Nat.le_of_ble_eq_true rfl) dX5_sparedWithout_48 ?_
    refine m_aload_n hc dX5_sparedWithout_51 rfl ?_
    refine m_getR hc (q := 185) yO_161 rfl tbX5 5 (by decide) wf_X5_35 rfl dX5_sparedWithout_52 ?_
    refine m_iload_n hc dX5_sparedWithout_55 rfl ?_
    obtain ⟨b_10, h⟩ := ck_o h
    refine m_jald hc yJ_185 b_10 (tAr_d _ (ib_lt b_10)) dX5_sparedWithout_56 ?_
    refine m_aload_n hc dX5_sparedWithout_57 rfl ?_
    refine m_getR hc (q := 198) yO_161 rfl tbX5 6 (by decide) wf_X5_38 rfl dX5_sparedWithout_58 ?_
    obtain ⟨q_11, c_12, h⟩ := bd_o h
    refine m_callSi hc (c_X5_bestOf (d + 3) (jAr_d _ (ib_lt b_10)) yA_198 c_12) (by omega) (by decide) wm_X5_117 wt_X5_bestOf wv_X5_bestOf wc_X5_bestOf wz_X5_bestOf rfl (st := [.int (f_X5_cost q_8)]) rfl rfl (Nat.le_of_ble_eq_true rfl) dX5_sparedWithout_61 ?_
    refine m_bipush hc (v := (20 : Int32)) dX5_sparedWithout_64 (by decide) ?_
    refine m_ishr hc dX5_sparedWithout_66 ?_
    refine m_isub hc dX5_sparedWithout_67 ?_
    cases h
    exact m_iret hc hr dX5_sparedWithout_68
  · replace h := (if_neg b_1).symm.trans h
    refine m_iconst hc (v := 0) dX5_sparedWithout_11 (by decide) ?_
    cases h
    exact m_iret hc hr dX5_sparedWithout_12
def f_X6_without (x1 : Int32) (x2 : Int32) (M : Mm) : Option (Int32 × Mm) :=
 if (f_X6_isBeat x1) = 0 then (
 nm (f_X6_finding (-100001 : Int32) M) (fun q_2 =>
 some (q_2.1, q_2.2)))
else (
 if (f_X6_isPedal x2) = 0 then (
 nm (f_X6_finding (-100001 : Int32) M) (fun q_16 =>
 some (q_16.1, q_16.2)))
else (
 ck (ib ((x1 * (7 : Int32)) + x2) 84) (
 if 0 ≤ (M 8 ((x1 * (7 : Int32)) + x2).toNatClampNeg) then (
 Option.bind (f_X5_exists M) (fun q_7 =>
 if q_7.1 = 0 then (
 nm (f_X6_finding (-100006 : Int32) q_7.2) (fun q_10 =>
 some (q_10.1, q_10.2)))
else (
 Option.bind (f_X5_sparedWithout x1 x2 q_7.2) (fun q_12 =>
 some (q_12.1, q_12.2)))))
else (
 nm (f_X6_finding (-100004 : Int32) M) (fun q_14 =>
 some (q_14.1, q_14.2))))))
set_option maxRecDepth 100000 in
set_option maxHeartbeats 4000000 in
theorem c_X6_without {G : Gm} {l : Launch} (d : Nat) {x1 : Int32} {x2 : Int32} {M : Mm} {r : Int32 × Mm}  (h : f_X6_without x1 x2 M = some r) : Cm G l (d + 6) yX6_without cX6_without 3 (some .int) [.ref (gR G 0), .int x1, .int x2] M (some (.int r.1)) r.2 := by
  unfold f_X6_without at h
  refine m_met (lv := [some (.ref (gR G 0)), some (.int x1), some (.int x2)]) (own := RX6) (by decide +kernel) rfl rfl (Nat.le_of_ble_eq_true rfl) rfl ?_
  intro X hX hc hr
  subst hX
  refine m_iload_n hc dX6_without_0 rfl ?_
  refine m_callSi hc (c_X6_isBeat (d + 5) rfl) (by omega) (by decide) wm_X6_72 wt_X6_isBeat wv_X6_isBeat wc_X6_isBeat wz_X6_isBeat rfl (st := []) rfl rfl (Nat.le_of_ble_eq_true rfl) dX6_without_1 ?_
  refine m_ifeq hc (tgt := 14) dX6_without_4 (by decide) (fun b_1 => ?_) (fun b_1 => ?_)
  · replace h := (if_pos b_1).symm.trans h
    refine m_aload_n hc dX6_without_14 rfl ?_
    refine m_ldc hc dX6_without_15 wk_X6_57 ?_
    obtain ⟨q_2, c_3, h⟩ := nm_o h
    refine m_callVi hc yO_0 rfl (c_X6_finding (d + 5) c_3) (by omega) (by decide) wm_X6_58 wi_X6_finding we_X6_finding wn_X6 wc_X6_finding wy_X6_finding rfl (st := []) rfl rfl (Nat.le_of_ble_eq_true rfl) dX6_without_17 ?_
    cases h
    exact m_iret hc hr dX6_without_20
  · replace h := (if_neg b_1).symm.trans h
    refine m_iload_n hc dX6_without_7 rfl ?_
    refine m_callSi hc (c_X6_isPedal (d + 5) rfl) (by omega) (by decide) wm_X6_126 wt_X6_isPedal wv_X6_isPedal wc_X6_isPedal wz_X6_isPedal rfl (st := []) rfl rfl (Nat.le_of_ble_eq_true rfl) dX6_without_8 ?_
    refine m_ifne hc (tgt := 21) dX6_without_11 (by decide) (fun b_4 => ?_) (fun b_4 => ?_)
    · replace h := (if_neg b_4).symm.trans h
      refine m_aload_n hc dX6_without_21 rfl ?_
      refine m_getR hc (q := 3) yO_0 rfl tbX6 1 (by decide) wf_X6_19 rfl dX6_without_22 ?_
      refine m_getR hc (q := 8) yO_3 rfl tbX3 5 (by decide) wf_X6_132 rfl dX6_without_25 ?_
      refine m_iload_n hc dX6_without_28 rfl ?_
      refine m_bipush hc (v := (7 : Int32)) dX6_without_29 (by decide) ?_
      refine m_imul hc dX6_without_31 ?_
      refine m_iload_n hc dX6_without_32 rfl ?_
      refine m_iadd hc dX6_without_33 ?_
      obtain ⟨b_5, h⟩ := ck_o h
      refine m_iald hc yA_8 b_5 dX6_without_34 ?_
      refine m_ifge hc (tgt := 45) dX6_without_35 (by decide) (fun b_6 => ?_) (fun b_6 => ?_)
      · replace h := (if_pos b_6).symm.trans h
        refine m_aload_n hc dX6_without_45 rfl ?_
        refine m_getR hc (q := 161) yO_0 rfl tbX6 4 (by decide) wf_X6_42 rfl dX6_without_46 ?_
        obtain ⟨q_7, c_8, h⟩ := bd_o h
        refine m_callVi hc yO_161 rfl (c_X5_exists (d + 0) c_8) (by omega) (by decide) wm_X6_163 wi_X5_exists we_X5_exists wn_X5 wc_X5_exists wy_X5_exists rfl (st := []) rfl rfl (Nat.le_of_ble_eq_true rfl) dX6_without_49 ?_
        refine m_ifeq hc (tgt := 67) dX6_without_52 (by decide) (fun b_9 => ?_) (fun b_9 => ?_)
        · replace h := (if_pos b_9).symm.trans h
          refine m_aload_n hc dX6_without_67 rfl ?_
          refine m_ldc hc dX6_without_68 wk_X6_92 ?_
          obtain ⟨q_10, c_11, h⟩ := nm_o h
          refine m_callVi hc yO_0 rfl (c_X6_finding (d + 5) c_11) (by omega) (by decide) wm_X6_58 wi_X6_finding we_X6_finding wn_X6 wc_X6_finding wy_X6_finding rfl (st := []) rfl rfl (Nat.le_of_ble_eq_true rfl) dX6_without_70 ?_
          cases h
          exact m_iret hc hr dX6_without_73
        · replace h := (if_neg b_9).symm.trans h
          refine m_aload_n hc dX6_without_55 rfl ?_
          refine m_getR hc (q := 161) yO_0 rfl tbX6 4 (by decide) wf_X6_42 rfl dX6_without_56 ?_
          refine m_iload_n hc dX6_without_59 rfl ?_
          refine m_iload_n hc dX6_without_60 rfl ?_
          obtain ⟨q_12, c_13, h⟩ := bd_o h
          refine m_callVi hc yO_161 rfl (c_X5_sparedWithout (d + 0) c_13) (by omega) (by decide) wm_X6_188 wi_X5_sparedWithout we_X5_sparedWithout wn_X5 wc_X5_sparedWithout wy_X5_sparedWithout rfl (st := []) rfl rfl (Nat.le_of_ble_eq_true rfl) dX6_without_61 ?_
          refine m_goto hc (tgt := 73) dX6_without_64 (by decide) ?_
          cases h
          exact m_iret hc hr dX6_without_73
      · replace h := (if_neg b_6).symm.trans h
        refine m_aload_n hc dX6_without_38 rfl ?_
        refine m_ldc hc dX6_without_39 wk_X6_107 ?_
        obtain ⟨q_14, c_15, h⟩ := nm_o h
        refine m_callVi hc yO_0 rfl (c_X6_finding (d + 5) c_15) (by omega) (by decide) wm_X6_58 wi_X6_finding we_X6_finding wn_X6 wc_X6_finding wy_X6_finding rfl (st := []) rfl rfl (Nat.le_of_ble_eq_true rfl) dX6_without_41 ?_
        cases h
        exact m_iret hc hr dX6_without_44
    · replace h := (if_pos b_4).symm.trans h
      refine m_aload_n hc dX6_without_14 rfl ?_
      refine m_ldc hc dX6_without_15 wk_X6_57 ?_
      obtain ⟨q_16, c_17, h⟩ := nm_o h
      refine m_callVi hc yO_0 rfl (c_X6_finding (d + 5) c_17) (by omega) (by decide) wm_X6_58 wi_X6_finding we_X6_finding wn_X6 wc_X6_finding wy_X6_finding rfl (st := []) rfl rfl (Nat.le_of_ble_eq_true rfl) dX6_without_17 ?_
      cases h
      exact m_iret hc hr dX6_without_20
def L_X0_sortStrings_20 (a0 : Nat) (q_11 : Int32) : Nat → Int32 → Mm → Option (Int32 × Mm)
  | 0, _, _ => none
  | n_20 + 1, x4_13, M_14 =>
    if x4_13 ≤ 0 then (
     some (x4_13, M_14))
    else (
     ck (ib (x4_13 - (1 : Int32)) 6) (
     if (M_14 (a0 + 7) (x4_13 - (1 : Int32)).toNatClampNeg) ≤ q_11 then (
     some (x4_13, M_14))
    else (
     ck (ib (x4_13 - (1 : Int32)) 6) (
     ck (ib x4_13 6) (
     nm (mw M_14 (a0 + 7) x4_13.toNatClampNeg (M_14 (a0 + 7) (x4_13 - (1 : Int32)).toNatClampNeg)) (fun M_27 =>
     ck (ib (x4_13 - (1 : Int32)) 6) (
     ck (ib x4_13 6) (
     nm (mw M_27 (a0 + 8) x4_13.toNatClampNeg (M_27 (a0 + 8) (x4_13 - (1 : Int32)).toNatClampNeg)) (fun M_31 =>
     L_X0_sortStrings_20 a0 q_11 n_20 (x4_13 + (-1)) M_31)))))))))
def L_X0_sortStrings_2 (a0 : Nat) (x1 : Int32) : Nat → Int32 → Mm → Option (Mm)
  | 0, _, _ => none
  | n_8 + 1, x2_1, M_2 =>
    if (M_2 a0 0) ≤ x2_1 then (
     some M_2)
    else (
     Option.bind (f_X0_stringOf a0 x2_1 x1 M_2) (fun q_11 =>
     Option.bind (L_X0_sortStrings_20 a0 q_11 FU x2_1 M_2) (fun q_15 =>
     ck (ib q_15.1 6) (
     nm (mw q_15.2 (a0 + 7) q_15.1.toNatClampNeg q_11) (fun M_34 =>
     ck (ib x2_1 6) (
     ck (ib q_15.1 6) (
     nm (mw M_34 (a0 + 8) q_15.1.toNatClampNeg (M_34 (a0 + 1) x2_1.toNatClampNeg)) (fun M_38 =>
     L_X0_sortStrings_2 a0 x1 n_8 (x2_1 + 1) M_38))))))))
def f_X0_sortStrings (a0 : Nat) (x1 : Int32) (M : Mm) : Option (Mm) :=
 Option.bind (L_X0_sortStrings_2 a0 x1 FU (0 : Int32) M) (fun q_3 =>
 some q_3)
set_option maxRecDepth 100000 in
set_option maxHeartbeats 4000000 in
theorem c_X0_sortStrings {G : Gm} {l : Launch} (d : Nat) {a0 : Nat} {x1 : Int32} {M : Mm} {r : Mm} (h0 : kC a0) (h : f_X0_sortStrings a0 x1 M = some r) : Cm G l (d + 2) yX0_sortStrings cX0_sortStrings 5 none [.ref (gR G a0), .int x1] M none r := by
  unfold f_X0_sortStrings at h
  refine m_met (lv := [some (.ref (gR G a0)), some (.int x1), none, none, none]) (own := RX0) (by decide +kernel) rfl rfl (Nat.le_of_ble_eq_true rfl) rfl ?_
  intro X hX hc hr
  subst hX
  refine m_iconst hc (v := 0) dX0_sortStrings_0 (by decide) ?_
  refine m_istore_n hc (lv' := [some (.ref (gR G a0)), some (.int x1), some (.int (0 : Int32)), none, none]) dX0_sortStrings_1 (Nat.le_of_ble_eq_true rfl) rfl rfl ?_
  obtain ⟨q_3, c_4, h⟩ := bd_o h
  have J_5 : WM G X (qQ G X none r) q_3 103 [some (.ref (gR G a0)), some (.int x1), none, none, none] [] := by
    cases h
    exact m_vret hc hr dX0_sortStrings_103
  have L_6 : ∀ (n_8 : Nat) (x2_1 : Int32) (M_2 : Mm), L_X0_sortStrings_2 a0 x1 n_8 x2_1 M_2 = some q_3 → WM G X (qQ G X none r) M_2 2 [some (.ref (gR G a0)), some (.int x1), some (.int x2_1), none, none] [] := by
    intro n_8
    induction n_8 with
    | zero =>
      intro x2_1 M_2 h
      cases (show none = some _ from h)
    | succ n_8 i_9 =>
      intro x2_1 M_2 h
      rw [L_X0_sortStrings_2] at h
      refine m_iload_n hc dX0_sortStrings_2 rfl ?_
      refine m_aload_n hc dX0_sortStrings_3 rfl ?_
      refine m_getI hc (kC_o h0) rfl tbX0 0 (by decide) wf_X0_9 rfl dX0_sortStrings_4 ?_
      refine m_icge hc (tgt := 103) dX0_sortStrings_7 (by decide) (fun b_10 => ?_) (fun b_10 => ?_)
      · replace h := (if_pos b_10).symm.trans h
        cases h
        exact m_fg [2] rfl J_5
      · replace h := (if_neg b_10).symm.trans h
        refine m_aload_n hc dX0_sortStrings_10 rfl ?_
        refine m_iload_n hc dX0_sortStrings_11 rfl ?_
        refine m_iload_n hc dX0_sortStrings_12 rfl ?_
        obtain ⟨q_11, c_12, h⟩ := bd_o h
        refine m_callVi hc (kC_o h0) rfl (c_X0_stringOf (d + 0) h0 c_12) (by omega) (by decide) wm_X0_87 wi_X0_stringOf we_X0_stringOf wn_X0 wc_X0_stringOf wy_X0_stringOf rfl (st := []) rfl rfl (Nat.le_of_ble_eq_true rfl) dX0_sortStrings_13 ?_
        refine m_istore_n hc (lv' := [some (.ref (gR G a0)), some (.int x1), some (.int x2_1), some (.int q_11), none]) dX0_sortStrings_16 (Nat.le_of_ble_eq_true rfl) rfl rfl ?_
        refine m_iload_n hc dX0_sortStrings_17 rfl ?_
        refine m_istore hc (lv' := [some (.ref (gR G a0)), some (.int x1), some (.int x2_1), some (.int q_11), some (.int x2_1)]) dX0_sortStrings_18 (Nat.le_of_ble_eq_true rfl) rfl rfl ?_
        obtain ⟨q_15, c_16, h⟩ := bd_o h
        have J_17 : WM G X (qQ G X none r) q_15.2 76 [some (.ref (gR G a0)), some (.int x1), some (.int x2_1), some (.int q_11), some (.int q_15.1)] [] := by
          refine m_aload_n hc dX0_sortStrings_76 rfl ?_
          refine m_getR hc (q := (a0 + 7)) (kC_o h0) rfl tbX0 9 (by decide) wf_X0_40 rfl dX0_sortStrings_77 ?_
          refine m_iload hc dX0_sortStrings_80 rfl ?_
          refine m_iload_n hc dX0_sortStrings_82 rfl ?_
          obtain ⟨b_33, h⟩ := ck_o h
          refine m_iast hc (kC_7 h0) b_33 dX0_sortStrings_83 ?_
          refine m_topM (fun M_34 e_35 => ?_)
          replace h := nm_x e_35 h
          refine m_aload_n hc dX0_sortStrings_84 rfl ?_
          refine m_getR hc (q := (a0 + 8)) (kC_o h0) rfl tbX0 10 (by decide) wf_X0_43 rfl dX0_sortStrings_85 ?_
          refine m_iload hc dX0_sortStrings_88 rfl ?_
          refine m_aload_n hc dX0_sortStrings_90 rfl ?_
          refine m_getR hc (q := (a0 + 1)) (kC_o h0) rfl tbX0 1 (by decide) wf_X0_15 rfl dX0_sortStrings_91 ?_
          refine m_iload_n hc dX0_sortStrings_94 rfl ?_
          obtain ⟨b_36, h⟩ := ck_o h
          refine m_iald hc (kC_1 h0) b_36 dX0_sortStrings_95 ?_
          obtain ⟨b_37, h⟩ := ck_o h
          refine m_iast hc (kC_8 h0) b_37 dX0_sortStrings_96 ?_
          refine m_topM (fun M_38 e_39 => ?_)
          replace h := nm_x e_39 h
          refine m_iinc hc (v := x2_1 + 1) (lv' := [some (.ref (gR G a0)), some (.int x1), some (.int (x2_1 + 1)), some (.int q_11), some (.int q_15.1)]) dX0_sortStrings_97 rfl rfl rfl rfl ?_
          refine m_goto hc (tgt := 2) dX0_sortStrings_100 (by decide) ?_
          exact m_fg [3, 4] rfl (i_9 _ _ h)
        have L_18 : ∀ (n_20 : Nat) (x4_13 : Int32) (M_14 : Mm), L_X0_sortStrings_20 a0 q_11 n_20 x4_13 M_14 = some q_15 → WM G X (qQ G X none r) M_14 20 [some (.ref (gR G a0)), some (.int x1), some (.int x2_1), some (.int q_11), some (.int x4_13)] [] := by
          intro n_20
          induction n_20 with
          | zero =>
            intro x4_13 M_14 h
            cases (show none = some _ from h)
          | succ n_20 i_21 =>
            intro x4_13 M_14 h
            rw [L_X0_sortStrings_20] at h
            refine m_iload hc dX0_sortStrings_20 rfl ?_
            refine m_ifle hc (tgt := 76) dX0_sortStrings_22 (by decide) (fun b_22 => ?_) (fun b_22 => ?_)
            · replace h := (if_pos b_22).symm.trans h
              cases h
              exact m_fg [] rfl J_17
            · replace h := (if_neg b_22).symm.trans h
              refine m_aload_n hc dX0_sortStrings_25 rfl ?_
              refine m_getR hc (q := (a0 + 7)) (kC_o h0) rfl tbX0 9 (by decide) wf_X0_40 rfl dX0_sortStrings_26 ?_
              refine m_iload hc dX0_sortStrings_29 rfl ?_
              refine m_iconst hc (v := 1) dX0_sortStrings_31 (by decide) ?_
              refine m_isub hc dX0_sortStrings_32 ?_
              obtain ⟨b_23, h⟩ := ck_o h
              refine m_iald hc (kC_7 h0) b_23 dX0_sortStrings_33 ?_
              refine m_iload_n hc dX0_sortStrings_34 rfl ?_
              refine m_icle hc (tgt := 76) dX0_sortStrings_35 (by decide) (fun b_24 => ?_) (fun b_24 => ?_)
              · replace h := (if_pos b_24).symm.trans h
                cases h
                exact m_fg [] rfl J_17
              · replace h := (if_neg b_24).symm.trans h
                refine m_aload_n hc dX0_sortStrings_38 rfl ?_
                refine m_getR hc (q := (a0 + 7)) (kC_o h0) rfl tbX0 9 (by decide) wf_X0_40 rfl dX0_sortStrings_39 ?_
                refine m_iload hc dX0_sortStrings_42 rfl ?_
                refine m_aload_n hc dX0_sortStrings_44 rfl ?_
                refine m_getR hc (q := (a0 + 7)) (kC_o h0) rfl tbX0 9 (by decide) wf_X0_40 rfl dX0_sortStrings_45 ?_
                refine m_iload hc dX0_sortStrings_48 rfl ?_
                refine m_iconst hc (v := 1) dX0_sortStrings_50 (by decide) ?_
                refine m_isub hc dX0_sortStrings_51 ?_
                obtain ⟨b_25, h⟩ := ck_o h
                refine m_iald hc (kC_7 h0) b_25 dX0_sortStrings_52 ?_
                obtain ⟨b_26, h⟩ := ck_o h
                refine m_iast hc (kC_7 h0) b_26 dX0_sortStrings_53 ?_
                refine m_topM (fun M_27 e_28 => ?_)
                replace h := nm_x e_28 h
                refine m_aload_n hc dX0_sortStrings_54 rfl ?_
                refine m_getR hc (q := (a0 + 8)) (kC_o h0) rfl tbX0 10 (by decide) wf_X0_43 rfl dX0_sortStrings_55 ?_
                refine m_iload hc dX0_sortStrings_58 rfl ?_
                refine m_aload_n hc dX0_sortStrings_60 rfl ?_
                refine m_getR hc (q := (a0 + 8)) (kC_o h0) rfl tbX0 10 (by decide) wf_X0_43 rfl dX0_sortStrings_61 ?_
                refine m_iload hc dX0_sortStrings_64 rfl ?_
                refine m_iconst hc (v := 1) dX0_sortStrings_66 (by decide) ?_
                refine m_isub hc dX0_sortStrings_67 ?_
                obtain ⟨b_29, h⟩ := ck_o h
                refine m_iald hc (kC_8 h0) b_29 dX0_sortStrings_68 ?_
                obtain ⟨b_30, h⟩ := ck_o h
                refine m_iast hc (kC_8 h0) b_30 dX0_sortStrings_69 ?_
                refine m_topM (fun M_31 e_32 => ?_)
                replace h := nm_x e_32 h
                refine m_iinc hc (v := x4_13 + (-1)) (lv' := [some (.ref (gR G a0)), some (.int x1), some (.int x2_1), some (.int q_11), some (.int (x4_13 + (-1)))]) dX0_sortStrings_70 rfl rfl rfl rfl ?_
                refine m_goto hc (tgt := 20) dX0_sortStrings_73 (by decide) ?_
                exact m_fg [] rfl (i_21 _ _ h)
        exact m_fg [] rfl (L_18 _ _ _ c_16)
  exact m_fg [] rfl (L_6 _ _ _ c_4)
def L_X0_handCan_12 (a0 : Nat) (x2 : Int32) (M : Mm) : Nat → Int32 → Int32 → Option (Int32)
  | 0, _, _ => none
  | n_9 + 1, x3_2, x4_3 =>
    if x2 ≤ x4_3 then (
     some x3_2)
    else (
     ck (ib x4_3 6) (
     nm ((x3_2 + (M (a0 + 8) x4_3.toNatClampNeg))) (fun x3_13 =>
     L_X0_handCan_12 a0 x2 M n_9 x3_13 (x4_3 + 1))))
def f_X0_handCan (a0 : Nat) (x1 : Int32) (x2 : Int32) (M : Mm) : Option (Int32) :=
 if x1 < x2 then (
 Option.bind (L_X0_handCan_12 a0 x2 M FU (0 : Int32) x1) (fun q_4 =>
 if (4 : Int32) < q_4 then (
 some (0 : Int32))
else (
 ck (ib (x2 - (1 : Int32)) 6) (
 ck (ib x1 6) (
 if (9 : Int32) < ((M (a0 + 7) (x2 - (1 : Int32)).toNatClampNeg) - (M (a0 + 7) x1.toNatClampNeg)) then (
 some (0 : Int32))
else (
 some (1 : Int32)))))))
else (
 some (1 : Int32))
set_option maxRecDepth 100000 in
set_option maxHeartbeats 4000000 in
theorem c_X0_handCan {G : Gm} {l : Launch} (d : Nat) {a0 : Nat} {x1 : Int32} {x2 : Int32} {M : Mm} {r : Int32} (h0 : kC a0) (h : f_X0_handCan a0 x1 x2 M = some r) : Cm G l (d + 0) yX0_handCan cX0_handCan 5 (some .boolean) [.ref (gR G a0), .int x1, .int x2] M (some (.int r)) M := by
  unfold f_X0_handCan at h
  refine m_met (lv := [some (.ref (gR G a0)), some (.int x1), some (.int x2), none, none]) (own := RX0) (by decide +kernel) rfl rfl (Nat.le_of_ble_eq_true rfl) rfl ?_
  intro X hX hc hr
  subst hX
  refine m_iload_n hc dX0_handCan_0 rfl ?_
  refine m_iload_n hc dX0_handCan_1 rfl ?_
  refine m_iclt hc (tgt := 7) dX0_handCan_2 (by decide) (fun b_1 => ?_) (fun b_1 => ?_)
  · replace h := (if_pos b_1).symm.trans h
    refine m_iconst hc (v := 0) dX0_handCan_7 (by decide) ?_
    refine m_istore_n hc (lv' := [some (.ref (gR G a0)), some (.int x1), some (.int x2), some (.int (0 : Int32)), none]) dX0_handCan_8 (Nat.le_of_ble_eq_true rfl) rfl rfl ?_
    refine m_iload_n hc dX0_handCan_9 rfl ?_
    refine m_istore hc (lv' := [some (.ref (gR G a0)), some (.int x1), some (.int x2), some (.int (0 : Int32)), some (.int x1)]) dX0_handCan_10 (Nat.le_of_ble_eq_true rfl) rfl rfl ?_
    obtain ⟨q_4, c_5, h⟩ := bd_o h
    have J_6 : WM G X (qQ G X (some (.int r)) M) M 34 [some (.ref (gR G a0)), some (.int x1), some (.int x2), some (.int q_4), none] [] := by
      refine m_iload_n hc dX0_handCan_34 rfl ?_
      refine m_iconst hc (v := 4) dX0_handCan_35 (by decide) ?_
      refine m_icgt hc (tgt := 63) dX0_handCan_36 (by decide) (fun b_15 => ?_) (fun b_15 => ?_)
      · replace h := (if_pos b_15).symm.trans h
        refine m_iconst hc (v := 0) dX0_handCan_63 (by decide) ?_
        cases h
        exact m_zret hc hr (v := (0 : Int32)) (by decide) dX0_handCan_64
      · replace h := (if_neg b_15).symm.trans h
        refine m_aload_n hc dX0_handCan_39 rfl ?_
        refine m_getR hc (q := (a0 + 7)) (kC_o h0) rfl tbX0 9 (by decide) wf_X0_40 rfl dX0_handCan_40 ?_
        refine m_iload_n hc dX0_handCan_43 rfl ?_
        refine m_iconst hc (v := 1) dX0_handCan_44 (by decide) ?_
        refine m_isub hc dX0_handCan_45 ?_
        obtain ⟨b_16, h⟩ := ck_o h
        refine m_iald hc (kC_7 h0) b_16 dX0_handCan_46 ?_
        refine m_aload_n hc dX0_handCan_47 rfl ?_
        refine m_getR hc (q := (a0 + 7)) (kC_o h0) rfl tbX0 9 (by decide) wf_X0_40 rfl dX0_handCan_48 ?_
        refine m_iload_n hc dX0_handCan_51 rfl ?_
        obtain ⟨b_17, h⟩ := ck_o h
        refine m_iald hc (kC_7 h0) b_17 dX0_handCan_52 ?_
        refine m_isub hc dX0_handCan_53 ?_
        refine m_bipush hc (v := (9 : Int32)) dX0_handCan_54 (by decide) ?_
        refine m_icgt hc (tgt := 63) dX0_handCan_56 (by decide) (fun b_18 => ?_) (fun b_18 => ?_)
        · replace h := (if_pos b_18).symm.trans h
          refine m_iconst hc (v := 0) dX0_handCan_63 (by decide) ?_
          cases h
          exact m_zret hc hr (v := (0 : Int32)) (by decide) dX0_handCan_64
        · replace h := (if_neg b_18).symm.trans h
          refine m_iconst hc (v := 1) dX0_handCan_59 (by decide) ?_
          refine m_goto hc (tgt := 64) dX0_handCan_60 (by decide) ?_
          cases h
          exact m_zret hc hr (v := (1 : Int32)) (by decide) dX0_handCan_64
    have L_7 : ∀ (n_9 : Nat) (x3_2 : Int32) (x4_3 : Int32), L_X0_handCan_12 a0 x2 M n_9 x3_2 x4_3 = some q_4 → WM G X (qQ G X (some (.int r)) M) M 12 [some (.ref (gR G a0)), some (.int x1), some (.int x2), some (.int x3_2), some (.int x4_3)] [] := by
      intro n_9
      induction n_9 with
      | zero =>
        intro x3_2 x4_3 h
        cases (show none = some _ from h)
      | succ n_9 i_10 =>
        intro x3_2 x4_3 h
        rw [L_X0_handCan_12] at h
        refine m_iload hc dX0_handCan_12 rfl ?_
        refine m_iload_n hc dX0_handCan_14 rfl ?_
        refine m_icge hc (tgt := 34) dX0_handCan_15 (by decide) (fun b_11 => ?_) (fun b_11 => ?_)
        · replace h := (if_pos b_11).symm.trans h
          cases h
          exact m_fg [4] rfl J_6
        · replace h := (if_neg b_11).symm.trans h
          refine m_iload_n hc dX0_handCan_18 rfl ?_
          refine m_aload_n hc dX0_handCan_19 rfl ?_
          refine m_getR hc (q := (a0 + 8)) (kC_o h0) rfl tbX0 10 (by decide) wf_X0_43 rfl dX0_handCan_20 ?_
          refine m_iload hc dX0_handCan_23 rfl ?_
          obtain ⟨b_12, h⟩ := ck_o h
          refine m_iald hc (kC_8 h0) b_12 dX0_handCan_25 ?_
          refine m_iadd hc dX0_handCan_26 ?_
          refine m_topI (fun x3_13 e_14 => ?_)
          replace h := nm_x e_14 h
          refine m_istore_n hc (lv' := [some (.ref (gR G a0)), some (.int x1), some (.int x2), some (.int x3_13), some (.int x4_3)]) dX0_handCan_27 (Nat.le_of_ble_eq_true rfl) rfl rfl ?_
          refine m_iinc hc (v := x4_3 + 1) (lv' := [some (.ref (gR G a0)), some (.int x1), some (.int x2), some (.int x3_13), some (.int (x4_3 + 1))]) dX0_handCan_28 rfl rfl rfl rfl ?_
          refine m_goto hc (tgt := 12) dX0_handCan_31 (by decide) ?_
          exact m_fg [] rfl (i_10 _ _ h)
    exact m_fg [] rfl (L_7 _ _ _ c_5)
  · replace h := (if_neg b_1).symm.trans h
    refine m_iconst hc (v := 1) dX0_handCan_5 (by decide) ?_
    cases h
    exact m_zret hc hr (v := (1 : Int32)) (by decide) dX0_handCan_6
