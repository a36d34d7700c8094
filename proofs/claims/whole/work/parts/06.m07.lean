def L_X0_leastForLeft_7 (a0 : Nat) (q_1 : Mm) : Nat → Int32 → Option ((Unit) ⊕ (Int32 × Mm))
  | 0, _ => none
  | n_9 + 1, x2_3 =>
    if (q_1 a0 0) < x2_3 then (
     some (.inl ()))
    else (
     Option.bind (f_X0_handCan a0 (0 : Int32) x2_3 q_1) (fun q_13 =>
     if q_13 = 0 then (
     L_X0_leastForLeft_7 a0 q_1 n_9 (x2_3 + 1))
    else (
     Option.bind (f_X0_handCan a0 x2_3 (q_1 a0 0) q_1) (fun q_16 =>
     if q_16 = 0 then (
     L_X0_leastForLeft_7 a0 q_1 n_9 (x2_3 + 1))
    else (
     some (.inr (x2_3, q_1)))))))
def f_X0_leastForLeft (a0 : Nat) (x1 : Int32) (M : Mm) : Option (Int32 × Mm) :=
 Option.bind (f_X0_sortStrings a0 x1 M) (fun q_1 =>
 Option.bind (L_X0_leastForLeft_7 a0 q_1 FU (0 : Int32)) (fun q_4 => Sum.elim (fun w_11 =>
 some ((-1 : Int32), q_1)) (fun r => some r) q_4))
set_option maxRecDepth 100000 in
set_option maxHeartbeats 4000000 in
theorem c_X0_leastForLeft {G : Gm} {l : Launch} (d : Nat) {a0 : Nat} {x1 : Int32} {M : Mm} {r : Int32 × Mm} (h0 : kC a0) (h : f_X0_leastForLeft a0 x1 M = some r) : Cm G l (d + 3) yX0_leastForLeft cX0_leastForLeft 3 (some .int) [.ref (gR G a0), .int x1] M (some (.int r.1)) r.2 := by
  unfold f_X0_leastForLeft at h
  refine m_met (lv := [some (.ref (gR G a0)), some (.int x1), none]) (own := RX0) (by decide +kernel) rfl rfl (Nat.le_of_ble_eq_true rfl) rfl ?_
  intro X hX hc hr
  subst hX
  refine m_aload_n hc dX0_leastForLeft_0 rfl ?_
  refine m_iload_n hc dX0_leastForLeft_1 rfl ?_
  obtain ⟨q_1, c_2, h⟩ := bd_o h
  refine m_callVv hc (kC_o h0) rfl (c_X0_sortStrings (d + 0) h0 c_2) (by omega) (by decide) wm_X0_90 wi_X0_sortStrings we_X0_sortStrings wn_X0 wc_X0_sortStrings wy_X0_sortStrings rfl (st := []) rfl rfl (Nat.le_of_ble_eq_true rfl) dX0_leastForLeft_2 ?_
  refine m_iconst hc (v := 0) dX0_leastForLeft_5 (by decide) ?_
  refine m_istore_n hc (lv' := [some (.ref (gR G a0)), some (.int x1), some (.int (0 : Int32))]) dX0_leastForLeft_6 (Nat.le_of_ble_eq_true rfl) rfl rfl ?_
  obtain ⟨q_4, c_5, g_8⟩ := bd_o h
  have J_6 : ∀ (w_11 : Unit), (some ((-1 : Int32), q_1)) = some r → WM G X (qQ G X (some (.int r.1)) r.2) q_1 44 [some (.ref (gR G a0)), some (.int x1), none] [] := by
    intro w_11 h
    refine m_iconst hc (v := (-1)) dX0_leastForLeft_44 (by decide) ?_
    cases h
    exact m_iret hc hr dX0_leastForLeft_45
  have L_7 : ∀ (n_9 : Nat) (x2_3 : Int32), L_X0_leastForLeft_7 a0 q_1 n_9 x2_3 = some q_4 → WM G X (qQ G X (some (.int r.1)) r.2) q_1 7 [some (.ref (gR G a0)), some (.int x1), some (.int x2_3)] [] := by
    intro n_9
    induction n_9 with
    | zero =>
      intro x2_3 h
      cases (show none = some _ from h)
    | succ n_9 i_10 =>
      intro x2_3 h
      rw [L_X0_leastForLeft_7] at h
      refine m_iload_n hc dX0_leastForLeft_7 rfl ?_
      refine m_aload_n hc dX0_leastForLeft_8 rfl ?_
      refine m_getI hc (kC_o h0) rfl tbX0 0 (by decide) wf_X0_9 rfl dX0_leastForLeft_9 ?_
      refine m_icgt hc (tgt := 44) dX0_leastForLeft_12 (by decide) (fun b_12 => ?_) (fun b_12 => ?_)
      · replace h := (if_pos b_12).symm.trans h
        cases h
        exact m_fg [2] rfl (J_6 () g_8)
      · replace h := (if_neg b_12).symm.trans h
        refine m_aload_n hc dX0_leastForLeft_15 rfl ?_
        refine m_iconst hc (v := 0) dX0_leastForLeft_16 (by decide) ?_
        refine m_iload_n hc dX0_leastForLeft_17 rfl ?_
        obtain ⟨q_13, c_14, h⟩ := bd_o h
        refine m_callVi hc (kC_o h0) rfl (c_X0_handCan (d + 2) h0 c_14) (by omega) (by decide) wm_X0_94 wi_X0_handCan we_X0_handCan wn_X0 wc_X0_handCan wy_X0_handCan rfl (st := []) rfl rfl (Nat.le_of_ble_eq_true rfl) dX0_leastForLeft_18 ?_
        refine m_ifeq hc (tgt := 38) dX0_leastForLeft_21 (by decide) (fun b_15 => ?_) (fun b_15 => ?_)
        · replace h := (if_pos b_15).symm.trans h
          refine m_iinc hc (v := x2_3 + 1) (lv' := [some (.ref (gR G a0)), some (.int x1), some (.int (x2_3 + 1))]) dX0_leastForLeft_38 rfl rfl rfl rfl ?_
          refine m_goto hc (tgt := 7) dX0_leastForLeft_41 (by decide) ?_
          exact m_fg [] rfl (i_10 _ h)
        · replace h := (if_neg b_15).symm.trans h
          refine m_aload_n hc dX0_leastForLeft_24 rfl ?_
          refine m_iload_n hc dX0_leastForLeft_25 rfl ?_
          refine m_aload_n hc dX0_leastForLeft_26 rfl ?_
          refine m_getI hc (kC_o h0) rfl tbX0 0 (by decide) wf_X0_9 rfl dX0_leastForLeft_27 ?_
          obtain ⟨q_16, c_17, h⟩ := bd_o h
          refine m_callVi hc (kC_o h0) rfl (c_X0_handCan (d + 2) h0 c_17) (by omega) (by decide) wm_X0_94 wi_X0_handCan we_X0_handCan wn_X0 wc_X0_handCan wy_X0_handCan rfl (st := []) rfl rfl (Nat.le_of_ble_eq_true rfl) dX0_leastForLeft_30 ?_
          refine m_ifeq hc (tgt := 38) dX0_leastForLeft_33 (by decide) (fun b_18 => ?_) (fun b_18 => ?_)
          · replace h := (if_pos b_18).symm.trans h
            refine m_iinc hc (v := x2_3 + 1) (lv' := [some (.ref (gR G a0)), some (.int x1), some (.int (x2_3 + 1))]) dX0_leastForLeft_38 rfl rfl rfl rfl ?_
            refine m_goto hc (tgt := 7) dX0_leastForLeft_41 (by decide) ?_
            exact m_fg [] rfl (i_10 _ h)
          · replace h := (if_neg b_18).symm.trans h
            refine m_iload_n hc dX0_leastForLeft_36 rfl ?_
            cases h
            have g_8 : some (x2_3, q_1) = some r := g_8
            cases g_8
            exact m_iret hc hr dX0_leastForLeft_37
  exact m_fg [] rfl (L_7 _ _ c_5)
def f_X6_split (x1 : Int32) (x2 : Int32) (M : Mm) : Option (Int32 × Mm) :=
 if (f_X6_isBeat x1) = 0 then (
 nm (f_X6_finding (-100001 : Int32) M) (fun q_2 =>
 some (q_2.1, q_2.2)))
else (
 if (f_X6_isDiagram x2) = 0 then (
 nm (f_X6_finding (-100001 : Int32) M) (fun q_20 =>
 some (q_20.1, q_20.2)))
else (
 Option.bind (f_X0_read 152 3 x1 M) (fun q_5 =>
 ck (ib x2 2187) (
 nm ((q_5 2 x2.toNatClampNeg)) (fun x3_8 =>
 Option.bind (f_X0_locksBy 152 x3_8 q_5) (fun q_10 =>
 if 0 ≤ q_10 then (
 Option.bind (f_X0_leastForLeft 152 x3_8 q_5) (fun q_13 =>
 if 0 ≤ q_13.1 then (
 some (q_13.1, q_13.2))
else (
 nm (f_X6_finding (-100006 : Int32) q_13.2) (fun q_16 =>
 some (q_16.1, q_16.2)))))
else (
 nm (f_X6_finding (-100004 : Int32) q_5) (fun q_18 =>
 some (q_18.1, q_18.2)))))))))
set_option maxRecDepth 100000 in
set_option maxHeartbeats 4000000 in
theorem c_X6_split {G : Gm} {l : Launch} (d : Nat) {x1 : Int32} {x2 : Int32} {M : Mm} {r : Int32 × Mm}  (h : f_X6_split x1 x2 M = some r) : Cm G l (d + 4) yX6_split cX6_split 5 (some .int) [.ref (gR G 0), .int x1, .int x2] M (some (.int r.1)) r.2 := by
  unfold f_X6_split at h
  refine m_met (lv := [some (.ref (gR G 0)), some (.int x1), some (.int x2), none, none]) (own := RX6) (by decide +kernel) rfl rfl (Nat.le_of_ble_eq_true rfl) rfl ?_
  intro X hX hc hr
  subst hX
  refine m_iload_n hc dX6_split_0 rfl ?_
  refine m_callSi hc (c_X6_isBeat (d + 3) rfl) (by omega) (by decide) wm_X6_72 wt_X6_isBeat wv_X6_isBeat wc_X6_isBeat wz_X6_isBeat rfl (st := []) rfl rfl (Nat.le_of_ble_eq_true rfl) dX6_split_1 ?_
  refine m_ifeq hc (tgt := 14) dX6_split_4 (by decide) (fun b_1 => ?_) (fun b_1 => ?_)
  · replace h := (if_pos b_1).symm.trans h
    refine m_aload_n hc dX6_split_14 rfl ?_
    refine m_ldc hc dX6_split_15 wk_X6_57 ?_
    obtain ⟨q_2, c_3, h⟩ := nm_o h
    refine m_callVi hc yO_0 rfl (c_X6_finding (d + 3) c_3) (by omega) (by decide) wm_X6_58 wi_X6_finding we_X6_finding wn_X6 wc_X6_finding wy_X6_finding rfl (st := []) rfl rfl (Nat.le_of_ble_eq_true rfl) dX6_split_17 ?_
    cases h
    exact m_iret hc hr dX6_split_20
  · replace h := (if_neg b_1).symm.trans h
    refine m_iload_n hc dX6_split_7 rfl ?_
    refine m_callSi hc (c_X6_isDiagram (d + 3) rfl) (by omega) (by decide) wm_X6_144 wt_X6_isDiagram wv_X6_isDiagram wc_X6_isDiagram wz_X6_isDiagram rfl (st := []) rfl rfl (Nat.le_of_ble_eq_true rfl) dX6_split_8 ?_
    refine m_ifne hc (tgt := 21) dX6_split_11 (by decide) (fun b_4 => ?_) (fun b_4 => ?_)
    · replace h := (if_neg b_4).symm.trans h
      refine m_aload_n hc dX6_split_21 rfl ?_
      refine m_getR hc (q := 152) yO_0 rfl tbX6 3 (by decide) wf_X6_33 rfl dX6_split_22 ?_
      refine m_aload_n hc dX6_split_25 rfl ?_
      refine m_getR hc (q := 3) yO_0 rfl tbX6 1 (by decide) wf_X6_19 rfl dX6_split_26 ?_
      refine m_iload_n hc dX6_split_29 rfl ?_
      obtain ⟨q_5, c_6, h⟩ := bd_o h
      refine m_callVv hc yO_152 rfl (c_X0_read (d + 1) kC_152 kP_3lit c_6) (by omega) (by decide) wm_X6_150 wi_X0_read we_X0_read wn_X0 wc_X0_read wy_X0_read rfl (st := []) rfl rfl (Nat.le_of_ble_eq_true rfl) dX6_split_30 ?_
      refine m_aload_n hc dX6_split_33 rfl ?_
      refine m_getR hc (q := 1) yO_0 rfl tbX6 0 (by decide) wf_X6_10 rfl dX6_split_34 ?_
      refine m_getR hc (q := 2) yO_1 rfl tbX1 0 (by decide) wf_X6_154 rfl dX6_split_37 ?_
      refine m_iload_n hc dX6_split_40 rfl ?_
      obtain ⟨b_7, h⟩ := ck_o h
      refine m_iald hc yA_2 b_7 dX6_split_41 ?_
      refine m_topI (fun x3_8 e_9 => ?_)
      replace h := nm_x e_9 h
      refine m_istore_n hc (lv' := [some (.ref (gR G 0)), some (.int x1), some (.int x2), some (.int x3_8), none]) dX6_split_42 (Nat.le_of_ble_eq_true rfl) rfl rfl ?_
      refine m_aload_n hc dX6_split_43 rfl ?_
      refine m_getR hc (q := 152) yO_0 rfl tbX6 3 (by decide) wf_X6_33 rfl dX6_split_44 ?_
      refine m_iload_n hc dX6_split_47 rfl ?_
      obtain ⟨q_10, c_11, h⟩ := bd_o h
      refine m_callVi hc yO_152 rfl (c_X0_locksBy (d + 1) kC_152 c_11) (by omega) (by decide) wm_X6_160 wi_X0_locksBy we_X0_locksBy wn_X0 wc_X0_locksBy wy_X0_locksBy rfl (st := []) rfl rfl (Nat.le_of_ble_eq_true rfl) dX6_split_48 ?_
      refine m_ifge hc (tgt := 61) dX6_split_51 (by decide) (fun b_12 => ?_) (fun b_12 => ?_)
      · replace h := (if_pos b_12).symm.trans h
        refine m_aload_n hc dX6_split_61 rfl ?_
        refine m_getR hc (q := 152) yO_0 rfl tbX6 3 (by decide) wf_X6_33 rfl dX6_split_62 ?_
        refine m_iload_n hc dX6_split_65 rfl ?_
        obtain ⟨q_13, c_14, h⟩ := bd_o h
        refine m_callVi hc yO_152 rfl (c_X0_leastForLeft (d + 0) kC_152 c_14) (by omega) (by decide) wm_X6_191 wi_X0_leastForLeft we_X0_leastForLeft wn_X0 wc_X0_leastForLeft wy_X0_leastForLeft rfl (st := []) rfl rfl (Nat.le_of_ble_eq_true rfl) dX6_split_66 ?_
        refine m_istore hc (lv' := [some (.ref (gR G 0)), some (.int x1), some (.int x2), some (.int x3_8), some (.int q_13.1)]) dX6_split_69 (Nat.le_of_ble_eq_true rfl) rfl rfl ?_
        refine m_iload hc dX6_split_71 rfl ?_
        refine m_ifge hc (tgt := 85) dX6_split_73 (by decide) (fun b_15 => ?_) (fun b_15 => ?_)
        · replace h := (if_pos b_15).symm.trans h
          refine m_iload hc dX6_split_85 rfl ?_
          cases h
          exact m_iret hc hr dX6_split_87
        · replace h := (if_neg b_15).symm.trans h
          refine m_aload_n hc dX6_split_76 rfl ?_
          refine m_ldc hc dX6_split_77 wk_X6_92 ?_
          obtain ⟨q_16, c_17, h⟩ := nm_o h
          refine m_callVi hc yO_0 rfl (c_X6_finding (d + 3) c_17) (by omega) (by decide) wm_X6_58 wi_X6_finding we_X6_finding wn_X6 wc_X6_finding wy_X6_finding rfl (st := []) rfl rfl (Nat.le_of_ble_eq_true rfl) dX6_split_79 ?_
          refine m_goto hc (tgt := 87) dX6_split_82 (by decide) ?_
          cases h
          exact m_iret hc hr dX6_split_87
      · replace h := (if_neg b_12).symm.trans h
        refine m_aload_n hc dX6_split_54 rfl ?_
        refine m_ldc hc dX6_split_55 wk_X6_107 ?_
        obtain ⟨q_18, c_19, h⟩ := nm_o h
        refine m_callVi hc yO_0 rfl (c_X6_finding (d + 3) c_19) (by omega) (by decide) wm_X6_58 wi_X6_finding we_X6_finding wn_X6 wc_X6_finding wy_X6_finding rfl (st := []) rfl rfl (Nat.le_of_ble_eq_true rfl) dX6_split_57 ?_
        cases h
        exact m_iret hc hr dX6_split_60
    · replace h := (if_pos b_4).symm.trans h
      refine m_aload_n hc dX6_split_14 rfl ?_
      refine m_ldc hc dX6_split_15 wk_X6_57 ?_
      obtain ⟨q_20, c_21, h⟩ := nm_o h
      refine m_callVi hc yO_0 rfl (c_X6_finding (d + 3) c_21) (by omega) (by decide) wm_X6_58 wi_X6_finding we_X6_finding wn_X6 wc_X6_finding wy_X6_finding rfl (st := []) rfl rfl (Nat.le_of_ble_eq_true rfl) dX6_split_17 ?_
      cases h
      exact m_iret hc hr dX6_split_20
def L_X6_hard_19 : Nat → Int32 → Mm → Option ((Mm) ⊕ (Int32 × Mm))
  | 0, _, _ => none
  | n_11 + 1, x1_4, M_5 =>
    if (M_5 3 0) ≤ x1_4 then (
     some (.inl M_5))
    else (
     Option.bind (f_X0_read 152 3 x1_4 M_5) (fun q_15 =>
     ck (ib x1_4 12) (
     ck (ib (q_15 203 x1_4.toNatClampNeg) 2187) (
     Option.bind (f_X0_leastForLeft 152 (q_15 2 (q_15 203 x1_4.toNatClampNeg).toNatClampNeg) q_15) (fun q_19 =>
     if 0 ≤ q_19.1 then (
     L_X6_hard_19 n_11 (x1_4 + 1) q_19.2)
    else (
     some (.inr (x1_4, q_19.2))))))))
def f_X6_hard (M : Mm) : Option (Int32 × Mm) :=
 Option.bind (f_X5_exists M) (fun q_1 =>
 if q_1.1 = 0 then (
 nm (f_X6_finding (-100006 : Int32) q_1.2) (fun q_22 =>
 some (q_22.1, q_22.2)))
else (
 Option.bind (L_X6_hard_19 FU (0 : Int32) q_1.2) (fun q_6 => Sum.elim (fun w_13 =>
 some ((-1 : Int32), w_13)) (fun r => some r) q_6)))
set_option maxRecDepth 100000 in
set_option maxHeartbeats 4000000 in
theorem c_X6_hard {G : Gm} {l : Launch} (d : Nat) {M : Mm} {r : Int32 × Mm}  (h : f_X6_hard M = some r) : Cm G l (d + 6) yX6_hard cX6_hard 2 (some .int) [.ref (gR G 0)] M (some (.int r.1)) r.2 := by
  unfold f_X6_hard at h
  refine m_met (lv := [some (.ref (gR G 0)), none]) (own := RX6) (by decide +kernel) rfl rfl (Nat.le_of_ble_eq_true rfl) rfl ?_
  intro X hX hc hr
  subst hX
  refine m_aload_n hc dX6_hard_0 rfl ?_
  refine m_getR hc (q := 161) yO_0 rfl tbX6 4 (by decide) wf_X6_42 rfl dX6_hard_1 ?_
  obtain ⟨q_1, c_2, h⟩ := bd_o h
  refine m_callVi hc yO_161 rfl (c_X5_exists (d + 0) c_2) (by omega) (by decide) wm_X6_163 wi_X5_exists we_X5_exists wn_X5 wc_X5_exists wy_X5_exists rfl (st := []) rfl rfl (Nat.le_of_ble_eq_true rfl) dX6_hard_4 ?_
  refine m_ifne hc (tgt := 17) dX6_hard_7 (by decide) (fun b_3 => ?_) (fun b_3 => ?_)
  · replace h := (if_neg b_3).symm.trans h
    refine m_iconst hc (v := 0) dX6_hard_17 (by decide) ?_
    refine m_istore_n hc (lv' := [some (.ref (gR G 0)), some (.int (0 : Int32))]) dX6_hard_18 (Nat.le_of_ble_eq_true rfl) rfl rfl ?_
    obtain ⟨q_6, c_7, g_10⟩ := bd_o h
    have J_8 : ∀ (w_13 : Mm), (some ((-1 : Int32), w_13)) = some r → WM G X (qQ G X (some (.int r.1)) r.2) w_13 77 [some (.ref (gR G 0)), none] [] := by
      intro w_13 h
      refine m_iconst hc (v := (-1)) dX6_hard_77 (by decide) ?_
      cases h
      exact m_iret hc hr dX6_hard_78
    have L_9 : ∀ (n_11 : Nat) (x1_4 : Int32) (M_5 : Mm), L_X6_hard_19 n_11 x1_4 M_5 = some q_6 → WM G X (qQ G X (some (.int r.1)) r.2) M_5 19 [some (.ref (gR G 0)), some (.int x1_4)] [] := by
      intro n_11
      induction n_11 with
      | zero =>
        intro x1_4 M_5 h
        cases (show none = some _ from h)
      | succ n_11 i_12 =>
        intro x1_4 M_5 h
        rw [L_X6_hard_19] at h
        refine m_iload_n hc dX6_hard_19 rfl ?_
        refine m_aload_n hc dX6_hard_20 rfl ?_
        refine m_getR hc (q := 3) yO_0 rfl tbX6 1 (by decide) wf_X6_19 rfl dX6_hard_21 ?_
        refine m_getI hc yO_3 rfl tbX3 0 (by decide) wf_X6_66 rfl dX6_hard_24 ?_
        refine m_icge hc (tgt := 77) dX6_hard_27 (by decide) (fun b_14 => ?_) (fun b_14 => ?_)
        · replace h := (if_pos b_14).symm.trans h
          cases h
          exact m_fg [1] rfl (J_8 M_5 g_10)
        · replace h := (if_neg b_14).symm.trans h
          refine m_aload_n hc dX6_hard_30 rfl ?_
          refine m_getR hc (q := 152) yO_0 rfl tbX6 3 (by decide) wf_X6_33 rfl dX6_hard_31 ?_
          refine m_aload_n hc dX6_hard_34 rfl ?_
          refine m_getR hc (q := 3) yO_0 rfl tbX6 1 (by decide) wf_X6_19 rfl dX6_hard_35 ?_
          refine m_iload_n hc dX6_hard_38 rfl ?_
          obtain ⟨q_15, c_16, h⟩ := bd_o h
          refine m_callVv hc yO_152 rfl (c_X0_read (d + 3) kC_152 kP_3lit c_16) (by omega) (by decide) wm_X6_150 wi_X0_read we_X0_read wn_X0 wc_X0_read wy_X0_read rfl (st := []) rfl rfl (Nat.le_of_ble_eq_true rfl) dX6_hard_39 ?_
          refine m_aload_n hc dX6_hard_42 rfl ?_
          refine m_getR hc (q := 152) yO_0 rfl tbX6 3 (by decide) wf_X6_33 rfl dX6_hard_43 ?_
          refine m_aload_n hc dX6_hard_46 rfl ?_
          refine m_getR hc (q := 1) yO_0 rfl tbX6 0 (by decide) wf_X6_10 rfl dX6_hard_47 ?_
          refine m_getR hc (q := 2) yO_1 rfl tbX1 0 (by decide) wf_X6_154 rfl dX6_hard_50 ?_
          refine m_aload_n hc dX6_hard_53 rfl ?_
          refine m_getR hc (q := 161) yO_0 rfl tbX6 4 (by decide) wf_X6_42 rfl dX6_hard_54 ?_
          refine m_getR hc (q := 203) yO_161 rfl tbX5 11 (by decide) wf_X6_173 rfl dX6_hard_57 ?_
          refine m_iload_n hc dX6_hard_60 rfl ?_
          obtain ⟨b_17, h⟩ := ck_o h
          refine m_iald hc yA_203 b_17 dX6_hard_61 ?_
          obtain ⟨b_18, h⟩ := ck_o h
          refine m_iald hc yA_2 b_18 dX6_hard_62 ?_
          obtain ⟨q_19, c_20, h⟩ := bd_o h
          refine m_callVi hc yO_152 rfl (c_X0_leastForLeft (d + 2) kC_152 c_20) (by omega) (by decide) wm_X6_191 wi_X0_leastForLeft we_X0_leastForLeft wn_X0 wc_X0_leastForLeft wy_X0_leastForLeft rfl (st := []) rfl rfl (Nat.le_of_ble_eq_true rfl) dX6_hard_63 ?_
          refine m_ifge hc (tgt := 71) dX6_hard_66 (by decide) (fun b_21 => ?_) (fun b_21 => ?_)
          · replace h := (if_pos b_21).symm.trans h
            refine m_iinc hc (v := x1_4 + 1) (lv' := [some (.ref (gR G 0)), some (.int (x1_4 + 1))]) dX6_hard_71 rfl rfl rfl rfl ?_
            refine m_goto hc (tgt := 19) dX6_hard_74 (by decide) ?_
            exact m_fg [] rfl (i_12 _ _ h)
          · replace h := (if_neg b_21).symm.trans h
            refine m_iload_n hc dX6_hard_69 rfl ?_
            cases h
            have g_10 : some (x1_4, q_19.2) = some r := g_10
            cases g_10
            exact m_iret hc hr dX6_hard_70
    exact m_fg [] rfl (L_9 _ _ _ c_7)
  · replace h := (if_pos b_3).symm.trans h
    refine m_aload_n hc dX6_hard_10 rfl ?_
    refine m_ldc hc dX6_hard_11 wk_X6_92 ?_
    obtain ⟨q_22, c_23, h⟩ := nm_o h
    refine m_callVi hc yO_0 rfl (c_X6_finding (d + 5) c_23) (by omega) (by decide) wm_X6_58 wi_X6_finding we_X6_finding wn_X6 wc_X6_finding wy_X6_finding rfl (st := []) rfl rfl (Nat.le_of_ble_eq_true rfl) dX6_hard_13 ?_
    cases h
    exact m_iret hc hr dX6_hard_16
def f_X6_run (x1 : Int32) (x2 : Int32) (x3 : Int32) (x4 : Int32) (M : Mm) : Option (Int32 × Mm) :=
 if (f_X6_isString x1) = 0 then (
 nm (f_X6_finding (-100001 : Int32) M) (fun q_2 =>
 some (q_2.1, q_2.2)))
else (
 if (f_X6_isString x2) = 0 then (
 nm (f_X6_finding (-100001 : Int32) M) (fun q_5 =>
 some (q_5.1, q_5.2)))
else (
 if (f_X6_isDiagram x3) = 0 then (
 nm (f_X6_finding (-100001 : Int32) M) (fun q_21 =>
 some (q_21.1, q_21.2)))
else (
 if x4 < 0 then (
 nm (f_X6_finding (-100001 : Int32) M) (fun q_9 =>
 some (q_9.1, q_9.2)))
else (
 if x4 ≤ (jabs (x2 - x1)) then (
 nm (
 if x2 < x1 then (
 (x1 - x4))
else (
 (x1 + x4))) (fun q_13 =>
 Option.bind (f_X1_pitchOf q_13 x3 M) (fun q_17 =>
 some (q_17, M))))
else (
 nm (f_X6_finding (-100001 : Int32) M) (fun q_19 =>
 some (q_19.1, q_19.2)))))))
set_option maxRecDepth 100000 in
set_option maxHeartbeats 4000000 in
theorem c_X6_run {G : Gm} {l : Launch} (d : Nat) {x1 : Int32} {x2 : Int32} {x3 : Int32} {x4 : Int32} {M : Mm} {r : Int32 × Mm}  (h : f_X6_run x1 x2 x3 x4 M = some r) : Cm G l (d + 2) yX6_run cX6_run 5 (some .int) [.ref (gR G 0), .int x1, .int x2, .int x3, .int x4] M (some (.int r.1)) r.2 := by
  unfold f_X6_run at h
  refine m_met (lv := [some (.ref (gR G 0)), some (.int x1), some (.int x2), some (.int x3), some (.int x4)]) (own := RX6) (by decide +kernel) rfl rfl (Nat.le_of_ble_eq_true rfl) rfl ?_
  intro X hX hc hr
  subst hX
  refine m_iload_n hc dX6_run_0 rfl ?_
  refine m_callSi hc (c_X6_isString (d + 1) rfl) (by omega) (by decide) wm_X6_141 wt_X6_isString wv_X6_isString wc_X6_isString wz_X6_isString rfl (st := []) rfl rfl (Nat.le_of_ble_eq_true rfl) dX6_run_1 ?_
  refine m_ifeq hc (tgt := 21) dX6_run_4 (by decide) (fun b_1 => ?_) (fun b_1 => ?_)
  · replace h := (if_pos b_1).symm.trans h
    refine m_aload_n hc dX6_run_21 rfl ?_
    refine m_ldc hc dX6_run_22 wk_X6_57 ?_
    obtain ⟨q_2, c_3, h⟩ := nm_o h
    refine m_callVi hc yO_0 rfl (c_X6_finding (d + 1) c_3) (by omega) (by decide) wm_X6_58 wi_X6_finding we_X6_finding wn_X6 wc_X6_finding wy_X6_finding rfl (st := []) rfl rfl (Nat.le_of_ble_eq_true rfl) dX6_run_24 ?_
    cases h
    exact m_iret hc hr dX6_run_27
  · replace h := (if_neg b_1).symm.trans h
    refine m_iload_n hc dX6_run_7 rfl ?_
    refine m_callSi hc (c_X6_isString (d + 1) rfl) (by omega) (by decide) wm_X6_141 wt_X6_isString wv_X6_isString wc_X6_isString wz_X6_isString rfl (st := []) rfl rfl (Nat.le_of_ble_eq_true rfl) dX6_run_8 ?_
    refine m_ifeq hc (tgt := 21) dX6_run_11 (by decide) (fun b_4 => ?_) (fun b_4 => ?_)
    · replace h := (if_pos b_4).symm.trans h
      refine m_aload_n hc dX6_run_21 rfl ?_
      refine m_ldc hc dX6_run_22 wk_X6_57 ?_
      obtain ⟨q_5, c_6, h⟩ := nm_o h
      refine m_callVi hc yO_0 rfl (c_X6_finding (d + 1) c_6) (by omega) (by decide) wm_X6_58 wi_X6_finding we_X6_finding wn_X6 wc_X6_finding wy_X6_finding rfl (st := []) rfl rfl (Nat.le_of_ble_eq_true rfl) dX6_run_24 ?_
      cases h
      exact m_iret hc hr dX6_run_27
    · replace h := (if_neg b_4).symm.trans h
      refine m_iload_n hc dX6_run_14 rfl ?_
      refine m_callSi hc (c_X6_isDiagram (d + 1) rfl) (by omega) (by decide) wm_X6_144 wt_X6_isDiagram wv_X6_isDiagram wc_X6_isDiagram wz_X6_isDiagram rfl (st := []) rfl rfl (Nat.le_of_ble_eq_true rfl) dX6_run_15 ?_
      refine m_ifne hc (tgt := 28) dX6_run_18 (by decide) (fun b_7 => ?_) (fun b_7 => ?_)
      · replace h := (if_neg b_7).symm.trans h
        refine m_iload hc dX6_run_28 rfl ?_
        refine m_iflt hc (tgt := 44) dX6_run_30 (by decide) (fun b_8 => ?_) (fun b_8 => ?_)
        · replace h := (if_pos b_8).symm.trans h
          refine m_aload_n hc dX6_run_44 rfl ?_
          refine m_ldc hc dX6_run_45 wk_X6_57 ?_
          obtain ⟨q_9, c_10, h⟩ := nm_o h
          refine m_callVi hc yO_0 rfl (c_X6_finding (d + 1) c_10) (by omega) (by decide) wm_X6_58 wi_X6_finding we_X6_finding wn_X6 wc_X6_finding wy_X6_finding rfl (st := []) rfl rfl (Nat.le_of_ble_eq_true rfl) dX6_run_47 ?_
          cases h
          exact m_iret hc hr dX6_run_50
        · replace h := (if_neg b_8).symm.trans h
          refine m_iload hc dX6_run_33 rfl ?_
          refine m_iload_n hc dX6_run_35 rfl ?_
          refine m_iload_n hc dX6_run_36 rfl ?_
          refine m_isub hc dX6_run_37 ?_
          refine m_mabs hc (by omega) wm_X6_194 wt_Math_abs wn_Math wc_Math_abs (st := [.int x4]) rfl (Nat.le_of_ble_eq_true rfl) dX6_run_38 ?_
          refine m_icle hc (tgt := 51) dX6_run_41 (by decide) (fun b_11 => ?_) (fun b_11 => ?_)
          · replace h := (if_pos b_11).symm.trans h
            refine m_aload_n hc dX6_run_51 rfl ?_
            refine m_getR hc (q := 1) yO_0 rfl tbX6 0 (by decide) wf_X6_10 rfl dX6_run_52 ?_
            refine m_iload_n hc dX6_run_55 rfl ?_
            refine m_iload_n hc dX6_run_56 rfl ?_
            obtain ⟨q_13, c_14, h⟩ := nm_o h
            have J_15 : WM G X (qQ G X (some (.int r.1)) r.2) M 71 [some (.ref (gR G 0)), some (.int x1), some (.int x2), some (.int x3), some (.int x4)] [.int q_13, .ref (gR G 1)] := by
              refine m_iload_n hc dX6_run_71 rfl ?_
              obtain ⟨q_17, c_18, h⟩ := bd_o h
              refine m_callVi hc yO_1 rfl (c_X1_pitchOf (d + 0) c_18) (by omega) (by decide) wm_X6_147 wi_X1_pitchOf we_X1_pitchOf wn_X1 wc_X1_pitchOf wy_X1_pitchOf rfl (st := []) rfl rfl (Nat.le_of_ble_eq_true rfl) dX6_run_72 ?_
              cases h
              exact m_iret hc hr dX6_run_75
            replace h := c_14
            refine m_icgt hc (tgt := 67) dX6_run_57 (by decide) (fun b_16 => ?_) (fun b_16 => ?_)
            · replace h := (if_pos b_16).symm.trans h
              refine m_iload_n hc dX6_run_67 rfl ?_
              refine m_iload hc dX6_run_68 rfl ?_
              refine m_isub hc dX6_run_70 ?_
              subst h
              exact m_fg [] rfl J_15
            · replace h := (if_neg b_16).symm.trans h
              refine m_iload_n hc dX6_run_60 rfl ?_
              refine m_iload hc dX6_run_61 rfl ?_
              refine m_iadd hc dX6_run_63 ?_
              refine m_goto hc (tgt := 71) dX6_run_64 (by decide) ?_
              subst h
              exact m_fg [] rfl J_15
          · replace h := (if_neg b_11).symm.trans h
            refine m_aload_n hc dX6_run_44 rfl ?_
            refine m_ldc hc dX6_run_45 wk_X6_57 ?_
            obtain ⟨q_19, c_20, h⟩ := nm_o h
            refine m_callVi hc yO_0 rfl (c_X6_finding (d + 1) c_20) (by omega) (by decide) wm_X6_58 wi_X6_finding we_X6_finding wn_X6 wc_X6_finding wy_X6_finding rfl (st := []) rfl rfl (Nat.le_of_ble_eq_true rfl) dX6_run_47 ?_
            cases h
            exact m_iret hc hr dX6_run_50
      · replace h := (if_pos b_7).symm.trans h
        refine m_aload_n hc dX6_run_21 rfl ?_
        refine m_ldc hc dX6_run_22 wk_X6_57 ?_
        obtain ⟨q_21, c_22, h⟩ := nm_o h
        refine m_callVi hc yO_0 rfl (c_X6_finding (d + 1) c_22) (by omega) (by decide) wm_X6_58 wi_X6_finding we_X6_finding wn_X6 wc_X6_finding wy_X6_finding rfl (st := []) rfl rfl (Nat.le_of_ble_eq_true rfl) dX6_run_24 ?_
        cases h
        exact m_iret hc hr dX6_run_27
def L_X1_differentPitches_18 (x3 : Int32) (M : Mm) (x5_2 : Int32) : Nat → Int32 → Int32 → Option (Int32)
  | 0, _, _ => none
  | n_18 + 1, x6_11, x7_12 =>
    if x5_2 ≤ x7_12 then (
     some x6_11)
    else (
     Option.bind (
     if x6_11 = 0 then (
     Option.bind (f_X1_pitchOf x7_12 x3 M) (fun q_31 =>
     Option.bind (f_X1_pitchOf x5_2 x3 M) (fun q_33 =>
     if q_31 = q_33 then (
     some (1 : Int32))
    else (
     some (0 : Int32)))))
    else (
     some (1 : Int32))) (fun q_27 =>
     L_X1_differentPitches_18 x3 M x5_2 n_18 q_27 (x7_12 + 1)))
def L_X1_differentPitches_6 (x1 : Int32) (x2 : Int32) (x3 : Int32) (M : Mm) : Nat → Int32 → Int32 → Option (Int32)
  | 0, _, _ => none
  | n_8 + 1, x4_1, x5_2 =>
    if x2 < x5_2 then (
     some x4_1)
    else (
     Option.bind (L_X1_differentPitches_18 x3 M x5_2 FU (0 : Int32) x1) (fun q_13 =>
     nm (
     if q_13 = 0 then (
     (x4_1 + 1))
    else (
     x4_1)) (fun q_37 =>
     L_X1_differentPitches_6 x1 x2 x3 M n_8 q_37 (x5_2 + 1))))
def f_X1_differentPitches (x1 : Int32) (x2 : Int32) (x3 : Int32) (M : Mm) : Option (Int32) :=
 Option.bind (L_X1_differentPitches_6 x1 x2 x3 M FU (0 : Int32) x1) (fun q_3 =>
 some q_3)
set_option maxRecDepth 100000 in
set_option maxHeartbeats 4000000 in
theorem c_X1_differentPitches {G : Gm} {l : Launch} (d : Nat) {x1 : Int32} {x2 : Int32} {x3 : Int32} {M : Mm} {r : Int32}  (h : f_X1_differentPitches x1 x2 x3 M = some r) : Cm G l (d + 2) yX1_differentPitches cX1_differentPitches 8 (some .int) [.ref (gR G 1), .int x1, .int x2, .int x3] M (some (.int r)) M := by
  unfold f_X1_differentPitches at h
  refine m_met (lv := [some (.ref (gR G 1)), some (.int x1), some (.int x2), some (.int x3), none, none, none, none]) (own := RX1) (by decide +kernel) rfl rfl (Nat.le_of_ble_eq_true rfl) rfl ?_
  intro X hX hc hr
  subst hX
  refine m_iconst hc (v := 0) dX1_differentPitches_0 (by decide) ?_
  refine m_istore hc (lv' := [some (.ref (gR G 1)), some (.int x1), some (.int x2), some (.int x3), some (.int (0 : Int32)), none, none, none]) dX1_differentPitches_1 (Nat.le_of_ble_eq_true rfl) rfl rfl ?_
  refine m_iload_n hc dX1_differentPitches_3 rfl ?_
  refine m_istore hc (lv' := [some (.ref (gR G 1)), some (.int x1), some (.int x2), some (.int x3), some (.int (0 : Int32)), some (.int x1), none, none]) dX1_differentPitches_4 (Nat.le_of_ble_eq_true rfl) rfl rfl ?_
  obtain ⟨q_3, c_4, h⟩ := bd_o h
  have J_5 : WM G X (qQ G X (some (.int r)) M) M 74 [some (.ref (gR G 1)), some (.int x1), some (.int x2), some (.int x3), some (.int q_3), none, none, none] [] := by
    refine m_iload hc dX1_differentPitches_74 rfl ?_
    cases h
    exact m_iret hc hr dX1_differentPitches_76
  have L_6 : ∀ (n_8 : Nat) (x4_1 : Int32) (x5_2 : Int32), L_X1_differentPitches_6 x1 x2 x3 M n_8 x4_1 x5_2 = some q_3 → WM G X (qQ G X (some (.int r)) M) M 6 [some (.ref (gR G 1)), some (.int x1), some (.int x2), some (.int x3), some (.int x4_1), some (.int x5_2), none, none] [] := by
    intro n_8
    induction n_8 with
    | zero =>
      intro x4_1 x5_2 h
      cases (show none = some _ from h)
    | succ n_8 i_9 =>
      intro x4_1 x5_2 h
      rw [L_X1_differentPitches_6] at h
      refine m_iload hc dX1_differentPitches_6 rfl ?_
      refine m_iload_n hc dX1_differentPitches_8 rfl ?_
      refine m_icgt hc (tgt := 74) dX1_differentPitches_9 (by decide) (fun b_10 => ?_) (fun b_10 => ?_)
      · replace h := (if_pos b_10).symm.trans h
        cases h
        exact m_fg [5] rfl J_5
      · replace h := (if_neg b_10).symm.trans h
        refine m_iconst hc (v := 0) dX1_differentPitches_12 (by decide) ?_
        refine m_istore hc (lv' := [some (.ref (gR G 1)), some (.int x1), some (.int x2), some (.int x3), some (.int x4_1), some (.int x5_2), some (.int (0 : Int32)), none]) dX1_differentPitches_13 (Nat.le_of_ble_eq_true rfl) rfl rfl ?_
        refine m_iload_n hc dX1_differentPitches_15 rfl ?_
        refine m_istore hc (lv' := [some (.ref (gR G 1)), some (.int x1), some (.int x2), some (.int x3), some (.int x4_1), some (.int x5_2), some (.int (0 : Int32)), some (.int x1)]) dX1_differentPitches_16 (Nat.le_of_ble_eq_true rfl) rfl rfl ?_
        obtain ⟨q_13, c_14, h⟩ := bd_o h
        have J_15 : WM G X (qQ G X (some (.int r)) M) M 60 [some (.ref (gR G 1)), some (.int x1), some (.int x2), some (.int x3), some (.int x4_1), some (.int x5_2), some (.int q_13), none] [] := by
          refine m_iload hc dX1_differentPitches_60 rfl ?_
          obtain ⟨q_37, c_38, h⟩ := nm_o h
          have J_39 : WM G X (qQ G X (some (.int r)) M) M 68 [some (.ref (gR G 1)), some (.int x1), some (.int x2), some (.int x3), some (.int q_37), some (.int x5_2), some (.int q_13), none] [] := by
            refine m_iinc hc (v := x5_2 + 1) (lv' := [some (.ref (gR G 1)), some (.int x1), some (.int x2), some (.int x3), some (.int q_37), some (.int (x5_2 + 1)), some (.int q_13), none]) dX1_differentPitches_68 rfl rfl rfl rfl ?_
            refine m_goto hc (tgt := 6) dX1_differentPitches_71 (by decide) ?_
            exact m_fg [6] rfl (i_9 _ _ h)
          replace h := c_38
          refine m_ifne hc (tgt := 68) dX1_differentPitches_62 (by decide) (fun b_40 => ?_) (fun b_40 => ?_)
          · replace h := (if_neg b_40).symm.trans h
            subst h
            exact m_fg [] rfl J_39
          · replace h := (if_pos b_40).symm.trans h
            refine m_iinc hc (v := x4_1 + 1) (lv' := [some (.ref (gR G 1)), some (.int x1), some (.int x2), some (.int x3), some (.int (x4_1 + 1)), some (.int x5_2), some (.int q_13), none]) dX1_differentPitches_65 rfl rfl rfl rfl ?_
            subst h
            exact m_fg [] rfl J_39
        have L_16 : ∀ (n_18 : Nat) (x6_11 : Int32) (x7_12 : Int32), L_X1_differentPitches_18 x3 M x5_2 n_18 x6_11 x7_12 = some q_13 → WM G X (qQ G X (some (.int r)) M) M 18 [some (.ref (gR G 1)), some (.int x1), some (.int x2), some (.int x3), some (.int x4_1), some (.int x5_2), some (.int x6_11), some (.int x7_12)] [] := by
          intro n_18
          induction n_18 with
          | zero =>
            intro x6_11 x7_12 h
            cases (show none = some _ from h)
          | succ n_18 i_19 =>
            intro x6_11 x7_12 h
            rw [L_X1_differentPitches_18] at h
            refine m_iload hc dX1_differentPitches_18 rfl ?_
            refine m_iload hc dX1_differentPitches_20 rfl ?_
            refine m_icge hc (tgt := 60) dX1_differentPitches_22 (by decide) (fun b_20 => ?_) (fun b_20 => ?_)
            · replace h := (if_pos b_20).symm.trans h
              cases h
              exact m_fg [7] rfl J_15
            · replace h := (if_neg b_20).symm.trans h
              refine m_iload hc dX1_differentPitches_25 rfl ?_
              obtain ⟨q_27, c_28, h⟩ := bd_o h
              have J_29 : WM G X (qQ G X (some (.int r)) M) M 52 [some (.ref (gR G 1)), some (.int x1), some (.int x2), some (.int x3), some (.int x4_1), some (.int x5_2), some (.int x6_11), some (.int x7_12)] [.int q_27] := by
                refine m_istore hc (lv' := [some (.ref (gR G 1)), some (.int x1), some (.int x2), some (.int x3), some (.int x4_1), some (.int x5_2), some (.int q_27), some (.int x7_12)]) dX1_differentPitches_52 (Nat.le_of_ble_eq_true rfl) rfl rfl ?_
                refine m_iinc hc (v := x7_12 + 1) (lv' := [some (.ref (gR G 1)), some (.int x1), some (.int x2), some (.int x3), some (.int x4_1), some (.int x5_2), some (.int q_27), some (.int (x7_12 + 1))]) dX1_differentPitches_54 rfl rfl rfl rfl ?_
                refine m_goto hc (tgt := 18) dX1_differentPitches_57 (by decide) ?_
                exact m_fg [] rfl (i_19 _ _ h)
              replace h := c_28
              refine m_ifne hc (tgt := 47) dX1_differentPitches_27 (by decide) (fun b_30 => ?_) (fun b_30 => ?_)
              · replace h := (if_neg b_30).symm.trans h
                refine m_iconst hc (v := 1) dX1_differentPitches_47 (by decide) ?_
                refine m_goto hc (tgt := 52) dX1_differentPitches_48 (by decide) ?_
                cases h
                exact m_fg [] rfl J_29
              · replace h := (if_pos b_30).symm.trans h
                refine m_aload_n hc dX1_differentPitches_30 rfl ?_
                refine m_iload hc dX1_differentPitches_31 rfl ?_
                refine m_iload_n hc dX1_differentPitches_33 rfl ?_
                obtain ⟨q_31, c_32, h⟩ := bd_o h
                refine m_callVi hc yO_1 rfl (c_X1_pitchOf (d + 0) c_32) (by omega) (by decide) wm_X1_26 wi_X1_pitchOf we_X1_pitchOf wn_X1 wc_X1_pitchOf wy_X1_pitchOf rfl (st := []) rfl rfl (Nat.le_of_ble_eq_true rfl) dX1_differentPitches_34 ?_
                refine m_aload_n hc dX1_differentPitches_37 rfl ?_
                refine m_iload hc dX1_differentPitches_38 rfl ?_
                refine m_iload_n hc dX1_differentPitches_40 rfl ?_
                obtain ⟨q_33, c_34, h⟩ := bd_o h
                refine m_callVi hc yO_1 rfl (c_X1_pitchOf (d + 0) c_34) (by omega) (by decide) wm_X1_26 wi_X1_pitchOf we_X1_pitchOf wn_X1 wc_X1_pitchOf wy_X1_pitchOf rfl (st := [.int q_31]) rfl rfl (Nat.le_of_ble_eq_true rfl) dX1_differentPitches_41 ?_
                refine m_icne hc (tgt := 51) dX1_differentPitches_44 (by decide) (fun b_35 => ?_) (fun b_35 => ?_)
                · replace h := (if_neg b_35).symm.trans h
                  refine m_iconst hc (v := 0) dX1_differentPitches_51 (by decide) ?_
                  cases h
                  exact m_fg [] rfl J_29
                · replace h := (if_pos b_35).symm.trans h
                  refine m_iconst hc (v := 1) dX1_differentPitches_47 (by decide) ?_
                  refine m_goto hc (tgt := 52) dX1_differentPitches_48 (by decide) ?_
                  cases h
                  exact m_fg [] rfl J_29
        exact m_fg [] rfl (L_16 _ _ _ c_14)
  exact m_fg [] rfl (L_6 _ _ _ c_4)
def f_X6_plain (x1 : Int32) (x2 : Int32) (x3 : Int32) (M : Mm) : Option (Int32 × Mm) :=
 if (f_X6_isString x1) = 0 then (
 nm (f_X6_finding (-100001 : Int32) M) (fun q_2 =>
 some (q_2.1, q_2.2)))
else (
 if (f_X6_isString x2) = 0 then (
 nm (f_X6_finding (-100001 : Int32) M) (fun q_5 =>
 some (q_5.1, q_5.2)))
else (
 if (f_X6_isDiagram x3) = 0 then (
 nm (f_X6_finding (-100001 : Int32) M) (fun q_10 =>
 some (q_10.1, q_10.2)))
else (
 Option.bind (f_X1_differentPitches (jmin x1 x2) (jmax x1 x2) x3 M) (fun q_8 =>
 some (q_8, M)))))
set_option maxRecDepth 100000 in
set_option maxHeartbeats 4000000 in
theorem c_X6_plain {G : Gm} {l : Launch} (d : Nat) {x1 : Int32} {x2 : Int32} {x3 : Int32} {M : Mm} {r : Int32 × Mm}  (h : f_X6_plain x1 x2 x3 M = some r) : Cm G l (d + 3) yX6_plain cX6_plain 4 (some .int) [.ref (gR G 0), .int x1, .int x2, .int x3] M (some (.int r.1)) r.2 := by
  unfold f_X6_plain at h
  refine m_met (lv := [some (.ref (gR G 0)), some (.int x1), some (.int x2), some (.int x3)]) (own := RX6) (by decide +kernel) rfl rfl (Nat.le_of_ble_eq_true rfl) rfl ?_
  intro X hX hc hr
  subst hX
  refine m_iload_n hc dX6_plain_0 rfl ?_
  refine m_callSi hc (c_X6_isString (d + 2) rfl) (by omega) (by decide) wm_X6_141 wt_X6_isString wv_X6_isString wc_X6_isString wz_X6_isString rfl (st := []) rfl rfl (Nat.le_of_ble_eq_true rfl) dX6_plain_1 ?_
  refine m_ifeq hc (tgt := 21) dX6_plain_4 (by decide) (fun b_1 => ?_) (fun b_1 => ?_)
  · replace h := (if_pos b_1).symm.trans h
    refine m_aload_n hc dX6_plain_21 rfl ?_
    refine m_ldc hc dX6_plain_22 wk_X6_57 ?_
    obtain ⟨q_2, c_3, h⟩ := nm_o h
    refine m_callVi hc yO_0 rfl (c_X6_finding (d + 2) c_3) (by omega) (by decide) wm_X6_58 wi_X6_finding we_X6_finding wn_X6 wc_X6_finding wy_X6_finding rfl (st := []) rfl rfl (Nat.le_of_ble_eq_true rfl) dX6_plain_24 ?_
    cases h
    exact m_iret hc hr dX6_plain_27
  · replace h := (if_neg b_1).symm.trans h
    refine m_iload_n hc dX6_plain_7 rfl ?_
    refine m_callSi hc (c_X6_isString (d + 2) rfl) (by omega) (by decide) wm_X6_141 wt_X6_isString wv_X6_isString wc_X6_isString wz_X6_isString rfl (st := []) rfl rfl (Nat.le_of_ble_eq_true rfl) dX6_plain_8 ?_
    refine m_ifeq hc (tgt := 21) dX6_plain_11 (by decide) (fun b_4 => ?_) (fun b_4 => ?_)
    · replace h := (if_pos b_4).symm.trans h
      refine m_aload_n hc dX6_plain_21 rfl ?_
      refine m_ldc hc dX6_plain_22 wk_X6_57 ?_
      obtain ⟨q_5, c_6, h⟩ := nm_o h
      refine m_callVi hc yO_0 rfl (c_X6_finding (d + 2) c_6) (by omega) (by decide) wm_X6_58 wi_X6_finding we_X6_finding wn_X6 wc_X6_finding wy_X6_finding rfl (st := []) rfl rfl (Nat.le_of_ble_eq_true rfl) dX6_plain_24 ?_
      cases h
      exact m_iret hc hr dX6_plain_27
    · replace h := (if_neg b_4).symm.trans h
      refine m_iload_n hc dX6_plain_14 rfl ?_
      refine m_callSi hc (c_X6_isDiagram (d + 2) rfl) (by omega) (by decide) wm_X6_144 wt_X6_isDiagram wv_X6_isDiagram wc_X6_isDiagram wz_X6_isDiagram rfl (st := []) rfl rfl (Nat.le_of_ble_eq_true rfl) dX6_plain_15 ?_
      refine m_ifne hc (tgt := 28) dX6_plain_18 (by decide) (fun b_7 => ?_) (fun b_7 => ?_)
      · replace h := (if_neg b_7).symm.trans h
        refine m_aload_n hc dX6_plain_28 rfl ?_
        refine m_getR hc (q := 1) yO_0 rfl tbX6 0 (by decide) wf_X6_10 rfl dX6_plain_29 ?_
        refine m_iload_n hc dX6_plain_32 rfl ?_
        refine m_iload_n hc dX6_plain_33 rfl ?_
        refine m_mmin hc (by omega) wm_X6_199 wt_Math_min wn_Math wc_Math_min (st := [.ref (gR G 1)]) rfl (Nat.le_of_ble_eq_true rfl) dX6_plain_34 ?_
        refine m_iload_n hc dX6_plain_37 rfl ?_
        refine m_iload_n hc dX6_plain_38 rfl ?_
        refine m_mmax hc (by omega) wm_X6_202 wt_Math_max wn_Math wc_Math_max (st := [.int (jmin x1 x2), .ref (gR G 1)]) rfl (Nat.le_of_ble_eq_true rfl) dX6_plain_39 ?_
        refine m_iload_n hc dX6_plain_42 rfl ?_
        obtain ⟨q_8, c_9, h⟩ := bd_o h
        refine m_callVi hc yO_1 rfl (c_X1_differentPitches (d + 0) c_9) (by omega) (by decide) wm_X6_205 wi_X1_differentPitches we_X1_differentPitches wn_X1 wc_X1_differentPitches wy_X1_differentPitches rfl (st := []) rfl rfl (Nat.le_of_ble_eq_true rfl) dX6_plain_43 ?_
        cases h
        exact m_iret hc hr dX6_plain_46
      · replace h := (if_pos b_7).symm.trans h
        refine m_aload_n hc dX6_plain_21 rfl ?_
        refine m_ldc hc dX6_plain_22 wk_X6_57 ?_
        obtain ⟨q_10, c_11, h⟩ := nm_o h
        refine m_callVi hc yO_0 rfl (c_X6_finding (d + 2) c_11) (by omega) (by decide) wm_X6_58 wi_X6_finding we_X6_finding wn_X6 wc_X6_finding wy_X6_finding rfl (st := []) rfl rfl (Nat.le_of_ble_eq_true rfl) dX6_plain_24 ?_
        cases h
        exact m_iret hc hr dX6_plain_27
def f_X4_isSheet (x0 : Int32) : Int32 :=
 if x0 < 0 then (
 (0 : Int32))
else (
 if (4 : Int32) ≤ x0 then (
 (0 : Int32))
else (
 (1 : Int32)))
set_option maxRecDepth 100000 in
set_option maxHeartbeats 4000000 in
theorem c_X4_isSheet {G : Gm} {l : Launch} (d : Nat) {x0 : Int32} {M : Mm} {r : Int32}  (h : f_X4_isSheet x0 = r) : Cm G l (d + 0) yX4_isSheet cX4_isSheet 1 (some .boolean) [.int x0] M (some (.int r)) M := by
  unfold f_X4_isSheet at h
  refine m_met (lv := [some (.int x0)]) (own := RX4) (by decide +kernel) rfl rfl (Nat.le_of_ble_eq_true rfl) rfl ?_
  intro X hX hc hr
  subst hX
  refine m_iload_n hc dX4_isSheet_0 rfl ?_
  refine m_iflt hc (tgt := 13) dX4_isSheet_1 (by decide) (fun b_1 => ?_) (fun b_1 => ?_)
  · replace h := (if_pos b_1).symm.trans h
    refine m_iconst hc (v := 0) dX4_isSheet_13 (by decide) ?_
    subst h
    exact m_zret hc hr (v := (0 : Int32)) (by decide) dX4_isSheet_14
  · replace h := (if_neg b_1).symm.trans h
    refine m_iload_n hc dX4_isSheet_4 rfl ?_
    refine m_iconst hc (v := 4) dX4_isSheet_5 (by decide) ?_
    refine m_icge hc (tgt := 13) dX4_isSheet_6 (by decide) (fun b_2 => ?_) (fun b_2 => ?_)
    · replace h := (if_pos b_2).symm.trans h
      refine m_iconst hc (v := 0) dX4_isSheet_13 (by decide) ?_
      subst h
      exact m_zret hc hr (v := (0 : Int32)) (by decide) dX4_isSheet_14
    · replace h := (if_neg b_2).symm.trans h
      refine m_iconst hc (v := 1) dX4_isSheet_9 (by decide) ?_
      refine m_goto hc (tgt := 14) dX4_isSheet_10 (by decide) ?_
      subst h
      exact m_zret hc hr (v := (1 : Int32)) (by decide) dX4_isSheet_14
theorem bz_X4_isSheet (x0 : Int32) : narrow .boolean (.int (f_X4_isSheet x0)) = .int (f_X4_isSheet x0) := by
  unfold f_X4_isSheet
  first | (repeat' split) <;> rfl | (first | rfl)
def f_X4_isBits (x0 : Int32) : Int32 :=
 if x0 = 0 then (
 (1 : Int32))
else (
 if x0 = (8 : Int32) then (
 (1 : Int32))
else (
 if x0 = (16 : Int32) then (
 (1 : Int32))
else (
 if x0 = (32 : Int32) then (
 (1 : Int32))
else (
 (0 : Int32)))))
set_option maxRecDepth 100000 in
set_option maxHeartbeats 4000000 in
theorem c_X4_isBits {G : Gm} {l : Launch} (d : Nat) {x0 : Int32} {M : Mm} {r : Int32}  (h : f_X4_isBits x0 = r) : Cm G l (d + 0) yX4_isBits cX4_isBits 1 (some .boolean) [.int x0] M (some (.int r)) M := by
  unfold f_X4_isBits at h
  refine m_met (lv := [some (.int x0)]) (own := RX4) (by decide +kernel) rfl rfl (Nat.le_of_ble_eq_true rfl) rfl ?_
  intro X hX hc hr
  subst hX
  refine m_iload_n hc dX4_isBits_0 rfl ?_
  refine m_ifeq hc (tgt := 22) dX4_isBits_1 (by decide) (fun b_1 => ?_) (fun b_1 => ?_)
  · replace h := (if_pos b_1).symm.trans h
    refine m_iconst hc (v := 1) dX4_isBits_22 (by decide) ?_
    refine m_goto hc (tgt := 27) dX4_isBits_23 (by decide) ?_
    subst h
    exact m_zret hc hr (v := (1 : Int32)) (by decide) dX4_isBits_27
  · replace h := (if_neg b_1).symm.trans h
    refine m_iload_n hc dX4_isBits_4 rfl ?_
    refine m_bipush hc (v := (8 : Int32)) dX4_isBits_5 (by decide) ?_
    refine m_iceq hc (tgt := 22) dX4_isBits_7 (by decide) (fun b_2 => ?_) (fun b_2 => ?_)
    · replace h := (if_pos b_2).symm.trans h
      refine m_iconst hc (v := 1) dX4_isBits_22 (by decide) ?_
      refine m_goto hc (tgt := 27) dX4_isBits_23 (by decide) ?_
      subst h
      exact m_zret hc hr (v := (1 : Int32)) (by decide) dX4_isBits_27
    · replace h := (if_neg b_2).symm.trans h
      refine m_iload_n hc dX4_isBits_10 rfl ?_
      refine m_bipush hc (v := (16 : Int32)) dX4_isBits_11 (by decide) ?_
      refine m_iceq hc (tgt := 22) dX4_isBits_13 (by decide) (fun b_3 => ?_) (fun b_3 => ?_)
      · replace h := (if_pos b_3).symm.trans h
        refine m_iconst hc (v := 1) dX4_isBits_22 (by decide) ?_
        refine m_goto hc (tgt := 27) dX4_isBits_23 (by decide) ?_
        subst h
        exact m_zret hc hr (v := (1 : Int32)) (by decide) dX4_isBits_27
      · replace h := (if_neg b_3).symm.trans h
        refine m_iload_n hc dX4_isBits_16 rfl ?_
        refine m_bipush hc (v := (32 : Int32)) dX4_isBits_17 (by decide) ?_
        refine m_icne hc (tgt := 26) dX4_isBits_19 (by decide) (fun b_4 => ?_) (fun b_4 => ?_)
        · replace h := (if_neg b_4).symm.trans h
          refine m_iconst hc (v := 0) dX4_isBits_26 (by decide) ?_
          subst h
          exact m_zret hc hr (v := (0 : Int32)) (by decide) dX4_isBits_27
        · replace h := (if_pos b_4).symm.trans h
          refine m_iconst hc (v := 1) dX4_isBits_22 (by decide) ?_
          refine m_goto hc (tgt := 27) dX4_isBits_23 (by decide) ?_
          subst h
          exact m_zret hc hr (v := (1 : Int32)) (by decide) dX4_isBits_27
theorem bz_X4_isBits (x0 : Int32) : narrow .boolean (.int (f_X4_isBits x0)) = .int (f_X4_isBits x0) := by
  unfold f_X4_isBits
  first | (repeat' split) <;> rfl | (first | rfl)
def f_X4_renew (x1 : Int32) (x2 : Int32) (x3 : Int32) (M : Mm) : Option (Int32 × Mm) :=
 ck (ib x1 4) (
 nm (mw M 205 x1.toNatClampNeg x2) (fun M_2 =>
 nm (
 if x2 = 0 then (
 (0 : Int32))
else (
 x3)) (fun q_5 =>
 ck (ib x1 4) (
 nm (mw M_2 206 x1.toNatClampNeg q_5) (fun M_10 =>
 ck (ib x1 4) (
 Option.bind (f_J7_fill_53178 30 (208 + x1.toNatClampNeg) (0 : Int32) M_10) (fun q_13 =>
 ck (ib x1 4) (
 some ((q_13 206 x1.toNatClampNeg), q_13)))))))))
set_option maxRecDepth 100000 in
set_option maxHeartbeats 4000000 in
theorem c_X4_renew {G : Gm} {l : Launch} (d : Nat) {x1 : Int32} {x2 : Int32} {x3 : Int32} {M : Mm} {r : Int32 × Mm}  (h : f_X4_renew x1 x2 x3 M = some r) : Cm G l (d + 1) yX4_renew cX4_renew 4 (some .int) [.ref (gR G 204), .int x1, .int x2, .int x3] M (some (.int r.1)) r.2 := by
  unfold f_X4_renew at h
  refine m_met (lv := [some (.ref (gR G 204)), some (.int x1), some (.int x2), some (.int x3)]) (own := RX4) (by decide +kernel) rfl rfl (Nat.le_of_ble_eq_true rfl) rfl ?_
  intro X hX hc hr
  subst hX
  refine m_aload_n hc dX4_renew_0 rfl ?_
  refine m_getR hc (q := 205) yO_204 rfl tbX4 0 (by decide) wf_X4_9 rfl dX4_renew_1 ?_
  refine m_iload_n hc dX4_renew_4 rfl ?_
  refine m_iload_n hc dX4_renew_5 rfl ?_
  obtain ⟨b_1, h⟩ := ck_o h
  refine m_iast hc yA_205 b_1 dX4_renew_6 ?_
  refine m_topM (fun M_2 e_3 => ?_)
  replace h := nm_x e_3 h
  refine m_aload_n hc dX4_renew_7 rfl ?_
  refine m_getR hc (q := 206) yO_204 rfl tbX4 1 (by decide) wf_X4_13 rfl dX4_renew_8 ?_
  refine m_iload_n hc dX4_renew_11 rfl ?_
  refine m_iload_n hc dX4_renew_12 rfl ?_
  obtain ⟨q_5, c_6, h⟩ := nm_o h
  have J_7 : WM G X (qQ G X (some (.int r.1)) r.2) M_2 21 [some (.ref (gR G 204)), some (.int x1), some (.int x2), some (.int x3)] [.int q_5, .int x1, .ref (gR G 206)] := by
    obtain ⟨b_9, h⟩ := ck_o h
    refine m_iast hc yA_206 b_9 dX4_renew_21 ?_
    refine m_topM (fun M_10 e_11 => ?_)
    replace h := nm_x e_11 h
    refine m_aload_n hc dX4_renew_22 rfl ?_
    refine m_getR hc (q := 207) yO_204 rfl tbX4 2 (by decide) wf_X4_18 rfl dX4_renew_23 ?_
    refine m_iload_n hc dX4_renew_26 rfl ?_
    obtain ⟨b_12, h⟩ := ck_o h
    refine m_jald hc yJ_207 b_12 (tSh_d _ (ib_lt b_12)) dX4_renew_27 ?_
    refine m_iconst hc (v := 0) dX4_renew_28 (by decide) ?_
    obtain ⟨q_13, c_14, h⟩ := bd_o h
    refine m_callSv hc (c_J7_fill_53178 (d + 0) (jSh_d _ (ib_lt b_12)) c_14) (by omega) (by decide) wm_X4_21 wt_J7_fill_53178 wv_J7_fill_53178 wc_J7_fill_53178 wz_J7_fill_53178 rfl (st := []) rfl rfl (Nat.le_of_ble_eq_true rfl) dX4_renew_29 ?_
    refine m_aload_n hc dX4_renew_32 rfl ?_
    refine m_getR hc (q := 206) yO_204 rfl tbX4 1 (by decide) wf_X4_13 rfl dX4_renew_33 ?_
    refine m_iload_n hc dX4_renew_36 rfl ?_
    obtain ⟨b_15, h⟩ := ck_o h
    refine m_iald hc yA_206 b_15 dX4_renew_37 ?_
    cases h
    exact m_iret hc hr dX4_renew_38
  replace h := c_6
  refine m_ifne hc (tgt := 20) dX4_renew_13 (by decide) (fun b_8 => ?_) (fun b_8 => ?_)
  · replace h := (if_neg b_8).symm.trans h
    refine m_iload_n hc dX4_renew_20 rfl ?_
    subst h
    exact m_fg [] rfl J_7
  · replace h := (if_pos b_8).symm.trans h
    refine m_iconst hc (v := 0) dX4_renew_16 (by decide) ?_
    refine m_goto hc (tgt := 21) dX4_renew_17 (by decide) ?_
    subst h
    exact m_fg [] rfl J_7
def f_X6_sheet (x1 : Int32) (x2 : Int32) (x3 : Int32) (M : Mm) : Option (Int32 × Mm) :=
 if (f_X4_isSheet x1) = 0 then (
 nm (f_X6_finding (-100001 : Int32) M) (fun q_2 =>
 some (q_2.1, q_2.2)))
else (
 if (f_X4_isBits x2) = 0 then (
 nm (f_X6_finding (-100001 : Int32) M) (fun q_13 =>
 some (q_13.1, q_13.2)))
else (
 if 0 ≤ x3 then (
 if x3 ≤ (30 : Int32) then (
 Option.bind (f_X4_renew x1 x2 x3 M) (fun q_7 =>
 some (q_7.1, q_7.2)))
else (
 nm (f_X6_finding (-100001 : Int32) M) (fun q_9 =>
 some (q_9.1, q_9.2))))
else (
 nm (f_X6_finding (-100003 : Int32) M) (fun q_11 =>
 some (q_11.1, q_11.2)))))
set_option maxRecDepth 100000 in
set_option maxHeartbeats 4000000 in
theorem c_X6_sheet {G : Gm} {l : Launch} (d : Nat) {x1 : Int32} {x2 : Int32} {x3 : Int32} {M : Mm} {r : Int32 × Mm}  (h : f_X6_sheet x1 x2 x3 M = some r) : Cm G l (d + 2) yX6_sheet cX6_sheet 4 (some .int) [.ref (gR G 0), .int x1, .int x2, .int x3] M (some (.int r.1)) r.2 := by
  unfold f_X6_sheet at h
  refine m_met (lv := [some (.ref (gR G 0)), some (.int x1), some (.int x2), some (.int x3)]) (own := RX6) (by decide +kernel) rfl rfl (Nat.le_of_ble_eq_true rfl) rfl ?_
  intro X hX hc hr
  subst hX
  refine m_iload_n hc dX6_sheet_0 rfl ?_
  refine m_callSi hc (c_X4_isSheet (d + 1) rfl) (by omega) (by decide) wm_X6_209 wt_X4_isSheet wv_X4_isSheet wc_X4_isSheet wz_X4_isSheet rfl (st := []) rfl rfl (Nat.le_of_ble_eq_true rfl) dX6_sheet_1 ?_
  refine m_ifeq hc (tgt := 14) dX6_sheet_4 (by decide) (fun b_1 => ?_) (fun b_1 => ?_)
  · replace h := (if_pos b_1).symm.trans h
    refine m_aload_n hc dX6_sheet_14 rfl ?_
    refine m_ldc hc dX6_sheet_15 wk_X6_57 ?_
    obtain ⟨q_2, c_3, h⟩ := nm_o h
    refine m_callVi hc yO_0 rfl (c_X6_finding (d + 1) c_3) (by omega) (by decide) wm_X6_58 wi_X6_finding we_X6_finding wn_X6 wc_X6_finding wy_X6_finding rfl (st := []) rfl rfl (Nat.le_of_ble_eq_true rfl) dX6_sheet_17 ?_
    cases h
    exact m_iret hc hr dX6_sheet_20
  · replace h := (if_neg b_1).symm.trans h
    refine m_iload_n hc dX6_sheet_7 rfl ?_
    refine m_callSi hc (c_X4_isBits (d + 1) rfl) (by omega) (by decide) wm_X6_212 wt_X4_isBits wv_X4_isBits wc_X4_isBits wz_X4_isBits rfl (st := []) rfl rfl (Nat.le_of_ble_eq_true rfl) dX6_sheet_8 ?_
    refine m_ifne hc (tgt := 21) dX6_sheet_11 (by decide) (fun b_4 => ?_) (fun b_4 => ?_)
    · replace h := (if_neg b_4).symm.trans h
      refine m_iload_n hc dX6_sheet_21 rfl ?_
      refine m_ifge hc (tgt := 32) dX6_sheet_22 (by decide) (fun b_5 => ?_) (fun b_5 => ?_)
      · replace h := (if_pos b_5).symm.trans h
        refine m_iload_n hc dX6_sheet_32 rfl ?_
        refine m_bipush hc (v := (30 : Int32)) dX6_sheet_33 (by decide) ?_
        refine m_icle hc (tgt := 45) dX6_sheet_35 (by decide) (fun b_6 => ?_) (fun b_6 => ?_)
        · replace h := (if_pos b_6).symm.trans h
          refine m_aload_n hc dX6_sheet_45 rfl ?_
          refine m_getR hc (q := 204) yO_0 rfl tbX6 5 (by decide) wf_X6_49 rfl dX6_sheet_46 ?_
          refine m_iload_n hc dX6_sheet_49 rfl ?_
          refine m_iload_n hc dX6_sheet_50 rfl ?_
          refine m_iload_n hc dX6_sheet_51 rfl ?_
          obtain ⟨q_7, c_8, h⟩ := bd_o h
          refine m_callVi hc yO_204 rfl (c_X4_renew (d + 0) c_8) (by omega) (by decide) wm_X6_215 wi_X4_renew we_X4_renew wn_X4 wc_X4_renew wy_X4_renew rfl (st := []) rfl rfl (Nat.le_of_ble_eq_true rfl) dX6_sheet_52 ?_
          cases h
          exact m_iret hc hr dX6_sheet_55
        · replace h := (if_neg b_6).symm.trans h
          refine m_aload_n hc dX6_sheet_38 rfl ?_
          refine m_ldc hc dX6_sheet_39 wk_X6_57 ?_
          obtain ⟨q_9, c_10, h⟩ := nm_o h
          refine m_callVi hc yO_0 rfl (c_X6_finding (d + 1) c_10) (by omega) (by decide) wm_X6_58 wi_X6_finding we_X6_finding wn_X6 wc_X6_finding wy_X6_finding rfl (st := []) rfl rfl (Nat.le_of_ble_eq_true rfl) dX6_sheet_41 ?_
          cases h
          exact m_iret hc hr dX6_sheet_44
      · replace h := (if_neg b_5).symm.trans h
        refine m_aload_n hc dX6_sheet_25 rfl ?_
        refine m_ldc hc dX6_sheet_26 wk_X6_117 ?_
        obtain ⟨q_11, c_12, h⟩ := nm_o h
        refine m_callVi hc yO_0 rfl (c_X6_finding (d + 1) c_12) (by omega) (by decide) wm_X6_58 wi_X6_finding we_X6_finding wn_X6 wc_X6_finding wy_X6_finding rfl (st := []) rfl rfl (Nat.le_of_ble_eq_true rfl) dX6_sheet_28 ?_
        cases h
        exact m_iret hc hr dX6_sheet_31
    · replace h := (if_pos b_4).symm.trans h
      refine m_aload_n hc dX6_sheet_14 rfl ?_
      refine m_ldc hc dX6_sheet_15 wk_X6_57 ?_
      obtain ⟨q_13, c_14, h⟩ := nm_o h
      refine m_callVi hc yO_0 rfl (c_X6_finding (d + 1) c_14) (by omega) (by decide) wm_X6_58 wi_X6_finding we_X6_finding wn_X6 wc_X6_finding wy_X6_finding rfl (st := []) rfl rfl (Nat.le_of_ble_eq_true rfl) dX6_sheet_17 ?_
      cases h
      exact m_iret hc hr dX6_sheet_20
def f_X4_isMissing (x1 : Int32) (M : Mm) : Option (Int32) :=
 ck (ib x1 4) (
 if (M 205 x1.toNatClampNeg) = 0 then (
 some (1 : Int32))
else (
 some (0 : Int32)))
set_option maxRecDepth 100000 in
set_option maxHeartbeats 4000000 in
theorem c_X4_isMissing {G : Gm} {l : Launch} (d : Nat) {x1 : Int32} {M : Mm} {r : Int32}  (h : f_X4_isMissing x1 M = some r) : Cm G l (d + 0) yX4_isMissing cX4_isMissing 2 (some .boolean) [.ref (gR G 204), .int x1] M (some (.int r)) M := by
  unfold f_X4_isMissing at h
  refine m_met (lv := [some (.ref (gR G 204)), some (.int x1)]) (own := RX4) (by decide +kernel) rfl rfl (Nat.le_of_ble_eq_true rfl) rfl ?_
  intro X hX hc hr
  subst hX
  refine m_aload_n hc dX4_isMissing_0 rfl ?_
  refine m_getR hc (q := 205) yO_204 rfl tbX4 0 (by decide) wf_X4_9 rfl dX4_isMissing_1 ?_
  refine m_iload_n hc dX4_isMissing_4 rfl ?_
  obtain ⟨b_1, h⟩ := ck_o h
  refine m_iald hc yA_205 b_1 dX4_isMissing_5 ?_
  refine m_ifne hc (tgt := 13) dX4_isMissing_6 (by decide) (fun b_2 => ?_) (fun b_2 => ?_)
  · replace h := (if_neg b_2).symm.trans h
    refine m_iconst hc (v := 0) dX4_isMissing_13 (by decide) ?_
    cases h
    exact m_zret hc hr (v := (0 : Int32)) (by decide) dX4_isMissing_14
  · replace h := (if_pos b_2).symm.trans h
    refine m_iconst hc (v := 1) dX4_isMissing_9 (by decide) ?_
    refine m_goto hc (tgt := 14) dX4_isMissing_10 (by decide) ?_
    cases h
    exact m_zret hc hr (v := (1 : Int32)) (by decide) dX4_isMissing_14
def f_X4_write (x1 : Int32) (x2 : Int32) (x3 : Int32) (M : Mm) : Option (Mm) :=
 ck (ib x1 4) (
 if (M 205 x1.toNatClampNeg) = (8 : Int32) then (
 ck (ib x1 4) (
 ck (ib x2 30) (
 nm (mw M (208 + x1.toNatClampNeg) x2.toNatClampNeg (x3.toInt8.toInt32)) (fun M_5 =>
 some M_5))))
else (
 if (M 205 x1.toNatClampNeg) = (16 : Int32) then (
 ck (ib x1 4) (
 ck (ib x2 30) (
 nm (mw M (208 + x1.toNatClampNeg) x2.toNatClampNeg (x3.toInt16.toInt32)) (fun M_10 =>
 some M_10))))
else (
 ck (ib x1 4) (
 ck (ib x2 30) (
 nm (mw M (208 + x1.toNatClampNeg) x2.toNatClampNeg x3) (fun M_14 =>
 some M_14))))))
set_option maxRecDepth 100000 in
set_option maxHeartbeats 4000000 in
theorem c_X4_write {G : Gm} {l : Launch} (d : Nat) {x1 : Int32} {x2 : Int32} {x3 : Int32} {M : Mm} {r : Mm}  (h : f_X4_write x1 x2 x3 M = some r) : Cm G l (d + 0) yX4_write cX4_write 4 none [.ref (gR G 204), .int x1, .int x2, .int x3] M none r := by
  unfold f_X4_write at h
  refine m_met (lv := [some (.ref (gR G 204)), some (.int x1), some (.int x2), some (.int x3)]) (own := RX4) (by decide +kernel) rfl rfl (Nat.le_of_ble_eq_true rfl) rfl ?_
  intro X hX hc hr
  subst hX
  refine m_aload_n hc dX4_write_0 rfl ?_
  refine m_getR hc (q := 205) yO_204 rfl tbX4 0 (by decide) wf_X4_9 rfl dX4_write_1 ?_
  refine m_iload_n hc dX4_write_4 rfl ?_
  obtain ⟨b_1, h⟩ := ck_o h
  refine m_iald hc yA_205 b_1 dX4_write_5 ?_
  by_cases b_2 : (M 205 x1.toNatClampNeg) = (8 : Int32)
  · replace h := (if_pos b_2).symm.trans h
    refine m_lsw hc (off := 26) (tgt := 32) dX4_write_6 (by decide) (by rw [b_2] <;> rfl) (by decide) ?_
    refine m_aload_n hc dX4_write_32 rfl ?_
    refine m_getR hc (q := 207) yO_204 rfl tbX4 2 (by decide) wf_X4_18 rfl dX4_write_33 ?_
    refine m_iload_n hc dX4_write_36 rfl ?_
    obtain ⟨b_3, h⟩ := ck_o h
    refine m_jald hc yJ_207 b_3 (tSh_d _ (ib_lt b_3)) dX4_write_37 ?_
    refine m_iload_n hc dX4_write_38 rfl ?_
    refine m_iload_n hc dX4_write_39 rfl ?_
    refine m_i2b hc dX4_write_40 ?_
    obtain ⟨b_4, h⟩ := ck_o h
    refine m_iast hc (jSh_d _ (ib_lt b_3)) b_4 dX4_write_41 ?_
    refine m_topM (fun M_5 e_6 => ?_)
    replace h := nm_x e_6 h
    refine m_goto hc (tgt := 67) dX4_write_42 (by decide) ?_
    cases h
    exact m_vret hc hr dX4_write_67
  · replace h := (if_neg b_2).symm.trans h
    by_cases b_7 : (M 205 x1.toNatClampNeg) = (16 : Int32)
    · replace h := (if_pos b_7).symm.trans h
      refine m_lsw hc (off := 39) (tgt := 45) dX4_write_6 (by decide) (by rw [lv_osw (a := 8) b_2 (by decide), b_7] <;> rfl) (by decide) ?_
      refine m_aload_n hc dX4_write_45 rfl ?_
      refine m_getR hc (q := 207) yO_204 rfl tbX4 2 (by decide) wf_X4_18 rfl dX4_write_46 ?_
      refine m_iload_n hc dX4_write_49 rfl ?_
      obtain ⟨b_8, h⟩ := ck_o h
      refine m_jald hc yJ_207 b_8 (tSh_d _ (ib_lt b_8)) dX4_write_50 ?_
      refine m_iload_n hc dX4_write_51 rfl ?_
      refine m_iload_n hc dX4_write_52 rfl ?_
      refine m_i2s hc dX4_write_53 ?_
      obtain ⟨b_9, h⟩ := ck_o h
      refine m_iast hc (jSh_d _ (ib_lt b_8)) b_9 dX4_write_54 ?_
      refine m_topM (fun M_10 e_11 => ?_)
      replace h := nm_x e_11 h
      refine m_goto hc (tgt := 67) dX4_write_55 (by decide) ?_
      cases h
      exact m_vret hc hr dX4_write_67
    · replace h := (if_neg b_7).symm.trans h
      refine m_lsw hc (off := 52) (tgt := 58) dX4_write_6 (by decide) (by rw [lv_osw (a := 8) b_2 (by decide), lv_osw (a := 16) b_7 (by decide)] <;> rfl) (by decide) ?_
      refine m_aload_n hc dX4_write_58 rfl ?_
      refine m_getR hc (q := 207) yO_204 rfl tbX4 2 (by decide) wf_X4_18 rfl dX4_write_59 ?_
      refine m_iload_n hc dX4_write_62 rfl ?_
      obtain ⟨b_12, h⟩ := ck_o h
      refine m_jald hc yJ_207 b_12 (tSh_d _ (ib_lt b_12)) dX4_write_63 ?_
      refine m_iload_n hc dX4_write_64 rfl ?_
      refine m_iload_n hc dX4_write_65 rfl ?_
      obtain ⟨b_13, h⟩ := ck_o h
      refine m_iast hc (jSh_d _ (ib_lt b_12)) b_13 dX4_write_66 ?_
      refine m_topM (fun M_14 e_15 => ?_)
      replace h := nm_x e_15 h
      cases h
      exact m_vret hc hr dX4_write_67
