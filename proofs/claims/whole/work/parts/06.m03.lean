def L_X0_isSilent_2 (a0 : Nat) (M : Mm) : Nat → Int32 → Option ((Unit) ⊕ (Int32))
  | 0, _ => none
  | n_7 + 1, x1_1 =>
    if (M a0 0) ≤ x1_1 then (
     some (.inl ()))
    else (
     ck (ib x1_1 6) (
     if (M (a0 + 2) x1_1.toNatClampNeg) = 0 then (
     L_X0_isSilent_2 a0 M n_7 (x1_1 + 1))
    else (
     some (.inr (0 : Int32)))))
def f_X0_isSilent (a0 : Nat) (M : Mm) : Option (Int32) :=
 Option.bind (L_X0_isSilent_2 a0 M FU (0 : Int32)) (fun q_2 => Sum.elim (fun w_9 =>
 some (1 : Int32)) (fun r => some r) q_2)
set_option maxRecDepth 100000 in
set_option maxHeartbeats 4000000 in
theorem c_X0_isSilent {G : Gm} {l : Launch} (d : Nat) {a0 : Nat} {M : Mm} {r : Int32} (h0 : kC a0) (h : f_X0_isSilent a0 M = some r) : Cm G l (d + 0) yX0_isSilent cX0_isSilent 2 (some .boolean) [.ref (gR G a0)] M (some (.int r)) M := by
  unfold f_X0_isSilent at h
  refine m_met (lv := [some (.ref (gR G a0)), none]) (own := RX0) (by decide +kernel) rfl rfl (Nat.le_of_ble_eq_true rfl) rfl ?_
  intro X hX hc hr
  subst hX
  refine m_iconst hc (v := 0) dX0_isSilent_0 (by decide) ?_
  refine m_istore_n hc (lv' := [some (.ref (gR G a0)), some (.int (0 : Int32))]) dX0_isSilent_1 (Nat.le_of_ble_eq_true rfl) rfl rfl ?_
  obtain ⟨q_2, c_3, g_6⟩ := bd_o h
  have J_4 : ∀ (w_9 : Unit), (some (1 : Int32)) = some r → WM G X (qQ G X (some (.int r)) M) M 27 [some (.ref (gR G a0)), none] [] := by
    intro w_9 h
    refine m_iconst hc (v := 1) dX0_isSilent_27 (by decide) ?_
    cases h
    exact m_zret hc hr (v := (1 : Int32)) (by decide) dX0_isSilent_28
  have L_5 : ∀ (n_7 : Nat) (x1_1 : Int32), L_X0_isSilent_2 a0 M n_7 x1_1 = some q_2 → WM G X (qQ G X (some (.int r)) M) M 2 [some (.ref (gR G a0)), some (.int x1_1)] [] := by
    intro n_7
    induction n_7 with
    | zero =>
      intro x1_1 h
      cases (show none = some _ from h)
    | succ n_7 i_8 =>
      intro x1_1 h
      rw [L_X0_isSilent_2] at h
      refine m_iload_n hc dX0_isSilent_2 rfl ?_
      refine m_aload_n hc dX0_isSilent_3 rfl ?_
      refine m_getI hc (kC_o h0) rfl tbX0 0 (by decide) wf_X0_9 rfl dX0_isSilent_4 ?_
      refine m_icge hc (tgt := 27) dX0_isSilent_7 (by decide) (fun b_10 => ?_) (fun b_10 => ?_)
      · replace h := (if_pos b_10).symm.trans h
        cases h
        exact m_fg [1] rfl (J_4 () g_6)
      · replace h := (if_neg b_10).symm.trans h
        refine m_aload_n hc dX0_isSilent_10 rfl ?_
        refine m_getR hc (q := (a0 + 2)) (kC_o h0) rfl tbX0 2 (by decide) wf_X0_19 rfl dX0_isSilent_11 ?_
        refine m_iload_n hc dX0_isSilent_14 rfl ?_
        obtain ⟨b_11, h⟩ := ck_o h
        refine m_iald hc (kC_2 h0) b_11 dX0_isSilent_15 ?_
        refine m_ifeq hc (tgt := 21) dX0_isSilent_16 (by decide) (fun b_12 => ?_) (fun b_12 => ?_)
        · replace h := (if_pos b_12).symm.trans h
          refine m_iinc hc (v := x1_1 + 1) (lv' := [some (.ref (gR G a0)), some (.int (x1_1 + 1))]) dX0_isSilent_21 rfl rfl rfl rfl ?_
          refine m_goto hc (tgt := 2) dX0_isSilent_24 (by decide) ?_
          exact m_fg [] rfl (i_8 _ h)
        · replace h := (if_neg b_12).symm.trans h
          refine m_iconst hc (v := 0) dX0_isSilent_19 (by decide) ?_
          cases h
          have g_6 : some (0 : Int32) = some r := g_6
          cases g_6
          exact m_zret hc hr (v := (0 : Int32)) (by decide) dX0_isSilent_20
  exact m_fg [] rfl (L_5 _ _ c_3)
def f_X5_better (x0 : Int32) (x1 : Int32) : Int32 :=
 nm (
 if (1048576 : Int32) ≤ (x0 ^^^ x1) then (
 (0 : Int32))
else (
 (1 : Int32))) (fun q_2 =>
 if q_2 = 0 then (
 if x1 ≤ x0 then (
 x1)
else (
 x0))
else (
 nm (((x0 &&& (1048575 : Int32)) + (x1 &&& (1048575 : Int32)))) (fun x3_7 =>
 if (1000000 : Int32) ≤ x3_7 then (
 ((x0 &&& (-1048576 : Int32)) + (1000000 : Int32)))
else (
 ((x0 &&& (-1048576 : Int32)) + x3_7)))))
set_option maxRecDepth 100000 in
set_option maxHeartbeats 4000000 in
theorem c_X5_better {G : Gm} {l : Launch} (d : Nat) {x0 : Int32} {x1 : Int32} {M : Mm} {r : Int32}  (h : f_X5_better x0 x1 = r) : Cm G l (d + 0) yX5_better cX5_better 4 (some .int) [.int x0, .int x1] M (some (.int r)) M := by
  unfold f_X5_better at h
  refine m_met (lv := [some (.int x0), some (.int x1), none, none]) (own := RX5) (by decide +kernel) rfl rfl (Nat.le_of_ble_eq_true rfl) rfl ?_
  intro X hX hc hr
  subst hX
  refine m_iload_n hc dX5_better_0 rfl ?_
  refine m_iload_n hc dX5_better_1 rfl ?_
  refine m_ixor hc dX5_better_2 ?_
  refine m_ldc hc dX5_better_3 wk_X5_154 ?_
  obtain ⟨q_2, c_3, h⟩ := nm_o h
  have J_4 : WM G X (qQ G X (some (.int r)) M) M 13 [some (.int x0), some (.int x1), none, none] [.int q_2] := by
    refine m_istore_n hc (lv' := [some (.int x0), some (.int x1), some (.int q_2), none]) dX5_better_13 (Nat.le_of_ble_eq_true rfl) rfl rfl ?_
    refine m_iload_n hc dX5_better_14 rfl ?_
    refine m_ifne hc (tgt := 29) dX5_better_15 (by decide) (fun b_6 => ?_) (fun b_6 => ?_)
    · replace h := (if_neg b_6).symm.trans h
      refine m_iload_n hc dX5_better_29 rfl ?_
      refine m_ldc hc dX5_better_30 wk_X5_124 ?_
      refine m_iand hc dX5_better_32 ?_
      refine m_iload_n hc dX5_better_33 rfl ?_
      refine m_ldc hc dX5_better_34 wk_X5_124 ?_
      refine m_iand hc dX5_better_36 ?_
      refine m_iadd hc dX5_better_37 ?_
      refine m_topI (fun x3_7 e_8 => ?_)
      replace h := nm_x e_8 h
      refine m_istore_n hc (lv' := [some (.int x0), some (.int x1), some (.int q_2), some (.int x3_7)]) dX5_better_38 (Nat.le_of_ble_eq_true rfl) rfl rfl ?_
      refine m_iload_n hc dX5_better_39 rfl ?_
      refine m_ldc hc dX5_better_40 wk_X5_155 ?_
      refine m_iand hc dX5_better_42 ?_
      refine m_iload_n hc dX5_better_43 rfl ?_
      refine m_ldc hc dX5_better_44 wk_X5_156 ?_
      refine m_icge hc (tgt := 53) dX5_better_46 (by decide) (fun b_9 => ?_) (fun b_9 => ?_)
      · replace h := (if_pos b_9).symm.trans h
        refine m_ldc hc dX5_better_53 wk_X5_156 ?_
        refine m_iadd hc dX5_better_55 ?_
        subst h
        exact m_iret hc hr dX5_better_56
      · replace h := (if_neg b_9).symm.trans h
        refine m_iload_n hc dX5_better_49 rfl ?_
        refine m_goto hc (tgt := 55) dX5_better_50 (by decide) ?_
        refine m_iadd hc dX5_better_55 ?_
        subst h
        exact m_iret hc hr dX5_better_56
    · replace h := (if_pos b_6).symm.trans h
      refine m_iload_n hc dX5_better_18 rfl ?_
      refine m_iload_n hc dX5_better_19 rfl ?_
      refine m_icge hc (tgt := 27) dX5_better_20 (by decide) (fun b_10 => ?_) (fun b_10 => ?_)
      · replace h := (if_pos b_10).symm.trans h
        refine m_iload_n hc dX5_better_27 rfl ?_
        subst h
        exact m_iret hc hr dX5_better_28
      · replace h := (if_neg b_10).symm.trans h
        refine m_iload_n hc dX5_better_23 rfl ?_
        refine m_goto hc (tgt := 28) dX5_better_24 (by decide) ?_
        subst h
        exact m_iret hc hr dX5_better_28
  replace h := c_3
  refine m_icge hc (tgt := 12) dX5_better_5 (by decide) (fun b_5 => ?_) (fun b_5 => ?_)
  · replace h := (if_pos b_5).symm.trans h
    refine m_iconst hc (v := 0) dX5_better_12 (by decide) ?_
    subst h
    exact m_fg [] rfl J_4
  · replace h := (if_neg b_5).symm.trans h
    refine m_iconst hc (v := 1) dX5_better_8 (by decide) ?_
    refine m_goto hc (tgt := 13) dX5_better_9 (by decide) ?_
    subst h
    exact m_fg [] rfl J_4
def L_X5_spreadPedal_12 (a0 : Nat) (x1 : Int32) (a2 : Nat) (x3_1 : Int32) : Nat → Int32 → Mm → Option (Mm)
  | 0, _, _ => none
  | n_18 + 1, x4_11, M_12 =>
    if (x3_1 + x1) ≤ x4_11 then (
     some M_12)
    else (
     nm ((x4_11 + x1)) (fun x5_21 =>
     nm ((x5_21 + x1)) (fun x6_23 =>
     ck (ib x4_11 2187) (
     ck (ib x5_21 2187) (
     ck (ib x6_23 2187) (
     nm (((f_X5_better (f_X5_better (M_12 a0 x4_11.toNatClampNeg) (M_12 a0 x5_21.toNatClampNeg)) (M_12 a0 x6_23.toNatClampNeg)) + (1048576 : Int32))) (fun x7_28 =>
     Option.bind (
     if (66060288 : Int32) ≤ x7_28 then (
     some M_12)
    else (
     ck (ib x4_11 2187) (
     ck (ib x4_11 2187) (
     nm (mw M_12 a2 x4_11.toNatClampNeg (f_X5_better (M_12 a2 x4_11.toNatClampNeg) x7_28)) (fun M_49 =>
     ck (ib x5_21 2187) (
     ck (ib x5_21 2187) (
     nm (mw M_49 a2 x5_21.toNatClampNeg (f_X5_better (M_49 a2 x5_21.toNatClampNeg) x7_28)) (fun M_53 =>
     ck (ib x6_23 2187) (
     ck (ib x6_23 2187) (
     nm (mw M_53 a2 x6_23.toNatClampNeg (f_X5_better (M_53 a2 x6_23.toNatClampNeg) x7_28)) (fun M_57 =>
     some M_57))))))))))) (fun q_43 =>
     L_X5_spreadPedal_12 a0 x1 a2 x3_1 n_18 (x4_11 + 1) q_43))))))))
def L_X5_spreadPedal_2 (a0 : Nat) (x1 : Int32) (a2 : Nat) : Nat → Int32 → Mm → Option (Mm)
  | 0, _, _ => none
  | n_8 + 1, x3_1, M_2 =>
    if (2187 : Int32) ≤ x3_1 then (
     some M_2)
    else (
     Option.bind (L_X5_spreadPedal_12 a0 x1 a2 x3_1 FU x3_1 M_2) (fun q_13 =>
     nm ((x3_1 + ((3 : Int32) * x1))) (fun x3_59 =>
     L_X5_spreadPedal_2 a0 x1 a2 n_8 x3_59 q_13)))
def f_X5_spreadPedal (a0 : Nat) (x1 : Int32) (a2 : Nat) (M : Mm) : Option (Mm) :=
 Option.bind (L_X5_spreadPedal_2 a0 x1 a2 FU (0 : Int32) M) (fun q_3 =>
 some q_3)
set_option maxRecDepth 100000 in
set_option maxHeartbeats 4000000 in
theorem c_X5_spreadPedal {G : Gm} {l : Launch} (d : Nat) {a0 : Nat} {x1 : Int32} {a2 : Nat} {M : Mm} {r : Mm} (h0 : isA a0 2187) (h2 : isA a2 2187) (h : f_X5_spreadPedal a0 x1 a2 M = some r) : Cm G l (d + 1) yX5_spreadPedal cX5_spreadPedal 8 none [.ref (gR G a0), .int x1, .ref (gR G a2)] M none r := by
  unfold f_X5_spreadPedal at h
  refine m_met (lv := [some (.ref (gR G a0)), some (.int x1), some (.ref (gR G a2)), none, none, none, none, none]) (own := RX5) (by decide +kernel) rfl rfl (Nat.le_of_ble_eq_true rfl) rfl ?_
  intro X hX hc hr
  subst hX
  refine m_iconst hc (v := 0) dX5_spreadPedal_0 (by decide) ?_
  refine m_istore_n hc (lv' := [some (.ref (gR G a0)), some (.int x1), some (.ref (gR G a2)), some (.int (0 : Int32)), none, none, none, none]) dX5_spreadPedal_1 (Nat.le_of_ble_eq_true rfl) rfl rfl ?_
  obtain ⟨q_3, c_4, h⟩ := bd_o h
  have J_5 : WM G X (qQ G X none r) q_3 116 [some (.ref (gR G a0)), some (.int x1), some (.ref (gR G a2)), none, none, none, none, none] [] := by
    cases h
    exact m_vret hc hr dX5_spreadPedal_116
  have L_6 : ∀ (n_8 : Nat) (x3_1 : Int32) (M_2 : Mm), L_X5_spreadPedal_2 a0 x1 a2 n_8 x3_1 M_2 = some q_3 → WM G X (qQ G X none r) M_2 2 [some (.ref (gR G a0)), some (.int x1), some (.ref (gR G a2)), some (.int x3_1), none, none, none, none] [] := by
    intro n_8
    induction n_8 with
    | zero =>
      intro x3_1 M_2 h
      cases (show none = some _ from h)
    | succ n_8 i_9 =>
      intro x3_1 M_2 h
      rw [L_X5_spreadPedal_2] at h
      refine m_iload_n hc dX5_spreadPedal_2 rfl ?_
      refine m_sipush hc (v := (2187 : Int32)) dX5_spreadPedal_3 (by decide) ?_
      refine m_icge hc (tgt := 116) dX5_spreadPedal_6 (by decide) (fun b_10 => ?_) (fun b_10 => ?_)
      · replace h := (if_pos b_10).symm.trans h
        cases h
        exact m_fg [3] rfl J_5
      · replace h := (if_neg b_10).symm.trans h
        refine m_iload_n hc dX5_spreadPedal_9 rfl ?_
        refine m_istore hc (lv' := [some (.ref (gR G a0)), some (.int x1), some (.ref (gR G a2)), some (.int x3_1), some (.int x3_1), none, none, none]) dX5_spreadPedal_10 (Nat.le_of_ble_eq_true rfl) rfl rfl ?_
        obtain ⟨q_13, c_14, h⟩ := bd_o h
        have J_15 : WM G X (qQ G X none r) q_13 107 [some (.ref (gR G a0)), some (.int x1), some (.ref (gR G a2)), some (.int x3_1), none, none, none, none] [] := by
          refine m_iload_n hc dX5_spreadPedal_107 rfl ?_
          refine m_iconst hc (v := 3) dX5_spreadPedal_108 (by decide) ?_
          refine m_iload_n hc dX5_spreadPedal_109 rfl ?_
          refine m_imul hc dX5_spreadPedal_110 ?_
          refine m_iadd hc dX5_spreadPedal_111 ?_
          refine m_topI (fun x3_59 e_60 => ?_)
          replace h := nm_x e_60 h
          refine m_istore_n hc (lv' := [some (.ref (gR G a0)), some (.int x1), some (.ref (gR G a2)), some (.int x3_59), none, none, none, none]) dX5_spreadPedal_112 (Nat.le_of_ble_eq_true rfl) rfl rfl ?_
          refine m_goto hc (tgt := 2) dX5_spreadPedal_113 (by decide) ?_
          exact m_fg [] rfl (i_9 _ _ h)
        have L_16 : ∀ (n_18 : Nat) (x4_11 : Int32) (M_12 : Mm), L_X5_spreadPedal_12 a0 x1 a2 x3_1 n_18 x4_11 M_12 = some q_13 → WM G X (qQ G X none r) M_12 12 [some (.ref (gR G a0)), some (.int x1), some (.ref (gR G a2)), some (.int x3_1), some (.int x4_11), none, none, none] [] := by
          intro n_18
          induction n_18 with
          | zero =>
            intro x4_11 M_12 h
            cases (show none = some _ from h)
          | succ n_18 i_19 =>
            intro x4_11 M_12 h
            rw [L_X5_spreadPedal_12] at h
            refine m_iload hc dX5_spreadPedal_12 rfl ?_
            refine m_iload_n hc dX5_spreadPedal_14 rfl ?_
            refine m_iload_n hc dX5_spreadPedal_15 rfl ?_
            refine m_iadd hc dX5_spreadPedal_16 ?_
            refine m_icge hc (tgt := 107) dX5_spreadPedal_17 (by decide) (fun b_20 => ?_) (fun b_20 => ?_)
            · replace h := (if_pos b_20).symm.trans h
              cases h
              exact m_fg [4] rfl J_15
            · replace h := (if_neg b_20).symm.trans h
              refine m_iload hc dX5_spreadPedal_20 rfl ?_
              refine m_iload_n hc dX5_spreadPedal_22 rfl ?_
              refine m_iadd hc dX5_spreadPedal_23 ?_
              refine m_topI (fun x5_21 e_22 => ?_)
              replace h := nm_x e_22 h
              refine m_istore hc (lv' := [some (.ref (gR G a0)), some (.int x1), some (.ref (gR G a2)), some (.int x3_1), some (.int x4_11), some (.int x5_21), none, none]) dX5_spreadPedal_24 (Nat.le_of_ble_eq_true rfl) rfl rfl ?_
              refine m_iload hc dX5_spreadPedal_26 rfl ?_
              refine m_iload_n hc dX5_spreadPedal_28 rfl ?_
              refine m_iadd hc dX5_spreadPedal_29 ?_
              refine m_topI (fun x6_23 e_24 => ?_)
              replace h := nm_x e_24 h
              refine m_istore hc (lv' := [some (.ref (gR G a0)), some (.int x1), some (.ref (gR G a2)), some (.int x3_1), some (.int x4_11), some (.int x5_21), some (.int x6_23), none]) dX5_spreadPedal_30 (Nat.le_of_ble_eq_true rfl) rfl rfl ?_
              refine m_aload_n hc dX5_spreadPedal_32 rfl ?_
              refine m_iload hc dX5_spreadPedal_33 rfl ?_
              obtain ⟨b_25, h⟩ := ck_o h
              refine m_iald hc h0 b_25 dX5_spreadPedal_35 ?_
              refine m_aload_n hc dX5_spreadPedal_36 rfl ?_
              refine m_iload hc dX5_spreadPedal_37 rfl ?_
              obtain ⟨b_26, h⟩ := ck_o h
              refine m_iald hc h0 b_26 dX5_spreadPedal_39 ?_
              refine m_callSi hc (c_X5_better (d + 0) rfl) (by omega) (by decide) wm_X5_151 wt_X5_better wv_X5_better wc_X5_better wz_X5_better rfl (st := []) rfl rfl (Nat.le_of_ble_eq_true rfl) dX5_spreadPedal_40 ?_
              refine m_aload_n hc dX5_spreadPedal_43 rfl ?_
              refine m_iload hc dX5_spreadPedal_44 rfl ?_
              obtain ⟨b_27, h⟩ := ck_o h
              refine m_iald hc h0 b_27 dX5_spreadPedal_46 ?_
              refine m_callSi hc (c_X5_better (d + 0) rfl) (by omega) (by decide) wm_X5_151 wt_X5_better wv_X5_better wc_X5_better wz_X5_better rfl (st := []) rfl rfl (Nat.le_of_ble_eq_true rfl) dX5_spreadPedal_47 ?_
              refine m_ldc hc dX5_spreadPedal_50 wk_X5_154 ?_
              refine m_iadd hc dX5_spreadPedal_52 ?_
              refine m_topI (fun x7_28 e_29 => ?_)
              replace h := nm_x e_29 h
              refine m_istore hc (lv' := [some (.ref (gR G a0)), some (.int x1), some (.ref (gR G a2)), some (.int x3_1), some (.int x4_11), some (.int x5_21), some (.int x6_23), some (.int x7_28)]) dX5_spreadPedal_53 (Nat.le_of_ble_eq_true rfl) rfl rfl ?_
              refine m_iload hc dX5_spreadPedal_55 rfl ?_
              refine m_ldc hc dX5_spreadPedal_57 wk_X5_68 ?_
              obtain ⟨q_43, c_44, h⟩ := bd_o h
              have J_45 : WM G X (qQ G X none r) q_43 101 [some (.ref (gR G a0)), some (.int x1), some (.ref (gR G a2)), some (.int x3_1), some (.int x4_11), some (.int x5_21), some (.int x6_23), some (.int x7_28)] [] := by
                refine m_iinc hc (v := x4_11 + 1) (lv' := [some (.ref (gR G a0)), some (.int x1), some (.ref (gR G a2)), some (.int x3_1), some (.int (x4_11 + 1)), some (.int x5_21), some (.int x6_23), some (.int x7_28)]) dX5_spreadPedal_101 rfl rfl rfl rfl ?_
                refine m_goto hc (tgt := 12) dX5_spreadPedal_104 (by decide) ?_
                exact m_fg [5, 6, 7] rfl (i_19 _ _ h)
              replace h := c_44
              refine m_icge hc (tgt := 101) dX5_spreadPedal_59 (by decide) (fun b_46 => ?_) (fun b_46 => ?_)
              · replace h := (if_pos b_46).symm.trans h
                cases h
                exact m_fg [] rfl J_45
              · replace h := (if_neg b_46).symm.trans h
                refine m_aload_n hc dX5_spreadPedal_62 rfl ?_
                refine m_iload hc dX5_spreadPedal_63 rfl ?_
                refine m_aload_n hc dX5_spreadPedal_65 rfl ?_
                refine m_iload hc dX5_spreadPedal_66 rfl ?_
                obtain ⟨b_47, h⟩ := ck_o h
                refine m_iald hc h2 b_47 dX5_spreadPedal_68 ?_
                refine m_iload hc dX5_spreadPedal_69 rfl ?_
                refine m_callSi hc (c_X5_better (d + 0) rfl) (by omega) (by decide) wm_X5_151 wt_X5_better wv_X5_better wc_X5_better wz_X5_better rfl (st := [.int x4_11, .ref (gR G a2)]) rfl rfl (Nat.le_of_ble_eq_true rfl) dX5_spreadPedal_71 ?_
                obtain ⟨b_48, h⟩ := ck_o h
                refine m_iast hc h2 b_48 dX5_spreadPedal_74 ?_
                refine m_topM (fun M_49 e_50 => ?_)
                replace h := nm_x e_50 h
                refine m_aload_n hc dX5_spreadPedal_75 rfl ?_
                refine m_iload hc dX5_spreadPedal_76 rfl ?_
                refine m_aload_n hc dX5_spreadPedal_78 rfl ?_
                refine m_iload hc dX5_spreadPedal_79 rfl ?_
                obtain ⟨b_51, h⟩ := ck_o h
                refine m_iald hc h2 b_51 dX5_spreadPedal_81 ?_
                refine m_iload hc dX5_spreadPedal_82 rfl ?_
                refine m_callSi hc (c_X5_better (d + 0) rfl) (by omega) (by decide) wm_X5_151 wt_X5_better wv_X5_better wc_X5_better wz_X5_better rfl (st := [.int x5_21, .ref (gR G a2)]) rfl rfl (Nat.le_of_ble_eq_true rfl) dX5_spreadPedal_84 ?_
                obtain ⟨b_52, h⟩ := ck_o h
                refine m_iast hc h2 b_52 dX5_spreadPedal_87 ?_
                refine m_topM (fun M_53 e_54 => ?_)
                replace h := nm_x e_54 h
                refine m_aload_n hc dX5_spreadPedal_88 rfl ?_
                refine m_iload hc dX5_spreadPedal_89 rfl ?_
                refine m_aload_n hc dX5_spreadPedal_91 rfl ?_
                refine m_iload hc dX5_spreadPedal_92 rfl ?_
                obtain ⟨b_55, h⟩ := ck_o h
                refine m_iald hc h2 b_55 dX5_spreadPedal_94 ?_
                refine m_iload hc dX5_spreadPedal_95 rfl ?_
                refine m_callSi hc (c_X5_better (d + 0) rfl) (by omega) (by decide) wm_X5_151 wt_X5_better wv_X5_better wc_X5_better wz_X5_better rfl (st := [.int x6_23, .ref (gR G a2)]) rfl rfl (Nat.le_of_ble_eq_true rfl) dX5_spreadPedal_97 ?_
                obtain ⟨b_56, h⟩ := ck_o h
                refine m_iast hc h2 b_56 dX5_spreadPedal_100 ?_
                refine m_topM (fun M_57 e_58 => ?_)
                replace h := nm_x e_58 h
                cases h
                exact m_fg [] rfl J_45
        exact m_fg [] rfl (L_16 _ _ _ c_14)
  exact m_fg [] rfl (L_6 _ _ _ c_4)
def L_X5_spread_12 (a0 : Nat) (x1 : Int32) (a2 : Nat) : Nat → Int32 → Mm → Option (Mm)
  | 0, _, _ => none
  | n_11 + 1, x3_4, M_5 =>
    if (7 : Int32) ≤ x3_4 then (
     some M_5)
    else (
     Option.bind (
     if ((x1 >>> (x3_4 &&& 31)) &&& (1 : Int32)) = 0 then (
     some M_5)
    else (
     ck (ib x3_4 7) (
     Option.bind (f_X5_spreadPedal a0 (st_ 4 x3_4.toNatClampNeg) a2 M_5) (fun q_23 =>
     some q_23)))) (fun q_18 =>
     L_X5_spread_12 a0 x1 a2 n_11 (x3_4 + 1) q_18))
def f_X5_spread (a0 : Nat) (x1 : Int32) (a2 : Nat) (M : Mm) : Option (Mm) :=
 ck (cpo (0 : Int32) (0 : Int32) (2187 : Int32) 2187 2187) (
 nm (mu M a2 (cpy (M a0) (M a2) (0 : Int32) (0 : Int32) (2187 : Int32))) (fun M_2 =>
 Option.bind (L_X5_spread_12 a0 x1 a2 FU (0 : Int32) M_2) (fun q_6 =>
 some q_6)))
set_option maxRecDepth 100000 in
set_option maxHeartbeats 4000000 in
theorem c_X5_spread {G : Gm} {l : Launch} (d : Nat) {a0 : Nat} {x1 : Int32} {a2 : Nat} {M : Mm} {r : Mm} (h0 : isA a0 2187) (h2 : isA a2 2187) (h : f_X5_spread a0 x1 a2 M = some r) : Cm G l (d + 2) yX5_spread cX5_spread 4 none [.ref (gR G a0), .int x1, .ref (gR G a2)] M none r := by
  unfold f_X5_spread at h
  refine m_met (lv := [some (.ref (gR G a0)), some (.int x1), some (.ref (gR G a2)), none]) (own := RX5) (by decide +kernel) rfl rfl (Nat.le_of_ble_eq_true rfl) rfl ?_
  intro X hX hc hr
  subst hX
  refine m_aload_n hc dX5_spread_0 rfl ?_
  refine m_iconst hc (v := 0) dX5_spread_1 (by decide) ?_
  refine m_aload_n hc dX5_spread_2 rfl ?_
  refine m_iconst hc (v := 0) dX5_spread_3 (by decide) ?_
  refine m_sipush hc (v := (2187 : Int32)) dX5_spread_4 (by decide) ?_
  obtain ⟨b_1, h⟩ := ck_o h
  refine m_acpy hc (by omega) h0 h2 wm_X5_163 wa_nat wa_sta wa_ini b_1.1 b_1.2.1 b_1.2.2.1 b_1.2.2.2.1 b_1.2.2.2.2 rfl (st := []) (Nat.le_of_ble_eq_true rfl) dX5_spread_7 ?_
  refine m_topM (fun M_2 e_3 => ?_)
  replace h := nm_x e_3 h
  refine m_iconst hc (v := 0) dX5_spread_10 (by decide) ?_
  refine m_istore_n hc (lv' := [some (.ref (gR G a0)), some (.int x1), some (.ref (gR G a2)), some (.int (0 : Int32))]) dX5_spread_11 (Nat.le_of_ble_eq_true rfl) rfl rfl ?_
  obtain ⟨q_6, c_7, h⟩ := bd_o h
  have J_8 : WM G X (qQ G X none r) q_6 42 [some (.ref (gR G a0)), some (.int x1), some (.ref (gR G a2)), none] [] := by
    cases h
    exact m_vret hc hr dX5_spread_42
  have L_9 : ∀ (n_11 : Nat) (x3_4 : Int32) (M_5 : Mm), L_X5_spread_12 a0 x1 a2 n_11 x3_4 M_5 = some q_6 → WM G X (qQ G X none r) M_5 12 [some (.ref (gR G a0)), some (.int x1), some (.ref (gR G a2)), some (.int x3_4)] [] := by
    intro n_11
    induction n_11 with
    | zero =>
      intro x3_4 M_5 h
      cases (show none = some _ from h)
    | succ n_11 i_12 =>
      intro x3_4 M_5 h
      rw [L_X5_spread_12] at h
      refine m_iload_n hc dX5_spread_12 rfl ?_
      refine m_bipush hc (v := (7 : Int32)) dX5_spread_13 (by decide) ?_
      refine m_icge hc (tgt := 42) dX5_spread_15 (by decide) (fun b_13 => ?_) (fun b_13 => ?_)
      · replace h := (if_pos b_13).symm.trans h
        cases h
        exact m_fg [3] rfl J_8
      · replace h := (if_neg b_13).symm.trans h
        refine m_iload_n hc dX5_spread_18 rfl ?_
        refine m_iload_n hc dX5_spread_19 rfl ?_
        refine m_ishr hc dX5_spread_20 ?_
        refine m_iconst hc (v := 1) dX5_spread_21 (by decide) ?_
        refine m_iand hc dX5_spread_22 ?_
        obtain ⟨q_18, c_19, h⟩ := bd_o h
        have J_20 : WM G X (qQ G X none r) q_18 36 [some (.ref (gR G a0)), some (.int x1), some (.ref (gR G a2)), some (.int x3_4)] [] := by
          refine m_iinc hc (v := x3_4 + 1) (lv' := [some (.ref (gR G a0)), some (.int x1), some (.ref (gR G a2)), some (.int (x3_4 + 1))]) dX5_spread_36 rfl rfl rfl rfl ?_
          refine m_goto hc (tgt := 12) dX5_spread_39 (by decide) ?_
          exact m_fg [] rfl (i_12 _ _ h)
        replace h := c_19
        refine m_ifeq hc (tgt := 36) dX5_spread_23 (by decide) (fun b_21 => ?_) (fun b_21 => ?_)
        · replace h := (if_pos b_21).symm.trans h
          cases h
          exact m_fg [] rfl J_20
        · replace h := (if_neg b_21).symm.trans h
          refine m_aload_n hc dX5_spread_26 rfl ?_
          refine m_sget hc 4 (by decide) ws_X5_185 dX5_spread_27 ?_
          refine m_iload_n hc dX5_spread_30 rfl ?_
          obtain ⟨b_22, h⟩ := ck_o h
          refine m_sald hc 4 (by decide) rfl b_22 dX5_spread_31 ?_
          refine m_aload_n hc dX5_spread_32 rfl ?_
          obtain ⟨q_23, c_24, h⟩ := bd_o h
          refine m_callSv hc (c_X5_spreadPedal (d + 0) h0 h2 c_24) (by omega) (by decide) wm_X5_188 wt_X5_spreadPedal wv_X5_spreadPedal wc_X5_spreadPedal wz_X5_spreadPedal rfl (st := []) rfl rfl (Nat.le_of_ble_eq_true rfl) dX5_spread_33 ?_
          cases h
          exact m_fg [] rfl J_20
  exact m_fg [] rfl (L_9 _ _ _ c_7)
def L_X5_reach_21 (x1 : Int32) (x2 : Int32) (a3 : Nat) (x4_2 : Int32) : Nat → Int32 → Int32 → Mm → Option (Int32 × Mm)
  | 0, _, _, _ => none
  | n_15 + 1, x5_7, x6_8, M_9 =>
    if (7 : Int32) ≤ x6_8 then (
     some (x5_7, M_9))
    else (
     Option.bind (
     if ((x2 >>> (x6_8 &&& 31)) &&& (1 : Int32)) = 0 then (
     some (x5_7, M_9))
    else (
     nm (((x4_2 >>> (((2 : Int32) * x6_8) &&& 31)) &&& (3 : Int32))) (fun x7_35 =>
     ck (ib x7_35 3) (
     ck (ib x6_8 7) (
     ck (ib x5_7 21) (
     nm (mw M_9 a3 x5_7.toNatClampNeg (x1 + ((st_ 5 x7_35.toNatClampNeg) * (st_ 4 x6_8.toNatClampNeg)))) (fun M_40 =>
     ck (ib x7_35 3) (
     ck (ib x6_8 7) (
     ck (ib (x5_7 + (1 : Int32)) 21) (
     nm (mw M_40 a3 (x5_7 + (1 : Int32)).toNatClampNeg (x1 + ((st_ 6 x7_35.toNatClampNeg) * (st_ 4 x6_8.toNatClampNeg)))) (fun M_45 =>
     some ((x5_7 + 2), M_45)))))))))))) (fun q_31 =>
     L_X5_reach_21 x1 x2 a3 x4_2 n_15 q_31.1 (x6_8 + 1) q_31.2))
def f_X5_reach (x1 : Int32) (x2 : Int32) (a3 : Nat) (M : Mm) : Option (Int32 × Mm) :=
 ck (ib x1 2187) (
 nm ((M 2 x1.toNatClampNeg)) (fun x4_2 =>
 ck (ib (0 : Int32) 21) (
 nm (mw M a3 (0 : Int32).toNatClampNeg x1) (fun M_5 =>
 Option.bind (L_X5_reach_21 x1 x2 a3 x4_2 FU (1 : Int32) (0 : Int32) M_5) (fun q_10 =>
 some (q_10.1, q_10.2))))))
set_option maxRecDepth 100000 in
set_option maxHeartbeats 4000000 in
theorem c_X5_reach {G : Gm} {l : Launch} (d : Nat) {x1 : Int32} {x2 : Int32} {a3 : Nat} {M : Mm} {r : Int32 × Mm} (h3 : isA a3 21) (h : f_X5_reach x1 x2 a3 M = some r) : Cm G l (d + 0) yX5_reach cX5_reach 8 (some .int) [.ref (gR G 161), .int x1, .int x2, .ref (gR G a3)] M (some (.int r.1)) r.2 := by
  unfold f_X5_reach at h
  refine m_met (lv := [some (.ref (gR G 161)), some (.int x1), some (.int x2), some (.ref (gR G a3)), none, none, none, none]) (own := RX5) (by decide +kernel) rfl rfl (Nat.le_of_ble_eq_true rfl) rfl ?_
  intro X hX hc hr
  subst hX
  refine m_aload_n hc dX5_reach_0 rfl ?_
  refine m_getR hc (q := 1) yO_161 rfl tbX5 0 (by decide) wf_X5_11 rfl dX5_reach_1 ?_
  refine m_getR hc (q := 2) yO_1 rfl tbX1 0 (by decide) wf_X5_125 rfl dX5_reach_4 ?_
  refine m_iload_n hc dX5_reach_7 rfl ?_
  obtain ⟨b_1, h⟩ := ck_o h
  refine m_iald hc yA_2 b_1 dX5_reach_8 ?_
  refine m_topI (fun x4_2 e_3 => ?_)
  replace h := nm_x e_3 h
  refine m_istore hc (lv' := [some (.ref (gR G 161)), some (.int x1), some (.int x2), some (.ref (gR G a3)), some (.int x4_2), none, none, none]) dX5_reach_9 (Nat.le_of_ble_eq_true rfl) rfl rfl ?_
  refine m_aload_n hc dX5_reach_11 rfl ?_
  refine m_iconst hc (v := 0) dX5_reach_12 (by decide) ?_
  refine m_iload_n hc dX5_reach_13 rfl ?_
  obtain ⟨b_4, h⟩ := ck_o h
  refine m_iast hc h3 b_4 dX5_reach_14 ?_
  refine m_topM (fun M_5 e_6 => ?_)
  replace h := nm_x e_6 h
  refine m_iconst hc (v := 1) dX5_reach_15 (by decide) ?_
  refine m_istore hc (lv' := [some (.ref (gR G 161)), some (.int x1), some (.int x2), some (.ref (gR G a3)), some (.int x4_2), some (.int (1 : Int32)), none, none]) dX5_reach_16 (Nat.le_of_ble_eq_true rfl) rfl rfl ?_
  refine m_iconst hc (v := 0) dX5_reach_18 (by decide) ?_
  refine m_istore hc (lv' := [some (.ref (gR G 161)), some (.int x1), some (.int x2), some (.ref (gR G a3)), some (.int x4_2), some (.int (1 : Int32)), some (.int (0 : Int32)), none]) dX5_reach_19 (Nat.le_of_ble_eq_true rfl) rfl rfl ?_
  obtain ⟨q_10, c_11, h⟩ := bd_o h
  have J_12 : WM G X (qQ G X (some (.int r.1)) r.2) q_10.2 97 [some (.ref (gR G 161)), some (.int x1), some (.int x2), some (.ref (gR G a3)), some (.int x4_2), some (.int q_10.1), none, none] [] := by
    refine m_iload hc dX5_reach_97 rfl ?_
    cases h
    exact m_iret hc hr dX5_reach_99
  have L_13 : ∀ (n_15 : Nat) (x5_7 : Int32) (x6_8 : Int32) (M_9 : Mm), L_X5_reach_21 x1 x2 a3 x4_2 n_15 x5_7 x6_8 M_9 = some q_10 → WM G X (qQ G X (some (.int r.1)) r.2) M_9 21 [some (.ref (gR G 161)), some (.int x1), some (.int x2), some (.ref (gR G a3)), some (.int x4_2), some (.int x5_7), some (.int x6_8), none] [] := by
    intro n_15
    induction n_15 with
    | zero =>
      intro x5_7 x6_8 M_9 h
      cases (show none = some _ from h)
    | succ n_15 i_16 =>
      intro x5_7 x6_8 M_9 h
      rw [L_X5_reach_21] at h
      refine m_iload hc dX5_reach_21 rfl ?_
      refine m_bipush hc (v := (7 : Int32)) dX5_reach_23 (by decide) ?_
      refine m_icge hc (tgt := 97) dX5_reach_25 (by decide) (fun b_17 => ?_) (fun b_17 => ?_)
      · replace h := (if_pos b_17).symm.trans h
        cases h
        exact m_fg [6] rfl J_12
      · replace h := (if_neg b_17).symm.trans h
        refine m_iload_n hc dX5_reach_28 rfl ?_
        refine m_iload hc dX5_reach_29 rfl ?_
        refine m_ishr hc dX5_reach_31 ?_
        refine m_iconst hc (v := 1) dX5_reach_32 (by decide) ?_
        refine m_iand hc dX5_reach_33 ?_
        obtain ⟨q_31, c_32, h⟩ := bd_o h
        have J_33 : WM G X (qQ G X (some (.int r.1)) r.2) q_31.2 91 [some (.ref (gR G 161)), some (.int x1), some (.int x2), some (.ref (gR G a3)), some (.int x4_2), some (.int q_31.1), some (.int x6_8), none] [] := by
          refine m_iinc hc (v := x6_8 + 1) (lv' := [some (.ref (gR G 161)), some (.int x1), some (.int x2), some (.ref (gR G a3)), some (.int x4_2), some (.int q_31.1), some (.int (x6_8 + 1)), none]) dX5_reach_91 rfl rfl rfl rfl ?_
          refine m_goto hc (tgt := 21) dX5_reach_94 (by decide) ?_
          exact m_fg [] rfl (i_16 _ _ _ h)
        replace h := c_32
        refine m_ifeq hc (tgt := 91) dX5_reach_34 (by decide) (fun b_34 => ?_) (fun b_34 => ?_)
        · replace h := (if_pos b_34).symm.trans h
          cases h
          exact m_fg [] rfl J_33
        · replace h := (if_neg b_34).symm.trans h
          refine m_iload hc dX5_reach_37 rfl ?_
          refine m_iconst hc (v := 2) dX5_reach_39 (by decide) ?_
          refine m_iload hc dX5_reach_40 rfl ?_
          refine m_imul hc dX5_reach_42 ?_
          refine m_ishr hc dX5_reach_43 ?_
          refine m_iconst hc (v := 3) dX5_reach_44 (by decide) ?_
          refine m_iand hc dX5_reach_45 ?_
          refine m_topI (fun x7_35 e_36 => ?_)
          replace h := nm_x e_36 h
          refine m_istore hc (lv' := [some (.ref (gR G 161)), some (.int x1), some (.int x2), some (.ref (gR G a3)), some (.int x4_2), some (.int x5_7), some (.int x6_8), some (.int x7_35)]) dX5_reach_46 (Nat.le_of_ble_eq_true rfl) rfl rfl ?_
          refine m_aload_n hc dX5_reach_48 rfl ?_
          refine m_iload hc dX5_reach_49 rfl ?_
          refine m_iload_n hc dX5_reach_51 rfl ?_
          refine m_sget hc 5 (by decide) ws_X5_202 dX5_reach_52 ?_
          refine m_iload hc dX5_reach_55 rfl ?_
          obtain ⟨b_37, h⟩ := ck_o h
          refine m_sald hc 5 (by decide) rfl b_37 dX5_reach_57 ?_
          refine m_sget hc 4 (by decide) ws_X5_185 dX5_reach_58 ?_
          refine m_iload hc dX5_reach_61 rfl ?_
          obtain ⟨b_38, h⟩ := ck_o h
          refine m_sald hc 4 (by decide) rfl b_38 dX5_reach_63 ?_
          refine m_imul hc dX5_reach_64 ?_
          refine m_iadd hc dX5_reach_65 ?_
          obtain ⟨b_39, h⟩ := ck_o h
          refine m_iast hc h3 b_39 dX5_reach_66 ?_
          refine m_topM (fun M_40 e_41 => ?_)
          replace h := nm_x e_41 h
          refine m_aload_n hc dX5_reach_67 rfl ?_
          refine m_iload hc dX5_reach_68 rfl ?_
          refine m_iconst hc (v := 1) dX5_reach_70 (by decide) ?_
          refine m_iadd hc dX5_reach_71 ?_
          refine m_iload_n hc dX5_reach_72 rfl ?_
          refine m_sget hc 6 (by decide) ws_X5_205 dX5_reach_73 ?_
          refine m_iload hc dX5_reach_76 rfl ?_
          obtain ⟨b_42, h⟩ := ck_o h
          refine m_sald hc 6 (by decide) rfl b_42 dX5_reach_78 ?_
          refine m_sget hc 4 (by decide) ws_X5_185 dX5_reach_79 ?_
          refine m_iload hc dX5_reach_82 rfl ?_
          obtain ⟨b_43, h⟩ := ck_o h
          refine m_sald hc 4 (by decide) rfl b_43 dX5_reach_84 ?_
          refine m_imul hc dX5_reach_85 ?_
          refine m_iadd hc dX5_reach_86 ?_
          obtain ⟨b_44, h⟩ := ck_o h
          refine m_iast hc h3 b_44 dX5_reach_87 ?_
          refine m_topM (fun M_45 e_46 => ?_)
          replace h := nm_x e_46 h
          refine m_iinc hc (v := x5_7 + 2) (lv' := [some (.ref (gR G 161)), some (.int x1), some (.int x2), some (.ref (gR G a3)), some (.int x4_2), some (.int (x5_7 + 2)), some (.int x6_8), some (.int x7_35)]) dX5_reach_88 rfl rfl rfl rfl ?_
          cases h
          exact m_fg [7] rfl J_33
  exact m_fg [] rfl (L_13 _ _ _ _ c_11)
def L_X5_bestByFoot_20 (a1 : Nat) (q_1 : Int32 × Mm) : Nat → Int32 → Int32 → Option (Int32)
  | 0, _, _ => none
  | n_13 + 1, x5_6, x6_7 =>
    if q_1.1 ≤ x6_7 then (
     some x5_6)
    else (
     ck (ib x6_7 21) (
     ck (ib (q_1.2 202 x6_7.toNatClampNeg) 2187) (
     nm ((f_X5_better x5_6 ((q_1.2 a1 (q_1.2 202 x6_7.toNatClampNeg).toNatClampNeg) + (1048576 : Int32)))) (fun x5_18 =>
     L_X5_bestByFoot_20 a1 q_1 n_13 x5_18 (x6_7 + 1)))))
def f_X5_bestByFoot (a1 : Nat) (x2 : Int32) (x3 : Int32) (M : Mm) : Option (Int32 × Mm) :=
 Option.bind (f_X5_reach x2 x3 202 M) (fun q_1 =>
 ck (ib x2 2187) (
 nm ((q_1.2 a1 x2.toNatClampNeg)) (fun x5_4 =>
 Option.bind (L_X5_bestByFoot_20 a1 q_1 FU x5_4 (1 : Int32)) (fun q_8 =>
 some (q_8, q_1.2)))))
set_option maxRecDepth 100000 in
set_option maxHeartbeats 4000000 in
theorem c_X5_bestByFoot {G : Gm} {l : Launch} (d : Nat) {a1 : Nat} {x2 : Int32} {x3 : Int32} {M : Mm} {r : Int32 × Mm} (h1 : isA a1 2187) (h : f_X5_bestByFoot a1 x2 x3 M = some r) : Cm G l (d + 1) yX5_bestByFoot cX5_bestByFoot 7 (some .int) [.ref (gR G 161), .ref (gR G a1), .int x2, .int x3] M (some (.int r.1)) r.2 := by
  unfold f_X5_bestByFoot at h
  refine m_met (lv := [some (.ref (gR G 161)), some (.ref (gR G a1)), some (.int x2), some (.int x3), none, none, none]) (own := RX5) (by decide +kernel) rfl rfl (Nat.le_of_ble_eq_true rfl) rfl ?_
  intro X hX hc hr
  subst hX
  refine m_aload_n hc dX5_bestByFoot_0 rfl ?_
  refine m_iload_n hc dX5_bestByFoot_1 rfl ?_
  refine m_iload_n hc dX5_bestByFoot_2 rfl ?_
  refine m_aload_n hc dX5_bestByFoot_3 rfl ?_
  refine m_getR hc (q := 202) yO_161 rfl tbX5 10 (by decide) wf_X5_51 rfl dX5_bestByFoot_4 ?_
  obtain ⟨q_1, c_2, h⟩ := bd_o h
  refine m_callVi hc yO_161 rfl (c_X5_reach (d + 0) yA_202 c_2) (by omega) (by decide) wm_X5_198 wi_X5_reach we_X5_reach wn_X5 wc_X5_reach wy_X5_reach rfl (st := []) rfl rfl (Nat.le_of_ble_eq_true rfl) dX5_bestByFoot_7 ?_
  refine m_istore hc (lv' := [some (.ref (gR G 161)), some (.ref (gR G a1)), some (.int x2), some (.int x3), some (.int q_1.1), none, none]) dX5_bestByFoot_10 (Nat.le_of_ble_eq_true rfl) rfl rfl ?_
  refine m_aload_n hc dX5_bestByFoot_12 rfl ?_
  refine m_iload_n hc dX5_bestByFoot_13 rfl ?_
  obtain ⟨b_3, h⟩ := ck_o h
  refine m_iald hc h1 b_3 dX5_bestByFoot_14 ?_
  refine m_topI (fun x5_4 e_5 => ?_)
  replace h := nm_x e_5 h
  refine m_istore hc (lv' := [some (.ref (gR G 161)), some (.ref (gR G a1)), some (.int x2), some (.int x3), some (.int q_1.1), some (.int x5_4), none]) dX5_bestByFoot_15 (Nat.le_of_ble_eq_true rfl) rfl rfl ?_
  refine m_iconst hc (v := 1) dX5_bestByFoot_17 (by decide) ?_
  refine m_istore hc (lv' := [some (.ref (gR G 161)), some (.ref (gR G a1)), some (.int x2), some (.int x3), some (.int q_1.1), some (.int x5_4), some (.int (1 : Int32))]) dX5_bestByFoot_18 (Nat.le_of_ble_eq_true rfl) rfl rfl ?_
  obtain ⟨q_8, c_9, h⟩ := bd_o h
  have J_10 : WM G X (qQ G X (some (.int r.1)) r.2) q_1.2 52 [some (.ref (gR G 161)), some (.ref (gR G a1)), some (.int x2), some (.int x3), some (.int q_1.1), some (.int q_8), none] [] := by
    refine m_iload hc dX5_bestByFoot_52 rfl ?_
    cases h
    exact m_iret hc hr dX5_bestByFoot_54
  have L_11 : ∀ (n_13 : Nat) (x5_6 : Int32) (x6_7 : Int32), L_X5_bestByFoot_20 a1 q_1 n_13 x5_6 x6_7 = some q_8 → WM G X (qQ G X (some (.int r.1)) r.2) q_1.2 20 [some (.ref (gR G 161)), some (.ref (gR G a1)), some (.int x2), some (.int x3), some (.int q_1.1), some (.int x5_6), some (.int x6_7)] [] := by
    intro n_13
    induction n_13 with
    | zero =>
      intro x5_6 x6_7 h
      cases (show none = some _ from h)
    | succ n_13 i_14 =>
      intro x5_6 x6_7 h
      rw [L_X5_bestByFoot_20] at h
      refine m_iload hc dX5_bestByFoot_20 rfl ?_
      refine m_iload hc dX5_bestByFoot_22 rfl ?_
      refine m_icge hc (tgt := 52) dX5_bestByFoot_24 (by decide) (fun b_15 => ?_) (fun b_15 => ?_)
      · replace h := (if_pos b_15).symm.trans h
        cases h
        exact m_fg [6] rfl J_10
      · replace h := (if_neg b_15).symm.trans h
        refine m_iload hc dX5_bestByFoot_27 rfl ?_
        refine m_aload_n hc dX5_bestByFoot_29 rfl ?_
        refine m_aload_n hc dX5_bestByFoot_30 rfl ?_
        refine m_getR hc (q := 202) yO_161 rfl tbX5 10 (by decide) wf_X5_51 rfl dX5_bestByFoot_31 ?_
        refine m_iload hc dX5_bestByFoot_34 rfl ?_
        obtain ⟨b_16, h⟩ := ck_o h
        refine m_iald hc yA_202 b_16 dX5_bestByFoot_36 ?_
        obtain ⟨b_17, h⟩ := ck_o h
        refine m_iald hc h1 b_17 dX5_bestByFoot_37 ?_
        refine m_ldc hc dX5_bestByFoot_38 wk_X5_154 ?_
        refine m_iadd hc dX5_bestByFoot_40 ?_
        refine m_callSi hc (c_X5_better (d + 0) rfl) (by omega) (by decide) wm_X5_151 wt_X5_better wv_X5_better wc_X5_better wz_X5_better rfl (st := []) rfl rfl (Nat.le_of_ble_eq_true rfl) dX5_bestByFoot_41 ?_
        refine m_topI (fun x5_18 e_19 => ?_)
        replace h := nm_x e_19 h
        refine m_istore hc (lv' := [some (.ref (gR G 161)), some (.ref (gR G a1)), some (.int x2), some (.int x3), some (.int q_1.1), some (.int x5_18), some (.int x6_7)]) dX5_bestByFoot_44 (Nat.le_of_ble_eq_true rfl) rfl rfl ?_
        refine m_iinc hc (v := x6_7 + 1) (lv' := [some (.ref (gR G 161)), some (.ref (gR G a1)), some (.int x2), some (.int x3), some (.int q_1.1), some (.int x5_18), some (.int (x6_7 + 1))]) dX5_bestByFoot_46 rfl rfl rfl rfl ?_
        refine m_goto hc (tgt := 20) dX5_bestByFoot_49 (by decide) ?_
        exact m_fg [] rfl (i_14 _ _ h)
  exact m_fg [] rfl (L_11 _ _ _ c_9)
def L_X5_bestByBoth_34 (a1 : Nat) (x3 : Int32) (q_1 : Int32 × Mm) : Nat → Int32 → Int32 → Mm → Option (Int32 × Mm)
  | 0, _, _, _ => none
  | n_13 + 1, x5_5, x6_6, M_7 =>
    if q_1.1 ≤ x6_6 then (
     some (x5_5, M_7))
    else (
     ck (ib x6_6 21) (
     Option.bind (f_X5_bestByFoot a1 (M_7 201 x6_6.toNatClampNeg) ((60 : Int32) &&& (x3 ^^^ (-1 : Int32))) M_7) (fun q_17 =>
     nm ((f_X5_better x5_5 (q_17.1 + (1048576 : Int32)))) (fun x5_19 =>
     L_X5_bestByBoth_34 a1 x3 q_1 n_13 x5_19 (x6_6 + 1) q_17.2))))
def f_X5_bestByBoth (a1 : Nat) (x2 : Int32) (x3 : Int32) (M : Mm) : Option (Int32 × Mm) :=
 Option.bind (f_X5_reach x2 ((67 : Int32) &&& (x3 ^^^ (-1 : Int32))) 201 M) (fun q_1 =>
 Option.bind (f_X5_bestByFoot a1 x2 ((60 : Int32) &&& (x3 ^^^ (-1 : Int32))) q_1.2) (fun q_3 =>
 Option.bind (L_X5_bestByBoth_34 a1 x3 q_1 FU q_3.1 (1 : Int32) q_3.2) (fun q_8 =>
 some (q_8.1, q_8.2))))
set_option maxRecDepth 100000 in
set_option maxHeartbeats 4000000 in
theorem c_X5_bestByBoth {G : Gm} {l : Launch} (d : Nat) {a1 : Nat} {x2 : Int32} {x3 : Int32} {M : Mm} {r : Int32 × Mm} (h1 : isA a1 2187) (h : f_X5_bestByBoth a1 x2 x3 M = some r) : Cm G l (d + 2) yX5_bestByBoth cX5_bestByBoth 7 (some .int) [.ref (gR G 161), .ref (gR G a1), .int x2, .int x3] M (some (.int r.1)) r.2 := by
  unfold f_X5_bestByBoth at h
  refine m_met (lv := [some (.ref (gR G 161)), some (.ref (gR G a1)), some (.int x2), some (.int x3), none, none, none]) (own := RX5) (by decide +kernel) rfl rfl (Nat.le_of_ble_eq_true rfl) rfl ?_
  intro X hX hc hr
  subst hX
  refine m_aload_n hc dX5_bestByBoth_0 rfl ?_
  refine m_iload_n hc dX5_bestByBoth_1 rfl ?_
  refine m_bipush hc (v := (67 : Int32)) dX5_bestByBoth_2 (by decide) ?_
  refine m_iload_n hc dX5_bestByBoth_4 rfl ?_
  refine m_iconst hc (v := (-1)) dX5_bestByBoth_5 (by decide) ?_
  refine m_ixor hc dX5_bestByBoth_6 ?_
  refine m_iand hc dX5_bestByBoth_7 ?_
  refine m_aload_n hc dX5_bestByBoth_8 rfl ?_
  refine m_getR hc (q := 201) yO_161 rfl tbX5 9 (by decide) wf_X5_48 rfl dX5_bestByBoth_9 ?_
  obtain ⟨q_1, c_2, h⟩ := bd_o h
  refine m_callVi hc yO_161 rfl (c_X5_reach (d + 1) yA_201 c_2) (by omega) (by decide) wm_X5_198 wi_X5_reach we_X5_reach wn_X5 wc_X5_reach wy_X5_reach rfl (st := []) rfl rfl (Nat.le_of_ble_eq_true rfl) dX5_bestByBoth_12 ?_
  refine m_istore hc (lv' := [some (.ref (gR G 161)), some (.ref (gR G a1)), some (.int x2), some (.int x3), some (.int q_1.1), none, none]) dX5_bestByBoth_15 (Nat.le_of_ble_eq_true rfl) rfl rfl ?_
  refine m_aload_n hc dX5_bestByBoth_17 rfl ?_
  refine m_aload_n hc dX5_bestByBoth_18 rfl ?_
  refine m_iload_n hc dX5_bestByBoth_19 rfl ?_
  refine m_bipush hc (v := (60 : Int32)) dX5_bestByBoth_20 (by decide) ?_
  refine m_iload_n hc dX5_bestByBoth_22 rfl ?_
  refine m_iconst hc (v := (-1)) dX5_bestByBoth_23 (by decide) ?_
  refine m_ixor hc dX5_bestByBoth_24 ?_
  refine m_iand hc dX5_bestByBoth_25 ?_
  obtain ⟨q_3, c_4, h⟩ := bd_o h
  refine m_callVi hc yO_161 rfl (c_X5_bestByFoot (d + 0) h1 c_4) (by omega) (by decide) wm_X5_191 wi_X5_bestByFoot we_X5_bestByFoot wn_X5 wc_X5_bestByFoot wy_X5_bestByFoot rfl (st := []) rfl rfl (Nat.le_of_ble_eq_true rfl) dX5_bestByBoth_26 ?_
  refine m_istore hc (lv' := [some (.ref (gR G 161)), some (.ref (gR G a1)), some (.int x2), some (.int x3), some (.int q_1.1), some (.int q_3.1), none]) dX5_bestByBoth_29 (Nat.le_of_ble_eq_true rfl) rfl rfl ?_
  refine m_iconst hc (v := 1) dX5_bestByBoth_31 (by decide) ?_
  refine m_istore hc (lv' := [some (.ref (gR G 161)), some (.ref (gR G a1)), some (.int x2), some (.int x3), some (.int q_1.1), some (.int q_3.1), some (.int (1 : Int32))]) dX5_bestByBoth_32 (Nat.le_of_ble_eq_true rfl) rfl rfl ?_
  obtain ⟨q_8, c_9, h⟩ := bd_o h
  have J_10 : WM G X (qQ G X (some (.int r.1)) r.2) q_8.2 75 [some (.ref (gR G 161)), some (.ref (gR G a1)), some (.int x2), some (.int x3), some (.int q_1.1), some (.int q_8.1), none] [] := by
    refine m_iload hc dX5_bestByBoth_75 rfl ?_
    cases h
    exact m_iret hc hr dX5_bestByBoth_77
  have L_11 : ∀ (n_13 : Nat) (x5_5 : Int32) (x6_6 : Int32) (M_7 : Mm), L_X5_bestByBoth_34 a1 x3 q_1 n_13 x5_5 x6_6 M_7 = some q_8 → WM G X (qQ G X (some (.int r.1)) r.2) M_7 34 [some (.ref (gR G 161)), some (.ref (gR G a1)), some (.int x2), some (.int x3), some (.int q_1.1), some (.int x5_5), some (.int x6_6)] [] := by
    intro n_13
    induction n_13 with
    | zero =>
      intro x5_5 x6_6 M_7 h
      cases (show none = some _ from h)
    | succ n_13 i_14 =>
      intro x5_5 x6_6 M_7 h
      rw [L_X5_bestByBoth_34] at h
      refine m_iload hc dX5_bestByBoth_34 rfl ?_
      refine m_iload hc dX5_bestByBoth_36 rfl ?_
      refine m_icge hc (tgt := 75) dX5_bestByBoth_38 (by decide) (fun b_15 => ?_) (fun b_15 => ?_)
      · replace h := (if_pos b_15).symm.trans h
        cases h
        exact m_fg [6] rfl J_10
      · replace h := (if_neg b_15).symm.trans h
        refine m_iload hc dX5_bestByBoth_41 rfl ?_
        refine m_aload_n hc dX5_bestByBoth_43 rfl ?_
        refine m_aload_n hc dX5_bestByBoth_44 rfl ?_
        refine m_aload_n hc dX5_bestByBoth_45 rfl ?_
        refine m_getR hc (q := 201) yO_161 rfl tbX5 9 (by decide) wf_X5_48 rfl dX5_bestByBoth_46 ?_
        refine m_iload hc dX5_bestByBoth_49 rfl ?_
        obtain ⟨b_16, h⟩ := ck_o h
        refine m_iald hc yA_201 b_16 dX5_bestByBoth_51 ?_
        refine m_bipush hc (v := (60 : Int32)) dX5_bestByBoth_52 (by decide) ?_
        refine m_iload_n hc dX5_bestByBoth_54 rfl ?_
        refine m_iconst hc (v := (-1)) dX5_bestByBoth_55 (by decide) ?_
        refine m_ixor hc dX5_bestByBoth_56 ?_
        refine m_iand hc dX5_bestByBoth_57 ?_
        obtain ⟨q_17, c_18, h⟩ := bd_o h
        refine m_callVi hc yO_161 rfl (c_X5_bestByFoot (d + 0) h1 c_18) (by omega) (by decide) wm_X5_191 wi_X5_bestByFoot we_X5_bestByFoot wn_X5 wc_X5_bestByFoot wy_X5_bestByFoot rfl (st := [.int x5_5]) rfl rfl (Nat.le_of_ble_eq_true rfl) dX5_bestByBoth_58 ?_
        refine m_ldc hc dX5_bestByBoth_61 wk_X5_154 ?_
        refine m_iadd hc dX5_bestByBoth_63 ?_
        refine m_callSi hc (c_X5_better (d + 1) rfl) (by omega) (by decide) wm_X5_151 wt_X5_better wv_X5_better wc_X5_better wz_X5_better rfl (st := []) rfl rfl (Nat.le_of_ble_eq_true rfl) dX5_bestByBoth_64 ?_
        refine m_topI (fun x5_19 e_20 => ?_)
        replace h := nm_x e_20 h
        refine m_istore hc (lv' := [some (.ref (gR G 161)), some (.ref (gR G a1)), some (.int x2), some (.int x3), some (.int q_1.1), some (.int x5_19), some (.int x6_6)]) dX5_bestByBoth_67 (Nat.le_of_ble_eq_true rfl) rfl rfl ?_
        refine m_iinc hc (v := x6_6 + 1) (lv' := [some (.ref (gR G 161)), some (.ref (gR G a1)), some (.int x2), some (.int x3), some (.int q_1.1), some (.int x5_19), some (.int (x6_6 + 1))]) dX5_bestByBoth_69 rfl rfl rfl rfl ?_
        refine m_goto hc (tgt := 34) dX5_bestByBoth_72 (by decide) ?_
        exact m_fg [] rfl (i_14 _ _ _ h)
  exact m_fg [] rfl (L_11 _ _ _ _ c_9)
def L_X5_fillLockedOnward_22 (a1 : Nat) (a2 : Nat) : Nat → Int32 → Mm → Option (Mm)
  | 0, _, _ => none
  | n_12 + 1, x3_5, M_6 =>
    if (2187 : Int32) ≤ x3_5 then (
     some M_6)
    else (
     ck (ib x3_5 2187) (
     Option.bind (f_X0_locksBy 162 (M_6 2 x3_5.toNatClampNeg) M_6) (fun q_16 =>
     Option.bind (
     if 0 ≤ q_16 then (
     if (q_16 &&& (60 : Int32)) = 0 then (
     Option.bind (f_X5_bestByFoot 200 x3_5 ((67 : Int32) &&& (q_16 ^^^ (-1 : Int32))) M_6) (fun q_55 =>
     ck (ib x3_5 2187) (
     nm (mw q_55.2 a2 x3_5.toNatClampNeg q_55.1) (fun M_58 =>
     some M_58))))
    else (
     if (q_16 &&& (67 : Int32)) = 0 then (
     Option.bind (f_X5_bestByFoot 199 x3_5 ((60 : Int32) &&& (q_16 ^^^ (-1 : Int32))) M_6) (fun q_50 =>
     ck (ib x3_5 2187) (
     nm (mw q_50.2 a2 x3_5.toNatClampNeg q_50.1) (fun M_53 =>
     some M_53))))
    else (
     Option.bind (f_X5_bestByBoth a1 x3_5 q_16 M_6) (fun q_45 =>
     ck (ib x3_5 2187) (
     nm (mw q_45.2 a2 x3_5.toNatClampNeg q_45.1) (fun M_48 =>
     some M_48))))))
    else (
     ck (ib x3_5 2187) (
     nm (mw M_6 a2 x3_5.toNatClampNeg (66060288 : Int32)) (fun M_61 =>
     some M_61)))) (fun q_39 =>
     L_X5_fillLockedOnward_22 a1 a2 n_12 (x3_5 + 1) q_39))))
def f_X5_fillLockedOnward (a1 : Nat) (a2 : Nat) (M : Mm) : Option (Mm) :=
 Option.bind (f_X5_spread a1 (67 : Int32) 199 M) (fun q_1 =>
 Option.bind (f_X5_spread a1 (60 : Int32) 200 q_1) (fun q_3 =>
 Option.bind (L_X5_fillLockedOnward_22 a1 a2 FU (0 : Int32) q_3) (fun q_7 =>
 some q_7)))
set_option maxRecDepth 100000 in
set_option maxHeartbeats 4000000 in
theorem c_X5_fillLockedOnward {G : Gm} {l : Launch} (d : Nat) {a1 : Nat} {a2 : Nat} {M : Mm} {r : Mm} (h1 : isA a1 2187) (h2 : isA a2 2187) (h : f_X5_fillLockedOnward a1 a2 M = some r) : Cm G l (d + 3) yX5_fillLockedOnward cX5_fillLockedOnward 5 none [.ref (gR G 161), .ref (gR G a1), .ref (gR G a2)] M none r := by
  unfold f_X5_fillLockedOnward at h
  refine m_met (lv := [some (.ref (gR G 161)), some (.ref (gR G a1)), some (.ref (gR G a2)), none, none]) (own := RX5) (by decide +kernel) rfl rfl (Nat.le_of_ble_eq_true rfl) rfl ?_
  intro X hX hc hr
  subst hX
  refine m_aload_n hc dX5_fillLockedOnward_0 rfl ?_
  refine m_bipush hc (v := (67 : Int32)) dX5_fillLockedOnward_1 (by decide) ?_
  refine m_aload_n hc dX5_fillLockedOnward_3 rfl ?_
  refine m_getR hc (q := 199) yO_161 rfl tbX5 7 (by decide) wf_X5_42 rfl dX5_fillLockedOnward_4 ?_
  obtain ⟨q_1, c_2, h⟩ := bd_o h
  refine m_callSv hc (c_X5_spread (d + 0) h1 yA_199 c_2) (by omega) (by decide) wm_X5_173 wt_X5_spread wv_X5_spread wc_X5_spread wz_X5_spread rfl (st := []) rfl rfl (Nat.le_of_ble_eq_true rfl) dX5_fillLockedOnward_7 ?_
  refine m_aload_n hc dX5_fillLockedOnward_10 rfl ?_
  refine m_bipush hc (v := (60 : Int32)) dX5_fillLockedOnward_11 (by decide) ?_
  refine m_aload_n hc dX5_fillLockedOnward_13 rfl ?_
  refine m_getR hc (q := 200) yO_161 rfl tbX5 8 (by decide) wf_X5_45 rfl dX5_fillLockedOnward_14 ?_
  obtain ⟨q_3, c_4, h⟩ := bd_o h
  refine m_callSv hc (c_X5_spread (d + 0) h1 yA_200 c_4) (by omega) (by decide) wm_X5_173 wt_X5_spread wv_X5_spread wc_X5_spread wz_X5_spread rfl (st := []) rfl rfl (Nat.le_of_ble_eq_true rfl) dX5_fillLockedOnward_17 ?_
  refine m_iconst hc (v := 0) dX5_fillLockedOnward_20 (by decide) ?_
  refine m_istore_n hc (lv' := [some (.ref (gR G 161)), some (.ref (gR G a1)), some (.ref (gR G a2)), some (.int (0 : Int32)), none]) dX5_fillLockedOnward_21 (Nat.le_of_ble_eq_true rfl) rfl rfl ?_
  obtain ⟨q_7, c_8, h⟩ := bd_o h
  have J_9 : WM G X (qQ G X none r) q_7 137 [some (.ref (gR G 161)), some (.ref (gR G a1)), some (.ref (gR G a2)), none, none] [] := by
    cases h
    exact m_vret hc hr dX5_fillLockedOnward_137
  have L_10 : ∀ (n_12 : Nat) (x3_5 : Int32) (M_6 : Mm), L_X5_fillLockedOnward_22 a1 a2 n_12 x3_5 M_6 = some q_7 → WM G X (qQ G X none r) M_6 22 [some (.ref (gR G 161)), some (.ref (gR G a1)), some (.ref (gR G a2)), some (.int x3_5), none] [] := by
    intro n_12
    induction n_12 with
    | zero =>
      intro x3_5 M_6 h
      cases (show none = some _ from h)
    | succ n_12 i_13 =>
      intro x3_5 M_6 h
      rw [L_X5_fillLockedOnward_22] at h
      refine m_iload_n hc dX5_fillLockedOnward_22 rfl ?_
      refine m_sipush hc (v := (2187 : Int32)) dX5_fillLockedOnward_23 (by decide) ?_
      refine m_icge hc (tgt := 137) dX5_fillLockedOnward_26 (by decide) (fun b_14 => ?_) (fun b_14 => ?_)
      · replace h := (if_pos b_14).symm.trans h
        cases h
        exact m_fg [3] rfl J_9
      · replace h := (if_neg b_14).symm.trans h
        refine m_aload_n hc dX5_fillLockedOnward_29 rfl ?_
        refine m_getR hc (q := 162) yO_161 rfl tbX5 2 (by decide) wf_X5_22 rfl dX5_fillLockedOnward_30 ?_
        refine m_aload_n hc dX5_fillLockedOnward_33 rfl ?_
        refine m_getR hc (q := 1) yO_161 rfl tbX5 0 (by decide) wf_X5_11 rfl dX5_fillLockedOnward_34 ?_
        refine m_getR hc (q := 2) yO_1 rfl tbX1 0 (by decide) wf_X5_125 rfl dX5_fillLockedOnward_37 ?_
        refine m_iload_n hc dX5_fillLockedOnward_40 rfl ?_
        obtain ⟨b_15, h⟩ := ck_o h
        refine m_iald hc yA_2 b_15 dX5_fillLockedOnward_41 ?_
        obtain ⟨q_16, c_17, h⟩ := bd_o h
        refine m_callVi hc yO_162 rfl (c_X0_locksBy (d + 0) kC_162 c_17) (by omega) (by decide) wm_X5_141 wi_X0_locksBy we_X0_locksBy wn_X0 wc_X0_locksBy wy_X0_locksBy rfl (st := []) rfl rfl (Nat.le_of_ble_eq_true rfl) dX5_fillLockedOnward_42 ?_
        refine m_istore hc (lv' := [some (.ref (gR G 161)), some (.ref (gR G a1)), some (.ref (gR G a2)), some (.int x3_5), some (.int q_16)]) dX5_fillLockedOnward_45 (Nat.le_of_ble_eq_true rfl) rfl rfl ?_
        refine m_iload hc dX5_fillLockedOnward_47 rfl ?_
        obtain ⟨q_39, c_40, h⟩ := bd_o h
        have J_41 : WM G X (qQ G X none r) q_39 131 [some (.ref (gR G 161)), some (.ref (gR G a1)), some (.ref (gR G a2)), some (.int x3_5), some (.int q_16)] [] := by
          refine m_iinc hc (v := x3_5 + 1) (lv' := [some (.ref (gR G 161)), some (.ref (gR G a1)), some (.ref (gR G a2)), some (.int (x3_5 + 1)), some (.int q_16)]) dX5_fillLockedOnward_131 rfl rfl rfl rfl ?_
          refine m_goto hc (tgt := 22) dX5_fillLockedOnward_134 (by decide) ?_
          exact m_fg [4] rfl (i_13 _ _ h)
        replace h := c_40
        refine m_ifge hc (tgt := 60) dX5_fillLockedOnward_49 (by decide) (fun b_42 => ?_) (fun b_42 => ?_)
        · replace h := (if_pos b_42).symm.trans h
          refine m_iload hc dX5_fillLockedOnward_60 rfl ?_
          refine m_bipush hc (v := (60 : Int32)) dX5_fillLockedOnward_62 (by decide) ?_
          refine m_iand hc dX5_fillLockedOnward_64 ?_
          refine m_ifne hc (tgt := 90) dX5_fillLockedOnward_65 (by decide) (fun b_43 => ?_) (fun b_43 => ?_)
          · replace h := (if_neg b_43).symm.trans h
            refine m_iload hc dX5_fillLockedOnward_90 rfl ?_
            refine m_bipush hc (v := (67 : Int32)) dX5_fillLockedOnward_92 (by decide) ?_
            refine m_iand hc dX5_fillLockedOnward_94 ?_
            refine m_ifne hc (tgt := 120) dX5_fillLockedOnward_95 (by decide) (fun b_44 => ?_) (fun b_44 => ?_)
            · replace h := (if_neg b_44).symm.trans h
              refine m_aload_n hc dX5_fillLockedOnward_120 rfl ?_
              refine m_iload_n hc dX5_fillLockedOnward_121 rfl ?_
              refine m_aload_n hc dX5_fillLockedOnward_122 rfl ?_
              refine m_aload_n hc dX5_fillLockedOnward_123 rfl ?_
              refine m_iload_n hc dX5_fillLockedOnward_124 rfl ?_
              refine m_iload hc dX5_fillLockedOnward_125 rfl ?_
              obtain ⟨q_45, c_46, h⟩ := bd_o h
              refine m_callVi hc yO_161 rfl (c_X5_bestByBoth (d + 0) h1 c_46) (by omega) (by decide) wm_X5_195 wi_X5_bestByBoth we_X5_bestByBoth wn_X5 wc_X5_bestByBoth wy_X5_bestByBoth rfl (st := [.int x3_5, .ref (gR G a2)]) rfl rfl (Nat.le_of_ble_eq_true rfl) dX5_fillLockedOnward_127 ?_
              obtain ⟨b_47, h⟩ := ck_o h
              refine m_iast hc h2 b_47 dX5_fillLockedOnward_130 ?_
              refine m_topM (fun M_48 e_49 => ?_)
              replace h := nm_x e_49 h
              cases h
              exact m_fg [] rfl J_41
            · replace h := (if_pos b_44).symm.trans h
              refine m_aload_n hc dX5_fillLockedOnward_98 rfl ?_
              refine m_iload_n hc dX5_fillLockedOnward_99 rfl ?_
              refine m_aload_n hc dX5_fillLockedOnward_100 rfl ?_
              refine m_aload_n hc dX5_fillLockedOnward_101 rfl ?_
              refine m_getR hc (q := 199) yO_161 rfl tbX5 7 (by decide) wf_X5_42 rfl dX5_fillLockedOnward_102 ?_
              refine m_iload_n hc dX5_fillLockedOnward_105 rfl ?_
              refine m_bipush hc (v := (60 : Int32)) dX5_fillLockedOnward_106 (by decide) ?_
              refine m_iload hc dX5_fillLockedOnward_108 rfl ?_
              refine m_iconst hc (v := (-1)) dX5_fillLockedOnward_110 (by decide) ?_
              refine m_ixor hc dX5_fillLockedOnward_111 ?_
              refine m_iand hc dX5_fillLockedOnward_112 ?_
              obtain ⟨q_50, c_51, h⟩ := bd_o h
              refine m_callVi hc yO_161 rfl (c_X5_bestByFoot (d + 1) yA_199 c_51) (by omega) (by decide) wm_X5_191 wi_X5_bestByFoot we_X5_bestByFoot wn_X5 wc_X5_bestByFoot wy_X5_bestByFoot rfl (st := [.int x3_5, .ref (gR G a2)]) rfl rfl (Nat.le_of_ble_eq_true rfl) dX5_fillLockedOnward_113 ?_
              obtain ⟨b_52, h⟩ := ck_o h
              refine m_iast hc h2 b_52 dX5_fillLockedOnward_116 ?_
              refine m_topM (fun M_53 e_54 => ?_)
              replace h := nm_x e_54 h
              refine m_goto hc (tgt := 131) dX5_fillLockedOnward_117 (by decide) ?_
              cases h
              exact m_fg [] rfl J_41
          · replace h := (if_pos b_43).symm.trans h
            refine m_aload_n hc dX5_fillLockedOnward_68 rfl ?_
            refine m_iload_n hc dX5_fillLockedOnward_69 rfl ?_
            refine m_aload_n hc dX5_fillLockedOnward_70 rfl ?_
            refine m_aload_n hc dX5_fillLockedOnward_71 rfl ?_
            refine m_getR hc (q := 200) yO_161 rfl tbX5 8 (by decide) wf_X5_45 rfl dX5_fillLockedOnward_72 ?_
            refine m_iload_n hc dX5_fillLockedOnward_75 rfl ?_
            refine m_bipush hc (v := (67 : Int32)) dX5_fillLockedOnward_76 (by decide) ?_
            refine m_iload hc dX5_fillLockedOnward_78 rfl ?_
            refine m_iconst hc (v := (-1)) dX5_fillLockedOnward_80 (by decide) ?_
            refine m_ixor hc dX5_fillLockedOnward_81 ?_
            refine m_iand hc dX5_fillLockedOnward_82 ?_
            obtain ⟨q_55, c_56, h⟩ := bd_o h
            refine m_callVi hc yO_161 rfl (c_X5_bestByFoot (d + 1) yA_200 c_56) (by omega) (by decide) wm_X5_191 wi_X5_bestByFoot we_X5_bestByFoot wn_X5 wc_X5_bestByFoot wy_X5_bestByFoot rfl (st := [.int x3_5, .ref (gR G a2)]) rfl rfl (Nat.le_of_ble_eq_true rfl) dX5_fillLockedOnward_83 ?_
            obtain ⟨b_57, h⟩ := ck_o h
            refine m_iast hc h2 b_57 dX5_fillLockedOnward_86 ?_
            refine m_topM (fun M_58 e_59 => ?_)
            replace h := nm_x e_59 h
            refine m_goto hc (tgt := 131) dX5_fillLockedOnward_87 (by decide) ?_
            cases h
            exact m_fg [] rfl J_41
        · replace h := (if_neg b_42).symm.trans h
          refine m_aload_n hc dX5_fillLockedOnward_52 rfl ?_
          refine m_iload_n hc dX5_fillLockedOnward_53 rfl ?_
          refine m_ldc hc dX5_fillLockedOnward_54 wk_X5_68 ?_
          obtain ⟨b_60, h⟩ := ck_o h
          refine m_iast hc h2 b_60 dX5_fillLockedOnward_56 ?_
          refine m_topM (fun M_61 e_62 => ?_)
          replace h := nm_x e_62 h
          refine m_goto hc (tgt := 131) dX5_fillLockedOnward_57 (by decide) ?_
          cases h
          exact m_fg [] rfl J_41
  exact m_fg [] rfl (L_10 _ _ _ c_8)
def L_X5_dropUnfit_2 (a1 : Nat) : Nat → Int32 → Mm → Option (Mm)
  | 0, _, _ => none
  | n_8 + 1, x2_1, M_2 =>
    if (2187 : Int32) ≤ x2_1 then (
     some M_2)
    else (
     ck (ib x2_1 2187) (
     Option.bind (
     if (66060288 : Int32) ≤ (M_2 a1 x2_1.toNatClampNeg) then (
     some M_2)
    else (
     ck (ib x2_1 2187) (
     Option.bind (f_X0_locksBy 162 (M_2 2 x2_1.toNatClampNeg) M_2) (fun q_25 =>
     if 0 ≤ q_25 then (
     some M_2)
    else (
     ck (ib x2_1 2187) (
     nm (mw M_2 a1 x2_1.toNatClampNeg (66060288 : Int32)) (fun M_29 =>
     some M_29))))))) (fun q_20 =>
     L_X5_dropUnfit_2 a1 n_8 (x2_1 + 1) q_20)))
def f_X5_dropUnfit (a1 : Nat) (M : Mm) : Option (Mm) :=
 Option.bind (L_X5_dropUnfit_2 a1 FU (0 : Int32) M) (fun q_3 =>
 some q_3)
set_option maxRecDepth 100000 in
set_option maxHeartbeats 4000000 in
theorem c_X5_dropUnfit {G : Gm} {l : Launch} (d : Nat) {a1 : Nat} {M : Mm} {r : Mm} (h1 : isA a1 2187) (h : f_X5_dropUnfit a1 M = some r) : Cm G l (d + 3) yX5_dropUnfit cX5_dropUnfit 3 none [.ref (gR G 161), .ref (gR G a1)] M none r := by
  unfold f_X5_dropUnfit at h
  refine m_met (lv := [some (.ref (gR G 161)), some (.ref (gR G a1)), none]) (own := RX5) (by decide +kernel) rfl rfl (Nat.le_of_ble_eq_true rfl) rfl ?_
  intro X hX hc hr
  subst hX
  refine m_iconst hc (v := 0) dX5_dropUnfit_0 (by decide) ?_
  refine m_istore_n hc (lv' := [some (.ref (gR G 161)), some (.ref (gR G a1)), some (.int (0 : Int32))]) dX5_dropUnfit_1 (Nat.le_of_ble_eq_true rfl) rfl rfl ?_
  obtain ⟨q_3, c_4, h⟩ := bd_o h
  have J_5 : WM G X (qQ G X none r) q_3 47 [some (.ref (gR G 161)), some (.ref (gR G a1)), none] [] := by
    cases h
    exact m_vret hc hr dX5_dropUnfit_47
  have L_6 : ∀ (n_8 : Nat) (x2_1 : Int32) (M_2 : Mm), L_X5_dropUnfit_2 a1 n_8 x2_1 M_2 = some q_3 → WM G X (qQ G X none r) M_2 2 [some (.ref (gR G 161)), some (.ref (gR G a1)), some (.int x2_1)] [] := by
    intro n_8
    induction n_8 with
    | zero =>
      intro x2_1 M_2 h
      cases (show none = some _ from h)
    | succ n_8 i_9 =>
      intro x2_1 M_2 h
      rw [L_X5_dropUnfit_2] at h
      refine m_iload_n hc dX5_dropUnfit_2 rfl ?_
      refine m_sipush hc (v := (2187 : Int32)) dX5_dropUnfit_3 (by decide) ?_
      refine m_icge hc (tgt := 47) dX5_dropUnfit_6 (by decide) (fun b_10 => ?_) (fun b_10 => ?_)
      · replace h := (if_pos b_10).symm.trans h
        cases h
        exact m_fg [2] rfl J_5
      · replace h := (if_neg b_10).symm.trans h
        refine m_aload_n hc dX5_dropUnfit_9 rfl ?_
        refine m_iload_n hc dX5_dropUnfit_10 rfl ?_
        obtain ⟨b_11, h⟩ := ck_o h
        refine m_iald hc h1 b_11 dX5_dropUnfit_11 ?_
        refine m_ldc hc dX5_dropUnfit_12 wk_X5_68 ?_
        obtain ⟨q_20, c_21, h⟩ := bd_o h
        have J_22 : WM G X (qQ G X none r) q_20 41 [some (.ref (gR G 161)), some (.ref (gR G a1)), some (.int x2_1)] [] := by
          refine m_iinc hc (v := x2_1 + 1) (lv' := [some (.ref (gR G 161)), some (.ref (gR G a1)), some (.int (x2_1 + 1))]) dX5_dropUnfit_41 rfl rfl rfl rfl ?_
          refine m_goto hc (tgt := 2) dX5_dropUnfit_44 (by decide) ?_
          exact m_fg [] rfl (i_9 _ _ h)
        replace h := c_21
        refine m_icge hc (tgt := 41) dX5_dropUnfit_14 (by decide) (fun b_23 => ?_) (fun b_23 => ?_)
        · replace h := (if_pos b_23).symm.trans h
          cases h
          exact m_fg [] rfl J_22
        · replace h := (if_neg b_23).symm.trans h
          refine m_aload_n hc dX5_dropUnfit_17 rfl ?_
          refine m_getR hc (q := 162) yO_161 rfl tbX5 2 (by decide) wf_X5_22 rfl dX5_dropUnfit_18 ?_
          refine m_aload_n hc dX5_dropUnfit_21 rfl ?_
          refine m_getR hc (q := 1) yO_161 rfl tbX5 0 (by decide) wf_X5_11 rfl dX5_dropUnfit_22 ?_
          refine m_getR hc (q := 2) yO_1 rfl tbX1 0 (by decide) wf_X5_125 rfl dX5_dropUnfit_25 ?_
          refine m_iload_n hc dX5_dropUnfit_28 rfl ?_
          obtain ⟨b_24, h⟩ := ck_o h
          refine m_iald hc yA_2 b_24 dX5_dropUnfit_29 ?_
          obtain ⟨q_25, c_26, h⟩ := bd_o h
          refine m_callVi hc yO_162 rfl (c_X0_locksBy (d + 0) kC_162 c_26) (by omega) (by decide) wm_X5_141 wi_X0_locksBy we_X0_locksBy wn_X0 wc_X0_locksBy wy_X0_locksBy rfl (st := []) rfl rfl (Nat.le_of_ble_eq_true rfl) dX5_dropUnfit_30 ?_
          refine m_ifge hc (tgt := 41) dX5_dropUnfit_33 (by decide) (fun b_27 => ?_) (fun b_27 => ?_)
          · replace h := (if_pos b_27).symm.trans h
            cases h
            exact m_fg [] rfl J_22
          · replace h := (if_neg b_27).symm.trans h
            refine m_aload_n hc dX5_dropUnfit_36 rfl ?_
            refine m_iload_n hc dX5_dropUnfit_37 rfl ?_
            refine m_ldc hc dX5_dropUnfit_38 wk_X5_68 ?_
            obtain ⟨b_28, h⟩ := ck_o h
            refine m_iast hc h1 b_28 dX5_dropUnfit_40 ?_
            refine m_topM (fun M_29 e_30 => ?_)
            replace h := nm_x e_30 h
            cases h
            exact m_fg [] rfl J_22
  exact m_fg [] rfl (L_6 _ _ _ c_4)
