def f_X6_of (x1 : Int32) (x2 : Int32) (x3 : Int32) (M : Mm) : Option (Int32 × Mm) :=
 Option.bind (f_X6_isNote x1 x2 M) (fun q_1 =>
 if q_1 = 0 then (
 nm (f_X6_finding (-100001 : Int32) M) (fun q_14 =>
 some (q_14.1, q_14.2)))
else (
 nm ((f_X3_place x1 x2)) (fun x4_4 =>
 if x3 = (0 : Int32) then (
 ck (ib x4_4 72) (
 some ((M 5 x4_4.toNatClampNeg), M)))
else (
 if x3 = (1 : Int32) then (
 ck (ib x4_4 72) (
 some ((M 6 x4_4.toNatClampNeg), M)))
else (
 if x3 = (2 : Int32) then (
 ck (ib x4_4 72) (
 some ((M 7 x4_4.toNatClampNeg), M)))
else (
 nm (f_X6_finding (-100001 : Int32) M) (fun q_12 =>
 some (q_12.1, q_12.2))))))))
set_option maxRecDepth 100000 in
set_option maxHeartbeats 4000000 in
theorem c_X6_of {G : Gm} {l : Launch} (d : Nat) {x1 : Int32} {x2 : Int32} {x3 : Int32} {M : Mm} {r : Int32 × Mm}  (h : f_X6_of x1 x2 x3 M = some r) : Cm G l (d + 2) yX6_of cX6_of 5 (some .int) [.ref (gR G 0), .int x1, .int x2, .int x3] M (some (.int r.1)) r.2 := by
  unfold f_X6_of at h
  refine m_met (lv := [some (.ref (gR G 0)), some (.int x1), some (.int x2), some (.int x3), none]) (own := RX6) (by decide +kernel) rfl rfl (Nat.le_of_ble_eq_true rfl) rfl ?_
  intro X hX hc hr
  subst hX
  refine m_aload_n hc dX6_of_0 rfl ?_
  refine m_iload_n hc dX6_of_1 rfl ?_
  refine m_iload_n hc dX6_of_2 rfl ?_
  obtain ⟨q_1, c_2, h⟩ := bd_o h
  refine m_callVi hc yO_0 rfl (c_X6_isNote (d + 0) c_2) (by omega) (by decide) wm_X6_93 wi_X6_isNote we_X6_isNote wn_X6 wc_X6_isNote wy_X6_isNote rfl (st := []) rfl rfl (Nat.le_of_ble_eq_true rfl) dX6_of_3 ?_
  refine m_ifne hc (tgt := 16) dX6_of_6 (by decide) (fun b_3 => ?_) (fun b_3 => ?_)
  · replace h := (if_neg b_3).symm.trans h
    refine m_iload_n hc dX6_of_16 rfl ?_
    refine m_iload_n hc dX6_of_17 rfl ?_
    refine m_callSi hc (c_X3_place (d + 1) rfl) (by omega) (by decide) wm_X6_97 wt_X3_place wv_X3_place wc_X3_place wz_X3_place rfl (st := []) rfl rfl (Nat.le_of_ble_eq_true rfl) dX6_of_18 ?_
    refine m_topI (fun x4_4 e_5 => ?_)
    replace h := nm_x e_5 h
    refine m_istore hc (lv' := [some (.ref (gR G 0)), some (.int x1), some (.int x2), some (.int x3), some (.int x4_4)]) dX6_of_21 (Nat.le_of_ble_eq_true rfl) rfl rfl ?_
    refine m_iload_n hc dX6_of_23 rfl ?_
    by_cases b_6 : x3 = (0 : Int32)
    · replace h := (if_pos b_6).symm.trans h
      refine m_tsK hc (tgt := 52) b_6 dX6_of_24 (by decide) (by decide) rfl (by decide) ?_
      refine m_aload_n hc dX6_of_52 rfl ?_
      refine m_getR hc (q := 3) yO_0 rfl tbX6 1 (by decide) wf_X6_19 rfl dX6_of_53 ?_
      refine m_getR hc (q := 5) yO_3 rfl tbX3 2 (by decide) wf_X6_101 rfl dX6_of_56 ?_
      refine m_iload hc dX6_of_59 rfl ?_
      obtain ⟨b_7, h⟩ := ck_o h
      refine m_iald hc yA_5 b_7 dX6_of_61 ?_
      cases h
      exact m_iret hc hr dX6_of_62
    · replace h := (if_neg b_6).symm.trans h
      by_cases b_8 : x3 = (1 : Int32)
      · replace h := (if_pos b_8).symm.trans h
        refine m_tsK hc (tgt := 63) b_8 dX6_of_24 (by decide) (by decide) rfl (by decide) ?_
        refine m_aload_n hc dX6_of_63 rfl ?_
        refine m_getR hc (q := 3) yO_0 rfl tbX6 1 (by decide) wf_X6_19 rfl dX6_of_64 ?_
        refine m_getR hc (q := 6) yO_3 rfl tbX3 3 (by decide) wf_X6_108 rfl dX6_of_67 ?_
        refine m_iload hc dX6_of_70 rfl ?_
        obtain ⟨b_9, h⟩ := ck_o h
        refine m_iald hc yA_6 b_9 dX6_of_72 ?_
        cases h
        exact m_iret hc hr dX6_of_73
      · replace h := (if_neg b_8).symm.trans h
        by_cases b_10 : x3 = (2 : Int32)
        · replace h := (if_pos b_10).symm.trans h
          refine m_tsK hc (tgt := 74) b_10 dX6_of_24 (by decide) (by decide) rfl (by decide) ?_
          refine m_aload_n hc dX6_of_74 rfl ?_
          refine m_getR hc (q := 3) yO_0 rfl tbX6 1 (by decide) wf_X6_19 rfl dX6_of_75 ?_
          refine m_getR hc (q := 7) yO_3 rfl tbX3 4 (by decide) wf_X6_111 rfl dX6_of_78 ?_
          refine m_iload hc dX6_of_81 rfl ?_
          obtain ⟨b_11, h⟩ := ck_o h
          refine m_iald hc yA_7 b_11 dX6_of_83 ?_
          cases h
          exact m_iret hc hr dX6_of_84
        · replace h := (if_neg b_10).symm.trans h
          refine m_tsOut hc (tgt := 85) dX6_of_24 (by have nb_6 := sw_ne (a := 0) b_6 (by decide); have nb_8 := sw_ne (a := 1) b_8 (by decide); have nb_10 := sw_ne (a := 2) b_10 (by decide); omega) (by decide) ?_
          refine m_aload_n hc dX6_of_85 rfl ?_
          refine m_ldc hc dX6_of_86 wk_X6_57 ?_
          obtain ⟨q_12, c_13, h⟩ := nm_o h
          refine m_callVi hc yO_0 rfl (c_X6_finding (d + 1) c_13) (by omega) (by decide) wm_X6_58 wi_X6_finding we_X6_finding wn_X6 wc_X6_finding wy_X6_finding rfl (st := []) rfl rfl (Nat.le_of_ble_eq_true rfl) dX6_of_88 ?_
          cases h
          exact m_iret hc hr dX6_of_91
  · replace h := (if_pos b_3).symm.trans h
    refine m_aload_n hc dX6_of_9 rfl ?_
    refine m_ldc hc dX6_of_10 wk_X6_57 ?_
    obtain ⟨q_14, c_15, h⟩ := nm_o h
    refine m_callVi hc yO_0 rfl (c_X6_finding (d + 1) c_15) (by omega) (by decide) wm_X6_58 wi_X6_finding we_X6_finding wn_X6 wc_X6_finding wy_X6_finding rfl (st := []) rfl rfl (Nat.le_of_ble_eq_true rfl) dX6_of_12 ?_
    cases h
    exact m_iret hc hr dX6_of_15
def L_X3_canRise_10 (a0 : Nat) (x1 : Int32) (M : Mm) (x2_1 : Int32) : Nat → Int32 → Option ((Unit) ⊕ (Int32))
  | 0, _ => none
  | n_17 + 1, x3_11 =>
    ck (ib x2_1 12) (
     if (M (a0 + 1) x2_1.toNatClampNeg) ≤ x3_11 then (
     some (.inl ()))
    else (
     ck (ib (f_X3_place x2_1 x3_11) 72) (
     nm (((M (a0 + 3) (f_X3_place x2_1 x3_11).toNatClampNeg) + x1)) (fun x4_23 =>
     if x4_23 < (-1 : Int32) then (
     some (.inr (0 : Int32)))
    else (
     if x4_23 ≤ (100 : Int32) then (
     L_X3_canRise_10 a0 x1 M x2_1 n_17 (x3_11 + 1))
    else (
     some (.inr (0 : Int32))))))))
def L_X3_canRise_2 (a0 : Nat) (x1 : Int32) (M : Mm) : Nat → Int32 → Option ((Unit) ⊕ (Int32))
  | 0, _ => none
  | n_7 + 1, x2_1 =>
    if (12 : Int32) ≤ x2_1 then (
     some (.inl ()))
    else (
     Option.bind (L_X3_canRise_10 a0 x1 M x2_1 FU (0 : Int32)) (fun q_12 => Sum.elim (fun w_19 =>
     L_X3_canRise_2 a0 x1 M n_7 (x2_1 + 1)) (fun r => some (.inr r)) q_12))
def f_X3_canRise (a0 : Nat) (x1 : Int32) (M : Mm) : Option (Int32) :=
 Option.bind (L_X3_canRise_2 a0 x1 M FU (0 : Int32)) (fun q_2 => Sum.elim (fun w_9 =>
 some (1 : Int32)) (fun r => some r) q_2)
set_option maxRecDepth 100000 in
set_option maxHeartbeats 4000000 in
theorem c_X3_canRise {G : Gm} {l : Launch} (d : Nat) {a0 : Nat} {x1 : Int32} {M : Mm} {r : Int32} (h0 : kP a0) (h : f_X3_canRise a0 x1 M = some r) : Cm G l (d + 1) yX3_canRise cX3_canRise 5 (some .boolean) [.ref (gR G a0), .int x1] M (some (.int r)) M := by
  unfold f_X3_canRise at h
  refine m_met (lv := [some (.ref (gR G a0)), some (.int x1), none, none, none]) (own := RX3) (by decide +kernel) rfl rfl (Nat.le_of_ble_eq_true rfl) rfl ?_
  intro X hX hc hr
  subst hX
  refine m_iconst hc (v := 0) dX3_canRise_0 (by decide) ?_
  refine m_istore_n hc (lv' := [some (.ref (gR G a0)), some (.int x1), some (.int (0 : Int32)), none, none]) dX3_canRise_1 (Nat.le_of_ble_eq_true rfl) rfl rfl ?_
  obtain ⟨q_2, c_3, g_6⟩ := bd_o h
  have J_4 : ∀ (w_9 : Unit), (some (1 : Int32)) = some r → WM G X (qQ G X (some (.int r)) M) M 61 [some (.ref (gR G a0)), some (.int x1), none, none, none] [] := by
    intro w_9 h
    refine m_iconst hc (v := 1) dX3_canRise_61 (by decide) ?_
    cases h
    exact m_zret hc hr (v := (1 : Int32)) (by decide) dX3_canRise_62
  have L_5 : ∀ (n_7 : Nat) (x2_1 : Int32), L_X3_canRise_2 a0 x1 M n_7 x2_1 = some q_2 → WM G X (qQ G X (some (.int r)) M) M 2 [some (.ref (gR G a0)), some (.int x1), some (.int x2_1), none, none] [] := by
    intro n_7
    induction n_7 with
    | zero =>
      intro x2_1 h
      cases (show none = some _ from h)
    | succ n_7 i_8 =>
      intro x2_1 h
      rw [L_X3_canRise_2] at h
      refine m_iload_n hc dX3_canRise_2 rfl ?_
      refine m_bipush hc (v := (12 : Int32)) dX3_canRise_3 (by decide) ?_
      refine m_icge hc (tgt := 61) dX3_canRise_5 (by decide) (fun b_10 => ?_) (fun b_10 => ?_)
      · replace h := (if_pos b_10).symm.trans h
        cases h
        exact m_fg [2] rfl (J_4 () g_6)
      · replace h := (if_neg b_10).symm.trans h
        refine m_iconst hc (v := 0) dX3_canRise_8 (by decide) ?_
        refine m_istore_n hc (lv' := [some (.ref (gR G a0)), some (.int x1), some (.int x2_1), some (.int (0 : Int32)), none]) dX3_canRise_9 (Nat.le_of_ble_eq_true rfl) rfl rfl ?_
        obtain ⟨q_12, c_13, g_16⟩ := bd_o h
        have J_14 : ∀ (w_19 : Unit), (L_X3_canRise_2 a0 x1 M n_7 (x2_1 + 1)) = some q_2 → WM G X (qQ G X (some (.int r)) M) M 55 [some (.ref (gR G a0)), some (.int x1), some (.int x2_1), none, none] [] := by
          intro w_19 h
          refine m_iinc hc (v := x2_1 + 1) (lv' := [some (.ref (gR G a0)), some (.int x1), some (.int (x2_1 + 1)), none, none]) dX3_canRise_55 rfl rfl rfl rfl ?_
          refine m_goto hc (tgt := 2) dX3_canRise_58 (by decide) ?_
          exact m_fg [] rfl (i_8 _ h)
        have L_15 : ∀ (n_17 : Nat) (x3_11 : Int32), L_X3_canRise_10 a0 x1 M x2_1 n_17 x3_11 = some q_12 → WM G X (qQ G X (some (.int r)) M) M 10 [some (.ref (gR G a0)), some (.int x1), some (.int x2_1), some (.int x3_11), none] [] := by
          intro n_17
          induction n_17 with
          | zero =>
            intro x3_11 h
            cases (show none = some _ from h)
          | succ n_17 i_18 =>
            intro x3_11 h
            rw [L_X3_canRise_10] at h
            refine m_iload_n hc dX3_canRise_10 rfl ?_
            refine m_aload_n hc dX3_canRise_11 rfl ?_
            refine m_getR hc (q := (a0 + 1)) (kP_o h0) rfl tbX3 1 (by decide) wf_X3_15 rfl dX3_canRise_12 ?_
            refine m_iload_n hc dX3_canRise_15 rfl ?_
            obtain ⟨b_20, h⟩ := ck_o h
            refine m_iald hc (kP_1 h0) b_20 dX3_canRise_16 ?_
            refine m_icge hc (tgt := 55) dX3_canRise_17 (by decide) (fun b_21 => ?_) (fun b_21 => ?_)
            · replace h := (if_pos b_21).symm.trans h
              cases h
              exact m_fg [3] rfl (J_14 () g_16)
            · replace h := (if_neg b_21).symm.trans h
              refine m_aload_n hc dX3_canRise_20 rfl ?_
              refine m_getR hc (q := (a0 + 3)) (kP_o h0) rfl tbX3 3 (by decide) wf_X3_22 rfl dX3_canRise_21 ?_
              refine m_iload_n hc dX3_canRise_24 rfl ?_
              refine m_iload_n hc dX3_canRise_25 rfl ?_
              refine m_callSi hc (c_X3_place (d + 0) rfl) (by omega) (by decide) wm_X3_40 wt_X3_place wv_X3_place wc_X3_place wz_X3_place rfl (st := [.ref (gR G (a0 + 3))]) rfl rfl (Nat.le_of_ble_eq_true rfl) dX3_canRise_26 ?_
              obtain ⟨b_22, h⟩ := ck_o h
              refine m_iald hc (kP_3 h0) b_22 dX3_canRise_29 ?_
              refine m_iload_n hc dX3_canRise_30 rfl ?_
              refine m_iadd hc dX3_canRise_31 ?_
              refine m_topI (fun x4_23 e_24 => ?_)
              replace h := nm_x e_24 h
              refine m_istore hc (lv' := [some (.ref (gR G a0)), some (.int x1), some (.int x2_1), some (.int x3_11), some (.int x4_23)]) dX3_canRise_32 (Nat.le_of_ble_eq_true rfl) rfl rfl ?_
              refine m_iload hc dX3_canRise_34 rfl ?_
              refine m_iconst hc (v := (-1)) dX3_canRise_36 (by decide) ?_
              refine m_iclt hc (tgt := 47) dX3_canRise_37 (by decide) (fun b_25 => ?_) (fun b_25 => ?_)
              · replace h := (if_pos b_25).symm.trans h
                refine m_iconst hc (v := 0) dX3_canRise_47 (by decide) ?_
                cases h
                have g_16 : some (Sum.inr (0 : Int32)) = some q_2 := g_16
                cases g_16
                have g_6 : some (0 : Int32) = some r := g_6
                cases g_6
                exact m_zret hc hr (v := (0 : Int32)) (by decide) dX3_canRise_48
              · replace h := (if_neg b_25).symm.trans h
                refine m_iload hc dX3_canRise_40 rfl ?_
                refine m_bipush hc (v := (100 : Int32)) dX3_canRise_42 (by decide) ?_
                refine m_icle hc (tgt := 49) dX3_canRise_44 (by decide) (fun b_26 => ?_) (fun b_26 => ?_)
                · replace h := (if_pos b_26).symm.trans h
                  refine m_iinc hc (v := x3_11 + 1) (lv' := [some (.ref (gR G a0)), some (.int x1), some (.int x2_1), some (.int (x3_11 + 1)), some (.int x4_23)]) dX3_canRise_49 rfl rfl rfl rfl ?_
                  refine m_goto hc (tgt := 10) dX3_canRise_52 (by decide) ?_
                  exact m_fg [4] rfl (i_18 _ h)
                · replace h := (if_neg b_26).symm.trans h
                  refine m_iconst hc (v := 0) dX3_canRise_47 (by decide) ?_
                  cases h
                  have g_16 : some (Sum.inr (0 : Int32)) = some q_2 := g_16
                  cases g_16
                  have g_6 : some (0 : Int32) = some r := g_6
                  cases g_6
                  exact m_zret hc hr (v := (0 : Int32)) (by decide) dX3_canRise_48
        exact m_fg [] rfl (L_15 _ _ c_13)
  exact m_fg [] rfl (L_5 _ _ c_3)
def L_X3_rise_10 (a0 : Nat) (x1 : Int32) (x2_1 : Int32) : Nat → Int32 → Mm → Option (Mm)
  | 0, _, _ => none
  | n_18 + 1, x3_11, M_12 =>
    ck (ib x2_1 12) (
     if (M_12 (a0 + 1) x2_1.toNatClampNeg) ≤ x3_11 then (
     some M_12)
    else (
     ck (ib (f_X3_place x2_1 x3_11) 72) (
     ck (ib (f_X3_place x2_1 x3_11) 72) (
     nm (mw M_12 (a0 + 3) (f_X3_place x2_1 x3_11).toNatClampNeg ((M_12 (a0 + 3) (f_X3_place x2_1 x3_11).toNatClampNeg) + x1)) (fun M_24 =>
     L_X3_rise_10 a0 x1 x2_1 n_18 (x3_11 + 1) M_24)))))
def L_X3_rise_2 (a0 : Nat) (x1 : Int32) : Nat → Int32 → Mm → Option (Mm)
  | 0, _, _ => none
  | n_8 + 1, x2_1, M_2 =>
    if (12 : Int32) ≤ x2_1 then (
     some M_2)
    else (
     Option.bind (L_X3_rise_10 a0 x1 x2_1 FU (0 : Int32) M_2) (fun q_13 =>
     L_X3_rise_2 a0 x1 n_8 (x2_1 + 1) q_13))
def f_X3_rise (a0 : Nat) (x1 : Int32) (M : Mm) : Option (Mm) :=
 Option.bind (L_X3_rise_2 a0 x1 FU (0 : Int32) M) (fun q_3 =>
 some q_3)
set_option maxRecDepth 100000 in
set_option maxHeartbeats 4000000 in
theorem c_X3_rise {G : Gm} {l : Launch} (d : Nat) {a0 : Nat} {x1 : Int32} {M : Mm} {r : Mm} (h0 : kP a0) (h : f_X3_rise a0 x1 M = some r) : Cm G l (d + 1) yX3_rise cX3_rise 4 none [.ref (gR G a0), .int x1] M none r := by
  unfold f_X3_rise at h
  refine m_met (lv := [some (.ref (gR G a0)), some (.int x1), none, none]) (own := RX3) (by decide +kernel) rfl rfl (Nat.le_of_ble_eq_true rfl) rfl ?_
  intro X hX hc hr
  subst hX
  refine m_iconst hc (v := 0) dX3_rise_0 (by decide) ?_
  refine m_istore_n hc (lv' := [some (.ref (gR G a0)), some (.int x1), some (.int (0 : Int32)), none]) dX3_rise_1 (Nat.le_of_ble_eq_true rfl) rfl rfl ?_
  obtain ⟨q_3, c_4, h⟩ := bd_o h
  have J_5 : WM G X (qQ G X none r) q_3 46 [some (.ref (gR G a0)), some (.int x1), none, none] [] := by
    cases h
    exact m_vret hc hr dX3_rise_46
  have L_6 : ∀ (n_8 : Nat) (x2_1 : Int32) (M_2 : Mm), L_X3_rise_2 a0 x1 n_8 x2_1 M_2 = some q_3 → WM G X (qQ G X none r) M_2 2 [some (.ref (gR G a0)), some (.int x1), some (.int x2_1), none] [] := by
    intro n_8
    induction n_8 with
    | zero =>
      intro x2_1 M_2 h
      cases (show none = some _ from h)
    | succ n_8 i_9 =>
      intro x2_1 M_2 h
      rw [L_X3_rise_2] at h
      refine m_iload_n hc dX3_rise_2 rfl ?_
      refine m_bipush hc (v := (12 : Int32)) dX3_rise_3 (by decide) ?_
      refine m_icge hc (tgt := 46) dX3_rise_5 (by decide) (fun b_10 => ?_) (fun b_10 => ?_)
      · replace h := (if_pos b_10).symm.trans h
        cases h
        exact m_fg [2] rfl J_5
      · replace h := (if_neg b_10).symm.trans h
        refine m_iconst hc (v := 0) dX3_rise_8 (by decide) ?_
        refine m_istore_n hc (lv' := [some (.ref (gR G a0)), some (.int x1), some (.int x2_1), some (.int (0 : Int32))]) dX3_rise_9 (Nat.le_of_ble_eq_true rfl) rfl rfl ?_
        obtain ⟨q_13, c_14, h⟩ := bd_o h
        have J_15 : WM G X (qQ G X none r) q_13 40 [some (.ref (gR G a0)), some (.int x1), some (.int x2_1), none] [] := by
          refine m_iinc hc (v := x2_1 + 1) (lv' := [some (.ref (gR G a0)), some (.int x1), some (.int (x2_1 + 1)), none]) dX3_rise_40 rfl rfl rfl rfl ?_
          refine m_goto hc (tgt := 2) dX3_rise_43 (by decide) ?_
          exact m_fg [] rfl (i_9 _ _ h)
        have L_16 : ∀ (n_18 : Nat) (x3_11 : Int32) (M_12 : Mm), L_X3_rise_10 a0 x1 x2_1 n_18 x3_11 M_12 = some q_13 → WM G X (qQ G X none r) M_12 10 [some (.ref (gR G a0)), some (.int x1), some (.int x2_1), some (.int x3_11)] [] := by
          intro n_18
          induction n_18 with
          | zero =>
            intro x3_11 M_12 h
            cases (show none = some _ from h)
          | succ n_18 i_19 =>
            intro x3_11 M_12 h
            rw [L_X3_rise_10] at h
            refine m_iload_n hc dX3_rise_10 rfl ?_
            refine m_aload_n hc dX3_rise_11 rfl ?_
            refine m_getR hc (q := (a0 + 1)) (kP_o h0) rfl tbX3 1 (by decide) wf_X3_15 rfl dX3_rise_12 ?_
            refine m_iload_n hc dX3_rise_15 rfl ?_
            obtain ⟨b_20, h⟩ := ck_o h
            refine m_iald hc (kP_1 h0) b_20 dX3_rise_16 ?_
            refine m_icge hc (tgt := 40) dX3_rise_17 (by decide) (fun b_21 => ?_) (fun b_21 => ?_)
            · replace h := (if_pos b_21).symm.trans h
              cases h
              exact m_fg [3] rfl J_15
            · replace h := (if_neg b_21).symm.trans h
              refine m_aload_n hc dX3_rise_20 rfl ?_
              refine m_getR hc (q := (a0 + 3)) (kP_o h0) rfl tbX3 3 (by decide) wf_X3_22 rfl dX3_rise_21 ?_
              refine m_iload_n hc dX3_rise_24 rfl ?_
              refine m_iload_n hc dX3_rise_25 rfl ?_
              refine m_callSi hc (c_X3_place (d + 0) rfl) (by omega) (by decide) wm_X3_40 wt_X3_place wv_X3_place wc_X3_place wz_X3_place rfl (st := [.ref (gR G (a0 + 3))]) rfl rfl (Nat.le_of_ble_eq_true rfl) dX3_rise_26 ?_
              refine m_dup2 hc dX3_rise_29 rfl rfl ?_
              obtain ⟨b_22, h⟩ := ck_o h
              refine m_iald hc (kP_3 h0) b_22 dX3_rise_30 ?_
              refine m_iload_n hc dX3_rise_31 rfl ?_
              refine m_iadd hc dX3_rise_32 ?_
              obtain ⟨b_23, h⟩ := ck_o h
              refine m_iast hc (kP_3 h0) b_23 dX3_rise_33 ?_
              refine m_topM (fun M_24 e_25 => ?_)
              replace h := nm_x e_25 h
              refine m_iinc hc (v := x3_11 + 1) (lv' := [some (.ref (gR G a0)), some (.int x1), some (.int x2_1), some (.int (x3_11 + 1))]) dX3_rise_34 rfl rfl rfl rfl ?_
              refine m_goto hc (tgt := 10) dX3_rise_37 (by decide) ?_
              exact m_fg [] rfl (i_19 _ _ h)
        exact m_fg [] rfl (L_16 _ _ _ c_14)
  exact m_fg [] rfl (L_6 _ _ _ c_4)
def L_X3_countNotes_4 (a0 : Nat) (M : Mm) : Nat → Int32 → Int32 → Option (Int32)
  | 0, _, _ => none
  | n_8 + 1, x1_1, x2_2 =>
    if (12 : Int32) ≤ x2_2 then (
     some x1_1)
    else (
     ck (ib x2_2 12) (
     nm ((x1_1 + (M (a0 + 1) x2_2.toNatClampNeg))) (fun x1_12 =>
     L_X3_countNotes_4 a0 M n_8 x1_12 (x2_2 + 1))))
def f_X3_countNotes (a0 : Nat) (M : Mm) : Option (Int32) :=
 Option.bind (L_X3_countNotes_4 a0 M FU (0 : Int32) (0 : Int32)) (fun q_3 =>
 some q_3)
set_option maxRecDepth 100000 in
set_option maxHeartbeats 4000000 in
theorem c_X3_countNotes {G : Gm} {l : Launch} (d : Nat) {a0 : Nat} {M : Mm} {r : Int32} (h0 : kP a0) (h : f_X3_countNotes a0 M = some r) : Cm G l (d + 0) yX3_countNotes cX3_countNotes 3 (some .int) [.ref (gR G a0)] M (some (.int r)) M := by
  unfold f_X3_countNotes at h
  refine m_met (lv := [some (.ref (gR G a0)), none, none]) (own := RX3) (by decide +kernel) rfl rfl (Nat.le_of_ble_eq_true rfl) rfl ?_
  intro X hX hc hr
  subst hX
  refine m_iconst hc (v := 0) dX3_countNotes_0 (by decide) ?_
  refine m_istore_n hc (lv' := [some (.ref (gR G a0)), some (.int (0 : Int32)), none]) dX3_countNotes_1 (Nat.le_of_ble_eq_true rfl) rfl rfl ?_
  refine m_iconst hc (v := 0) dX3_countNotes_2 (by decide) ?_
  refine m_istore_n hc (lv' := [some (.ref (gR G a0)), some (.int (0 : Int32)), some (.int (0 : Int32))]) dX3_countNotes_3 (Nat.le_of_ble_eq_true rfl) rfl rfl ?_
  obtain ⟨q_3, c_4, h⟩ := bd_o h
  have J_5 : WM G X (qQ G X (some (.int r)) M) M 25 [some (.ref (gR G a0)), some (.int q_3), none] [] := by
    refine m_iload_n hc dX3_countNotes_25 rfl ?_
    cases h
    exact m_iret hc hr dX3_countNotes_26
  have L_6 : ∀ (n_8 : Nat) (x1_1 : Int32) (x2_2 : Int32), L_X3_countNotes_4 a0 M n_8 x1_1 x2_2 = some q_3 → WM G X (qQ G X (some (.int r)) M) M 4 [some (.ref (gR G a0)), some (.int x1_1), some (.int x2_2)] [] := by
    intro n_8
    induction n_8 with
    | zero =>
      intro x1_1 x2_2 h
      cases (show none = some _ from h)
    | succ n_8 i_9 =>
      intro x1_1 x2_2 h
      rw [L_X3_countNotes_4] at h
      refine m_iload_n hc dX3_countNotes_4 rfl ?_
      refine m_bipush hc (v := (12 : Int32)) dX3_countNotes_5 (by decide) ?_
      refine m_icge hc (tgt := 25) dX3_countNotes_7 (by decide) (fun b_10 => ?_) (fun b_10 => ?_)
      · replace h := (if_pos b_10).symm.trans h
        cases h
        exact m_fg [2] rfl J_5
      · replace h := (if_neg b_10).symm.trans h
        refine m_iload_n hc dX3_countNotes_10 rfl ?_
        refine m_aload_n hc dX3_countNotes_11 rfl ?_
        refine m_getR hc (q := (a0 + 1)) (kP_o h0) rfl tbX3 1 (by decide) wf_X3_15 rfl dX3_countNotes_12 ?_
        refine m_iload_n hc dX3_countNotes_15 rfl ?_
        obtain ⟨b_11, h⟩ := ck_o h
        refine m_iald hc (kP_1 h0) b_11 dX3_countNotes_16 ?_
        refine m_iadd hc dX3_countNotes_17 ?_
        refine m_topI (fun x1_12 e_13 => ?_)
        replace h := nm_x e_13 h
        refine m_istore_n hc (lv' := [some (.ref (gR G a0)), some (.int x1_12), some (.int x2_2)]) dX3_countNotes_18 (Nat.le_of_ble_eq_true rfl) rfl rfl ?_
        refine m_iinc hc (v := x2_2 + 1) (lv' := [some (.ref (gR G a0)), some (.int x1_12), some (.int (x2_2 + 1))]) dX3_countNotes_19 rfl rfl rfl rfl ?_
        refine m_goto hc (tgt := 4) dX3_countNotes_22 (by decide) ?_
        exact m_fg [] rfl (i_9 _ _ h)
  exact m_fg [] rfl (L_6 _ _ _ c_4)
def f_X6_shift (x1 : Int32) (M : Mm) : Option (Int32 × Mm) :=
 if x1 < (-12 : Int32) then (
 nm (f_X6_finding (-100001 : Int32) M) (fun q_2 =>
 some (q_2.1, q_2.2)))
else (
 if x1 ≤ (12 : Int32) then (
 Option.bind (f_X3_canRise 3 x1 M) (fun q_5 =>
 if q_5 = 0 then (
 nm (f_X6_finding (-100003 : Int32) M) (fun q_16 =>
 some (q_16.1, q_16.2)))
else (
 Option.bind (f_X2_keep 3 M) (fun q_8 =>
 Option.bind (f_X3_rise 3 x1 q_8) (fun q_10 =>
 nm (f_X5_forgetBeats (0 : Int32) (11 : Int32) q_10) (fun q_12 =>
 Option.bind (f_X3_countNotes 3 q_12) (fun q_14 =>
 some (q_14, q_12))))))))
else (
 nm (f_X6_finding (-100001 : Int32) M) (fun q_18 =>
 some (q_18.1, q_18.2))))
set_option maxRecDepth 100000 in
set_option maxHeartbeats 4000000 in
theorem c_X6_shift {G : Gm} {l : Launch} (d : Nat) {x1 : Int32} {M : Mm} {r : Int32 × Mm}  (h : f_X6_shift x1 M = some r) : Cm G l (d + 3) yX6_shift cX6_shift 2 (some .int) [.ref (gR G 0), .int x1] M (some (.int r.1)) r.2 := by
  unfold f_X6_shift at h
  refine m_met (lv := [some (.ref (gR G 0)), some (.int x1)]) (own := RX6) (by decide +kernel) rfl rfl (Nat.le_of_ble_eq_true rfl) rfl ?_
  intro X hX hc hr
  subst hX
  refine m_iload_n hc dX6_shift_0 rfl ?_
  refine m_bipush hc (v := (-12 : Int32)) dX6_shift_1 (by decide) ?_
  refine m_iclt hc (tgt := 12) dX6_shift_3 (by decide) (fun b_1 => ?_) (fun b_1 => ?_)
  · replace h := (if_pos b_1).symm.trans h
    refine m_aload_n hc dX6_shift_12 rfl ?_
    refine m_ldc hc dX6_shift_13 wk_X6_57 ?_
    obtain ⟨q_2, c_3, h⟩ := nm_o h
    refine m_callVi hc yO_0 rfl (c_X6_finding (d + 2) c_3) (by omega) (by decide) wm_X6_58 wi_X6_finding we_X6_finding wn_X6 wc_X6_finding wy_X6_finding rfl (st := []) rfl rfl (Nat.le_of_ble_eq_true rfl) dX6_shift_15 ?_
    cases h
    exact m_iret hc hr dX6_shift_18
  · replace h := (if_neg b_1).symm.trans h
    refine m_iload_n hc dX6_shift_6 rfl ?_
    refine m_bipush hc (v := (12 : Int32)) dX6_shift_7 (by decide) ?_
    refine m_icle hc (tgt := 19) dX6_shift_9 (by decide) (fun b_4 => ?_) (fun b_4 => ?_)
    · replace h := (if_pos b_4).symm.trans h
      refine m_aload_n hc dX6_shift_19 rfl ?_
      refine m_getR hc (q := 3) yO_0 rfl tbX6 1 (by decide) wf_X6_19 rfl dX6_shift_20 ?_
      refine m_iload_n hc dX6_shift_23 rfl ?_
      obtain ⟨q_5, c_6, h⟩ := bd_o h
      refine m_callVi hc yO_3 rfl (c_X3_canRise (d + 1) kP_3lit c_6) (by omega) (by decide) wm_X6_114 wi_X3_canRise we_X3_canRise wn_X3 wc_X3_canRise wy_X3_canRise rfl (st := []) rfl rfl (Nat.le_of_ble_eq_true rfl) dX6_shift_24 ?_
      refine m_ifne hc (tgt := 37) dX6_shift_27 (by decide) (fun b_7 => ?_) (fun b_7 => ?_)
      · replace h := (if_neg b_7).symm.trans h
        refine m_aload_n hc dX6_shift_37 rfl ?_
        refine m_getR hc (q := 10) yO_0 rfl tbX6 2 (by decide) wf_X6_26 rfl dX6_shift_38 ?_
        refine m_aload_n hc dX6_shift_41 rfl ?_
        refine m_getR hc (q := 3) yO_0 rfl tbX6 1 (by decide) wf_X6_19 rfl dX6_shift_42 ?_
        obtain ⟨q_8, c_9, h⟩ := bd_o h
        refine m_callVv hc yO_10 rfl (c_X2_keep (d + 0) kP_3lit c_9) (by omega) (by decide) wm_X6_62 wi_X2_keep we_X2_keep wn_X2 wc_X2_keep wy_X2_keep rfl (st := []) rfl rfl (Nat.le_of_ble_eq_true rfl) dX6_shift_45 ?_
        refine m_aload_n hc dX6_shift_48 rfl ?_
        refine m_getR hc (q := 3) yO_0 rfl tbX6 1 (by decide) wf_X6_19 rfl dX6_shift_49 ?_
        refine m_iload_n hc dX6_shift_52 rfl ?_
        obtain ⟨q_10, c_11, h⟩ := bd_o h
        refine m_callVv hc yO_3 rfl (c_X3_rise (d + 1) kP_3lit c_11) (by omega) (by decide) wm_X6_118 wi_X3_rise we_X3_rise wn_X3 wc_X3_rise wy_X3_rise rfl (st := []) rfl rfl (Nat.le_of_ble_eq_true rfl) dX6_shift_53 ?_
        refine m_aload_n hc dX6_shift_56 rfl ?_
        refine m_getR hc (q := 161) yO_0 rfl tbX6 4 (by decide) wf_X6_42 rfl dX6_shift_57 ?_
        refine m_iconst hc (v := 0) dX6_shift_60 (by decide) ?_
        refine m_bipush hc (v := (11 : Int32)) dX6_shift_61 (by decide) ?_
        obtain ⟨q_12, c_13, h⟩ := nm_o h
        refine m_callVv hc yO_161 rfl (c_X5_forgetBeats (d + 1) c_13) (by omega) (by decide) wm_X6_88 wi_X5_forgetBeats we_X5_forgetBeats wn_X5 wc_X5_forgetBeats wy_X5_forgetBeats rfl (st := []) rfl rfl (Nat.le_of_ble_eq_true rfl) dX6_shift_63 ?_
        refine m_aload_n hc dX6_shift_66 rfl ?_
        refine m_getR hc (q := 3) yO_0 rfl tbX6 1 (by decide) wf_X6_19 rfl dX6_shift_67 ?_
        obtain ⟨q_14, c_15, h⟩ := bd_o h
        refine m_callVi hc yO_3 rfl (c_X3_countNotes (d + 2) kP_3lit c_15) (by omega) (by decide) wm_X6_122 wi_X3_countNotes we_X3_countNotes wn_X3 wc_X3_countNotes wy_X3_countNotes rfl (st := []) rfl rfl (Nat.le_of_ble_eq_true rfl) dX6_shift_70 ?_
        cases h
        exact m_iret hc hr dX6_shift_73
      · replace h := (if_pos b_7).symm.trans h
        refine m_aload_n hc dX6_shift_30 rfl ?_
        refine m_ldc hc dX6_shift_31 wk_X6_117 ?_
        obtain ⟨q_16, c_17, h⟩ := nm_o h
        refine m_callVi hc yO_0 rfl (c_X6_finding (d + 2) c_17) (by omega) (by decide) wm_X6_58 wi_X6_finding we_X6_finding wn_X6 wc_X6_finding wy_X6_finding rfl (st := []) rfl rfl (Nat.le_of_ble_eq_true rfl) dX6_shift_33 ?_
        cases h
        exact m_iret hc hr dX6_shift_36
    · replace h := (if_neg b_4).symm.trans h
      refine m_aload_n hc dX6_shift_12 rfl ?_
      refine m_ldc hc dX6_shift_13 wk_X6_57 ?_
      obtain ⟨q_18, c_19, h⟩ := nm_o h
      refine m_callVi hc yO_0 rfl (c_X6_finding (d + 2) c_19) (by omega) (by decide) wm_X6_58 wi_X6_finding we_X6_finding wn_X6 wc_X6_finding wy_X6_finding rfl (st := []) rfl rfl (Nat.le_of_ble_eq_true rfl) dX6_shift_15 ?_
      cases h
      exact m_iret hc hr dX6_shift_18
def f_X6_isPedal (x0 : Int32) : Int32 :=
 if x0 < 0 then (
 (0 : Int32))
else (
 if (7 : Int32) ≤ x0 then (
 (0 : Int32))
else (
 (1 : Int32)))
set_option maxRecDepth 100000 in
set_option maxHeartbeats 4000000 in
theorem c_X6_isPedal {G : Gm} {l : Launch} (d : Nat) {x0 : Int32} {M : Mm} {r : Int32}  (h : f_X6_isPedal x0 = r) : Cm G l (d + 0) yX6_isPedal cX6_isPedal 1 (some .boolean) [.int x0] M (some (.int r)) M := by
  unfold f_X6_isPedal at h
  refine m_met (lv := [some (.int x0)]) (own := RX6) (by decide +kernel) rfl rfl (Nat.le_of_ble_eq_true rfl) rfl ?_
  intro X hX hc hr
  subst hX
  refine m_iload_n hc dX6_isPedal_0 rfl ?_
  refine m_iflt hc (tgt := 14) dX6_isPedal_1 (by decide) (fun b_1 => ?_) (fun b_1 => ?_)
  · replace h := (if_pos b_1).symm.trans h
    refine m_iconst hc (v := 0) dX6_isPedal_14 (by decide) ?_
    subst h
    exact m_zret hc hr (v := (0 : Int32)) (by decide) dX6_isPedal_15
  · replace h := (if_neg b_1).symm.trans h
    refine m_iload_n hc dX6_isPedal_4 rfl ?_
    refine m_bipush hc (v := (7 : Int32)) dX6_isPedal_5 (by decide) ?_
    refine m_icge hc (tgt := 14) dX6_isPedal_7 (by decide) (fun b_2 => ?_) (fun b_2 => ?_)
    · replace h := (if_pos b_2).symm.trans h
      refine m_iconst hc (v := 0) dX6_isPedal_14 (by decide) ?_
      subst h
      exact m_zret hc hr (v := (0 : Int32)) (by decide) dX6_isPedal_15
    · replace h := (if_neg b_2).symm.trans h
      refine m_iconst hc (v := 1) dX6_isPedal_10 (by decide) ?_
      refine m_goto hc (tgt := 15) dX6_isPedal_11 (by decide) ?_
      subst h
      exact m_zret hc hr (v := (1 : Int32)) (by decide) dX6_isPedal_15
theorem bz_X6_isPedal (x0 : Int32) : narrow .boolean (.int (f_X6_isPedal x0)) = .int (f_X6_isPedal x0) := by
  unfold f_X6_isPedal
  first | (repeat' split) <;> rfl | (first | rfl)
def f_X6_isStandOrNone (x0 : Int32) : Int32 :=
 if x0 < (-1 : Int32) then (
 (0 : Int32))
else (
 if (3 : Int32) ≤ x0 then (
 (0 : Int32))
else (
 (1 : Int32)))
set_option maxRecDepth 100000 in
set_option maxHeartbeats 4000000 in
theorem c_X6_isStandOrNone {G : Gm} {l : Launch} (d : Nat) {x0 : Int32} {M : Mm} {r : Int32}  (h : f_X6_isStandOrNone x0 = r) : Cm G l (d + 0) yX6_isStandOrNone cX6_isStandOrNone 1 (some .boolean) [.int x0] M (some (.int r)) M := by
  unfold f_X6_isStandOrNone at h
  refine m_met (lv := [some (.int x0)]) (own := RX6) (by decide +kernel) rfl rfl (Nat.le_of_ble_eq_true rfl) rfl ?_
  intro X hX hc hr
  subst hX
  refine m_iload_n hc dX6_isStandOrNone_0 rfl ?_
  refine m_iconst hc (v := (-1)) dX6_isStandOrNone_1 (by decide) ?_
  refine m_iclt hc (tgt := 14) dX6_isStandOrNone_2 (by decide) (fun b_1 => ?_) (fun b_1 => ?_)
  · replace h := (if_pos b_1).symm.trans h
    refine m_iconst hc (v := 0) dX6_isStandOrNone_14 (by decide) ?_
    subst h
    exact m_zret hc hr (v := (0 : Int32)) (by decide) dX6_isStandOrNone_15
  · replace h := (if_neg b_1).symm.trans h
    refine m_iload_n hc dX6_isStandOrNone_5 rfl ?_
    refine m_iconst hc (v := 3) dX6_isStandOrNone_6 (by decide) ?_
    refine m_icge hc (tgt := 14) dX6_isStandOrNone_7 (by decide) (fun b_2 => ?_) (fun b_2 => ?_)
    · replace h := (if_pos b_2).symm.trans h
      refine m_iconst hc (v := 0) dX6_isStandOrNone_14 (by decide) ?_
      subst h
      exact m_zret hc hr (v := (0 : Int32)) (by decide) dX6_isStandOrNone_15
    · replace h := (if_neg b_2).symm.trans h
      refine m_iconst hc (v := 1) dX6_isStandOrNone_10 (by decide) ?_
      refine m_goto hc (tgt := 15) dX6_isStandOrNone_11 (by decide) ?_
      subst h
      exact m_zret hc hr (v := (1 : Int32)) (by decide) dX6_isStandOrNone_15
theorem bz_X6_isStandOrNone (x0 : Int32) : narrow .boolean (.int (f_X6_isStandOrNone x0)) = .int (f_X6_isStandOrNone x0) := by
  unfold f_X6_isStandOrNone
  first | (repeat' split) <;> rfl | (first | rfl)
def f_X6_mark (x1 : Int32) (x2 : Int32) (x3 : Int32) (M : Mm) : Option (Int32 × Mm) :=
 if (f_X6_isBeat x1) = 0 then (
 nm (f_X6_finding (-100001 : Int32) M) (fun q_2 =>
 some (q_2.1, q_2.2)))
else (
 if (f_X6_isPedal x2) = 0 then (
 nm (f_X6_finding (-100001 : Int32) M) (fun q_5 =>
 some (q_5.1, q_5.2)))
else (
 if (f_X6_isStandOrNone x3) = 0 then (
 nm (f_X6_finding (-100001 : Int32) M) (fun q_20 =>
 some (q_20.1, q_20.2)))
else (
 Option.bind (f_X2_keep 3 M) (fun q_8 =>
 nm (((x1 * (7 : Int32)) + x2)) (fun x4_10 =>
 ck (ib x4_10 84) (
 nm ((q_8 8 x4_10.toNatClampNeg)) (fun x5_13 =>
 ck (ib x4_10 84) (
 nm (mw q_8 8 x4_10.toNatClampNeg x3) (fun M_16 =>
 nm (f_X5_forgetBeats x1 x1 M_16) (fun q_18 =>
 some (x5_13, q_18)))))))))))
set_option maxRecDepth 100000 in
set_option maxHeartbeats 4000000 in
theorem c_X6_mark {G : Gm} {l : Launch} (d : Nat) {x1 : Int32} {x2 : Int32} {x3 : Int32} {M : Mm} {r : Int32 × Mm}  (h : f_X6_mark x1 x2 x3 M = some r) : Cm G l (d + 3) yX6_mark cX6_mark 6 (some .int) [.ref (gR G 0), .int x1, .int x2, .int x3] M (some (.int r.1)) r.2 := by
  unfold f_X6_mark at h
  refine m_met (lv := [some (.ref (gR G 0)), some (.int x1), some (.int x2), some (.int x3), none, none]) (own := RX6) (by decide +kernel) rfl rfl (Nat.le_of_ble_eq_true rfl) rfl ?_
  intro X hX hc hr
  subst hX
  refine m_iload_n hc dX6_mark_0 rfl ?_
  refine m_callSi hc (c_X6_isBeat (d + 2) rfl) (by omega) (by decide) wm_X6_72 wt_X6_isBeat wv_X6_isBeat wc_X6_isBeat wz_X6_isBeat rfl (st := []) rfl rfl (Nat.le_of_ble_eq_true rfl) dX6_mark_1 ?_
  refine m_ifeq hc (tgt := 21) dX6_mark_4 (by decide) (fun b_1 => ?_) (fun b_1 => ?_)
  · replace h := (if_pos b_1).symm.trans h
    refine m_aload_n hc dX6_mark_21 rfl ?_
    refine m_ldc hc dX6_mark_22 wk_X6_57 ?_
    obtain ⟨q_2, c_3, h⟩ := nm_o h
    refine m_callVi hc yO_0 rfl (c_X6_finding (d + 2) c_3) (by omega) (by decide) wm_X6_58 wi_X6_finding we_X6_finding wn_X6 wc_X6_finding wy_X6_finding rfl (st := []) rfl rfl (Nat.le_of_ble_eq_true rfl) dX6_mark_24 ?_
    cases h
    exact m_iret hc hr dX6_mark_27
  · replace h := (if_neg b_1).symm.trans h
    refine m_iload_n hc dX6_mark_7 rfl ?_
    refine m_callSi hc (c_X6_isPedal (d + 2) rfl) (by omega) (by decide) wm_X6_126 wt_X6_isPedal wv_X6_isPedal wc_X6_isPedal wz_X6_isPedal rfl (st := []) rfl rfl (Nat.le_of_ble_eq_true rfl) dX6_mark_8 ?_
    refine m_ifeq hc (tgt := 21) dX6_mark_11 (by decide) (fun b_4 => ?_) (fun b_4 => ?_)
    · replace h := (if_pos b_4).symm.trans h
      refine m_aload_n hc dX6_mark_21 rfl ?_
      refine m_ldc hc dX6_mark_22 wk_X6_57 ?_
      obtain ⟨q_5, c_6, h⟩ := nm_o h
      refine m_callVi hc yO_0 rfl (c_X6_finding (d + 2) c_6) (by omega) (by decide) wm_X6_58 wi_X6_finding we_X6_finding wn_X6 wc_X6_finding wy_X6_finding rfl (st := []) rfl rfl (Nat.le_of_ble_eq_true rfl) dX6_mark_24 ?_
      cases h
      exact m_iret hc hr dX6_mark_27
    · replace h := (if_neg b_4).symm.trans h
      refine m_iload_n hc dX6_mark_14 rfl ?_
      refine m_callSi hc (c_X6_isStandOrNone (d + 2) rfl) (by omega) (by decide) wm_X6_129 wt_X6_isStandOrNone wv_X6_isStandOrNone wc_X6_isStandOrNone wz_X6_isStandOrNone rfl (st := []) rfl rfl (Nat.le_of_ble_eq_true rfl) dX6_mark_15 ?_
      refine m_ifne hc (tgt := 28) dX6_mark_18 (by decide) (fun b_7 => ?_) (fun b_7 => ?_)
      · replace h := (if_neg b_7).symm.trans h
        refine m_aload_n hc dX6_mark_28 rfl ?_
        refine m_getR hc (q := 10) yO_0 rfl tbX6 2 (by decide) wf_X6_26 rfl dX6_mark_29 ?_
        refine m_aload_n hc dX6_mark_32 rfl ?_
        refine m_getR hc (q := 3) yO_0 rfl tbX6 1 (by decide) wf_X6_19 rfl dX6_mark_33 ?_
        obtain ⟨q_8, c_9, h⟩ := bd_o h
        refine m_callVv hc yO_10 rfl (c_X2_keep (d + 0) kP_3lit c_9) (by omega) (by decide) wm_X6_62 wi_X2_keep we_X2_keep wn_X2 wc_X2_keep wy_X2_keep rfl (st := []) rfl rfl (Nat.le_of_ble_eq_true rfl) dX6_mark_36 ?_
        refine m_iload_n hc dX6_mark_39 rfl ?_
        refine m_bipush hc (v := (7 : Int32)) dX6_mark_40 (by decide) ?_
        refine m_imul hc dX6_mark_42 ?_
        refine m_iload_n hc dX6_mark_43 rfl ?_
        refine m_iadd hc dX6_mark_44 ?_
        refine m_topI (fun x4_10 e_11 => ?_)
        replace h := nm_x e_11 h
        refine m_istore hc (lv' := [some (.ref (gR G 0)), some (.int x1), some (.int x2), some (.int x3), some (.int x4_10), none]) dX6_mark_45 (Nat.le_of_ble_eq_true rfl) rfl rfl ?_
        refine m_aload_n hc dX6_mark_47 rfl ?_
        refine m_getR hc (q := 3) yO_0 rfl tbX6 1 (by decide) wf_X6_19 rfl dX6_mark_48 ?_
        refine m_getR hc (q := 8) yO_3 rfl tbX3 5 (by decide) wf_X6_132 rfl dX6_mark_51 ?_
        refine m_iload hc dX6_mark_54 rfl ?_
        obtain ⟨b_12, h⟩ := ck_o h
        refine m_iald hc yA_8 b_12 dX6_mark_56 ?_
        refine m_topI (fun x5_13 e_14 => ?_)
        replace h := nm_x e_14 h
        refine m_istore hc (lv' := [some (.ref (gR G 0)), some (.int x1), some (.int x2), some (.int x3), some (.int x4_10), some (.int x5_13)]) dX6_mark_57 (Nat.le_of_ble_eq_true rfl) rfl rfl ?_
        refine m_aload_n hc dX6_mark_59 rfl ?_
        refine m_getR hc (q := 3) yO_0 rfl tbX6 1 (by decide) wf_X6_19 rfl dX6_mark_60 ?_
        refine m_getR hc (q := 8) yO_3 rfl tbX3 5 (by decide) wf_X6_132 rfl dX6_mark_63 ?_
        refine m_iload hc dX6_mark_66 rfl ?_
        refine m_iload_n hc dX6_mark_68 rfl ?_
        obtain ⟨b_15, h⟩ := ck_o h
        refine m_iast hc yA_8 b_15 dX6_mark_69 ?_
        refine m_topM (fun M_16 e_17 => ?_)
        replace h := nm_x e_17 h
        refine m_aload_n hc dX6_mark_70 rfl ?_
        refine m_getR hc (q := 161) yO_0 rfl tbX6 4 (by decide) wf_X6_42 rfl dX6_mark_71 ?_
        refine m_iload_n hc dX6_mark_74 rfl ?_
        refine m_iload_n hc dX6_mark_75 rfl ?_
        obtain ⟨q_18, c_19, h⟩ := nm_o h
        refine m_callVv hc yO_161 rfl (c_X5_forgetBeats (d + 1) c_19) (by omega) (by decide) wm_X6_88 wi_X5_forgetBeats we_X5_forgetBeats wn_X5 wc_X5_forgetBeats wy_X5_forgetBeats rfl (st := []) rfl rfl (Nat.le_of_ble_eq_true rfl) dX6_mark_76 ?_
        refine m_iload hc dX6_mark_79 rfl ?_
        cases h
        exact m_iret hc hr dX6_mark_81
      · replace h := (if_pos b_7).symm.trans h
        refine m_aload_n hc dX6_mark_21 rfl ?_
        refine m_ldc hc dX6_mark_22 wk_X6_57 ?_
        obtain ⟨q_20, c_21, h⟩ := nm_o h
        refine m_callVi hc yO_0 rfl (c_X6_finding (d + 2) c_21) (by omega) (by decide) wm_X6_58 wi_X6_finding we_X6_finding wn_X6 wc_X6_finding wy_X6_finding rfl (st := []) rfl rfl (Nat.le_of_ble_eq_true rfl) dX6_mark_24 ?_
        cases h
        exact m_iret hc hr dX6_mark_27
def f_X5_forgetStart (M : Mm) : Mm :=
 nm (mw M 161 13 (-1 : Int32)) (fun M_1 =>
 nm (f_X5_forgetAnswers M_1) (fun q_3 =>
 q_3))
set_option maxRecDepth 100000 in
set_option maxHeartbeats 4000000 in
theorem c_X5_forgetStart {G : Gm} {l : Launch} (d : Nat) {M : Mm} {r : Mm}  (h : f_X5_forgetStart M = r) : Cm G l (d + 1) yX5_forgetStart cX5_forgetStart 1 none [.ref (gR G 161)] M none r := by
  unfold f_X5_forgetStart at h
  refine m_met (lv := [some (.ref (gR G 161))]) (own := RX5) (by decide +kernel) rfl rfl (Nat.le_of_ble_eq_true rfl) rfl ?_
  intro X hX hc hr
  subst hX
  refine m_aload_n hc dX5_forgetStart_0 rfl ?_
  refine m_iconst hc (v := (-1)) dX5_forgetStart_1 (by decide) ?_
  refine m_putI hc yO_161 rfl tbX5 tyX5 tyX5_ok nmX5 13 (by decide) wf_X5_61 rfl rfl rfl rfl dX5_forgetStart_2 ?_
  refine m_topM (fun M_1 e_2 => ?_)
  replace h := nm_x e_2 h
  refine m_aload_n hc dX5_forgetStart_5 rfl ?_
  obtain ⟨q_3, c_4, h⟩ := nm_o h
  refine m_callVv hc yO_161 rfl (c_X5_forgetAnswers (d + 0) c_4) (by omega) (by decide) wm_X5_84 wi_X5_forgetAnswers we_X5_forgetAnswers wn_X5 wc_X5_forgetAnswers wy_X5_forgetAnswers rfl (st := []) rfl rfl (Nat.le_of_ble_eq_true rfl) dX5_forgetStart_6 ?_
  subst h
  exact m_vret hc hr dX5_forgetStart_9
def f_X6_start (x1 : Int32) (x2 : Int32) (M : Mm) : Option (Int32 × Mm) :=
 if (f_X6_isPedal x1) = 0 then (
 nm (f_X6_finding (-100001 : Int32) M) (fun q_2 =>
 some (q_2.1, q_2.2)))
else (
 if (f_X6_isStandOrNone x2) = 0 then (
 nm (f_X6_finding (-100001 : Int32) M) (fun q_15 =>
 some (q_15.1, q_15.2)))
else (
 Option.bind (f_X2_keep 3 M) (fun q_5 =>
 ck (ib x1 7) (
 nm ((q_5 9 x1.toNatClampNeg)) (fun x3_8 =>
 ck (ib x1 7) (
 nm (mw q_5 9 x1.toNatClampNeg x2) (fun M_11 =>
 nm (f_X5_forgetStart M_11) (fun q_13 =>
 some (x3_8, q_13)))))))))
set_option maxRecDepth 100000 in
set_option maxHeartbeats 4000000 in
theorem c_X6_start {G : Gm} {l : Launch} (d : Nat) {x1 : Int32} {x2 : Int32} {M : Mm} {r : Int32 × Mm}  (h : f_X6_start x1 x2 M = some r) : Cm G l (d + 3) yX6_start cX6_start 4 (some .int) [.ref (gR G 0), .int x1, .int x2] M (some (.int r.1)) r.2 := by
  unfold f_X6_start at h
  refine m_met (lv := [some (.ref (gR G 0)), some (.int x1), some (.int x2), none]) (own := RX6) (by decide +kernel) rfl rfl (Nat.le_of_ble_eq_true rfl) rfl ?_
  intro X hX hc hr
  subst hX
  refine m_iload_n hc dX6_start_0 rfl ?_
  refine m_callSi hc (c_X6_isPedal (d + 2) rfl) (by omega) (by decide) wm_X6_126 wt_X6_isPedal wv_X6_isPedal wc_X6_isPedal wz_X6_isPedal rfl (st := []) rfl rfl (Nat.le_of_ble_eq_true rfl) dX6_start_1 ?_
  refine m_ifeq hc (tgt := 14) dX6_start_4 (by decide) (fun b_1 => ?_) (fun b_1 => ?_)
  · replace h := (if_pos b_1).symm.trans h
    refine m_aload_n hc dX6_start_14 rfl ?_
    refine m_ldc hc dX6_start_15 wk_X6_57 ?_
    obtain ⟨q_2, c_3, h⟩ := nm_o h
    refine m_callVi hc yO_0 rfl (c_X6_finding (d + 2) c_3) (by omega) (by decide) wm_X6_58 wi_X6_finding we_X6_finding wn_X6 wc_X6_finding wy_X6_finding rfl (st := []) rfl rfl (Nat.le_of_ble_eq_true rfl) dX6_start_17 ?_
    cases h
    exact m_iret hc hr dX6_start_20
  · replace h := (if_neg b_1).symm.trans h
    refine m_iload_n hc dX6_start_7 rfl ?_
    refine m_callSi hc (c_X6_isStandOrNone (d + 2) rfl) (by omega) (by decide) wm_X6_129 wt_X6_isStandOrNone wv_X6_isStandOrNone wc_X6_isStandOrNone wz_X6_isStandOrNone rfl (st := []) rfl rfl (Nat.le_of_ble_eq_true rfl) dX6_start_8 ?_
    refine m_ifne hc (tgt := 21) dX6_start_11 (by decide) (fun b_4 => ?_) (fun b_4 => ?_)
    · replace h := (if_neg b_4).symm.trans h
      refine m_aload_n hc dX6_start_21 rfl ?_
      refine m_getR hc (q := 10) yO_0 rfl tbX6 2 (by decide) wf_X6_26 rfl dX6_start_22 ?_
      refine m_aload_n hc dX6_start_25 rfl ?_
      refine m_getR hc (q := 3) yO_0 rfl tbX6 1 (by decide) wf_X6_19 rfl dX6_start_26 ?_
      obtain ⟨q_5, c_6, h⟩ := bd_o h
      refine m_callVv hc yO_10 rfl (c_X2_keep (d + 0) kP_3lit c_6) (by omega) (by decide) wm_X6_62 wi_X2_keep we_X2_keep wn_X2 wc_X2_keep wy_X2_keep rfl (st := []) rfl rfl (Nat.le_of_ble_eq_true rfl) dX6_start_29 ?_
      refine m_aload_n hc dX6_start_32 rfl ?_
      refine m_getR hc (q := 3) yO_0 rfl tbX6 1 (by decide) wf_X6_19 rfl dX6_start_33 ?_
      refine m_getR hc (q := 9) yO_3 rfl tbX3 6 (by decide) wf_X6_135 rfl dX6_start_36 ?_
      refine m_iload_n hc dX6_start_39 rfl ?_
      obtain ⟨b_7, h⟩ := ck_o h
      refine m_iald hc yA_9 b_7 dX6_start_40 ?_
      refine m_topI (fun x3_8 e_9 => ?_)
      replace h := nm_x e_9 h
      refine m_istore_n hc (lv' := [some (.ref (gR G 0)), some (.int x1), some (.int x2), some (.int x3_8)]) dX6_start_41 (Nat.le_of_ble_eq_true rfl) rfl rfl ?_
      refine m_aload_n hc dX6_start_42 rfl ?_
      refine m_getR hc (q := 3) yO_0 rfl tbX6 1 (by decide) wf_X6_19 rfl dX6_start_43 ?_
      refine m_getR hc (q := 9) yO_3 rfl tbX3 6 (by decide) wf_X6_135 rfl dX6_start_46 ?_
      refine m_iload_n hc dX6_start_49 rfl ?_
      refine m_iload_n hc dX6_start_50 rfl ?_
      obtain ⟨b_10, h⟩ := ck_o h
      refine m_iast hc yA_9 b_10 dX6_start_51 ?_
      refine m_topM (fun M_11 e_12 => ?_)
      replace h := nm_x e_12 h
      refine m_aload_n hc dX6_start_52 rfl ?_
      refine m_getR hc (q := 161) yO_0 rfl tbX6 4 (by decide) wf_X6_42 rfl dX6_start_53 ?_
      obtain ⟨q_13, c_14, h⟩ := nm_o h
      refine m_callVv hc yO_161 rfl (c_X5_forgetStart (d + 1) c_14) (by omega) (by decide) wm_X6_138 wi_X5_forgetStart we_X5_forgetStart wn_X5 wc_X5_forgetStart wy_X5_forgetStart rfl (st := []) rfl rfl (Nat.le_of_ble_eq_true rfl) dX6_start_56 ?_
      refine m_iload_n hc dX6_start_59 rfl ?_
      cases h
      exact m_iret hc hr dX6_start_60
    · replace h := (if_pos b_4).symm.trans h
      refine m_aload_n hc dX6_start_14 rfl ?_
      refine m_ldc hc dX6_start_15 wk_X6_57 ?_
      obtain ⟨q_15, c_16, h⟩ := nm_o h
      refine m_callVi hc yO_0 rfl (c_X6_finding (d + 2) c_16) (by omega) (by decide) wm_X6_58 wi_X6_finding we_X6_finding wn_X6 wc_X6_finding wy_X6_finding rfl (st := []) rfl rfl (Nat.le_of_ble_eq_true rfl) dX6_start_17 ?_
      cases h
      exact m_iret hc hr dX6_start_20
def f_X6_isString (x0 : Int32) : Int32 :=
 if x0 < 0 then (
 (0 : Int32))
else (
 if (42 : Int32) ≤ x0 then (
 (0 : Int32))
else (
 (1 : Int32)))
set_option maxRecDepth 100000 in
set_option maxHeartbeats 4000000 in
theorem c_X6_isString {G : Gm} {l : Launch} (d : Nat) {x0 : Int32} {M : Mm} {r : Int32}  (h : f_X6_isString x0 = r) : Cm G l (d + 0) yX6_isString cX6_isString 1 (some .boolean) [.int x0] M (some (.int r)) M := by
  unfold f_X6_isString at h
  refine m_met (lv := [some (.int x0)]) (own := RX6) (by decide +kernel) rfl rfl (Nat.le_of_ble_eq_true rfl) rfl ?_
  intro X hX hc hr
  subst hX
  refine m_iload_n hc dX6_isString_0 rfl ?_
  refine m_iflt hc (tgt := 14) dX6_isString_1 (by decide) (fun b_1 => ?_) (fun b_1 => ?_)
  · replace h := (if_pos b_1).symm.trans h
    refine m_iconst hc (v := 0) dX6_isString_14 (by decide) ?_
    subst h
    exact m_zret hc hr (v := (0 : Int32)) (by decide) dX6_isString_15
  · replace h := (if_neg b_1).symm.trans h
    refine m_iload_n hc dX6_isString_4 rfl ?_
    refine m_bipush hc (v := (42 : Int32)) dX6_isString_5 (by decide) ?_
    refine m_icge hc (tgt := 14) dX6_isString_7 (by decide) (fun b_2 => ?_) (fun b_2 => ?_)
    · replace h := (if_pos b_2).symm.trans h
      refine m_iconst hc (v := 0) dX6_isString_14 (by decide) ?_
      subst h
      exact m_zret hc hr (v := (0 : Int32)) (by decide) dX6_isString_15
    · replace h := (if_neg b_2).symm.trans h
      refine m_iconst hc (v := 1) dX6_isString_10 (by decide) ?_
      refine m_goto hc (tgt := 15) dX6_isString_11 (by decide) ?_
      subst h
      exact m_zret hc hr (v := (1 : Int32)) (by decide) dX6_isString_15
theorem bz_X6_isString (x0 : Int32) : narrow .boolean (.int (f_X6_isString x0)) = .int (f_X6_isString x0) := by
  unfold f_X6_isString
  first | (repeat' split) <;> rfl | (first | rfl)
def f_X6_isDiagram (x0 : Int32) : Int32 :=
 if x0 < 0 then (
 (0 : Int32))
else (
 if (2187 : Int32) ≤ x0 then (
 (0 : Int32))
else (
 (1 : Int32)))
set_option maxRecDepth 100000 in
set_option maxHeartbeats 4000000 in
theorem c_X6_isDiagram {G : Gm} {l : Launch} (d : Nat) {x0 : Int32} {M : Mm} {r : Int32}  (h : f_X6_isDiagram x0 = r) : Cm G l (d + 0) yX6_isDiagram cX6_isDiagram 1 (some .boolean) [.int x0] M (some (.int r)) M := by
  unfold f_X6_isDiagram at h
  refine m_met (lv := [some (.int x0)]) (own := RX6) (by decide +kernel) rfl rfl (Nat.le_of_ble_eq_true rfl) rfl ?_
  intro X hX hc hr
  subst hX
  refine m_iload_n hc dX6_isDiagram_0 rfl ?_
  refine m_iflt hc (tgt := 15) dX6_isDiagram_1 (by decide) (fun b_1 => ?_) (fun b_1 => ?_)
  · replace h := (if_pos b_1).symm.trans h
    refine m_iconst hc (v := 0) dX6_isDiagram_15 (by decide) ?_
    subst h
    exact m_zret hc hr (v := (0 : Int32)) (by decide) dX6_isDiagram_16
  · replace h := (if_neg b_1).symm.trans h
    refine m_iload_n hc dX6_isDiagram_4 rfl ?_
    refine m_sipush hc (v := (2187 : Int32)) dX6_isDiagram_5 (by decide) ?_
    refine m_icge hc (tgt := 15) dX6_isDiagram_8 (by decide) (fun b_2 => ?_) (fun b_2 => ?_)
    · replace h := (if_pos b_2).symm.trans h
      refine m_iconst hc (v := 0) dX6_isDiagram_15 (by decide) ?_
      subst h
      exact m_zret hc hr (v := (0 : Int32)) (by decide) dX6_isDiagram_16
    · replace h := (if_neg b_2).symm.trans h
      refine m_iconst hc (v := 1) dX6_isDiagram_11 (by decide) ?_
      refine m_goto hc (tgt := 16) dX6_isDiagram_12 (by decide) ?_
      subst h
      exact m_zret hc hr (v := (1 : Int32)) (by decide) dX6_isDiagram_16
theorem bz_X6_isDiagram (x0 : Int32) : narrow .boolean (.int (f_X6_isDiagram x0)) = .int (f_X6_isDiagram x0) := by
  unfold f_X6_isDiagram
  first | (repeat' split) <;> rfl | (first | rfl)
def f_X1_natural (x0 : Int32) : Option (Int32) :=
 ck (ib (x0 - x0 / (7 : Int32) * (7 : Int32)) 7) (
 some (((12 : Int32) * (x0 / (7 : Int32))) + (st_ 1 (x0 - x0 / (7 : Int32) * (7 : Int32)).toNatClampNeg)))
set_option maxRecDepth 100000 in
set_option maxHeartbeats 4000000 in
theorem c_X1_natural {G : Gm} {l : Launch} (d : Nat) {x0 : Int32} {M : Mm} {r : Int32}  (h : f_X1_natural x0 = some r) : Cm G l (d + 0) yX1_natural cX1_natural 1 (some .int) [.int x0] M (some (.int r)) M := by
  unfold f_X1_natural at h
  refine m_met (lv := [some (.int x0)]) (own := RX1) (by decide +kernel) rfl rfl (Nat.le_of_ble_eq_true rfl) rfl ?_
  intro X hX hc hr
  subst hX
  refine m_bipush hc (v := (12 : Int32)) dX1_natural_0 (by decide) ?_
  refine m_iload_n hc dX1_natural_2 rfl ?_
  refine m_bipush hc (v := (7 : Int32)) dX1_natural_3 (by decide) ?_
  refine m_idiv hc dX1_natural_5 (by decide) ?_
  refine m_imul hc dX1_natural_6 ?_
  refine m_sget hc 1 (by decide) ws_X1_15 dX1_natural_7 ?_
  refine m_iload_n hc dX1_natural_10 rfl ?_
  refine m_bipush hc (v := (7 : Int32)) dX1_natural_11 (by decide) ?_
  refine m_irem hc dX1_natural_13 (by decide) ?_
  obtain ⟨b_1, h⟩ := ck_o h
  refine m_sald hc 1 (by decide) rfl b_1 dX1_natural_14 ?_
  refine m_iadd hc dX1_natural_15 ?_
  cases h
  exact m_iret hc hr dX1_natural_16
def f_X1_standIn (x0 : Int32) (x1 : Int32) : Int32 :=
 ((x0 >>> (((2 : Int32) * x1) &&& 31)) &&& (3 : Int32))
set_option maxRecDepth 100000 in
set_option maxHeartbeats 4000000 in
theorem c_X1_standIn {G : Gm} {l : Launch} (d : Nat) {x0 : Int32} {x1 : Int32} {M : Mm} {r : Int32}  (h : f_X1_standIn x0 x1 = r) : Cm G l (d + 0) yX1_standIn cX1_standIn 2 (some .int) [.int x0, .int x1] M (some (.int r)) M := by
  unfold f_X1_standIn at h
  refine m_met (lv := [some (.int x0), some (.int x1)]) (own := RX1) (by decide +kernel) rfl rfl (Nat.le_of_ble_eq_true rfl) rfl ?_
  intro X hX hc hr
  subst hX
  refine m_iload_n hc dX1_standIn_0 rfl ?_
  refine m_iconst hc (v := 2) dX1_standIn_1 (by decide) ?_
  refine m_iload_n hc dX1_standIn_2 rfl ?_
  refine m_imul hc dX1_standIn_3 ?_
  refine m_ishr hc dX1_standIn_4 ?_
  refine m_iconst hc (v := 3) dX1_standIn_5 (by decide) ?_
  refine m_iand hc dX1_standIn_6 ?_
  subst h
  exact m_iret hc hr dX1_standIn_7
def f_X1_pitchOf (x1 : Int32) (x2 : Int32) (M : Mm) : Option (Int32) :=
 Option.bind (f_X1_natural x1) (fun q_1 =>
 ck (ib x2 2187) (
 some ((q_1 + (f_X1_standIn (M 2 x2.toNatClampNeg) (x1 - x1 / (7 : Int32) * (7 : Int32)))) - (1 : Int32))))
set_option maxRecDepth 100000 in
set_option maxHeartbeats 4000000 in
theorem c_X1_pitchOf {G : Gm} {l : Launch} (d : Nat) {x1 : Int32} {x2 : Int32} {M : Mm} {r : Int32}  (h : f_X1_pitchOf x1 x2 M = some r) : Cm G l (d + 1) yX1_pitchOf cX1_pitchOf 3 (some .int) [.ref (gR G 1), .int x1, .int x2] M (some (.int r)) M := by
  unfold f_X1_pitchOf at h
  refine m_met (lv := [some (.ref (gR G 1)), some (.int x1), some (.int x2)]) (own := RX1) (by decide +kernel) rfl rfl (Nat.le_of_ble_eq_true rfl) rfl ?_
  intro X hX hc hr
  subst hX
  refine m_iload_n hc dX1_pitchOf_0 rfl ?_
  obtain ⟨q_1, c_2, h⟩ := bd_o h
  refine m_callSi hc (c_X1_natural (d + 0) c_2) (by omega) (by decide) wm_X1_18 wt_X1_natural wv_X1_natural wc_X1_natural wz_X1_natural rfl (st := []) rfl rfl (Nat.le_of_ble_eq_true rfl) dX1_pitchOf_1 ?_
  refine m_aload_n hc dX1_pitchOf_4 rfl ?_
  refine m_getR hc (q := 2) yO_1 rfl tbX1 0 (by decide) wf_X1_9 rfl dX1_pitchOf_5 ?_
  refine m_iload_n hc dX1_pitchOf_8 rfl ?_
  obtain ⟨b_3, h⟩ := ck_o h
  refine m_iald hc yA_2 b_3 dX1_pitchOf_9 ?_
  refine m_iload_n hc dX1_pitchOf_10 rfl ?_
  refine m_bipush hc (v := (7 : Int32)) dX1_pitchOf_11 (by decide) ?_
  refine m_irem hc dX1_pitchOf_13 (by decide) ?_
  refine m_callSi hc (c_X1_standIn (d + 0) rfl) (by omega) (by decide) wm_X1_22 wt_X1_standIn wv_X1_standIn wc_X1_standIn wz_X1_standIn rfl (st := [.int q_1]) rfl rfl (Nat.le_of_ble_eq_true rfl) dX1_pitchOf_14 ?_
  refine m_iadd hc dX1_pitchOf_17 ?_
  refine m_iconst hc (v := 1) dX1_pitchOf_18 (by decide) ?_
  refine m_isub hc dX1_pitchOf_19 ?_
  cases h
  exact m_iret hc hr dX1_pitchOf_20
def f_X6_pitch (x1 : Int32) (x2 : Int32) (M : Mm) : Option (Int32 × Mm) :=
 if (f_X6_isString x1) = 0 then (
 nm (f_X6_finding (-100001 : Int32) M) (fun q_2 =>
 some (q_2.1, q_2.2)))
else (
 if (f_X6_isDiagram x2) = 0 then (
 nm (f_X6_finding (-100001 : Int32) M) (fun q_7 =>
 some (q_7.1, q_7.2)))
else (
 Option.bind (f_X1_pitchOf x1 x2 M) (fun q_5 =>
 some (q_5, M))))
set_option maxRecDepth 100000 in
set_option maxHeartbeats 4000000 in
theorem c_X6_pitch {G : Gm} {l : Launch} (d : Nat) {x1 : Int32} {x2 : Int32} {M : Mm} {r : Int32 × Mm}  (h : f_X6_pitch x1 x2 M = some r) : Cm G l (d + 2) yX6_pitch cX6_pitch 3 (some .int) [.ref (gR G 0), .int x1, .int x2] M (some (.int r.1)) r.2 := by
  unfold f_X6_pitch at h
  refine m_met (lv := [some (.ref (gR G 0)), some (.int x1), some (.int x2)]) (own := RX6) (by decide +kernel) rfl rfl (Nat.le_of_ble_eq_true rfl) rfl ?_
  intro X hX hc hr
  subst hX
  refine m_iload_n hc dX6_pitch_0 rfl ?_
  refine m_callSi hc (c_X6_isString (d + 1) rfl) (by omega) (by decide) wm_X6_141 wt_X6_isString wv_X6_isString wc_X6_isString wz_X6_isString rfl (st := []) rfl rfl (Nat.le_of_ble_eq_true rfl) dX6_pitch_1 ?_
  refine m_ifeq hc (tgt := 14) dX6_pitch_4 (by decide) (fun b_1 => ?_) (fun b_1 => ?_)
  · replace h := (if_pos b_1).symm.trans h
    refine m_aload_n hc dX6_pitch_14 rfl ?_
    refine m_ldc hc dX6_pitch_15 wk_X6_57 ?_
    obtain ⟨q_2, c_3, h⟩ := nm_o h
    refine m_callVi hc yO_0 rfl (c_X6_finding (d + 1) c_3) (by omega) (by decide) wm_X6_58 wi_X6_finding we_X6_finding wn_X6 wc_X6_finding wy_X6_finding rfl (st := []) rfl rfl (Nat.le_of_ble_eq_true rfl) dX6_pitch_17 ?_
    cases h
    exact m_iret hc hr dX6_pitch_20
  · replace h := (if_neg b_1).symm.trans h
    refine m_iload_n hc dX6_pitch_7 rfl ?_
    refine m_callSi hc (c_X6_isDiagram (d + 1) rfl) (by omega) (by decide) wm_X6_144 wt_X6_isDiagram wv_X6_isDiagram wc_X6_isDiagram wz_X6_isDiagram rfl (st := []) rfl rfl (Nat.le_of_ble_eq_true rfl) dX6_pitch_8 ?_
    refine m_ifne hc (tgt := 21) dX6_pitch_11 (by decide) (fun b_4 => ?_) (fun b_4 => ?_)
    · replace h := (if_neg b_4).symm.trans h
      refine m_aload_n hc dX6_pitch_21 rfl ?_
      refine m_getR hc (q := 1) yO_0 rfl tbX6 0 (by decide) wf_X6_10 rfl dX6_pitch_22 ?_
      refine m_iload_n hc dX6_pitch_25 rfl ?_
      refine m_iload_n hc dX6_pitch_26 rfl ?_
      obtain ⟨q_5, c_6, h⟩ := bd_o h
      refine m_callVi hc yO_1 rfl (c_X1_pitchOf (d + 0) c_6) (by omega) (by decide) wm_X6_147 wi_X1_pitchOf we_X1_pitchOf wn_X1 wc_X1_pitchOf wy_X1_pitchOf rfl (st := []) rfl rfl (Nat.le_of_ble_eq_true rfl) dX6_pitch_27 ?_
      cases h
      exact m_iret hc hr dX6_pitch_30
    · replace h := (if_pos b_4).symm.trans h
      refine m_aload_n hc dX6_pitch_14 rfl ?_
      refine m_ldc hc dX6_pitch_15 wk_X6_57 ?_
      obtain ⟨q_7, c_8, h⟩ := nm_o h
      refine m_callVi hc yO_0 rfl (c_X6_finding (d + 1) c_8) (by omega) (by decide) wm_X6_58 wi_X6_finding we_X6_finding wn_X6 wc_X6_finding wy_X6_finding rfl (st := []) rfl rfl (Nat.le_of_ble_eq_true rfl) dX6_pitch_17 ?_
      cases h
      exact m_iret hc hr dX6_pitch_20
