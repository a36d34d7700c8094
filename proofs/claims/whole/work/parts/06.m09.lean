def f_X7_isBeat (x0 : Int32) : Int32 :=
 (f_X7_isIn x0 (0 : Int32) (11 : Int32))
set_option maxRecDepth 100000 in
set_option maxHeartbeats 4000000 in
theorem c_X7_isBeat {G : Gm} {l : Launch} (d : Nat) {x0 : Int32} {M : Mm} {r : Int32}  (h : f_X7_isBeat x0 = r) : Cm G l (d + 1) yX7_isBeat cX7_isBeat 1 (some .boolean) [.int x0] M (some (.int r)) M := by
  unfold f_X7_isBeat at h
  refine m_met (lv := [some (.int x0)]) (own := RX7) (by decide +kernel) rfl rfl (Nat.le_of_ble_eq_true rfl) rfl ?_
  intro X hX hc hr
  subst hX
  refine m_iload_n hc dX7_isBeat_0 rfl ?_
  refine m_iconst hc (v := 0) dX7_isBeat_1 (by decide) ?_
  refine m_bipush hc (v := (11 : Int32)) dX7_isBeat_2 (by decide) ?_
  refine m_callSi hc (c_X7_isIn (d + 0) rfl) (by omega) (by decide) wm_X7_60 wt_X7_isIn wv_X7_isIn wc_X7_isIn wz_X7_isIn rfl (st := []) rfl rfl (Nat.le_of_ble_eq_true rfl) dX7_isBeat_4 ?_
  subst h
  exact m_zret hc hr (bz_X7_isIn x0 (0 : Int32) (11 : Int32)) dX7_isBeat_7
theorem bz_X7_isBeat (x0 : Int32) : narrow .boolean (.int (f_X7_isBeat x0)) = .int (f_X7_isBeat x0) := by
  unfold f_X7_isBeat
  first | (repeat' split) <;> rfl | (first | exact bz_X7_isIn _ _ _)
def f_X7_isPlayed (x1 : Int32) (M : Mm) : Option (Int32) :=
 ck (ib (0 : Int32) 320) (
 some (f_X7_isIn x1 (0 : Int32) ((M 213 (0 : Int32).toNatClampNeg) - (1 : Int32))))
set_option maxRecDepth 100000 in
set_option maxHeartbeats 4000000 in
theorem c_X7_isPlayed {G : Gm} {l : Launch} (d : Nat) {x1 : Int32} {M : Mm} {r : Int32}  (h : f_X7_isPlayed x1 M = some r) : Cm G l (d + 1) yX7_isPlayed cX7_isPlayed 2 (some .boolean) [.ref (gR G 212), .int x1] M (some (.int r)) M := by
  unfold f_X7_isPlayed at h
  refine m_met (lv := [some (.ref (gR G 212)), some (.int x1)]) (own := RX7) (by decide +kernel) rfl rfl (Nat.le_of_ble_eq_true rfl) rfl ?_
  intro X hX hc hr
  subst hX
  refine m_iload_n hc dX7_isPlayed_0 rfl ?_
  refine m_iconst hc (v := 0) dX7_isPlayed_1 (by decide) ?_
  refine m_aload_n hc dX7_isPlayed_2 rfl ?_
  refine m_getR hc (q := 213) yO_212 rfl tbX7 0 (by decide) wf_X7_7 rfl dX7_isPlayed_3 ?_
  refine m_iconst hc (v := 0) dX7_isPlayed_6 (by decide) ?_
  obtain ⟨b_1, h⟩ := ck_o h
  refine m_iald hc yA_213 b_1 dX7_isPlayed_7 ?_
  refine m_iconst hc (v := 1) dX7_isPlayed_8 (by decide) ?_
  refine m_isub hc dX7_isPlayed_9 ?_
  refine m_callSi hc (c_X7_isIn (d + 0) rfl) (by omega) (by decide) wm_X7_60 wt_X7_isIn wv_X7_isIn wc_X7_isIn wz_X7_isIn rfl (st := []) rfl rfl (Nat.le_of_ble_eq_true rfl) dX7_isPlayed_10 ?_
  cases h
  exact m_zret hc hr (bz_X7_isIn x1 (0 : Int32) ((M 213 (0 : Int32).toNatClampNeg) - (1 : Int32))) dX7_isPlayed_13
def f_X7_isPedal (x0 : Int32) : Int32 :=
 (f_X7_isIn x0 (0 : Int32) (6 : Int32))
set_option maxRecDepth 100000 in
set_option maxHeartbeats 4000000 in
theorem c_X7_isPedal {G : Gm} {l : Launch} (d : Nat) {x0 : Int32} {M : Mm} {r : Int32}  (h : f_X7_isPedal x0 = r) : Cm G l (d + 1) yX7_isPedal cX7_isPedal 1 (some .boolean) [.int x0] M (some (.int r)) M := by
  unfold f_X7_isPedal at h
  refine m_met (lv := [some (.int x0)]) (own := RX7) (by decide +kernel) rfl rfl (Nat.le_of_ble_eq_true rfl) rfl ?_
  intro X hX hc hr
  subst hX
  refine m_iload_n hc dX7_isPedal_0 rfl ?_
  refine m_iconst hc (v := 0) dX7_isPedal_1 (by decide) ?_
  refine m_bipush hc (v := (6 : Int32)) dX7_isPedal_2 (by decide) ?_
  refine m_callSi hc (c_X7_isIn (d + 0) rfl) (by omega) (by decide) wm_X7_60 wt_X7_isIn wv_X7_isIn wc_X7_isIn wz_X7_isIn rfl (st := []) rfl rfl (Nat.le_of_ble_eq_true rfl) dX7_isPedal_4 ?_
  subst h
  exact m_zret hc hr (bz_X7_isIn x0 (0 : Int32) (6 : Int32)) dX7_isPedal_7
theorem bz_X7_isPedal (x0 : Int32) : narrow .boolean (.int (f_X7_isPedal x0)) = .int (f_X7_isPedal x0) := by
  unfold f_X7_isPedal
  first | (repeat' split) <;> rfl | (first | exact bz_X7_isIn _ _ _)
def f_X7_isDiagram (x0 : Int32) : Int32 :=
 (f_X7_isIn x0 (0 : Int32) (2186 : Int32))
set_option maxRecDepth 100000 in
set_option maxHeartbeats 4000000 in
theorem c_X7_isDiagram {G : Gm} {l : Launch} (d : Nat) {x0 : Int32} {M : Mm} {r : Int32}  (h : f_X7_isDiagram x0 = r) : Cm G l (d + 1) yX7_isDiagram cX7_isDiagram 1 (some .boolean) [.int x0] M (some (.int r)) M := by
  unfold f_X7_isDiagram at h
  refine m_met (lv := [some (.int x0)]) (own := RX7) (by decide +kernel) rfl rfl (Nat.le_of_ble_eq_true rfl) rfl ?_
  intro X hX hc hr
  subst hX
  refine m_iload_n hc dX7_isDiagram_0 rfl ?_
  refine m_iconst hc (v := 0) dX7_isDiagram_1 (by decide) ?_
  refine m_sipush hc (v := (2186 : Int32)) dX7_isDiagram_2 (by decide) ?_
  refine m_callSi hc (c_X7_isIn (d + 0) rfl) (by omega) (by decide) wm_X7_60 wt_X7_isIn wv_X7_isIn wc_X7_isIn wz_X7_isIn rfl (st := []) rfl rfl (Nat.le_of_ble_eq_true rfl) dX7_isDiagram_5 ?_
  subst h
  exact m_zret hc hr (bz_X7_isIn x0 (0 : Int32) (2186 : Int32)) dX7_isDiagram_8
theorem bz_X7_isDiagram (x0 : Int32) : narrow .boolean (.int (f_X7_isDiagram x0)) = .int (f_X7_isDiagram x0) := by
  unfold f_X7_isDiagram
  first | (repeat' split) <;> rfl | (first | exact bz_X7_isIn _ _ _)
def f_X7_isNote (x1 : Int32) (x2 : Int32) (M : Mm) : Option (Int32) :=
 if (f_X7_isBeat x1) = 0 then (
 some (0 : Int32))
else (
 if x2 < 0 then (
 some (0 : Int32))
else (
 ck (ib ((1 : Int32) + x1) 320) (
 if (M 213 ((1 : Int32) + x1).toNatClampNeg) ≤ x2 then (
 some (0 : Int32))
else (
 some (1 : Int32)))))
set_option maxRecDepth 100000 in
set_option maxHeartbeats 4000000 in
theorem c_X7_isNote {G : Gm} {l : Launch} (d : Nat) {x1 : Int32} {x2 : Int32} {M : Mm} {r : Int32}  (h : f_X7_isNote x1 x2 M = some r) : Cm G l (d + 2) yX7_isNote cX7_isNote 3 (some .boolean) [.ref (gR G 212), .int x1, .int x2] M (some (.int r)) M := by
  unfold f_X7_isNote at h
  refine m_met (lv := [some (.ref (gR G 212)), some (.int x1), some (.int x2)]) (own := RX7) (by decide +kernel) rfl rfl (Nat.le_of_ble_eq_true rfl) rfl ?_
  intro X hX hc hr
  subst hX
  refine m_iload_n hc dX7_isNote_0 rfl ?_
  refine m_callSi hc (c_X7_isBeat (d + 0) rfl) (by omega) (by decide) wm_X7_64 wt_X7_isBeat wv_X7_isBeat wc_X7_isBeat wz_X7_isBeat rfl (st := []) rfl rfl (Nat.le_of_ble_eq_true rfl) dX7_isNote_1 ?_
  refine m_ifeq hc (tgt := 27) dX7_isNote_4 (by decide) (fun b_1 => ?_) (fun b_1 => ?_)
  · replace h := (if_pos b_1).symm.trans h
    refine m_iconst hc (v := 0) dX7_isNote_27 (by decide) ?_
    cases h
    exact m_zret hc hr (v := (0 : Int32)) (by decide) dX7_isNote_28
  · replace h := (if_neg b_1).symm.trans h
    refine m_iload_n hc dX7_isNote_7 rfl ?_
    refine m_iflt hc (tgt := 27) dX7_isNote_8 (by decide) (fun b_2 => ?_) (fun b_2 => ?_)
    · replace h := (if_pos b_2).symm.trans h
      refine m_iconst hc (v := 0) dX7_isNote_27 (by decide) ?_
      cases h
      exact m_zret hc hr (v := (0 : Int32)) (by decide) dX7_isNote_28
    · replace h := (if_neg b_2).symm.trans h
      refine m_iload_n hc dX7_isNote_11 rfl ?_
      refine m_aload_n hc dX7_isNote_12 rfl ?_
      refine m_getR hc (q := 213) yO_212 rfl tbX7 0 (by decide) wf_X7_7 rfl dX7_isNote_13 ?_
      refine m_iconst hc (v := 1) dX7_isNote_16 (by decide) ?_
      refine m_iload_n hc dX7_isNote_17 rfl ?_
      refine m_iadd hc dX7_isNote_18 ?_
      obtain ⟨b_3, h⟩ := ck_o h
      refine m_iald hc yA_213 b_3 dX7_isNote_19 ?_
      refine m_icge hc (tgt := 27) dX7_isNote_20 (by decide) (fun b_4 => ?_) (fun b_4 => ?_)
      · replace h := (if_pos b_4).symm.trans h
        refine m_iconst hc (v := 0) dX7_isNote_27 (by decide) ?_
        cases h
        exact m_zret hc hr (v := (0 : Int32)) (by decide) dX7_isNote_28
      · replace h := (if_neg b_4).symm.trans h
        refine m_iconst hc (v := 1) dX7_isNote_23 (by decide) ?_
        refine m_goto hc (tgt := 28) dX7_isNote_24 (by decide) ?_
        cases h
        exact m_zret hc hr (v := (1 : Int32)) (by decide) dX7_isNote_28
def f_X7_note (x1 : Int32) (x2 : Int32) (x3 : Int32) (M : Mm) : Option (Int32) :=
 ck (ib (((13 : Int32) + ((3 : Int32) * (((6 : Int32) * x1) + x2))) + x3) 320) (
 some (M 213 (((13 : Int32) + ((3 : Int32) * (((6 : Int32) * x1) + x2))) + x3).toNatClampNeg))
set_option maxRecDepth 100000 in
set_option maxHeartbeats 4000000 in
theorem c_X7_note {G : Gm} {l : Launch} (d : Nat) {x1 : Int32} {x2 : Int32} {x3 : Int32} {M : Mm} {r : Int32}  (h : f_X7_note x1 x2 x3 M = some r) : Cm G l (d + 0) yX7_note cX7_note 4 (some .int) [.ref (gR G 212), .int x1, .int x2, .int x3] M (some (.int r)) M := by
  unfold f_X7_note at h
  refine m_met (lv := [some (.ref (gR G 212)), some (.int x1), some (.int x2), some (.int x3)]) (own := RX7) (by decide +kernel) rfl rfl (Nat.le_of_ble_eq_true rfl) rfl ?_
  intro X hX hc hr
  subst hX
  refine m_aload_n hc dX7_note_0 rfl ?_
  refine m_getR hc (q := 213) yO_212 rfl tbX7 0 (by decide) wf_X7_7 rfl dX7_note_1 ?_
  refine m_bipush hc (v := (13 : Int32)) dX7_note_4 (by decide) ?_
  refine m_iconst hc (v := 3) dX7_note_6 (by decide) ?_
  refine m_bipush hc (v := (6 : Int32)) dX7_note_7 (by decide) ?_
  refine m_iload_n hc dX7_note_9 rfl ?_
  refine m_imul hc dX7_note_10 ?_
  refine m_iload_n hc dX7_note_11 rfl ?_
  refine m_iadd hc dX7_note_12 ?_
  refine m_imul hc dX7_note_13 ?_
  refine m_iadd hc dX7_note_14 ?_
  refine m_iload_n hc dX7_note_15 rfl ?_
  refine m_iadd hc dX7_note_16 ?_
  obtain ⟨b_1, h⟩ := ck_o h
  refine m_iald hc yA_213 b_1 dX7_note_17 ?_
  cases h
  exact m_iret hc hr dX7_note_18
def L_X7_keep_11 : Nat → Int32 → Mm → Option (Mm)
  | 0, _, _ => none
  | n_29 + 1, x1_22, M_23 =>
    if (6080 : Int32) ≤ x1_22 then (
     some M_23)
    else (
     ck (ib (x1_22 + (320 : Int32)) 6400) (
     ck (ib x1_22 6400) (
     nm (mw M_23 214 x1_22.toNatClampNeg (M_23 214 (x1_22 + (320 : Int32)).toNatClampNeg)) (fun M_34 =>
     L_X7_keep_11 n_29 (x1_22 + 1) M_34))))
def L_X7_keep_52 : Nat → Int32 → Mm → Option (Mm)
  | 0, _, _ => none
  | n_45 + 1, x1_38, M_39 =>
    if (320 : Int32) ≤ x1_38 then (
     some M_39)
    else (
     ck (ib x1_38 320) (
     ck (ib (((320 : Int32) * (M_39 212 2)) + x1_38) 6400) (
     nm (mw M_39 214 (((320 : Int32) * (M_39 212 2)) + x1_38).toNatClampNeg (M_39 213 x1_38.toNatClampNeg)) (fun M_50 =>
     L_X7_keep_52 n_45 (x1_38 + 1) M_50))))
def f_X7_keep (M : Mm) : Option (Mm) :=
 Option.bind (
 if (M 212 2) = (20 : Int32) then (
 Option.bind (L_X7_keep_11 FU (0 : Int32) M) (fun q_24 =>
 nm (mw q_24 212 2 ((q_24 212 2) - (1 : Int32))) (fun M_36 =>
 some M_36)))
else (
 some M)) (fun q_18 =>
 Option.bind (L_X7_keep_52 FU (0 : Int32) q_18) (fun q_40 =>
 nm (mw q_40 212 2 ((q_40 212 2) + (1 : Int32))) (fun M_52 =>
 some M_52)))
set_option maxRecDepth 100000 in
set_option maxHeartbeats 4000000 in
theorem c_X7_keep {G : Gm} {l : Launch} (d : Nat) {M : Mm} {r : Mm}  (h : f_X7_keep M = some r) : Cm G l (d + 0) yX7_keep cX7_keep 2 none [.ref (gR G 212)] M none r := by
  unfold f_X7_keep at h
  refine m_met (lv := [some (.ref (gR G 212)), none]) (own := RX7) (by decide +kernel) rfl rfl (Nat.le_of_ble_eq_true rfl) rfl ?_
  intro X hX hc hr
  subst hX
  refine m_aload_n hc dX7_keep_0 rfl ?_
  refine m_getI hc yO_212 rfl tbX7 2 (by decide) wf_X7_68 rfl dX7_keep_1 ?_
  refine m_bipush hc (v := (20 : Int32)) dX7_keep_4 (by decide) ?_
  obtain ⟨q_18, c_19, h⟩ := bd_o h
  have J_20 : WM G X (qQ G X none r) q_18 50 [some (.ref (gR G 212)), none] [] := by
    refine m_iconst hc (v := 0) dX7_keep_50 (by decide) ?_
    refine m_istore_n hc (lv' := [some (.ref (gR G 212)), some (.int (0 : Int32))]) dX7_keep_51 (Nat.le_of_ble_eq_true rfl) rfl rfl ?_
    obtain ⟨q_40, c_41, h⟩ := bd_o h
    have J_42 : WM G X (qQ G X none r) q_40 86 [some (.ref (gR G 212)), none] [] := by
      refine m_aload_n hc dX7_keep_86 rfl ?_
      refine m_dup hc dX7_keep_87 rfl ?_
      refine m_getI hc yO_212 rfl tbX7 2 (by decide) wf_X7_68 rfl dX7_keep_88 ?_
      refine m_iconst hc (v := 1) dX7_keep_91 (by decide) ?_
      refine m_iadd hc dX7_keep_92 ?_
      refine m_putI hc yO_212 rfl tbX7 tyX7 tyX7_ok nmX7 2 (by decide) wf_X7_68 rfl rfl rfl rfl dX7_keep_93 ?_
      refine m_topM (fun M_52 e_53 => ?_)
      replace h := nm_x e_53 h
      cases h
      exact m_vret hc hr dX7_keep_96
    have L_43 : ∀ (n_45 : Nat) (x1_38 : Int32) (M_39 : Mm), L_X7_keep_52 n_45 x1_38 M_39 = some q_40 → WM G X (qQ G X none r) M_39 52 [some (.ref (gR G 212)), some (.int x1_38)] [] := by
      intro n_45
      induction n_45 with
      | zero =>
        intro x1_38 M_39 h
        cases (show none = some _ from h)
      | succ n_45 i_46 =>
        intro x1_38 M_39 h
        rw [L_X7_keep_52] at h
        refine m_iload_n hc dX7_keep_52 rfl ?_
        refine m_sipush hc (v := (320 : Int32)) dX7_keep_53 (by decide) ?_
        refine m_icge hc (tgt := 86) dX7_keep_56 (by decide) (fun b_47 => ?_) (fun b_47 => ?_)
        · replace h := (if_pos b_47).symm.trans h
          cases h
          exact m_fg [1] rfl J_42
        · replace h := (if_neg b_47).symm.trans h
          refine m_aload_n hc dX7_keep_59 rfl ?_
          refine m_getR hc (q := 214) yO_212 rfl tbX7 1 (by decide) wf_X7_13 rfl dX7_keep_60 ?_
          refine m_sipush hc (v := (320 : Int32)) dX7_keep_63 (by decide) ?_
          refine m_aload_n hc dX7_keep_66 rfl ?_
          refine m_getI hc yO_212 rfl tbX7 2 (by decide) wf_X7_68 rfl dX7_keep_67 ?_
          refine m_imul hc dX7_keep_70 ?_
          refine m_iload_n hc dX7_keep_71 rfl ?_
          refine m_iadd hc dX7_keep_72 ?_
          refine m_aload_n hc dX7_keep_73 rfl ?_
          refine m_getR hc (q := 213) yO_212 rfl tbX7 0 (by decide) wf_X7_7 rfl dX7_keep_74 ?_
          refine m_iload_n hc dX7_keep_77 rfl ?_
          obtain ⟨b_48, h⟩ := ck_o h
          refine m_iald hc yA_213 b_48 dX7_keep_78 ?_
          obtain ⟨b_49, h⟩ := ck_o h
          refine m_iast hc yA_214 b_49 dX7_keep_79 ?_
          refine m_topM (fun M_50 e_51 => ?_)
          replace h := nm_x e_51 h
          refine m_iinc hc (v := x1_38 + 1) (lv' := [some (.ref (gR G 212)), some (.int (x1_38 + 1))]) dX7_keep_80 rfl rfl rfl rfl ?_
          refine m_goto hc (tgt := 52) dX7_keep_83 (by decide) ?_
          exact m_fg [] rfl (i_46 _ _ h)
    exact m_fg [] rfl (L_43 _ _ _ c_41)
  replace h := c_19
  refine m_icne hc (tgt := 50) dX7_keep_6 (by decide) (fun b_21 => ?_) (fun b_21 => ?_)
  · replace h := (if_neg b_21).symm.trans h
    cases h
    exact m_fg [] rfl J_20
  · replace h := (if_pos b_21).symm.trans h
    refine m_iconst hc (v := 0) dX7_keep_9 (by decide) ?_
    refine m_istore_n hc (lv' := [some (.ref (gR G 212)), some (.int (0 : Int32))]) dX7_keep_10 (Nat.le_of_ble_eq_true rfl) rfl rfl ?_
    obtain ⟨q_24, c_25, h⟩ := bd_o h
    have J_26 : WM G X (qQ G X none r) q_24 40 [some (.ref (gR G 212)), none] [] := by
      refine m_aload_n hc dX7_keep_40 rfl ?_
      refine m_dup hc dX7_keep_41 rfl ?_
      refine m_getI hc yO_212 rfl tbX7 2 (by decide) wf_X7_68 rfl dX7_keep_42 ?_
      refine m_iconst hc (v := 1) dX7_keep_45 (by decide) ?_
      refine m_isub hc dX7_keep_46 ?_
      refine m_putI hc yO_212 rfl tbX7 tyX7 tyX7_ok nmX7 2 (by decide) wf_X7_68 rfl rfl rfl rfl dX7_keep_47 ?_
      refine m_topM (fun M_36 e_37 => ?_)
      replace h := nm_x e_37 h
      cases h
      exact m_fg [] rfl J_20
    have L_27 : ∀ (n_29 : Nat) (x1_22 : Int32) (M_23 : Mm), L_X7_keep_11 n_29 x1_22 M_23 = some q_24 → WM G X (qQ G X none r) M_23 11 [some (.ref (gR G 212)), some (.int x1_22)] [] := by
      intro n_29
      induction n_29 with
      | zero =>
        intro x1_22 M_23 h
        cases (show none = some _ from h)
      | succ n_29 i_30 =>
        intro x1_22 M_23 h
        rw [L_X7_keep_11] at h
        refine m_iload_n hc dX7_keep_11 rfl ?_
        refine m_sipush hc (v := (6080 : Int32)) dX7_keep_12 (by decide) ?_
        refine m_icge hc (tgt := 40) dX7_keep_15 (by decide) (fun b_31 => ?_) (fun b_31 => ?_)
        · replace h := (if_pos b_31).symm.trans h
          cases h
          exact m_fg [1] rfl J_26
        · replace h := (if_neg b_31).symm.trans h
          refine m_aload_n hc dX7_keep_18 rfl ?_
          refine m_getR hc (q := 214) yO_212 rfl tbX7 1 (by decide) wf_X7_13 rfl dX7_keep_19 ?_
          refine m_iload_n hc dX7_keep_22 rfl ?_
          refine m_aload_n hc dX7_keep_23 rfl ?_
          refine m_getR hc (q := 214) yO_212 rfl tbX7 1 (by decide) wf_X7_13 rfl dX7_keep_24 ?_
          refine m_iload_n hc dX7_keep_27 rfl ?_
          refine m_sipush hc (v := (320 : Int32)) dX7_keep_28 (by decide) ?_
          refine m_iadd hc dX7_keep_31 ?_
          obtain ⟨b_32, h⟩ := ck_o h
          refine m_iald hc yA_214 b_32 dX7_keep_32 ?_
          obtain ⟨b_33, h⟩ := ck_o h
          refine m_iast hc yA_214 b_33 dX7_keep_33 ?_
          refine m_topM (fun M_34 e_35 => ?_)
          replace h := nm_x e_35 h
          refine m_iinc hc (v := x1_22 + 1) (lv' := [some (.ref (gR G 212)), some (.int (x1_22 + 1))]) dX7_keep_34 rfl rfl rfl rfl ?_
          refine m_goto hc (tgt := 11) dX7_keep_37 (by decide) ?_
          exact m_fg [] rfl (i_30 _ _ h)
    exact m_fg [] rfl (L_27 _ _ _ c_25)
def L_X7_undo_26 : Nat → Int32 → Mm → Option (Mm)
  | 0, _, _ => none
  | n_11 + 1, x1_4, M_5 =>
    if (320 : Int32) ≤ x1_4 then (
     some M_5)
    else (
     ck (ib (((320 : Int32) * (M_5 212 2)) + x1_4) 6400) (
     ck (ib x1_4 320) (
     nm (mw M_5 213 x1_4.toNatClampNeg (M_5 214 (((320 : Int32) * (M_5 212 2)) + x1_4).toNatClampNeg)) (fun M_16 =>
     L_X7_undo_26 n_11 (x1_4 + 1) M_16))))
def f_X7_undo (M : Mm) : Option (Int32 × Mm) :=
 if (M 212 2) = 0 then (
 nm (f_X7_finding (-100006 : Int32) M) (fun q_18 =>
 some (q_18.1, q_18.2)))
else (
 nm (mw M 212 2 ((M 212 2) - (1 : Int32))) (fun M_2 =>
 Option.bind (L_X7_undo_26 FU (0 : Int32) M_2) (fun q_6 =>
 some ((q_6 212 2), q_6))))
set_option maxRecDepth 100000 in
set_option maxHeartbeats 4000000 in
theorem c_X7_undo {G : Gm} {l : Launch} (d : Nat) {M : Mm} {r : Int32 × Mm}  (h : f_X7_undo M = some r) : Cm G l (d + 1) yX7_undo cX7_undo 2 (some .int) [.ref (gR G 212)] M (some (.int r.1)) r.2 := by
  unfold f_X7_undo at h
  refine m_met (lv := [some (.ref (gR G 212)), none]) (own := RX7) (by decide +kernel) rfl rfl (Nat.le_of_ble_eq_true rfl) rfl ?_
  intro X hX hc hr
  subst hX
  refine m_aload_n hc dX7_undo_0 rfl ?_
  refine m_getI hc yO_212 rfl tbX7 2 (by decide) wf_X7_68 rfl dX7_undo_1 ?_
  refine m_ifne hc (tgt := 14) dX7_undo_4 (by decide) (fun b_1 => ?_) (fun b_1 => ?_)
  · replace h := (if_neg b_1).symm.trans h
    refine m_aload_n hc dX7_undo_14 rfl ?_
    refine m_dup hc dX7_undo_15 rfl ?_
    refine m_getI hc yO_212 rfl tbX7 2 (by decide) wf_X7_68 rfl dX7_undo_16 ?_
    refine m_iconst hc (v := 1) dX7_undo_19 (by decide) ?_
    refine m_isub hc dX7_undo_20 ?_
    refine m_putI hc yO_212 rfl tbX7 tyX7 tyX7_ok nmX7 2 (by decide) wf_X7_68 rfl rfl rfl rfl dX7_undo_21 ?_
    refine m_topM (fun M_2 e_3 => ?_)
    replace h := nm_x e_3 h
    refine m_iconst hc (v := 0) dX7_undo_24 (by decide) ?_
    refine m_istore_n hc (lv' := [some (.ref (gR G 212)), some (.int (0 : Int32))]) dX7_undo_25 (Nat.le_of_ble_eq_true rfl) rfl rfl ?_
    obtain ⟨q_6, c_7, h⟩ := bd_o h
    have J_8 : WM G X (qQ G X (some (.int r.1)) r.2) q_6 60 [some (.ref (gR G 212)), none] [] := by
      refine m_aload_n hc dX7_undo_60 rfl ?_
      refine m_getI hc yO_212 rfl tbX7 2 (by decide) wf_X7_68 rfl dX7_undo_61 ?_
      cases h
      exact m_iret hc hr dX7_undo_64
    have L_9 : ∀ (n_11 : Nat) (x1_4 : Int32) (M_5 : Mm), L_X7_undo_26 n_11 x1_4 M_5 = some q_6 → WM G X (qQ G X (some (.int r.1)) r.2) M_5 26 [some (.ref (gR G 212)), some (.int x1_4)] [] := by
      intro n_11
      induction n_11 with
      | zero =>
        intro x1_4 M_5 h
        cases (show none = some _ from h)
      | succ n_11 i_12 =>
        intro x1_4 M_5 h
        rw [L_X7_undo_26] at h
        refine m_iload_n hc dX7_undo_26 rfl ?_
        refine m_sipush hc (v := (320 : Int32)) dX7_undo_27 (by decide) ?_
        refine m_icge hc (tgt := 60) dX7_undo_30 (by decide) (fun b_13 => ?_) (fun b_13 => ?_)
        · replace h := (if_pos b_13).symm.trans h
          cases h
          exact m_fg [1] rfl J_8
        · replace h := (if_neg b_13).symm.trans h
          refine m_aload_n hc dX7_undo_33 rfl ?_
          refine m_getR hc (q := 213) yO_212 rfl tbX7 0 (by decide) wf_X7_7 rfl dX7_undo_34 ?_
          refine m_iload_n hc dX7_undo_37 rfl ?_
          refine m_aload_n hc dX7_undo_38 rfl ?_
          refine m_getR hc (q := 214) yO_212 rfl tbX7 1 (by decide) wf_X7_13 rfl dX7_undo_39 ?_
          refine m_sipush hc (v := (320 : Int32)) dX7_undo_42 (by decide) ?_
          refine m_aload_n hc dX7_undo_45 rfl ?_
          refine m_getI hc yO_212 rfl tbX7 2 (by decide) wf_X7_68 rfl dX7_undo_46 ?_
          refine m_imul hc dX7_undo_49 ?_
          refine m_iload_n hc dX7_undo_50 rfl ?_
          refine m_iadd hc dX7_undo_51 ?_
          obtain ⟨b_14, h⟩ := ck_o h
          refine m_iald hc yA_214 b_14 dX7_undo_52 ?_
          obtain ⟨b_15, h⟩ := ck_o h
          refine m_iast hc yA_213 b_15 dX7_undo_53 ?_
          refine m_topM (fun M_16 e_17 => ?_)
          replace h := nm_x e_17 h
          refine m_iinc hc (v := x1_4 + 1) (lv' := [some (.ref (gR G 212)), some (.int (x1_4 + 1))]) dX7_undo_54 rfl rfl rfl rfl ?_
          refine m_goto hc (tgt := 26) dX7_undo_57 (by decide) ?_
          exact m_fg [] rfl (i_12 _ _ h)
    exact m_fg [] rfl (L_9 _ _ _ c_7)
  · replace h := (if_pos b_1).symm.trans h
    refine m_aload_n hc dX7_undo_7 rfl ?_
    refine m_ldc hc dX7_undo_8 wk_X7_71 ?_
    obtain ⟨q_18, c_19, h⟩ := nm_o h
    refine m_callVi hc yO_212 rfl (c_X7_finding (d + 0) c_19) (by omega) (by decide) wm_X7_72 wi_X7_finding we_X7_finding wn_X7 wc_X7_finding wy_X7_finding rfl (st := []) rfl rfl (Nat.le_of_ble_eq_true rfl) dX7_undo_10 ?_
    cases h
    exact m_iret hc hr dX7_undo_13
def f_X7_becomes (x1 : Int32) (x2 : Int32) (M : Mm) : Option (Int32 × Mm) :=
 Option.bind (f_X7_keep M) (fun q_1 =>
 ck (ib x1 320) (
 nm ((q_1 213 x1.toNatClampNeg)) (fun x3_4 =>
 ck (ib x1 320) (
 nm (mw q_1 213 x1.toNatClampNeg x2) (fun M_7 =>
 some (x3_4, M_7))))))
set_option maxRecDepth 100000 in
set_option maxHeartbeats 4000000 in
theorem c_X7_becomes {G : Gm} {l : Launch} (d : Nat) {x1 : Int32} {x2 : Int32} {M : Mm} {r : Int32 × Mm}  (h : f_X7_becomes x1 x2 M = some r) : Cm G l (d + 1) yX7_becomes cX7_becomes 4 (some .int) [.ref (gR G 212), .int x1, .int x2] M (some (.int r.1)) r.2 := by
  unfold f_X7_becomes at h
  refine m_met (lv := [some (.ref (gR G 212)), some (.int x1), some (.int x2), none]) (own := RX7) (by decide +kernel) rfl rfl (Nat.le_of_ble_eq_true rfl) rfl ?_
  intro X hX hc hr
  subst hX
  refine m_aload_n hc dX7_becomes_0 rfl ?_
  obtain ⟨q_1, c_2, h⟩ := bd_o h
  refine m_callVv hc yO_212 rfl (c_X7_keep (d + 0) c_2) (by omega) (by decide) wm_X7_76 wi_X7_keep we_X7_keep wn_X7 wc_X7_keep wy_X7_keep rfl (st := []) rfl rfl (Nat.le_of_ble_eq_true rfl) dX7_becomes_1 ?_
  refine m_aload_n hc dX7_becomes_4 rfl ?_
  refine m_getR hc (q := 213) yO_212 rfl tbX7 0 (by decide) wf_X7_7 rfl dX7_becomes_5 ?_
  refine m_iload_n hc dX7_becomes_8 rfl ?_
  obtain ⟨b_3, h⟩ := ck_o h
  refine m_iald hc yA_213 b_3 dX7_becomes_9 ?_
  refine m_topI (fun x3_4 e_5 => ?_)
  replace h := nm_x e_5 h
  refine m_istore_n hc (lv' := [some (.ref (gR G 212)), some (.int x1), some (.int x2), some (.int x3_4)]) dX7_becomes_10 (Nat.le_of_ble_eq_true rfl) rfl rfl ?_
  refine m_aload_n hc dX7_becomes_11 rfl ?_
  refine m_getR hc (q := 213) yO_212 rfl tbX7 0 (by decide) wf_X7_7 rfl dX7_becomes_12 ?_
  refine m_iload_n hc dX7_becomes_15 rfl ?_
  refine m_iload_n hc dX7_becomes_16 rfl ?_
  obtain ⟨b_6, h⟩ := ck_o h
  refine m_iast hc yA_213 b_6 dX7_becomes_17 ?_
  refine m_topM (fun M_7 e_8 => ?_)
  replace h := nm_x e_8 h
  refine m_iload_n hc dX7_becomes_18 rfl ?_
  cases h
  exact m_iret hc hr dX7_becomes_19
def f_X7_beats (x1 : Int32) (M : Mm) : Option (Int32 × Mm) :=
 if (f_X7_isIn x1 (1 : Int32) (12 : Int32)) = 0 then (
 nm (f_X7_finding (-100001 : Int32) M) (fun q_2 =>
 some (q_2.1, q_2.2)))
else (
 Option.bind (f_X7_becomes (0 : Int32) x1 M) (fun q_4 =>
 some (q_4.1, q_4.2)))
set_option maxRecDepth 100000 in
set_option maxHeartbeats 4000000 in
theorem c_X7_beats {G : Gm} {l : Launch} (d : Nat) {x1 : Int32} {M : Mm} {r : Int32 × Mm}  (h : f_X7_beats x1 M = some r) : Cm G l (d + 2) yX7_beats cX7_beats 2 (some .int) [.ref (gR G 212), .int x1] M (some (.int r.1)) r.2 := by
  unfold f_X7_beats at h
  refine m_met (lv := [some (.ref (gR G 212)), some (.int x1)]) (own := RX7) (by decide +kernel) rfl rfl (Nat.le_of_ble_eq_true rfl) rfl ?_
  intro X hX hc hr
  subst hX
  refine m_iload_n hc dX7_beats_0 rfl ?_
  refine m_iconst hc (v := 1) dX7_beats_1 (by decide) ?_
  refine m_bipush hc (v := (12 : Int32)) dX7_beats_2 (by decide) ?_
  refine m_callSi hc (c_X7_isIn (d + 1) rfl) (by omega) (by decide) wm_X7_60 wt_X7_isIn wv_X7_isIn wc_X7_isIn wz_X7_isIn rfl (st := []) rfl rfl (Nat.le_of_ble_eq_true rfl) dX7_beats_4 ?_
  refine m_ifeq hc (tgt := 19) dX7_beats_7 (by decide) (fun b_1 => ?_) (fun b_1 => ?_)
  · replace h := (if_pos b_1).symm.trans h
    refine m_aload_n hc dX7_beats_19 rfl ?_
    refine m_ldc hc dX7_beats_20 wk_X7_83 ?_
    obtain ⟨q_2, c_3, h⟩ := nm_o h
    refine m_callVi hc yO_212 rfl (c_X7_finding (d + 1) c_3) (by omega) (by decide) wm_X7_72 wi_X7_finding we_X7_finding wn_X7 wc_X7_finding wy_X7_finding rfl (st := []) rfl rfl (Nat.le_of_ble_eq_true rfl) dX7_beats_22 ?_
    cases h
    exact m_iret hc hr dX7_beats_25
  · replace h := (if_neg b_1).symm.trans h
    refine m_aload_n hc dX7_beats_10 rfl ?_
    refine m_iconst hc (v := 0) dX7_beats_11 (by decide) ?_
    refine m_iload_n hc dX7_beats_12 rfl ?_
    obtain ⟨q_4, c_5, h⟩ := bd_o h
    refine m_callVi hc yO_212 rfl (c_X7_becomes (d + 0) c_5) (by omega) (by decide) wm_X7_79 wi_X7_becomes we_X7_becomes wn_X7 wc_X7_becomes wy_X7_becomes rfl (st := []) rfl rfl (Nat.le_of_ble_eq_true rfl) dX7_beats_13 ?_
    refine m_goto hc (tgt := 25) dX7_beats_16 (by decide) ?_
    cases h
    exact m_iret hc hr dX7_beats_25
def f_X7_lay (x1 : Int32) (x2 : Int32) (x3 : Int32) (x4 : Int32) (x5 : Int32) (M : Mm) : Option (Mm) :=
 nm (((13 : Int32) + ((3 : Int32) * (((6 : Int32) * x1) + x2)))) (fun x6_1 =>
 ck (ib x6_1 320) (
 nm (mw M 213 x6_1.toNatClampNeg x3) (fun M_4 =>
 ck (ib (x6_1 + (1 : Int32)) 320) (
 nm (mw M_4 213 (x6_1 + (1 : Int32)).toNatClampNeg x4) (fun M_7 =>
 nm (
 if x5 = 0 then (
 (0 : Int32))
else (
 if x3 = (2 : Int32) then (
 (0 : Int32))
else (
 (1 : Int32)))) (fun q_11 =>
 ck (ib (x6_1 + (2 : Int32)) 320) (
 nm (mw M_7 213 (x6_1 + (2 : Int32)).toNatClampNeg q_11) (fun M_17 =>
 some M_17))))))))
set_option maxRecDepth 100000 in
set_option maxHeartbeats 4000000 in
theorem c_X7_lay {G : Gm} {l : Launch} (d : Nat) {x1 : Int32} {x2 : Int32} {x3 : Int32} {x4 : Int32} {x5 : Int32} {M : Mm} {r : Mm}  (h : f_X7_lay x1 x2 x3 x4 x5 M = some r) : Cm G l (d + 0) yX7_lay cX7_lay 7 none [.ref (gR G 212), .int x1, .int x2, .int x3, .int x4, .int x5] M none r := by
  unfold f_X7_lay at h
  refine m_met (lv := [some (.ref (gR G 212)), some (.int x1), some (.int x2), some (.int x3), some (.int x4), some (.int x5), none]) (own := RX7) (by decide +kernel) rfl rfl (Nat.le_of_ble_eq_true rfl) rfl ?_
  intro X hX hc hr
  subst hX
  refine m_bipush hc (v := (13 : Int32)) dX7_lay_0 (by decide) ?_
  refine m_iconst hc (v := 3) dX7_lay_2 (by decide) ?_
  refine m_bipush hc (v := (6 : Int32)) dX7_lay_3 (by decide) ?_
  refine m_iload_n hc dX7_lay_5 rfl ?_
  refine m_imul hc dX7_lay_6 ?_
  refine m_iload_n hc dX7_lay_7 rfl ?_
  refine m_iadd hc dX7_lay_8 ?_
  refine m_imul hc dX7_lay_9 ?_
  refine m_iadd hc dX7_lay_10 ?_
  refine m_topI (fun x6_1 e_2 => ?_)
  replace h := nm_x e_2 h
  refine m_istore hc (lv' := [some (.ref (gR G 212)), some (.int x1), some (.int x2), some (.int x3), some (.int x4), some (.int x5), some (.int x6_1)]) dX7_lay_11 (Nat.le_of_ble_eq_true rfl) rfl rfl ?_
  refine m_aload_n hc dX7_lay_13 rfl ?_
  refine m_getR hc (q := 213) yO_212 rfl tbX7 0 (by decide) wf_X7_7 rfl dX7_lay_14 ?_
  refine m_iload hc dX7_lay_17 rfl ?_
  refine m_iload_n hc dX7_lay_19 rfl ?_
  obtain ⟨b_3, h⟩ := ck_o h
  refine m_iast hc yA_213 b_3 dX7_lay_20 ?_
  refine m_topM (fun M_4 e_5 => ?_)
  replace h := nm_x e_5 h
  refine m_aload_n hc dX7_lay_21 rfl ?_
  refine m_getR hc (q := 213) yO_212 rfl tbX7 0 (by decide) wf_X7_7 rfl dX7_lay_22 ?_
  refine m_iload hc dX7_lay_25 rfl ?_
  refine m_iconst hc (v := 1) dX7_lay_27 (by decide) ?_
  refine m_iadd hc dX7_lay_28 ?_
  refine m_iload hc dX7_lay_29 rfl ?_
  obtain ⟨b_6, h⟩ := ck_o h
  refine m_iast hc yA_213 b_6 dX7_lay_31 ?_
  refine m_topM (fun M_7 e_8 => ?_)
  replace h := nm_x e_8 h
  refine m_aload_n hc dX7_lay_32 rfl ?_
  refine m_getR hc (q := 213) yO_212 rfl tbX7 0 (by decide) wf_X7_7 rfl dX7_lay_33 ?_
  refine m_iload hc dX7_lay_36 rfl ?_
  refine m_iconst hc (v := 2) dX7_lay_38 (by decide) ?_
  refine m_iadd hc dX7_lay_39 ?_
  refine m_iload hc dX7_lay_40 rfl ?_
  obtain ⟨q_11, c_12, h⟩ := nm_o h
  have J_13 : WM G X (qQ G X none r) M_7 55 [some (.ref (gR G 212)), some (.int x1), some (.int x2), some (.int x3), some (.int x4), some (.int x5), some (.int x6_1)] [.int q_11, .int (x6_1 + (2 : Int32)), .ref (gR G 213)] := by
    obtain ⟨b_16, h⟩ := ck_o h
    refine m_iast hc yA_213 b_16 dX7_lay_55 ?_
    refine m_topM (fun M_17 e_18 => ?_)
    replace h := nm_x e_18 h
    cases h
    exact m_vret hc hr dX7_lay_56
  replace h := c_12
  refine m_ifeq hc (tgt := 54) dX7_lay_42 (by decide) (fun b_14 => ?_) (fun b_14 => ?_)
  · replace h := (if_pos b_14).symm.trans h
    refine m_iconst hc (v := 0) dX7_lay_54 (by decide) ?_
    subst h
    exact m_fg [] rfl J_13
  · replace h := (if_neg b_14).symm.trans h
    refine m_iload_n hc dX7_lay_45 rfl ?_
    refine m_iconst hc (v := 2) dX7_lay_46 (by decide) ?_
    refine m_iceq hc (tgt := 54) dX7_lay_47 (by decide) (fun b_15 => ?_) (fun b_15 => ?_)
    · replace h := (if_pos b_15).symm.trans h
      refine m_iconst hc (v := 0) dX7_lay_54 (by decide) ?_
      subst h
      exact m_fg [] rfl J_13
    · replace h := (if_neg b_15).symm.trans h
      refine m_iconst hc (v := 1) dX7_lay_50 (by decide) ?_
      refine m_goto hc (tgt := 55) dX7_lay_51 (by decide) ?_
      subst h
      exact m_fg [] rfl J_13
def f_X7_note_ (x1 : Int32) (x2 : Int32) (x3 : Int32) (x4 : Int32) (M : Mm) : Option (Int32 × Mm) :=
 if (f_X7_isBeat x1) = 0 then (
 nm (f_X7_finding (-100001 : Int32) M) (fun q_2 =>
 some (q_2.1, q_2.2)))
else (
 if (f_X7_isIn x2 (0 : Int32) (3 : Int32)) = 0 then (
 nm (f_X7_finding (-100001 : Int32) M) (fun q_5 =>
 some (q_5.1, q_5.2)))
else (
 if (f_X7_isIn x3 (-1 : Int32) (100 : Int32)) = 0 then (
 nm (f_X7_finding (-100001 : Int32) M) (fun q_17 =>
 some (q_17.1, q_17.2)))
else (
 ck (ib ((1 : Int32) + x1) 320) (
 if (M 213 ((1 : Int32) + x1).toNatClampNeg) = (6 : Int32) then (
 nm (f_X7_finding (-100005 : Int32) M) (fun q_15 =>
 some (q_15.1, q_15.2)))
else (
 ck (ib ((1 : Int32) + x1) 320) (
 Option.bind (f_X7_becomes ((1 : Int32) + x1) ((M 213 ((1 : Int32) + x1).toNatClampNeg) + (1 : Int32)) M) (fun q_11 =>
 Option.bind (f_X7_lay x1 q_11.1 x2 x3 x4 q_11.2) (fun q_13 =>
 some (q_11.1, q_13)))))))))
set_option maxRecDepth 100000 in
set_option maxHeartbeats 4000000 in
theorem c_X7_note_ {G : Gm} {l : Launch} (d : Nat) {x1 : Int32} {x2 : Int32} {x3 : Int32} {x4 : Int32} {M : Mm} {r : Int32 × Mm}  (h : f_X7_note_ x1 x2 x3 x4 M = some r) : Cm G l (d + 2) yX7_note_ cX7_note_ 6 (some .int) [.ref (gR G 212), .int x1, .int x2, .int x3, .int x4] M (some (.int r.1)) r.2 := by
  unfold f_X7_note_ at h
  refine m_met (lv := [some (.ref (gR G 212)), some (.int x1), some (.int x2), some (.int x3), some (.int x4), none]) (own := RX7) (by decide +kernel) rfl rfl (Nat.le_of_ble_eq_true rfl) rfl ?_
  intro X hX hc hr
  subst hX
  refine m_iload_n hc dX7_note__0 rfl ?_
  refine m_callSi hc (c_X7_isBeat (d + 0) rfl) (by omega) (by decide) wm_X7_64 wt_X7_isBeat wv_X7_isBeat wc_X7_isBeat wz_X7_isBeat rfl (st := []) rfl rfl (Nat.le_of_ble_eq_true rfl) dX7_note__1 ?_
  refine m_ifeq hc (tgt := 26) dX7_note__4 (by decide) (fun b_1 => ?_) (fun b_1 => ?_)
  · replace h := (if_pos b_1).symm.trans h
    refine m_aload_n hc dX7_note__26 rfl ?_
    refine m_ldc hc dX7_note__27 wk_X7_83 ?_
    obtain ⟨q_2, c_3, h⟩ := nm_o h
    refine m_callVi hc yO_212 rfl (c_X7_finding (d + 1) c_3) (by omega) (by decide) wm_X7_72 wi_X7_finding we_X7_finding wn_X7 wc_X7_finding wy_X7_finding rfl (st := []) rfl rfl (Nat.le_of_ble_eq_true rfl) dX7_note__29 ?_
    cases h
    exact m_iret hc hr dX7_note__32
  · replace h := (if_neg b_1).symm.trans h
    refine m_iload_n hc dX7_note__7 rfl ?_
    refine m_iconst hc (v := 0) dX7_note__8 (by decide) ?_
    refine m_iconst hc (v := 3) dX7_note__9 (by decide) ?_
    refine m_callSi hc (c_X7_isIn (d + 1) rfl) (by omega) (by decide) wm_X7_60 wt_X7_isIn wv_X7_isIn wc_X7_isIn wz_X7_isIn rfl (st := []) rfl rfl (Nat.le_of_ble_eq_true rfl) dX7_note__10 ?_
    refine m_ifeq hc (tgt := 26) dX7_note__13 (by decide) (fun b_4 => ?_) (fun b_4 => ?_)
    · replace h := (if_pos b_4).symm.trans h
      refine m_aload_n hc dX7_note__26 rfl ?_
      refine m_ldc hc dX7_note__27 wk_X7_83 ?_
      obtain ⟨q_5, c_6, h⟩ := nm_o h
      refine m_callVi hc yO_212 rfl (c_X7_finding (d + 1) c_6) (by omega) (by decide) wm_X7_72 wi_X7_finding we_X7_finding wn_X7 wc_X7_finding wy_X7_finding rfl (st := []) rfl rfl (Nat.le_of_ble_eq_true rfl) dX7_note__29 ?_
      cases h
      exact m_iret hc hr dX7_note__32
    · replace h := (if_neg b_4).symm.trans h
      refine m_iload_n hc dX7_note__16 rfl ?_
      refine m_iconst hc (v := (-1)) dX7_note__17 (by decide) ?_
      refine m_bipush hc (v := (100 : Int32)) dX7_note__18 (by decide) ?_
      refine m_callSi hc (c_X7_isIn (d + 1) rfl) (by omega) (by decide) wm_X7_60 wt_X7_isIn wv_X7_isIn wc_X7_isIn wz_X7_isIn rfl (st := []) rfl rfl (Nat.le_of_ble_eq_true rfl) dX7_note__20 ?_
      refine m_ifne hc (tgt := 33) dX7_note__23 (by decide) (fun b_7 => ?_) (fun b_7 => ?_)
      · replace h := (if_neg b_7).symm.trans h
        refine m_aload_n hc dX7_note__33 rfl ?_
        refine m_getR hc (q := 213) yO_212 rfl tbX7 0 (by decide) wf_X7_7 rfl dX7_note__34 ?_
        refine m_iconst hc (v := 1) dX7_note__37 (by decide) ?_
        refine m_iload_n hc dX7_note__38 rfl ?_
        refine m_iadd hc dX7_note__39 ?_
        obtain ⟨b_8, h⟩ := ck_o h
        refine m_iald hc yA_213 b_8 dX7_note__40 ?_
        refine m_bipush hc (v := (6 : Int32)) dX7_note__41 (by decide) ?_
        refine m_icne hc (tgt := 53) dX7_note__43 (by decide) (fun b_9 => ?_) (fun b_9 => ?_)
        · replace h := (if_neg b_9).symm.trans h
          refine m_aload_n hc dX7_note__53 rfl ?_
          refine m_iconst hc (v := 1) dX7_note__54 (by decide) ?_
          refine m_iload_n hc dX7_note__55 rfl ?_
          refine m_iadd hc dX7_note__56 ?_
          refine m_aload_n hc dX7_note__57 rfl ?_
          refine m_getR hc (q := 213) yO_212 rfl tbX7 0 (by decide) wf_X7_7 rfl dX7_note__58 ?_
          refine m_iconst hc (v := 1) dX7_note__61 (by decide) ?_
          refine m_iload_n hc dX7_note__62 rfl ?_
          refine m_iadd hc dX7_note__63 ?_
          obtain ⟨b_10, h⟩ := ck_o h
          refine m_iald hc yA_213 b_10 dX7_note__64 ?_
          refine m_iconst hc (v := 1) dX7_note__65 (by decide) ?_
          refine m_iadd hc dX7_note__66 ?_
          obtain ⟨q_11, c_12, h⟩ := bd_o h
          refine m_callVi hc yO_212 rfl (c_X7_becomes (d + 0) c_12) (by omega) (by decide) wm_X7_79 wi_X7_becomes we_X7_becomes wn_X7 wc_X7_becomes wy_X7_becomes rfl (st := []) rfl rfl (Nat.le_of_ble_eq_true rfl) dX7_note__67 ?_
          refine m_istore hc (lv' := [some (.ref (gR G 212)), some (.int x1), some (.int x2), some (.int x3), some (.int x4), some (.int q_11.1)]) dX7_note__70 (Nat.le_of_ble_eq_true rfl) rfl rfl ?_
          refine m_aload_n hc dX7_note__72 rfl ?_
          refine m_iload_n hc dX7_note__73 rfl ?_
          refine m_iload hc dX7_note__74 rfl ?_
          refine m_iload_n hc dX7_note__76 rfl ?_
          refine m_iload_n hc dX7_note__77 rfl ?_
          refine m_iload hc dX7_note__78 rfl ?_
          obtain ⟨q_13, c_14, h⟩ := bd_o h
          refine m_callVv hc yO_212 rfl (c_X7_lay (d + 1) c_14) (by omega) (by decide) wm_X7_85 wi_X7_lay we_X7_lay wn_X7 wc_X7_lay wy_X7_lay rfl (st := []) rfl rfl (Nat.le_of_ble_eq_true rfl) dX7_note__80 ?_
          refine m_iload hc dX7_note__83 rfl ?_
          cases h
          exact m_iret hc hr dX7_note__85
        · replace h := (if_pos b_9).symm.trans h
          refine m_aload_n hc dX7_note__46 rfl ?_
          refine m_ldc hc dX7_note__47 wk_X7_84 ?_
          obtain ⟨q_15, c_16, h⟩ := nm_o h
          refine m_callVi hc yO_212 rfl (c_X7_finding (d + 1) c_16) (by omega) (by decide) wm_X7_72 wi_X7_finding we_X7_finding wn_X7 wc_X7_finding wy_X7_finding rfl (st := []) rfl rfl (Nat.le_of_ble_eq_true rfl) dX7_note__49 ?_
          cases h
          exact m_iret hc hr dX7_note__52
      · replace h := (if_pos b_7).symm.trans h
        refine m_aload_n hc dX7_note__26 rfl ?_
        refine m_ldc hc dX7_note__27 wk_X7_83 ?_
        obtain ⟨q_17, c_18, h⟩ := nm_o h
        refine m_callVi hc yO_212 rfl (c_X7_finding (d + 1) c_18) (by omega) (by decide) wm_X7_72 wi_X7_finding we_X7_finding wn_X7 wc_X7_finding wy_X7_finding rfl (st := []) rfl rfl (Nat.le_of_ble_eq_true rfl) dX7_note__29 ?_
        cases h
        exact m_iret hc hr dX7_note__32
def f_X7_drop (x1 : Int32) (M : Mm) : Option (Int32 × Mm) :=
 if (f_X7_isBeat x1) = 0 then (
 nm (f_X7_finding (-100001 : Int32) M) (fun q_9 =>
 some (q_9.1, q_9.2)))
else (
 ck (ib ((1 : Int32) + x1) 320) (
 if (M 213 ((1 : Int32) + x1).toNatClampNeg) = 0 then (
 nm (f_X7_finding (-100006 : Int32) M) (fun q_7 =>
 some (q_7.1, q_7.2)))
else (
 ck (ib ((1 : Int32) + x1) 320) (
 Option.bind (f_X7_becomes ((1 : Int32) + x1) ((M 213 ((1 : Int32) + x1).toNatClampNeg) - (1 : Int32)) M) (fun q_5 =>
 some ((q_5.1 - (1 : Int32)), q_5.2))))))
set_option maxRecDepth 100000 in
set_option maxHeartbeats 4000000 in
theorem c_X7_drop {G : Gm} {l : Launch} (d : Nat) {x1 : Int32} {M : Mm} {r : Int32 × Mm}  (h : f_X7_drop x1 M = some r) : Cm G l (d + 2) yX7_drop cX7_drop 2 (some .int) [.ref (gR G 212), .int x1] M (some (.int r.1)) r.2 := by
  unfold f_X7_drop at h
  refine m_met (lv := [some (.ref (gR G 212)), some (.int x1)]) (own := RX7) (by decide +kernel) rfl rfl (Nat.le_of_ble_eq_true rfl) rfl ?_
  intro X hX hc hr
  subst hX
  refine m_iload_n hc dX7_drop_0 rfl ?_
  refine m_callSi hc (c_X7_isBeat (d + 0) rfl) (by omega) (by decide) wm_X7_64 wt_X7_isBeat wv_X7_isBeat wc_X7_isBeat wz_X7_isBeat rfl (st := []) rfl rfl (Nat.le_of_ble_eq_true rfl) dX7_drop_1 ?_
  refine m_ifne hc (tgt := 14) dX7_drop_4 (by decide) (fun b_1 => ?_) (fun b_1 => ?_)
  · replace h := (if_neg b_1).symm.trans h
    refine m_aload_n hc dX7_drop_14 rfl ?_
    refine m_getR hc (q := 213) yO_212 rfl tbX7 0 (by decide) wf_X7_7 rfl dX7_drop_15 ?_
    refine m_iconst hc (v := 1) dX7_drop_18 (by decide) ?_
    refine m_iload_n hc dX7_drop_19 rfl ?_
    refine m_iadd hc dX7_drop_20 ?_
    obtain ⟨b_2, h⟩ := ck_o h
    refine m_iald hc yA_213 b_2 dX7_drop_21 ?_
    refine m_ifne hc (tgt := 32) dX7_drop_22 (by decide) (fun b_3 => ?_) (fun b_3 => ?_)
    · replace h := (if_neg b_3).symm.trans h
      refine m_aload_n hc dX7_drop_32 rfl ?_
      refine m_iconst hc (v := 1) dX7_drop_33 (by decide) ?_
      refine m_iload_n hc dX7_drop_34 rfl ?_
      refine m_iadd hc dX7_drop_35 ?_
      refine m_aload_n hc dX7_drop_36 rfl ?_
      refine m_getR hc (q := 213) yO_212 rfl tbX7 0 (by decide) wf_X7_7 rfl dX7_drop_37 ?_
      refine m_iconst hc (v := 1) dX7_drop_40 (by decide) ?_
      refine m_iload_n hc dX7_drop_41 rfl ?_
      refine m_iadd hc dX7_drop_42 ?_
      obtain ⟨b_4, h⟩ := ck_o h
      refine m_iald hc yA_213 b_4 dX7_drop_43 ?_
      refine m_iconst hc (v := 1) dX7_drop_44 (by decide) ?_
      refine m_isub hc dX7_drop_45 ?_
      obtain ⟨q_5, c_6, h⟩ := bd_o h
      refine m_callVi hc yO_212 rfl (c_X7_becomes (d + 0) c_6) (by omega) (by decide) wm_X7_79 wi_X7_becomes we_X7_becomes wn_X7 wc_X7_becomes wy_X7_becomes rfl (st := []) rfl rfl (Nat.le_of_ble_eq_true rfl) dX7_drop_46 ?_
      refine m_iconst hc (v := 1) dX7_drop_49 (by decide) ?_
      refine m_isub hc dX7_drop_50 ?_
      cases h
      exact m_iret hc hr dX7_drop_51
    · replace h := (if_pos b_3).symm.trans h
      refine m_aload_n hc dX7_drop_25 rfl ?_
      refine m_ldc hc dX7_drop_26 wk_X7_71 ?_
      obtain ⟨q_7, c_8, h⟩ := nm_o h
      refine m_callVi hc yO_212 rfl (c_X7_finding (d + 1) c_8) (by omega) (by decide) wm_X7_72 wi_X7_finding we_X7_finding wn_X7 wc_X7_finding wy_X7_finding rfl (st := []) rfl rfl (Nat.le_of_ble_eq_true rfl) dX7_drop_28 ?_
      cases h
      exact m_iret hc hr dX7_drop_31
  · replace h := (if_pos b_1).symm.trans h
    refine m_aload_n hc dX7_drop_7 rfl ?_
    refine m_ldc hc dX7_drop_8 wk_X7_83 ?_
    obtain ⟨q_9, c_10, h⟩ := nm_o h
    refine m_callVi hc yO_212 rfl (c_X7_finding (d + 1) c_10) (by omega) (by decide) wm_X7_72 wi_X7_finding we_X7_finding wn_X7 wc_X7_finding wy_X7_finding rfl (st := []) rfl rfl (Nat.le_of_ble_eq_true rfl) dX7_drop_10 ?_
    cases h
    exact m_iret hc hr dX7_drop_13
def f_X7_as (x1 : Int32) (x2 : Int32) (x3 : Int32) (M : Mm) : Option (Int32 × Mm) :=
 Option.bind (f_X7_isNote x1 x2 M) (fun q_1 =>
 if q_1 = 0 then (
 nm (f_X7_finding (-100001 : Int32) M) (fun q_4 =>
 some (q_4.1, q_4.2)))
else (
 if (f_X7_isIn x3 (0 : Int32) (3 : Int32)) = 0 then (
 nm (f_X7_finding (-100001 : Int32) M) (fun q_23 =>
 some (q_23.1, q_23.2)))
else (
 Option.bind (f_X7_note x1 x2 (0 : Int32) M) (fun q_7 =>
 if x3 = 0 then (
 Option.bind (f_X7_note x1 x2 (1 : Int32) M) (fun q_10 =>
 some (q_10, M)))
else (
 if x3 = q_7 then (
 Option.bind (f_X7_note x1 x2 (1 : Int32) M) (fun q_13 =>
 some (q_13, M)))
else (
 if x3 = (1 : Int32) then (
 if q_7 = (3 : Int32) then (
 Option.bind (f_X7_note x1 x2 (1 : Int32) M) (fun q_21 =>
 some (q_21, M)))
else (
 nm (f_X7_finding (-100004 : Int32) M) (fun q_19 =>
 some (q_19.1, q_19.2))))
else (
 nm (f_X7_finding (-100004 : Int32) M) (fun q_16 =>
 some (q_16.1, q_16.2)))))))))
set_option maxRecDepth 100000 in
set_option maxHeartbeats 4000000 in
theorem c_X7_as {G : Gm} {l : Launch} (d : Nat) {x1 : Int32} {x2 : Int32} {x3 : Int32} {M : Mm} {r : Int32 × Mm}  (h : f_X7_as x1 x2 x3 M = some r) : Cm G l (d + 3) yX7_as cX7_as 5 (some .int) [.ref (gR G 212), .int x1, .int x2, .int x3] M (some (.int r.1)) r.2 := by
  unfold f_X7_as at h
  refine m_met (lv := [some (.ref (gR G 212)), some (.int x1), some (.int x2), some (.int x3), none]) (own := RX7) (by decide +kernel) rfl rfl (Nat.le_of_ble_eq_true rfl) rfl ?_
  intro X hX hc hr
  subst hX
  refine m_aload_n hc dX7_as_0 rfl ?_
  refine m_iload_n hc dX7_as_1 rfl ?_
  refine m_iload_n hc dX7_as_2 rfl ?_
  obtain ⟨q_1, c_2, h⟩ := bd_o h
  refine m_callVi hc yO_212 rfl (c_X7_isNote (d + 0) c_2) (by omega) (by decide) wm_X7_89 wi_X7_isNote we_X7_isNote wn_X7 wc_X7_isNote wy_X7_isNote rfl (st := []) rfl rfl (Nat.le_of_ble_eq_true rfl) dX7_as_3 ?_
  refine m_ifeq hc (tgt := 18) dX7_as_6 (by decide) (fun b_3 => ?_) (fun b_3 => ?_)
  · replace h := (if_pos b_3).symm.trans h
    refine m_aload_n hc dX7_as_18 rfl ?_
    refine m_ldc hc dX7_as_19 wk_X7_83 ?_
    obtain ⟨q_4, c_5, h⟩ := nm_o h
    refine m_callVi hc yO_212 rfl (c_X7_finding (d + 2) c_5) (by omega) (by decide) wm_X7_72 wi_X7_finding we_X7_finding wn_X7 wc_X7_finding wy_X7_finding rfl (st := []) rfl rfl (Nat.le_of_ble_eq_true rfl) dX7_as_21 ?_
    cases h
    exact m_iret hc hr dX7_as_24
  · replace h := (if_neg b_3).symm.trans h
    refine m_iload_n hc dX7_as_9 rfl ?_
    refine m_iconst hc (v := 0) dX7_as_10 (by decide) ?_
    refine m_iconst hc (v := 3) dX7_as_11 (by decide) ?_
    refine m_callSi hc (c_X7_isIn (d + 2) rfl) (by omega) (by decide) wm_X7_60 wt_X7_isIn wv_X7_isIn wc_X7_isIn wz_X7_isIn rfl (st := []) rfl rfl (Nat.le_of_ble_eq_true rfl) dX7_as_12 ?_
    refine m_ifne hc (tgt := 25) dX7_as_15 (by decide) (fun b_6 => ?_) (fun b_6 => ?_)
    · replace h := (if_neg b_6).symm.trans h
      refine m_aload_n hc dX7_as_25 rfl ?_
      refine m_iload_n hc dX7_as_26 rfl ?_
      refine m_iload_n hc dX7_as_27 rfl ?_
      refine m_iconst hc (v := 0) dX7_as_28 (by decide) ?_
      obtain ⟨q_7, c_8, h⟩ := bd_o h
      refine m_callVi hc yO_212 rfl (c_X7_note (d + 2) c_8) (by omega) (by decide) wm_X7_93 wi_X7_note we_X7_note wn_X7 wc_X7_note wy_X7_note rfl (st := []) rfl rfl (Nat.le_of_ble_eq_true rfl) dX7_as_29 ?_
      refine m_istore hc (lv' := [some (.ref (gR G 212)), some (.int x1), some (.int x2), some (.int x3), some (.int q_7)]) dX7_as_32 (Nat.le_of_ble_eq_true rfl) rfl rfl ?_
      refine m_iload_n hc dX7_as_34 rfl ?_
      refine m_ifeq hc (tgt := 55) dX7_as_35 (by decide) (fun b_9 => ?_) (fun b_9 => ?_)
      · replace h := (if_pos b_9).symm.trans h
        refine m_aload_n hc dX7_as_55 rfl ?_
        refine m_iload_n hc dX7_as_56 rfl ?_
        refine m_iload_n hc dX7_as_57 rfl ?_
        refine m_iconst hc (v := 1) dX7_as_58 (by decide) ?_
        obtain ⟨q_10, c_11, h⟩ := bd_o h
        refine m_callVi hc yO_212 rfl (c_X7_note (d + 2) c_11) (by omega) (by decide) wm_X7_93 wi_X7_note we_X7_note wn_X7 wc_X7_note wy_X7_note rfl (st := []) rfl rfl (Nat.le_of_ble_eq_true rfl) dX7_as_59 ?_
        refine m_goto hc (tgt := 71) dX7_as_62 (by decide) ?_
        cases h
        exact m_iret hc hr dX7_as_71
      · replace h := (if_neg b_9).symm.trans h
        refine m_iload_n hc dX7_as_38 rfl ?_
        refine m_iload hc dX7_as_39 rfl ?_
        refine m_iceq hc (tgt := 55) dX7_as_41 (by decide) (fun b_12 => ?_) (fun b_12 => ?_)
        · replace h := (if_pos b_12).symm.trans h
          refine m_aload_n hc dX7_as_55 rfl ?_
          refine m_iload_n hc dX7_as_56 rfl ?_
          refine m_iload_n hc dX7_as_57 rfl ?_
          refine m_iconst hc (v := 1) dX7_as_58 (by decide) ?_
          obtain ⟨q_13, c_14, h⟩ := bd_o h
          refine m_callVi hc yO_212 rfl (c_X7_note (d + 2) c_14) (by omega) (by decide) wm_X7_93 wi_X7_note we_X7_note wn_X7 wc_X7_note wy_X7_note rfl (st := []) rfl rfl (Nat.le_of_ble_eq_true rfl) dX7_as_59 ?_
          refine m_goto hc (tgt := 71) dX7_as_62 (by decide) ?_
          cases h
          exact m_iret hc hr dX7_as_71
        · replace h := (if_neg b_12).symm.trans h
          refine m_iload_n hc dX7_as_44 rfl ?_
          refine m_iconst hc (v := 1) dX7_as_45 (by decide) ?_
          refine m_icne hc (tgt := 65) dX7_as_46 (by decide) (fun b_15 => ?_) (fun b_15 => ?_)
          · replace h := (if_neg b_15).symm.trans h
            refine m_aload_n hc dX7_as_65 rfl ?_
            refine m_ldc hc dX7_as_66 wk_X7_97 ?_
            obtain ⟨q_16, c_17, h⟩ := nm_o h
            refine m_callVi hc yO_212 rfl (c_X7_finding (d + 2) c_17) (by omega) (by decide) wm_X7_72 wi_X7_finding we_X7_finding wn_X7 wc_X7_finding wy_X7_finding rfl (st := []) rfl rfl (Nat.le_of_ble_eq_true rfl) dX7_as_68 ?_
            cases h
            exact m_iret hc hr dX7_as_71
          · replace h := (if_pos b_15).symm.trans h
            refine m_iload hc dX7_as_49 rfl ?_
            refine m_iconst hc (v := 3) dX7_as_51 (by decide) ?_
            refine m_icne hc (tgt := 65) dX7_as_52 (by decide) (fun b_18 => ?_) (fun b_18 => ?_)
            · replace h := (if_neg b_18).symm.trans h
              refine m_aload_n hc dX7_as_65 rfl ?_
              refine m_ldc hc dX7_as_66 wk_X7_97 ?_
              obtain ⟨q_19, c_20, h⟩ := nm_o h
              refine m_callVi hc yO_212 rfl (c_X7_finding (d + 2) c_20) (by omega) (by decide) wm_X7_72 wi_X7_finding we_X7_finding wn_X7 wc_X7_finding wy_X7_finding rfl (st := []) rfl rfl (Nat.le_of_ble_eq_true rfl) dX7_as_68 ?_
              cases h
              exact m_iret hc hr dX7_as_71
            · replace h := (if_pos b_18).symm.trans h
              refine m_aload_n hc dX7_as_55 rfl ?_
              refine m_iload_n hc dX7_as_56 rfl ?_
              refine m_iload_n hc dX7_as_57 rfl ?_
              refine m_iconst hc (v := 1) dX7_as_58 (by decide) ?_
              obtain ⟨q_21, c_22, h⟩ := bd_o h
              refine m_callVi hc yO_212 rfl (c_X7_note (d + 2) c_22) (by omega) (by decide) wm_X7_93 wi_X7_note we_X7_note wn_X7 wc_X7_note wy_X7_note rfl (st := []) rfl rfl (Nat.le_of_ble_eq_true rfl) dX7_as_59 ?_
              refine m_goto hc (tgt := 71) dX7_as_62 (by decide) ?_
              cases h
              exact m_iret hc hr dX7_as_71
    · replace h := (if_pos b_6).symm.trans h
      refine m_aload_n hc dX7_as_18 rfl ?_
      refine m_ldc hc dX7_as_19 wk_X7_83 ?_
      obtain ⟨q_23, c_24, h⟩ := nm_o h
      refine m_callVi hc yO_212 rfl (c_X7_finding (d + 2) c_24) (by omega) (by decide) wm_X7_72 wi_X7_finding we_X7_finding wn_X7 wc_X7_finding wy_X7_finding rfl (st := []) rfl rfl (Nat.le_of_ble_eq_true rfl) dX7_as_21 ?_
      cases h
      exact m_iret hc hr dX7_as_24
def f_X7_of (x1 : Int32) (x2 : Int32) (x3 : Int32) (M : Mm) : Option (Int32 × Mm) :=
 Option.bind (f_X7_isNote x1 x2 M) (fun q_1 =>
 if q_1 = 0 then (
 nm (f_X7_finding (-100001 : Int32) M) (fun q_4 =>
 some (q_4.1, q_4.2)))
else (
 if (f_X7_isIn x3 (0 : Int32) (2 : Int32)) = 0 then (
 nm (f_X7_finding (-100001 : Int32) M) (fun q_7 =>
 some (q_7.1, q_7.2)))
else (
 Option.bind (f_X7_note x1 x2 x3 M) (fun q_9 =>
 some (q_9, M)))))
set_option maxRecDepth 100000 in
set_option maxHeartbeats 4000000 in
theorem c_X7_of {G : Gm} {l : Launch} (d : Nat) {x1 : Int32} {x2 : Int32} {x3 : Int32} {M : Mm} {r : Int32 × Mm}  (h : f_X7_of x1 x2 x3 M = some r) : Cm G l (d + 3) yX7_of cX7_of 4 (some .int) [.ref (gR G 212), .int x1, .int x2, .int x3] M (some (.int r.1)) r.2 := by
  unfold f_X7_of at h
  refine m_met (lv := [some (.ref (gR G 212)), some (.int x1), some (.int x2), some (.int x3)]) (own := RX7) (by decide +kernel) rfl rfl (Nat.le_of_ble_eq_true rfl) rfl ?_
  intro X hX hc hr
  subst hX
  refine m_aload_n hc dX7_of_0 rfl ?_
  refine m_iload_n hc dX7_of_1 rfl ?_
  refine m_iload_n hc dX7_of_2 rfl ?_
  obtain ⟨q_1, c_2, h⟩ := bd_o h
  refine m_callVi hc yO_212 rfl (c_X7_isNote (d + 0) c_2) (by omega) (by decide) wm_X7_89 wi_X7_isNote we_X7_isNote wn_X7 wc_X7_isNote wy_X7_isNote rfl (st := []) rfl rfl (Nat.le_of_ble_eq_true rfl) dX7_of_3 ?_
  refine m_ifeq hc (tgt := 28) dX7_of_6 (by decide) (fun b_3 => ?_) (fun b_3 => ?_)
  · replace h := (if_pos b_3).symm.trans h
    refine m_aload_n hc dX7_of_28 rfl ?_
    refine m_ldc hc dX7_of_29 wk_X7_83 ?_
    obtain ⟨q_4, c_5, h⟩ := nm_o h
    refine m_callVi hc yO_212 rfl (c_X7_finding (d + 2) c_5) (by omega) (by decide) wm_X7_72 wi_X7_finding we_X7_finding wn_X7 wc_X7_finding wy_X7_finding rfl (st := []) rfl rfl (Nat.le_of_ble_eq_true rfl) dX7_of_31 ?_
    cases h
    exact m_iret hc hr dX7_of_34
  · replace h := (if_neg b_3).symm.trans h
    refine m_iload_n hc dX7_of_9 rfl ?_
    refine m_iconst hc (v := 0) dX7_of_10 (by decide) ?_
    refine m_iconst hc (v := 2) dX7_of_11 (by decide) ?_
    refine m_callSi hc (c_X7_isIn (d + 2) rfl) (by omega) (by decide) wm_X7_60 wt_X7_isIn wv_X7_isIn wc_X7_isIn wz_X7_isIn rfl (st := []) rfl rfl (Nat.le_of_ble_eq_true rfl) dX7_of_12 ?_
    refine m_ifeq hc (tgt := 28) dX7_of_15 (by decide) (fun b_6 => ?_) (fun b_6 => ?_)
    · replace h := (if_pos b_6).symm.trans h
      refine m_aload_n hc dX7_of_28 rfl ?_
      refine m_ldc hc dX7_of_29 wk_X7_83 ?_
      obtain ⟨q_7, c_8, h⟩ := nm_o h
      refine m_callVi hc yO_212 rfl (c_X7_finding (d + 2) c_8) (by omega) (by decide) wm_X7_72 wi_X7_finding we_X7_finding wn_X7 wc_X7_finding wy_X7_finding rfl (st := []) rfl rfl (Nat.le_of_ble_eq_true rfl) dX7_of_31 ?_
      cases h
      exact m_iret hc hr dX7_of_34
    · replace h := (if_neg b_6).symm.trans h
      refine m_aload_n hc dX7_of_18 rfl ?_
      refine m_iload_n hc dX7_of_19 rfl ?_
      refine m_iload_n hc dX7_of_20 rfl ?_
      refine m_iload_n hc dX7_of_21 rfl ?_
      obtain ⟨q_9, c_10, h⟩ := bd_o h
      refine m_callVi hc yO_212 rfl (c_X7_note (d + 2) c_10) (by omega) (by decide) wm_X7_93 wi_X7_note we_X7_note wn_X7 wc_X7_note wy_X7_note rfl (st := []) rfl rfl (Nat.le_of_ble_eq_true rfl) dX7_of_22 ?_
      refine m_goto hc (tgt := 34) dX7_of_25 (by decide) ?_
      cases h
      exact m_iret hc hr dX7_of_34
def L_X7_notes_4 (M : Mm) : Nat → Int32 → Int32 → Option (Int32)
  | 0, _, _ => none
  | n_8 + 1, x1_1, x2_2 =>
    if (12 : Int32) ≤ x2_2 then (
     some x1_1)
    else (
     ck (ib ((1 : Int32) + x2_2) 320) (
     nm ((x1_1 + (M 213 ((1 : Int32) + x2_2).toNatClampNeg))) (fun x1_12 =>
     L_X7_notes_4 M n_8 x1_12 (x2_2 + 1))))
def f_X7_notes (M : Mm) : Option (Int32) :=
 Option.bind (L_X7_notes_4 M FU (0 : Int32) (0 : Int32)) (fun q_3 =>
 some q_3)
set_option maxRecDepth 100000 in
set_option maxHeartbeats 4000000 in
theorem c_X7_notes {G : Gm} {l : Launch} (d : Nat) {M : Mm} {r : Int32}  (h : f_X7_notes M = some r) : Cm G l (d + 0) yX7_notes cX7_notes 3 (some .int) [.ref (gR G 212)] M (some (.int r)) M := by
  unfold f_X7_notes at h
  refine m_met (lv := [some (.ref (gR G 212)), none, none]) (own := RX7) (by decide +kernel) rfl rfl (Nat.le_of_ble_eq_true rfl) rfl ?_
  intro X hX hc hr
  subst hX
  refine m_iconst hc (v := 0) dX7_notes_0 (by decide) ?_
  refine m_istore_n hc (lv' := [some (.ref (gR G 212)), some (.int (0 : Int32)), none]) dX7_notes_1 (Nat.le_of_ble_eq_true rfl) rfl rfl ?_
  refine m_iconst hc (v := 0) dX7_notes_2 (by decide) ?_
  refine m_istore_n hc (lv' := [some (.ref (gR G 212)), some (.int (0 : Int32)), some (.int (0 : Int32))]) dX7_notes_3 (Nat.le_of_ble_eq_true rfl) rfl rfl ?_
  obtain ⟨q_3, c_4, h⟩ := bd_o h
  have J_5 : WM G X (qQ G X (some (.int r)) M) M 27 [some (.ref (gR G 212)), some (.int q_3), none] [] := by
    refine m_iload_n hc dX7_notes_27 rfl ?_
    cases h
    exact m_iret hc hr dX7_notes_28
  have L_6 : ∀ (n_8 : Nat) (x1_1 : Int32) (x2_2 : Int32), L_X7_notes_4 M n_8 x1_1 x2_2 = some q_3 → WM G X (qQ G X (some (.int r)) M) M 4 [some (.ref (gR G 212)), some (.int x1_1), some (.int x2_2)] [] := by
    intro n_8
    induction n_8 with
    | zero =>
      intro x1_1 x2_2 h
      cases (show none = some _ from h)
    | succ n_8 i_9 =>
      intro x1_1 x2_2 h
      rw [L_X7_notes_4] at h
      refine m_iload_n hc dX7_notes_4 rfl ?_
      refine m_bipush hc (v := (12 : Int32)) dX7_notes_5 (by decide) ?_
      refine m_icge hc (tgt := 27) dX7_notes_7 (by decide) (fun b_10 => ?_) (fun b_10 => ?_)
      · replace h := (if_pos b_10).symm.trans h
        cases h
        exact m_fg [2] rfl J_5
      · replace h := (if_neg b_10).symm.trans h
        refine m_iload_n hc dX7_notes_10 rfl ?_
        refine m_aload_n hc dX7_notes_11 rfl ?_
        refine m_getR hc (q := 213) yO_212 rfl tbX7 0 (by decide) wf_X7_7 rfl dX7_notes_12 ?_
        refine m_iconst hc (v := 1) dX7_notes_15 (by decide) ?_
        refine m_iload_n hc dX7_notes_16 rfl ?_
        refine m_iadd hc dX7_notes_17 ?_
        obtain ⟨b_11, h⟩ := ck_o h
        refine m_iald hc yA_213 b_11 dX7_notes_18 ?_
        refine m_iadd hc dX7_notes_19 ?_
        refine m_topI (fun x1_12 e_13 => ?_)
        replace h := nm_x e_13 h
        refine m_istore_n hc (lv' := [some (.ref (gR G 212)), some (.int x1_12), some (.int x2_2)]) dX7_notes_20 (Nat.le_of_ble_eq_true rfl) rfl rfl ?_
        refine m_iinc hc (v := x2_2 + 1) (lv' := [some (.ref (gR G 212)), some (.int x1_12), some (.int (x2_2 + 1))]) dX7_notes_21 rfl rfl rfl rfl ?_
        refine m_goto hc (tgt := 4) dX7_notes_24 (by decide) ?_
        exact m_fg [] rfl (i_9 _ _ h)
  exact m_fg [] rfl (L_6 _ _ _ c_4)
