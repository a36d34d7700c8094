def f_X6_finding (x1 : Int32) (M : Mm) : Int32 × Mm :=
 nm (mw M 0 6 ((M 0 6) + (1 : Int32))) (fun M_1 =>
 (x1, M_1))
set_option maxRecDepth 100000 in
set_option maxHeartbeats 4000000 in
theorem c_X6_finding {G : Gm} {l : Launch} (d : Nat) {x1 : Int32} {M : Mm} {r : Int32 × Mm}  (h : f_X6_finding x1 M = r) : Cm G l (d + 0) yX6_finding cX6_finding 2 (some .int) [.ref (gR G 0), .int x1] M (some (.int r.1)) r.2 := by
  unfold f_X6_finding at h
  refine m_met (lv := [some (.ref (gR G 0)), some (.int x1)]) (own := RX6) (by decide +kernel) rfl rfl (Nat.le_of_ble_eq_true rfl) rfl ?_
  intro X hX hc hr
  subst hX
  refine m_aload_n hc dX6_finding_0 rfl ?_
  refine m_dup hc dX6_finding_1 rfl ?_
  refine m_getI hc yO_0 rfl tbX6 6 (by decide) wf_X6_53 rfl dX6_finding_2 ?_
  refine m_iconst hc (v := 1) dX6_finding_5 (by decide) ?_
  refine m_iadd hc dX6_finding_6 ?_
  refine m_putI hc yO_0 rfl tbX6 tyX6 tyX6_ok nmX6 6 (by decide) wf_X6_53 rfl rfl rfl rfl dX6_finding_7 ?_
  refine m_topM (fun M_1 e_2 => ?_)
  replace h := nm_x e_2 h
  refine m_iload_n hc dX6_finding_10 rfl ?_
  subst h
  exact m_iret hc hr dX6_finding_11
def f_X3_become (a0 : Nat) (a1 : Nat) (M : Mm) : Option (Mm) :=
 nm (mw M a0 0 (M a1 0)) (fun M_1 =>
 ck (cpo (0 : Int32) (0 : Int32) (12 : Int32) 12 12) (
 nm (mu M_1 (a0 + 1) (cpy (M_1 (a1 + 1)) (M_1 (a0 + 1)) (0 : Int32) (0 : Int32) (12 : Int32))) (fun M_4 =>
 ck (cpo (0 : Int32) (0 : Int32) (72 : Int32) 72 72) (
 nm (mu M_4 (a0 + 2) (cpy (M_4 (a1 + 2)) (M_4 (a0 + 2)) (0 : Int32) (0 : Int32) (72 : Int32))) (fun M_7 =>
 ck (cpo (0 : Int32) (0 : Int32) (72 : Int32) 72 72) (
 nm (mu M_7 (a0 + 3) (cpy (M_7 (a1 + 3)) (M_7 (a0 + 3)) (0 : Int32) (0 : Int32) (72 : Int32))) (fun M_10 =>
 ck (cpo (0 : Int32) (0 : Int32) (72 : Int32) 72 72) (
 nm (mu M_10 (a0 + 4) (cpy (M_10 (a1 + 4)) (M_10 (a0 + 4)) (0 : Int32) (0 : Int32) (72 : Int32))) (fun M_13 =>
 ck (cpo (0 : Int32) (0 : Int32) (84 : Int32) 84 84) (
 nm (mu M_13 (a0 + 5) (cpy (M_13 (a1 + 5)) (M_13 (a0 + 5)) (0 : Int32) (0 : Int32) (84 : Int32))) (fun M_16 =>
 ck (cpo (0 : Int32) (0 : Int32) (7 : Int32) 7 7) (
 nm (mu M_16 (a0 + 6) (cpy (M_16 (a1 + 6)) (M_16 (a0 + 6)) (0 : Int32) (0 : Int32) (7 : Int32))) (fun M_19 =>
 some M_19)))))))))))))
set_option maxRecDepth 100000 in
set_option maxHeartbeats 4000000 in
theorem c_X3_become {G : Gm} {l : Launch} (d : Nat) {a0 : Nat} {a1 : Nat} {M : Mm} {r : Mm} (h0 : kP a0) (h1 : kP a1) (h : f_X3_become a0 a1 M = some r) : Cm G l (d + 1) yX3_become cX3_become 2 none [.ref (gR G a0), .ref (gR G a1)] M none r := by
  unfold f_X3_become at h
  refine m_met (lv := [some (.ref (gR G a0)), some (.ref (gR G a1))]) (own := RX3) (by decide +kernel) rfl rfl (Nat.le_of_ble_eq_true rfl) rfl ?_
  intro X hX hc hr
  subst hX
  refine m_aload_n hc dX3_become_0 rfl ?_
  refine m_aload_n hc dX3_become_1 rfl ?_
  refine m_getI hc (kP_o h1) rfl tbX3 0 (by decide) wf_X3_11 rfl dX3_become_2 ?_
  refine m_putI hc (kP_o h0) rfl tbX3 tyX3 tyX3_ok nmX3 0 (by decide) wf_X3_11 rfl rfl rfl rfl dX3_become_5 ?_
  refine m_topM (fun M_1 e_2 => ?_)
  replace h := nm_x e_2 h
  refine m_aload_n hc dX3_become_8 rfl ?_
  refine m_getR hc (q := (a1 + 1)) (kP_o h1) rfl tbX3 1 (by decide) wf_X3_15 rfl dX3_become_9 ?_
  refine m_iconst hc (v := 0) dX3_become_12 (by decide) ?_
  refine m_aload_n hc dX3_become_13 rfl ?_
  refine m_getR hc (q := (a0 + 1)) (kP_o h0) rfl tbX3 1 (by decide) wf_X3_15 rfl dX3_become_14 ?_
  refine m_iconst hc (v := 0) dX3_become_17 (by decide) ?_
  refine m_bipush hc (v := (12 : Int32)) dX3_become_18 (by decide) ?_
  obtain ⟨b_3, h⟩ := ck_o h
  refine m_acpy hc (by omega) (kP_1 h1) (kP_1 h0) wm_X3_48 wa_nat wa_sta wa_ini b_3.1 b_3.2.1 b_3.2.2.1 b_3.2.2.2.1 b_3.2.2.2.2 rfl (st := []) (Nat.le_of_ble_eq_true rfl) dX3_become_20 ?_
  refine m_topM (fun M_4 e_5 => ?_)
  replace h := nm_x e_5 h
  refine m_aload_n hc dX3_become_23 rfl ?_
  refine m_getR hc (q := (a1 + 2)) (kP_o h1) rfl tbX3 2 (by decide) wf_X3_19 rfl dX3_become_24 ?_
  refine m_iconst hc (v := 0) dX3_become_27 (by decide) ?_
  refine m_aload_n hc dX3_become_28 rfl ?_
  refine m_getR hc (q := (a0 + 2)) (kP_o h0) rfl tbX3 2 (by decide) wf_X3_19 rfl dX3_become_29 ?_
  refine m_iconst hc (v := 0) dX3_become_32 (by decide) ?_
  refine m_bipush hc (v := (72 : Int32)) dX3_become_33 (by decide) ?_
  obtain ⟨b_6, h⟩ := ck_o h
  refine m_acpy hc (by omega) (kP_2 h1) (kP_2 h0) wm_X3_48 wa_nat wa_sta wa_ini b_6.1 b_6.2.1 b_6.2.2.1 b_6.2.2.2.1 b_6.2.2.2.2 rfl (st := []) (Nat.le_of_ble_eq_true rfl) dX3_become_35 ?_
  refine m_topM (fun M_7 e_8 => ?_)
  replace h := nm_x e_8 h
  refine m_aload_n hc dX3_become_38 rfl ?_
  refine m_getR hc (q := (a1 + 3)) (kP_o h1) rfl tbX3 3 (by decide) wf_X3_22 rfl dX3_become_39 ?_
  refine m_iconst hc (v := 0) dX3_become_42 (by decide) ?_
  refine m_aload_n hc dX3_become_43 rfl ?_
  refine m_getR hc (q := (a0 + 3)) (kP_o h0) rfl tbX3 3 (by decide) wf_X3_22 rfl dX3_become_44 ?_
  refine m_iconst hc (v := 0) dX3_become_47 (by decide) ?_
  refine m_bipush hc (v := (72 : Int32)) dX3_become_48 (by decide) ?_
  obtain ⟨b_9, h⟩ := ck_o h
  refine m_acpy hc (by omega) (kP_3 h1) (kP_3 h0) wm_X3_48 wa_nat wa_sta wa_ini b_9.1 b_9.2.1 b_9.2.2.1 b_9.2.2.2.1 b_9.2.2.2.2 rfl (st := []) (Nat.le_of_ble_eq_true rfl) dX3_become_50 ?_
  refine m_topM (fun M_10 e_11 => ?_)
  replace h := nm_x e_11 h
  refine m_aload_n hc dX3_become_53 rfl ?_
  refine m_getR hc (q := (a1 + 4)) (kP_o h1) rfl tbX3 4 (by decide) wf_X3_25 rfl dX3_become_54 ?_
  refine m_iconst hc (v := 0) dX3_become_57 (by decide) ?_
  refine m_aload_n hc dX3_become_58 rfl ?_
  refine m_getR hc (q := (a0 + 4)) (kP_o h0) rfl tbX3 4 (by decide) wf_X3_25 rfl dX3_become_59 ?_
  refine m_iconst hc (v := 0) dX3_become_62 (by decide) ?_
  refine m_bipush hc (v := (72 : Int32)) dX3_become_63 (by decide) ?_
  obtain ⟨b_12, h⟩ := ck_o h
  refine m_acpy hc (by omega) (kP_4 h1) (kP_4 h0) wm_X3_48 wa_nat wa_sta wa_ini b_12.1 b_12.2.1 b_12.2.2.1 b_12.2.2.2.1 b_12.2.2.2.2 rfl (st := []) (Nat.le_of_ble_eq_true rfl) dX3_become_65 ?_
  refine m_topM (fun M_13 e_14 => ?_)
  replace h := nm_x e_14 h
  refine m_aload_n hc dX3_become_68 rfl ?_
  refine m_getR hc (q := (a1 + 5)) (kP_o h1) rfl tbX3 5 (by decide) wf_X3_28 rfl dX3_become_69 ?_
  refine m_iconst hc (v := 0) dX3_become_72 (by decide) ?_
  refine m_aload_n hc dX3_become_73 rfl ?_
  refine m_getR hc (q := (a0 + 5)) (kP_o h0) rfl tbX3 5 (by decide) wf_X3_28 rfl dX3_become_74 ?_
  refine m_iconst hc (v := 0) dX3_become_77 (by decide) ?_
  refine m_bipush hc (v := (84 : Int32)) dX3_become_78 (by decide) ?_
  obtain ⟨b_15, h⟩ := ck_o h
  refine m_acpy hc (by omega) (kP_5 h1) (kP_5 h0) wm_X3_48 wa_nat wa_sta wa_ini b_15.1 b_15.2.1 b_15.2.2.1 b_15.2.2.2.1 b_15.2.2.2.2 rfl (st := []) (Nat.le_of_ble_eq_true rfl) dX3_become_80 ?_
  refine m_topM (fun M_16 e_17 => ?_)
  replace h := nm_x e_17 h
  refine m_aload_n hc dX3_become_83 rfl ?_
  refine m_getR hc (q := (a1 + 6)) (kP_o h1) rfl tbX3 6 (by decide) wf_X3_31 rfl dX3_become_84 ?_
  refine m_iconst hc (v := 0) dX3_become_87 (by decide) ?_
  refine m_aload_n hc dX3_become_88 rfl ?_
  refine m_getR hc (q := (a0 + 6)) (kP_o h0) rfl tbX3 6 (by decide) wf_X3_31 rfl dX3_become_89 ?_
  refine m_iconst hc (v := 0) dX3_become_92 (by decide) ?_
  refine m_bipush hc (v := (7 : Int32)) dX3_become_93 (by decide) ?_
  obtain ⟨b_18, h⟩ := ck_o h
  refine m_acpy hc (by omega) (kP_6 h1) (kP_6 h0) wm_X3_48 wa_nat wa_sta wa_ini b_18.1 b_18.2.1 b_18.2.2.1 b_18.2.2.2.1 b_18.2.2.2.2 rfl (st := []) (Nat.le_of_ble_eq_true rfl) dX3_become_95 ?_
  refine m_topM (fun M_19 e_20 => ?_)
  replace h := nm_x e_20 h
  cases h
  exact m_vret hc hr dX3_become_98
def f_X2_keep (a1 : Nat) (M : Mm) : Option (Mm) :=
 ck (ib (M 10 1) 20) (
 Option.bind (f_X3_become (12 + 7 * (M 10 1).toNatClampNeg) a1 M) (fun q_2 =>
 nm (mw q_2 10 1 (((q_2 10 1) + (1 : Int32)) - ((q_2 10 1) + (1 : Int32)) / (20 : Int32) * (20 : Int32))) (fun M_4 =>
 nm (mw M_4 10 2 (jmin ((M_4 10 2) + (1 : Int32)) (20 : Int32))) (fun M_6 =>
 some M_6))))
set_option maxRecDepth 100000 in
set_option maxHeartbeats 4000000 in
theorem c_X2_keep {G : Gm} {l : Launch} (d : Nat) {a1 : Nat} {M : Mm} {r : Mm} (h1 : kP a1) (h : f_X2_keep a1 M = some r) : Cm G l (d + 2) yX2_keep cX2_keep 2 none [.ref (gR G 10), .ref (gR G a1)] M none r := by
  unfold f_X2_keep at h
  refine m_met (lv := [some (.ref (gR G 10)), some (.ref (gR G a1))]) (own := RX2) (by decide +kernel) rfl rfl (Nat.le_of_ble_eq_true rfl) rfl ?_
  intro X hX hc hr
  subst hX
  refine m_aload_n hc dX2_keep_0 rfl ?_
  refine m_getR hc (q := 11) yO_10 rfl tbX2 0 (by decide) wf_X2_11 rfl dX2_keep_1 ?_
  refine m_aload_n hc dX2_keep_4 rfl ?_
  refine m_getI hc yO_10 rfl tbX2 1 (by decide) wf_X2_16 rfl dX2_keep_5 ?_
  obtain ⟨b_1, h⟩ := ck_o h
  refine m_pald hc yP_11 b_1 (tRi_d _ (ib_lt b_1)) dX2_keep_8 ?_
  refine m_aload_n hc dX2_keep_9 rfl ?_
  obtain ⟨q_2, c_3, h⟩ := bd_o h
  refine m_callVv hc (kP_o (kP_ring (ib_lt b_1))) rfl (c_X3_become (d + 0) (kP_ring (ib_lt b_1)) h1 c_3) (by omega) (by decide) wm_X2_23 wi_X3_become we_X3_become wn_X3 wc_X3_become wy_X3_become rfl (st := []) rfl rfl (Nat.le_of_ble_eq_true rfl) dX2_keep_10 ?_
  refine m_aload_n hc dX2_keep_13 rfl ?_
  refine m_aload_n hc dX2_keep_14 rfl ?_
  refine m_getI hc yO_10 rfl tbX2 1 (by decide) wf_X2_16 rfl dX2_keep_15 ?_
  refine m_iconst hc (v := 1) dX2_keep_18 (by decide) ?_
  refine m_iadd hc dX2_keep_19 ?_
  refine m_bipush hc (v := (20 : Int32)) dX2_keep_20 (by decide) ?_
  refine m_irem hc dX2_keep_22 (by decide) ?_
  refine m_putI hc yO_10 rfl tbX2 tyX2 tyX2_ok nmX2 1 (by decide) wf_X2_16 rfl rfl rfl rfl dX2_keep_23 ?_
  refine m_topM (fun M_4 e_5 => ?_)
  replace h := nm_x e_5 h
  refine m_aload_n hc dX2_keep_26 rfl ?_
  refine m_aload_n hc dX2_keep_27 rfl ?_
  refine m_getI hc yO_10 rfl tbX2 2 (by decide) wf_X2_20 rfl dX2_keep_28 ?_
  refine m_iconst hc (v := 1) dX2_keep_31 (by decide) ?_
  refine m_iadd hc dX2_keep_32 ?_
  refine m_bipush hc (v := (20 : Int32)) dX2_keep_33 (by decide) ?_
  refine m_mmin hc (by omega) wm_X2_27 wt_Math_min wn_Math wc_Math_min (st := [.ref (gR G 10)]) rfl (Nat.le_of_ble_eq_true rfl) dX2_keep_35 ?_
  refine m_putI hc yO_10 rfl tbX2 tyX2 tyX2_ok nmX2 2 (by decide) wf_X2_20 rfl rfl rfl rfl dX2_keep_38 ?_
  refine m_topM (fun M_6 e_7 => ?_)
  replace h := nm_x e_7 h
  cases h
  exact m_vret hc hr dX2_keep_41
def f_X5_forgetAnswers (M : Mm) : Mm :=
 nm (mw M 161 14 (0 : Int32)) (fun M_1 =>
 nm (mw M_1 161 16 (0 : Int32)) (fun M_3 =>
 M_3))
set_option maxRecDepth 100000 in
set_option maxHeartbeats 4000000 in
theorem c_X5_forgetAnswers {G : Gm} {l : Launch} (d : Nat) {M : Mm} {r : Mm}  (h : f_X5_forgetAnswers M = r) : Cm G l (d + 0) yX5_forgetAnswers cX5_forgetAnswers 1 none [.ref (gR G 161)] M none r := by
  unfold f_X5_forgetAnswers at h
  refine m_met (lv := [some (.ref (gR G 161))]) (own := RX5) (by decide +kernel) rfl rfl (Nat.le_of_ble_eq_true rfl) rfl ?_
  intro X hX hc hr
  subst hX
  refine m_aload_n hc dX5_forgetAnswers_0 rfl ?_
  refine m_iconst hc (v := 0) dX5_forgetAnswers_1 (by decide) ?_
  refine m_putI hc yO_161 rfl tbX5 tyX5 tyX5_ok nmX5 14 (by decide) wf_X5_64 rfl rfl rfl rfl dX5_forgetAnswers_2 ?_
  refine m_topM (fun M_1 e_2 => ?_)
  replace h := nm_x e_2 h
  refine m_aload_n hc dX5_forgetAnswers_5 rfl ?_
  refine m_iconst hc (v := 0) dX5_forgetAnswers_6 (by decide) ?_
  refine m_putI hc yO_161 rfl tbX5 tyX5 tyX5_ok nmX5 16 (by decide) wf_X5_72 rfl rfl rfl rfl dX5_forgetAnswers_7 ?_
  refine m_topM (fun M_3 e_4 => ?_)
  replace h := nm_x e_4 h
  subst h
  exact m_vret hc hr dX5_forgetAnswers_10
def f_X5_forgetLength (M : Mm) : Mm :=
 nm (mw M 161 12 (12 : Int32)) (fun M_1 =>
 nm (f_X5_forgetAnswers M_1) (fun q_3 =>
 q_3))
set_option maxRecDepth 100000 in
set_option maxHeartbeats 4000000 in
theorem c_X5_forgetLength {G : Gm} {l : Launch} (d : Nat) {M : Mm} {r : Mm}  (h : f_X5_forgetLength M = r) : Cm G l (d + 1) yX5_forgetLength cX5_forgetLength 1 none [.ref (gR G 161)] M none r := by
  unfold f_X5_forgetLength at h
  refine m_met (lv := [some (.ref (gR G 161))]) (own := RX5) (by decide +kernel) rfl rfl (Nat.le_of_ble_eq_true rfl) rfl ?_
  intro X hX hc hr
  subst hX
  refine m_aload_n hc dX5_forgetLength_0 rfl ?_
  refine m_bipush hc (v := (12 : Int32)) dX5_forgetLength_1 (by decide) ?_
  refine m_putI hc yO_161 rfl tbX5 tyX5 tyX5_ok nmX5 12 (by decide) wf_X5_57 rfl rfl rfl rfl dX5_forgetLength_3 ?_
  refine m_topM (fun M_1 e_2 => ?_)
  replace h := nm_x e_2 h
  refine m_aload_n hc dX5_forgetLength_6 rfl ?_
  obtain ⟨q_3, c_4, h⟩ := nm_o h
  refine m_callVv hc yO_161 rfl (c_X5_forgetAnswers (d + 0) c_4) (by omega) (by decide) wm_X5_84 wi_X5_forgetAnswers we_X5_forgetAnswers wn_X5 wc_X5_forgetAnswers wy_X5_forgetAnswers rfl (st := []) rfl rfl (Nat.le_of_ble_eq_true rfl) dX5_forgetLength_7 ?_
  subst h
  exact m_vret hc hr dX5_forgetLength_10
def f_X6_beats (x1 : Int32) (M : Mm) : Option (Int32 × Mm) :=
 if x1 < (1 : Int32) then (
 nm (f_X6_finding (-100001 : Int32) M) (fun q_2 =>
 some (q_2.1, q_2.2)))
else (
 if x1 ≤ (12 : Int32) then (
 Option.bind (f_X2_keep 3 M) (fun q_5 =>
 nm ((q_5 3 0)) (fun x2_7 =>
 nm (mw q_5 3 0 x1) (fun M_9 =>
 nm (f_X5_forgetLength M_9) (fun q_11 =>
 some (x2_7, q_11))))))
else (
 nm (f_X6_finding (-100001 : Int32) M) (fun q_13 =>
 some (q_13.1, q_13.2))))
set_option maxRecDepth 100000 in
set_option maxHeartbeats 4000000 in
theorem c_X6_beats {G : Gm} {l : Launch} (d : Nat) {x1 : Int32} {M : Mm} {r : Int32 × Mm}  (h : f_X6_beats x1 M = some r) : Cm G l (d + 3) yX6_beats cX6_beats 3 (some .int) [.ref (gR G 0), .int x1] M (some (.int r.1)) r.2 := by
  unfold f_X6_beats at h
  refine m_met (lv := [some (.ref (gR G 0)), some (.int x1), none]) (own := RX6) (by decide +kernel) rfl rfl (Nat.le_of_ble_eq_true rfl) rfl ?_
  intro X hX hc hr
  subst hX
  refine m_iload_n hc dX6_beats_0 rfl ?_
  refine m_iconst hc (v := 1) dX6_beats_1 (by decide) ?_
  refine m_iclt hc (tgt := 11) dX6_beats_2 (by decide) (fun b_1 => ?_) (fun b_1 => ?_)
  · replace h := (if_pos b_1).symm.trans h
    refine m_aload_n hc dX6_beats_11 rfl ?_
    refine m_ldc hc dX6_beats_12 wk_X6_57 ?_
    obtain ⟨q_2, c_3, h⟩ := nm_o h
    refine m_callVi hc yO_0 rfl (c_X6_finding (d + 2) c_3) (by omega) (by decide) wm_X6_58 wi_X6_finding we_X6_finding wn_X6 wc_X6_finding wy_X6_finding rfl (st := []) rfl rfl (Nat.le_of_ble_eq_true rfl) dX6_beats_14 ?_
    cases h
    exact m_iret hc hr dX6_beats_17
  · replace h := (if_neg b_1).symm.trans h
    refine m_iload_n hc dX6_beats_5 rfl ?_
    refine m_bipush hc (v := (12 : Int32)) dX6_beats_6 (by decide) ?_
    refine m_icle hc (tgt := 18) dX6_beats_8 (by decide) (fun b_4 => ?_) (fun b_4 => ?_)
    · replace h := (if_pos b_4).symm.trans h
      refine m_aload_n hc dX6_beats_18 rfl ?_
      refine m_getR hc (q := 10) yO_0 rfl tbX6 2 (by decide) wf_X6_26 rfl dX6_beats_19 ?_
      refine m_aload_n hc dX6_beats_22 rfl ?_
      refine m_getR hc (q := 3) yO_0 rfl tbX6 1 (by decide) wf_X6_19 rfl dX6_beats_23 ?_
      obtain ⟨q_5, c_6, h⟩ := bd_o h
      refine m_callVv hc yO_10 rfl (c_X2_keep (d + 0) kP_3lit c_6) (by omega) (by decide) wm_X6_62 wi_X2_keep we_X2_keep wn_X2 wc_X2_keep wy_X2_keep rfl (st := []) rfl rfl (Nat.le_of_ble_eq_true rfl) dX6_beats_26 ?_
      refine m_aload_n hc dX6_beats_29 rfl ?_
      refine m_getR hc (q := 3) yO_0 rfl tbX6 1 (by decide) wf_X6_19 rfl dX6_beats_30 ?_
      refine m_getI hc yO_3 rfl tbX3 0 (by decide) wf_X6_66 rfl dX6_beats_33 ?_
      refine m_topI (fun x2_7 e_8 => ?_)
      replace h := nm_x e_8 h
      refine m_istore_n hc (lv' := [some (.ref (gR G 0)), some (.int x1), some (.int x2_7)]) dX6_beats_36 (Nat.le_of_ble_eq_true rfl) rfl rfl ?_
      refine m_aload_n hc dX6_beats_37 rfl ?_
      refine m_getR hc (q := 3) yO_0 rfl tbX6 1 (by decide) wf_X6_19 rfl dX6_beats_38 ?_
      refine m_iload_n hc dX6_beats_41 rfl ?_
      refine m_putI hc yO_3 rfl tbX3 tyX3 tyX3_ok nmX3 0 (by decide) wf_X6_66 rfl rfl rfl rfl dX6_beats_42 ?_
      refine m_topM (fun M_9 e_10 => ?_)
      replace h := nm_x e_10 h
      refine m_aload_n hc dX6_beats_45 rfl ?_
      refine m_getR hc (q := 161) yO_0 rfl tbX6 4 (by decide) wf_X6_42 rfl dX6_beats_46 ?_
      obtain ⟨q_11, c_12, h⟩ := nm_o h
      refine m_callVv hc yO_161 rfl (c_X5_forgetLength (d + 1) c_12) (by omega) (by decide) wm_X6_69 wi_X5_forgetLength we_X5_forgetLength wn_X5 wc_X5_forgetLength wy_X5_forgetLength rfl (st := []) rfl rfl (Nat.le_of_ble_eq_true rfl) dX6_beats_49 ?_
      refine m_iload_n hc dX6_beats_52 rfl ?_
      cases h
      exact m_iret hc hr dX6_beats_53
    · replace h := (if_neg b_4).symm.trans h
      refine m_aload_n hc dX6_beats_11 rfl ?_
      refine m_ldc hc dX6_beats_12 wk_X6_57 ?_
      obtain ⟨q_13, c_14, h⟩ := nm_o h
      refine m_callVi hc yO_0 rfl (c_X6_finding (d + 2) c_14) (by omega) (by decide) wm_X6_58 wi_X6_finding we_X6_finding wn_X6 wc_X6_finding wy_X6_finding rfl (st := []) rfl rfl (Nat.le_of_ble_eq_true rfl) dX6_beats_14 ?_
      cases h
      exact m_iret hc hr dX6_beats_17
def f_X6_isBeat (x0 : Int32) : Int32 :=
 if x0 < 0 then (
 (0 : Int32))
else (
 if (12 : Int32) ≤ x0 then (
 (0 : Int32))
else (
 (1 : Int32)))
set_option maxRecDepth 100000 in
set_option maxHeartbeats 4000000 in
theorem c_X6_isBeat {G : Gm} {l : Launch} (d : Nat) {x0 : Int32} {M : Mm} {r : Int32}  (h : f_X6_isBeat x0 = r) : Cm G l (d + 0) yX6_isBeat cX6_isBeat 1 (some .boolean) [.int x0] M (some (.int r)) M := by
  unfold f_X6_isBeat at h
  refine m_met (lv := [some (.int x0)]) (own := RX6) (by decide +kernel) rfl rfl (Nat.le_of_ble_eq_true rfl) rfl ?_
  intro X hX hc hr
  subst hX
  refine m_iload_n hc dX6_isBeat_0 rfl ?_
  refine m_iflt hc (tgt := 14) dX6_isBeat_1 (by decide) (fun b_1 => ?_) (fun b_1 => ?_)
  · replace h := (if_pos b_1).symm.trans h
    refine m_iconst hc (v := 0) dX6_isBeat_14 (by decide) ?_
    subst h
    exact m_zret hc hr (v := (0 : Int32)) (by decide) dX6_isBeat_15
  · replace h := (if_neg b_1).symm.trans h
    refine m_iload_n hc dX6_isBeat_4 rfl ?_
    refine m_bipush hc (v := (12 : Int32)) dX6_isBeat_5 (by decide) ?_
    refine m_icge hc (tgt := 14) dX6_isBeat_7 (by decide) (fun b_2 => ?_) (fun b_2 => ?_)
    · replace h := (if_pos b_2).symm.trans h
      refine m_iconst hc (v := 0) dX6_isBeat_14 (by decide) ?_
      subst h
      exact m_zret hc hr (v := (0 : Int32)) (by decide) dX6_isBeat_15
    · replace h := (if_neg b_2).symm.trans h
      refine m_iconst hc (v := 1) dX6_isBeat_10 (by decide) ?_
      refine m_goto hc (tgt := 15) dX6_isBeat_11 (by decide) ?_
      subst h
      exact m_zret hc hr (v := (1 : Int32)) (by decide) dX6_isBeat_15
theorem bz_X6_isBeat (x0 : Int32) : narrow .boolean (.int (f_X6_isBeat x0)) = .int (f_X6_isBeat x0) := by
  unfold f_X6_isBeat
  first | (repeat' split) <;> rfl | (first | rfl)
def f_X6_isKind (x0 : Int32) : Int32 :=
 if x0 < 0 then (
 (0 : Int32))
else (
 if (4 : Int32) ≤ x0 then (
 (0 : Int32))
else (
 (1 : Int32)))
set_option maxRecDepth 100000 in
set_option maxHeartbeats 4000000 in
theorem c_X6_isKind {G : Gm} {l : Launch} (d : Nat) {x0 : Int32} {M : Mm} {r : Int32}  (h : f_X6_isKind x0 = r) : Cm G l (d + 0) yX6_isKind cX6_isKind 1 (some .boolean) [.int x0] M (some (.int r)) M := by
  unfold f_X6_isKind at h
  refine m_met (lv := [some (.int x0)]) (own := RX6) (by decide +kernel) rfl rfl (Nat.le_of_ble_eq_true rfl) rfl ?_
  intro X hX hc hr
  subst hX
  refine m_iload_n hc dX6_isKind_0 rfl ?_
  refine m_iflt hc (tgt := 13) dX6_isKind_1 (by decide) (fun b_1 => ?_) (fun b_1 => ?_)
  · replace h := (if_pos b_1).symm.trans h
    refine m_iconst hc (v := 0) dX6_isKind_13 (by decide) ?_
    subst h
    exact m_zret hc hr (v := (0 : Int32)) (by decide) dX6_isKind_14
  · replace h := (if_neg b_1).symm.trans h
    refine m_iload_n hc dX6_isKind_4 rfl ?_
    refine m_iconst hc (v := 4) dX6_isKind_5 (by decide) ?_
    refine m_icge hc (tgt := 13) dX6_isKind_6 (by decide) (fun b_2 => ?_) (fun b_2 => ?_)
    · replace h := (if_pos b_2).symm.trans h
      refine m_iconst hc (v := 0) dX6_isKind_13 (by decide) ?_
      subst h
      exact m_zret hc hr (v := (0 : Int32)) (by decide) dX6_isKind_14
    · replace h := (if_neg b_2).symm.trans h
      refine m_iconst hc (v := 1) dX6_isKind_9 (by decide) ?_
      refine m_goto hc (tgt := 14) dX6_isKind_10 (by decide) ?_
      subst h
      exact m_zret hc hr (v := (1 : Int32)) (by decide) dX6_isKind_14
theorem bz_X6_isKind (x0 : Int32) : narrow .boolean (.int (f_X6_isKind x0)) = .int (f_X6_isKind x0) := by
  unfold f_X6_isKind
  first | (repeat' split) <;> rfl | (first | rfl)
def f_X3_place (x0 : Int32) (x1 : Int32) : Int32 :=
 ((x0 * (6 : Int32)) + x1)
set_option maxRecDepth 100000 in
set_option maxHeartbeats 4000000 in
theorem c_X3_place {G : Gm} {l : Launch} (d : Nat) {x0 : Int32} {x1 : Int32} {M : Mm} {r : Int32}  (h : f_X3_place x0 x1 = r) : Cm G l (d + 0) yX3_place cX3_place 2 (some .int) [.int x0, .int x1] M (some (.int r)) M := by
  unfold f_X3_place at h
  refine m_met (lv := [some (.int x0), some (.int x1)]) (own := RX3) (by decide +kernel) rfl rfl (Nat.le_of_ble_eq_true rfl) rfl ?_
  intro X hX hc hr
  subst hX
  refine m_iload_n hc dX3_place_0 rfl ?_
  refine m_bipush hc (v := (6 : Int32)) dX3_place_1 (by decide) ?_
  refine m_imul hc dX3_place_3 ?_
  refine m_iload_n hc dX3_place_4 rfl ?_
  refine m_iadd hc dX3_place_5 ?_
  subst h
  exact m_iret hc hr dX3_place_6
def f_X3_add (a0 : Nat) (x1 : Int32) (x2 : Int32) (x3 : Int32) (x4 : Int32) (M : Mm) : Option (Int32 × Mm) :=
 ck (ib x1 12) (
 nm ((M (a0 + 1) x1.toNatClampNeg)) (fun x5_2 =>
 nm ((f_X3_place x1 x5_2)) (fun x6_4 =>
 ck (ib x6_4 72) (
 nm (mw M (a0 + 2) x6_4.toNatClampNeg x2) (fun M_7 =>
 ck (ib x6_4 72) (
 nm (mw M_7 (a0 + 3) x6_4.toNatClampNeg x3) (fun M_10 =>
 nm (
 if x4 = 0 then (
 (0 : Int32))
else (
 if x2 = (2 : Int32) then (
 (0 : Int32))
else (
 (1 : Int32)))) (fun q_14 =>
 ck (ib x6_4 72) (
 nm (mw M_10 (a0 + 4) x6_4.toNatClampNeg q_14) (fun M_20 =>
 ck (ib x1 12) (
 nm (mw M_20 (a0 + 1) x1.toNatClampNeg (x5_2 + (1 : Int32))) (fun M_23 =>
 some (x5_2, M_23)))))))))))))
set_option maxRecDepth 100000 in
set_option maxHeartbeats 4000000 in
theorem c_X3_add {G : Gm} {l : Launch} (d : Nat) {a0 : Nat} {x1 : Int32} {x2 : Int32} {x3 : Int32} {x4 : Int32} {M : Mm} {r : Int32 × Mm} (h0 : kP a0) (h : f_X3_add a0 x1 x2 x3 x4 M = some r) : Cm G l (d + 1) yX3_add cX3_add 7 (some .int) [.ref (gR G a0), .int x1, .int x2, .int x3, .int x4] M (some (.int r.1)) r.2 := by
  unfold f_X3_add at h
  refine m_met (lv := [some (.ref (gR G a0)), some (.int x1), some (.int x2), some (.int x3), some (.int x4), none, none]) (own := RX3) (by decide +kernel) rfl rfl (Nat.le_of_ble_eq_true rfl) rfl ?_
  intro X hX hc hr
  subst hX
  refine m_aload_n hc dX3_add_0 rfl ?_
  refine m_getR hc (q := (a0 + 1)) (kP_o h0) rfl tbX3 1 (by decide) wf_X3_15 rfl dX3_add_1 ?_
  refine m_iload_n hc dX3_add_4 rfl ?_
  obtain ⟨b_1, h⟩ := ck_o h
  refine m_iald hc (kP_1 h0) b_1 dX3_add_5 ?_
  refine m_topI (fun x5_2 e_3 => ?_)
  replace h := nm_x e_3 h
  refine m_istore hc (lv' := [some (.ref (gR G a0)), some (.int x1), some (.int x2), some (.int x3), some (.int x4), some (.int x5_2), none]) dX3_add_6 (Nat.le_of_ble_eq_true rfl) rfl rfl ?_
  refine m_iload_n hc dX3_add_8 rfl ?_
  refine m_iload hc dX3_add_9 rfl ?_
  refine m_callSi hc (c_X3_place (d + 0) rfl) (by omega) (by decide) wm_X3_40 wt_X3_place wv_X3_place wc_X3_place wz_X3_place rfl (st := []) rfl rfl (Nat.le_of_ble_eq_true rfl) dX3_add_11 ?_
  refine m_topI (fun x6_4 e_5 => ?_)
  replace h := nm_x e_5 h
  refine m_istore hc (lv' := [some (.ref (gR G a0)), some (.int x1), some (.int x2), some (.int x3), some (.int x4), some (.int x5_2), some (.int x6_4)]) dX3_add_14 (Nat.le_of_ble_eq_true rfl) rfl rfl ?_
  refine m_aload_n hc dX3_add_16 rfl ?_
  refine m_getR hc (q := (a0 + 2)) (kP_o h0) rfl tbX3 2 (by decide) wf_X3_19 rfl dX3_add_17 ?_
  refine m_iload hc dX3_add_20 rfl ?_
  refine m_iload_n hc dX3_add_22 rfl ?_
  obtain ⟨b_6, h⟩ := ck_o h
  refine m_iast hc (kP_2 h0) b_6 dX3_add_23 ?_
  refine m_topM (fun M_7 e_8 => ?_)
  replace h := nm_x e_8 h
  refine m_aload_n hc dX3_add_24 rfl ?_
  refine m_getR hc (q := (a0 + 3)) (kP_o h0) rfl tbX3 3 (by decide) wf_X3_22 rfl dX3_add_25 ?_
  refine m_iload hc dX3_add_28 rfl ?_
  refine m_iload_n hc dX3_add_30 rfl ?_
  obtain ⟨b_9, h⟩ := ck_o h
  refine m_iast hc (kP_3 h0) b_9 dX3_add_31 ?_
  refine m_topM (fun M_10 e_11 => ?_)
  replace h := nm_x e_11 h
  refine m_aload_n hc dX3_add_32 rfl ?_
  refine m_getR hc (q := (a0 + 4)) (kP_o h0) rfl tbX3 4 (by decide) wf_X3_25 rfl dX3_add_33 ?_
  refine m_iload hc dX3_add_36 rfl ?_
  refine m_iload hc dX3_add_38 rfl ?_
  obtain ⟨q_14, c_15, h⟩ := nm_o h
  have J_16 : WM G X (qQ G X (some (.int r.1)) r.2) M_10 53 [some (.ref (gR G a0)), some (.int x1), some (.int x2), some (.int x3), some (.int x4), some (.int x5_2), some (.int x6_4)] [.int q_14, .int x6_4, .ref (gR G (a0 + 4))] := by
    obtain ⟨b_19, h⟩ := ck_o h
    refine m_iast hc (kP_4 h0) b_19 dX3_add_53 ?_
    refine m_topM (fun M_20 e_21 => ?_)
    replace h := nm_x e_21 h
    refine m_aload_n hc dX3_add_54 rfl ?_
    refine m_getR hc (q := (a0 + 1)) (kP_o h0) rfl tbX3 1 (by decide) wf_X3_15 rfl dX3_add_55 ?_
    refine m_iload_n hc dX3_add_58 rfl ?_
    refine m_iload hc dX3_add_59 rfl ?_
    refine m_iconst hc (v := 1) dX3_add_61 (by decide) ?_
    refine m_iadd hc dX3_add_62 ?_
    obtain ⟨b_22, h⟩ := ck_o h
    refine m_iast hc (kP_1 h0) b_22 dX3_add_63 ?_
    refine m_topM (fun M_23 e_24 => ?_)
    replace h := nm_x e_24 h
    refine m_iload hc dX3_add_64 rfl ?_
    cases h
    exact m_iret hc hr dX3_add_66
  replace h := c_15
  refine m_ifeq hc (tgt := 52) dX3_add_40 (by decide) (fun b_17 => ?_) (fun b_17 => ?_)
  · replace h := (if_pos b_17).symm.trans h
    refine m_iconst hc (v := 0) dX3_add_52 (by decide) ?_
    subst h
    exact m_fg [] rfl J_16
  · replace h := (if_neg b_17).symm.trans h
    refine m_iload_n hc dX3_add_43 rfl ?_
    refine m_iconst hc (v := 2) dX3_add_44 (by decide) ?_
    refine m_iceq hc (tgt := 52) dX3_add_45 (by decide) (fun b_18 => ?_) (fun b_18 => ?_)
    · replace h := (if_pos b_18).symm.trans h
      refine m_iconst hc (v := 0) dX3_add_52 (by decide) ?_
      subst h
      exact m_fg [] rfl J_16
    · replace h := (if_neg b_18).symm.trans h
      refine m_iconst hc (v := 1) dX3_add_48 (by decide) ?_
      refine m_goto hc (tgt := 53) dX3_add_49 (by decide) ?_
      subst h
      exact m_fg [] rfl J_16
def f_X5_forgetBeats (x1 : Int32) (x2 : Int32) (M : Mm) : Mm :=
 nm (mw M 161 13 (jmin (M 161 13) x1)) (fun M_1 =>
 nm (
 if (M_1 3 0) ≤ x1 then (
 M_1)
else (
 nm (mw M_1 161 12 (jmax (M_1 161 12) (x2 + (1 : Int32)))) (fun M_10 =>
 M_10))) (fun q_6 =>
 nm (f_X5_forgetAnswers q_6) (fun q_12 =>
 q_12)))
set_option maxRecDepth 100000 in
set_option maxHeartbeats 4000000 in
theorem c_X5_forgetBeats {G : Gm} {l : Launch} (d : Nat) {x1 : Int32} {x2 : Int32} {M : Mm} {r : Mm}  (h : f_X5_forgetBeats x1 x2 M = r) : Cm G l (d + 1) yX5_forgetBeats cX5_forgetBeats 3 none [.ref (gR G 161), .int x1, .int x2] M none r := by
  unfold f_X5_forgetBeats at h
  refine m_met (lv := [some (.ref (gR G 161)), some (.int x1), some (.int x2)]) (own := RX5) (by decide +kernel) rfl rfl (Nat.le_of_ble_eq_true rfl) rfl ?_
  intro X hX hc hr
  subst hX
  refine m_aload_n hc dX5_forgetBeats_0 rfl ?_
  refine m_aload_n hc dX5_forgetBeats_1 rfl ?_
  refine m_getI hc yO_161 rfl tbX5 13 (by decide) wf_X5_61 rfl dX5_forgetBeats_2 ?_
  refine m_iload_n hc dX5_forgetBeats_5 rfl ?_
  refine m_mmin hc (by omega) wm_X5_87 wt_Math_min wn_Math wc_Math_min (st := [.ref (gR G 161)]) rfl (Nat.le_of_ble_eq_true rfl) dX5_forgetBeats_6 ?_
  refine m_putI hc yO_161 rfl tbX5 tyX5 tyX5_ok nmX5 13 (by decide) wf_X5_61 rfl rfl rfl rfl dX5_forgetBeats_9 ?_
  refine m_topM (fun M_1 e_2 => ?_)
  replace h := nm_x e_2 h
  refine m_iload_n hc dX5_forgetBeats_12 rfl ?_
  refine m_aload_n hc dX5_forgetBeats_13 rfl ?_
  refine m_getR hc (q := 3) yO_161 rfl tbX5 1 (by decide) wf_X5_15 rfl dX5_forgetBeats_14 ?_
  refine m_getI hc yO_3 rfl tbX3 0 (by decide) wf_X5_93 rfl dX5_forgetBeats_17 ?_
  obtain ⟨q_6, c_7, h⟩ := nm_o h
  have J_8 : WM G X (qQ G X none r) q_6 37 [some (.ref (gR G 161)), some (.int x1), some (.int x2)] [] := by
    refine m_aload_n hc dX5_forgetBeats_37 rfl ?_
    obtain ⟨q_12, c_13, h⟩ := nm_o h
    refine m_callVv hc yO_161 rfl (c_X5_forgetAnswers (d + 0) c_13) (by omega) (by decide) wm_X5_84 wi_X5_forgetAnswers we_X5_forgetAnswers wn_X5 wc_X5_forgetAnswers wy_X5_forgetAnswers rfl (st := []) rfl rfl (Nat.le_of_ble_eq_true rfl) dX5_forgetBeats_38 ?_
    subst h
    exact m_vret hc hr dX5_forgetBeats_41
  replace h := c_7
  refine m_icge hc (tgt := 37) dX5_forgetBeats_20 (by decide) (fun b_9 => ?_) (fun b_9 => ?_)
  · replace h := (if_pos b_9).symm.trans h
    subst h
    exact m_fg [] rfl J_8
  · replace h := (if_neg b_9).symm.trans h
    refine m_aload_n hc dX5_forgetBeats_23 rfl ?_
    refine m_aload_n hc dX5_forgetBeats_24 rfl ?_
    refine m_getI hc yO_161 rfl tbX5 12 (by decide) wf_X5_57 rfl dX5_forgetBeats_25 ?_
    refine m_iload_n hc dX5_forgetBeats_28 rfl ?_
    refine m_iconst hc (v := 1) dX5_forgetBeats_29 (by decide) ?_
    refine m_iadd hc dX5_forgetBeats_30 ?_
    refine m_mmax hc (by omega) wm_X5_98 wt_Math_max wn_Math wc_Math_max (st := [.ref (gR G 161)]) rfl (Nat.le_of_ble_eq_true rfl) dX5_forgetBeats_31 ?_
    refine m_putI hc yO_161 rfl tbX5 tyX5 tyX5_ok nmX5 12 (by decide) wf_X5_57 rfl rfl rfl rfl dX5_forgetBeats_34 ?_
    refine m_topM (fun M_10 e_11 => ?_)
    replace h := nm_x e_11 h
    subst h
    exact m_fg [] rfl J_8
def f_X6_note (x1 : Int32) (x2 : Int32) (x3 : Int32) (x4 : Int32) (M : Mm) : Option (Int32 × Mm) :=
 if (f_X6_isBeat x1) = 0 then (
 nm (f_X6_finding (-100001 : Int32) M) (fun q_2 =>
 some (q_2.1, q_2.2)))
else (
 if (f_X6_isKind x2) = 0 then (
 nm (f_X6_finding (-100001 : Int32) M) (fun q_5 =>
 some (q_5.1, q_5.2)))
else (
 if x3 < (-1 : Int32) then (
 nm (f_X6_finding (-100001 : Int32) M) (fun q_8 =>
 some (q_8.1, q_8.2)))
else (
 if x3 ≤ (100 : Int32) then (
 ck (ib x1 12) (
 if (M 4 x1.toNatClampNeg) < (6 : Int32) then (
 Option.bind (f_X2_keep 3 M) (fun q_13 =>
 Option.bind (f_X3_add 3 x1 x2 x3 x4 q_13) (fun q_15 =>
 nm (f_X5_forgetBeats x1 x1 q_15.2) (fun q_17 =>
 some (q_15.1, q_17)))))
else (
 nm (f_X6_finding (-100005 : Int32) M) (fun q_19 =>
 some (q_19.1, q_19.2)))))
else (
 nm (f_X6_finding (-100001 : Int32) M) (fun q_21 =>
 some (q_21.1, q_21.2))))))
set_option maxRecDepth 100000 in
set_option maxHeartbeats 4000000 in
theorem c_X6_note {G : Gm} {l : Launch} (d : Nat) {x1 : Int32} {x2 : Int32} {x3 : Int32} {x4 : Int32} {M : Mm} {r : Int32 × Mm}  (h : f_X6_note x1 x2 x3 x4 M = some r) : Cm G l (d + 3) yX6_note cX6_note 6 (some .int) [.ref (gR G 0), .int x1, .int x2, .int x3, .int x4] M (some (.int r.1)) r.2 := by
  unfold f_X6_note at h
  refine m_met (lv := [some (.ref (gR G 0)), some (.int x1), some (.int x2), some (.int x3), some (.int x4), none]) (own := RX6) (by decide +kernel) rfl rfl (Nat.le_of_ble_eq_true rfl) rfl ?_
  intro X hX hc hr
  subst hX
  refine m_iload_n hc dX6_note_0 rfl ?_
  refine m_callSi hc (c_X6_isBeat (d + 2) rfl) (by omega) (by decide) wm_X6_72 wt_X6_isBeat wv_X6_isBeat wc_X6_isBeat wz_X6_isBeat rfl (st := []) rfl rfl (Nat.le_of_ble_eq_true rfl) dX6_note_1 ?_
  refine m_ifeq hc (tgt := 25) dX6_note_4 (by decide) (fun b_1 => ?_) (fun b_1 => ?_)
  · replace h := (if_pos b_1).symm.trans h
    refine m_aload_n hc dX6_note_25 rfl ?_
    refine m_ldc hc dX6_note_26 wk_X6_57 ?_
    obtain ⟨q_2, c_3, h⟩ := nm_o h
    refine m_callVi hc yO_0 rfl (c_X6_finding (d + 2) c_3) (by omega) (by decide) wm_X6_58 wi_X6_finding we_X6_finding wn_X6 wc_X6_finding wy_X6_finding rfl (st := []) rfl rfl (Nat.le_of_ble_eq_true rfl) dX6_note_28 ?_
    cases h
    exact m_iret hc hr dX6_note_31
  · replace h := (if_neg b_1).symm.trans h
    refine m_iload_n hc dX6_note_7 rfl ?_
    refine m_callSi hc (c_X6_isKind (d + 2) rfl) (by omega) (by decide) wm_X6_76 wt_X6_isKind wv_X6_isKind wc_X6_isKind wz_X6_isKind rfl (st := []) rfl rfl (Nat.le_of_ble_eq_true rfl) dX6_note_8 ?_
    refine m_ifeq hc (tgt := 25) dX6_note_11 (by decide) (fun b_4 => ?_) (fun b_4 => ?_)
    · replace h := (if_pos b_4).symm.trans h
      refine m_aload_n hc dX6_note_25 rfl ?_
      refine m_ldc hc dX6_note_26 wk_X6_57 ?_
      obtain ⟨q_5, c_6, h⟩ := nm_o h
      refine m_callVi hc yO_0 rfl (c_X6_finding (d + 2) c_6) (by omega) (by decide) wm_X6_58 wi_X6_finding we_X6_finding wn_X6 wc_X6_finding wy_X6_finding rfl (st := []) rfl rfl (Nat.le_of_ble_eq_true rfl) dX6_note_28 ?_
      cases h
      exact m_iret hc hr dX6_note_31
    · replace h := (if_neg b_4).symm.trans h
      refine m_iload_n hc dX6_note_14 rfl ?_
      refine m_iconst hc (v := (-1)) dX6_note_15 (by decide) ?_
      refine m_iclt hc (tgt := 25) dX6_note_16 (by decide) (fun b_7 => ?_) (fun b_7 => ?_)
      · replace h := (if_pos b_7).symm.trans h
        refine m_aload_n hc dX6_note_25 rfl ?_
        refine m_ldc hc dX6_note_26 wk_X6_57 ?_
        obtain ⟨q_8, c_9, h⟩ := nm_o h
        refine m_callVi hc yO_0 rfl (c_X6_finding (d + 2) c_9) (by omega) (by decide) wm_X6_58 wi_X6_finding we_X6_finding wn_X6 wc_X6_finding wy_X6_finding rfl (st := []) rfl rfl (Nat.le_of_ble_eq_true rfl) dX6_note_28 ?_
        cases h
        exact m_iret hc hr dX6_note_31
      · replace h := (if_neg b_7).symm.trans h
        refine m_iload_n hc dX6_note_19 rfl ?_
        refine m_bipush hc (v := (100 : Int32)) dX6_note_20 (by decide) ?_
        refine m_icle hc (tgt := 32) dX6_note_22 (by decide) (fun b_10 => ?_) (fun b_10 => ?_)
        · replace h := (if_pos b_10).symm.trans h
          refine m_aload_n hc dX6_note_32 rfl ?_
          refine m_getR hc (q := 3) yO_0 rfl tbX6 1 (by decide) wf_X6_19 rfl dX6_note_33 ?_
          refine m_getR hc (q := 4) yO_3 rfl tbX3 1 (by decide) wf_X6_79 rfl dX6_note_36 ?_
          refine m_iload_n hc dX6_note_39 rfl ?_
          obtain ⟨b_11, h⟩ := ck_o h
          refine m_iald hc yA_4 b_11 dX6_note_40 ?_
          refine m_bipush hc (v := (6 : Int32)) dX6_note_41 (by decide) ?_
          refine m_iclt hc (tgt := 53) dX6_note_43 (by decide) (fun b_12 => ?_) (fun b_12 => ?_)
          · replace h := (if_pos b_12).symm.trans h
            refine m_aload_n hc dX6_note_53 rfl ?_
            refine m_getR hc (q := 10) yO_0 rfl tbX6 2 (by decide) wf_X6_26 rfl dX6_note_54 ?_
            refine m_aload_n hc dX6_note_57 rfl ?_
            refine m_getR hc (q := 3) yO_0 rfl tbX6 1 (by decide) wf_X6_19 rfl dX6_note_58 ?_
            obtain ⟨q_13, c_14, h⟩ := bd_o h
            refine m_callVv hc yO_10 rfl (c_X2_keep (d + 0) kP_3lit c_14) (by omega) (by decide) wm_X6_62 wi_X2_keep we_X2_keep wn_X2 wc_X2_keep wy_X2_keep rfl (st := []) rfl rfl (Nat.le_of_ble_eq_true rfl) dX6_note_61 ?_
            refine m_aload_n hc dX6_note_64 rfl ?_
            refine m_getR hc (q := 3) yO_0 rfl tbX6 1 (by decide) wf_X6_19 rfl dX6_note_65 ?_
            refine m_iload_n hc dX6_note_68 rfl ?_
            refine m_iload_n hc dX6_note_69 rfl ?_
            refine m_iload_n hc dX6_note_70 rfl ?_
            refine m_iload hc dX6_note_71 rfl ?_
            obtain ⟨q_15, c_16, h⟩ := bd_o h
            refine m_callVi hc yO_3 rfl (c_X3_add (d + 1) kP_3lit c_16) (by omega) (by decide) wm_X6_84 wi_X3_add we_X3_add wn_X3 wc_X3_add wy_X3_add rfl (st := []) rfl rfl (Nat.le_of_ble_eq_true rfl) dX6_note_73 ?_
            refine m_istore hc (lv' := [some (.ref (gR G 0)), some (.int x1), some (.int x2), some (.int x3), some (.int x4), some (.int q_15.1)]) dX6_note_76 (Nat.le_of_ble_eq_true rfl) rfl rfl ?_
            refine m_aload_n hc dX6_note_78 rfl ?_
            refine m_getR hc (q := 161) yO_0 rfl tbX6 4 (by decide) wf_X6_42 rfl dX6_note_79 ?_
            refine m_iload_n hc dX6_note_82 rfl ?_
            refine m_iload_n hc dX6_note_83 rfl ?_
            obtain ⟨q_17, c_18, h⟩ := nm_o h
            refine m_callVv hc yO_161 rfl (c_X5_forgetBeats (d + 1) c_18) (by omega) (by decide) wm_X6_88 wi_X5_forgetBeats we_X5_forgetBeats wn_X5 wc_X5_forgetBeats wy_X5_forgetBeats rfl (st := []) rfl rfl (Nat.le_of_ble_eq_true rfl) dX6_note_84 ?_
            refine m_iload hc dX6_note_87 rfl ?_
            cases h
            exact m_iret hc hr dX6_note_89
          · replace h := (if_neg b_12).symm.trans h
            refine m_aload_n hc dX6_note_46 rfl ?_
            refine m_ldc hc dX6_note_47 wk_X6_83 ?_
            obtain ⟨q_19, c_20, h⟩ := nm_o h
            refine m_callVi hc yO_0 rfl (c_X6_finding (d + 2) c_20) (by omega) (by decide) wm_X6_58 wi_X6_finding we_X6_finding wn_X6 wc_X6_finding wy_X6_finding rfl (st := []) rfl rfl (Nat.le_of_ble_eq_true rfl) dX6_note_49 ?_
            cases h
            exact m_iret hc hr dX6_note_52
        · replace h := (if_neg b_10).symm.trans h
          refine m_aload_n hc dX6_note_25 rfl ?_
          refine m_ldc hc dX6_note_26 wk_X6_57 ?_
          obtain ⟨q_21, c_22, h⟩ := nm_o h
          refine m_callVi hc yO_0 rfl (c_X6_finding (d + 2) c_22) (by omega) (by decide) wm_X6_58 wi_X6_finding we_X6_finding wn_X6 wc_X6_finding wy_X6_finding rfl (st := []) rfl rfl (Nat.le_of_ble_eq_true rfl) dX6_note_28 ?_
          cases h
          exact m_iret hc hr dX6_note_31
def f_X6_drop (x1 : Int32) (M : Mm) : Option (Int32 × Mm) :=
 if (f_X6_isBeat x1) = 0 then (
 nm (f_X6_finding (-100001 : Int32) M) (fun q_15 =>
 some (q_15.1, q_15.2)))
else (
 ck (ib x1 12) (
 if (M 4 x1.toNatClampNeg) = 0 then (
 nm (f_X6_finding (-100006 : Int32) M) (fun q_13 =>
 some (q_13.1, q_13.2)))
else (
 Option.bind (f_X2_keep 3 M) (fun q_4 =>
 ck (ib x1 12) (
 ck (ib x1 12) (
 nm (mw q_4 4 x1.toNatClampNeg ((q_4 4 x1.toNatClampNeg) - (1 : Int32))) (fun M_8 =>
 nm (f_X5_forgetBeats x1 x1 M_8) (fun q_10 =>
 ck (ib x1 12) (
 some ((q_10 4 x1.toNatClampNeg), q_10))))))))))
set_option maxRecDepth 100000 in
set_option maxHeartbeats 4000000 in
theorem c_X6_drop {G : Gm} {l : Launch} (d : Nat) {x1 : Int32} {M : Mm} {r : Int32 × Mm}  (h : f_X6_drop x1 M = some r) : Cm G l (d + 3) yX6_drop cX6_drop 2 (some .int) [.ref (gR G 0), .int x1] M (some (.int r.1)) r.2 := by
  unfold f_X6_drop at h
  refine m_met (lv := [some (.ref (gR G 0)), some (.int x1)]) (own := RX6) (by decide +kernel) rfl rfl (Nat.le_of_ble_eq_true rfl) rfl ?_
  intro X hX hc hr
  subst hX
  refine m_iload_n hc dX6_drop_0 rfl ?_
  refine m_callSi hc (c_X6_isBeat (d + 2) rfl) (by omega) (by decide) wm_X6_72 wt_X6_isBeat wv_X6_isBeat wc_X6_isBeat wz_X6_isBeat rfl (st := []) rfl rfl (Nat.le_of_ble_eq_true rfl) dX6_drop_1 ?_
  refine m_ifne hc (tgt := 14) dX6_drop_4 (by decide) (fun b_1 => ?_) (fun b_1 => ?_)
  · replace h := (if_neg b_1).symm.trans h
    refine m_aload_n hc dX6_drop_14 rfl ?_
    refine m_getR hc (q := 3) yO_0 rfl tbX6 1 (by decide) wf_X6_19 rfl dX6_drop_15 ?_
    refine m_getR hc (q := 4) yO_3 rfl tbX3 1 (by decide) wf_X6_79 rfl dX6_drop_18 ?_
    refine m_iload_n hc dX6_drop_21 rfl ?_
    obtain ⟨b_2, h⟩ := ck_o h
    refine m_iald hc yA_4 b_2 dX6_drop_22 ?_
    refine m_ifne hc (tgt := 33) dX6_drop_23 (by decide) (fun b_3 => ?_) (fun b_3 => ?_)
    · replace h := (if_neg b_3).symm.trans h
      refine m_aload_n hc dX6_drop_33 rfl ?_
      refine m_getR hc (q := 10) yO_0 rfl tbX6 2 (by decide) wf_X6_26 rfl dX6_drop_34 ?_
      refine m_aload_n hc dX6_drop_37 rfl ?_
      refine m_getR hc (q := 3) yO_0 rfl tbX6 1 (by decide) wf_X6_19 rfl dX6_drop_38 ?_
      obtain ⟨q_4, c_5, h⟩ := bd_o h
      refine m_callVv hc yO_10 rfl (c_X2_keep (d + 0) kP_3lit c_5) (by omega) (by decide) wm_X6_62 wi_X2_keep we_X2_keep wn_X2 wc_X2_keep wy_X2_keep rfl (st := []) rfl rfl (Nat.le_of_ble_eq_true rfl) dX6_drop_41 ?_
      refine m_aload_n hc dX6_drop_44 rfl ?_
      refine m_getR hc (q := 3) yO_0 rfl tbX6 1 (by decide) wf_X6_19 rfl dX6_drop_45 ?_
      refine m_getR hc (q := 4) yO_3 rfl tbX3 1 (by decide) wf_X6_79 rfl dX6_drop_48 ?_
      refine m_iload_n hc dX6_drop_51 rfl ?_
      refine m_dup2 hc dX6_drop_52 rfl rfl ?_
      obtain ⟨b_6, h⟩ := ck_o h
      refine m_iald hc yA_4 b_6 dX6_drop_53 ?_
      refine m_iconst hc (v := 1) dX6_drop_54 (by decide) ?_
      refine m_isub hc dX6_drop_55 ?_
      obtain ⟨b_7, h⟩ := ck_o h
      refine m_iast hc yA_4 b_7 dX6_drop_56 ?_
      refine m_topM (fun M_8 e_9 => ?_)
      replace h := nm_x e_9 h
      refine m_aload_n hc dX6_drop_57 rfl ?_
      refine m_getR hc (q := 161) yO_0 rfl tbX6 4 (by decide) wf_X6_42 rfl dX6_drop_58 ?_
      refine m_iload_n hc dX6_drop_61 rfl ?_
      refine m_iload_n hc dX6_drop_62 rfl ?_
      obtain ⟨q_10, c_11, h⟩ := nm_o h
      refine m_callVv hc yO_161 rfl (c_X5_forgetBeats (d + 1) c_11) (by omega) (by decide) wm_X6_88 wi_X5_forgetBeats we_X5_forgetBeats wn_X5 wc_X5_forgetBeats wy_X5_forgetBeats rfl (st := []) rfl rfl (Nat.le_of_ble_eq_true rfl) dX6_drop_63 ?_
      refine m_aload_n hc dX6_drop_66 rfl ?_
      refine m_getR hc (q := 3) yO_0 rfl tbX6 1 (by decide) wf_X6_19 rfl dX6_drop_67 ?_
      refine m_getR hc (q := 4) yO_3 rfl tbX3 1 (by decide) wf_X6_79 rfl dX6_drop_70 ?_
      refine m_iload_n hc dX6_drop_73 rfl ?_
      obtain ⟨b_12, h⟩ := ck_o h
      refine m_iald hc yA_4 b_12 dX6_drop_74 ?_
      cases h
      exact m_iret hc hr dX6_drop_75
    · replace h := (if_pos b_3).symm.trans h
      refine m_aload_n hc dX6_drop_26 rfl ?_
      refine m_ldc hc dX6_drop_27 wk_X6_92 ?_
      obtain ⟨q_13, c_14, h⟩ := nm_o h
      refine m_callVi hc yO_0 rfl (c_X6_finding (d + 2) c_14) (by omega) (by decide) wm_X6_58 wi_X6_finding we_X6_finding wn_X6 wc_X6_finding wy_X6_finding rfl (st := []) rfl rfl (Nat.le_of_ble_eq_true rfl) dX6_drop_29 ?_
      cases h
      exact m_iret hc hr dX6_drop_32
  · replace h := (if_pos b_1).symm.trans h
    refine m_aload_n hc dX6_drop_7 rfl ?_
    refine m_ldc hc dX6_drop_8 wk_X6_57 ?_
    obtain ⟨q_15, c_16, h⟩ := nm_o h
    refine m_callVi hc yO_0 rfl (c_X6_finding (d + 2) c_16) (by omega) (by decide) wm_X6_58 wi_X6_finding we_X6_finding wn_X6 wc_X6_finding wy_X6_finding rfl (st := []) rfl rfl (Nat.le_of_ble_eq_true rfl) dX6_drop_10 ?_
    cases h
    exact m_iret hc hr dX6_drop_13
def f_X6_isNote (x1 : Int32) (x2 : Int32) (M : Mm) : Option (Int32) :=
 if (f_X6_isBeat x1) = 0 then (
 some (0 : Int32))
else (
 if x2 < 0 then (
 some (0 : Int32))
else (
 ck (ib x1 12) (
 if (M 4 x1.toNatClampNeg) ≤ x2 then (
 some (0 : Int32))
else (
 some (1 : Int32)))))
set_option maxRecDepth 100000 in
set_option maxHeartbeats 4000000 in
theorem c_X6_isNote {G : Gm} {l : Launch} (d : Nat) {x1 : Int32} {x2 : Int32} {M : Mm} {r : Int32}  (h : f_X6_isNote x1 x2 M = some r) : Cm G l (d + 1) yX6_isNote cX6_isNote 3 (some .boolean) [.ref (gR G 0), .int x1, .int x2] M (some (.int r)) M := by
  unfold f_X6_isNote at h
  refine m_met (lv := [some (.ref (gR G 0)), some (.int x1), some (.int x2)]) (own := RX6) (by decide +kernel) rfl rfl (Nat.le_of_ble_eq_true rfl) rfl ?_
  intro X hX hc hr
  subst hX
  refine m_iload_n hc dX6_isNote_0 rfl ?_
  refine m_callSi hc (c_X6_isBeat (d + 0) rfl) (by omega) (by decide) wm_X6_72 wt_X6_isBeat wv_X6_isBeat wc_X6_isBeat wz_X6_isBeat rfl (st := []) rfl rfl (Nat.le_of_ble_eq_true rfl) dX6_isNote_1 ?_
  refine m_ifeq hc (tgt := 28) dX6_isNote_4 (by decide) (fun b_1 => ?_) (fun b_1 => ?_)
  · replace h := (if_pos b_1).symm.trans h
    refine m_iconst hc (v := 0) dX6_isNote_28 (by decide) ?_
    cases h
    exact m_zret hc hr (v := (0 : Int32)) (by decide) dX6_isNote_29
  · replace h := (if_neg b_1).symm.trans h
    refine m_iload_n hc dX6_isNote_7 rfl ?_
    refine m_iflt hc (tgt := 28) dX6_isNote_8 (by decide) (fun b_2 => ?_) (fun b_2 => ?_)
    · replace h := (if_pos b_2).symm.trans h
      refine m_iconst hc (v := 0) dX6_isNote_28 (by decide) ?_
      cases h
      exact m_zret hc hr (v := (0 : Int32)) (by decide) dX6_isNote_29
    · replace h := (if_neg b_2).symm.trans h
      refine m_iload_n hc dX6_isNote_11 rfl ?_
      refine m_aload_n hc dX6_isNote_12 rfl ?_
      refine m_getR hc (q := 3) yO_0 rfl tbX6 1 (by decide) wf_X6_19 rfl dX6_isNote_13 ?_
      refine m_getR hc (q := 4) yO_3 rfl tbX3 1 (by decide) wf_X6_79 rfl dX6_isNote_16 ?_
      refine m_iload_n hc dX6_isNote_19 rfl ?_
      obtain ⟨b_3, h⟩ := ck_o h
      refine m_iald hc yA_4 b_3 dX6_isNote_20 ?_
      refine m_icge hc (tgt := 28) dX6_isNote_21 (by decide) (fun b_4 => ?_) (fun b_4 => ?_)
      · replace h := (if_pos b_4).symm.trans h
        refine m_iconst hc (v := 0) dX6_isNote_28 (by decide) ?_
        cases h
        exact m_zret hc hr (v := (0 : Int32)) (by decide) dX6_isNote_29
      · replace h := (if_neg b_4).symm.trans h
        refine m_iconst hc (v := 1) dX6_isNote_24 (by decide) ?_
        refine m_goto hc (tgt := 29) dX6_isNote_25 (by decide) ?_
        cases h
        exact m_zret hc hr (v := (1 : Int32)) (by decide) dX6_isNote_29
def L_X6_isUnder_4 (x1 : Int32) : Nat → Int32 → Int32 → Option ((Unit) ⊕ (Int32))
  | 0, _, _ => none
  | n_8 + 1, x2_1, x3_2 =>
    if (4 : Int32) ≤ x3_2 then (
     some (.inl ()))
    else (
     if (f_X6_isKind x2_1) = 0 then (
     some (.inl ()))
    else (
     if x2_1 = x1 then (
     some (.inr (1 : Int32)))
    else (
     ck (ib x2_1 4) (
     nm ((st_ 0 x2_1.toNatClampNeg)) (fun x2_15 =>
     L_X6_isUnder_4 x1 n_8 x2_15 (x3_2 + 1))))))
def f_X6_isUnder (x0 : Int32) (x1 : Int32) : Option (Int32) :=
 Option.bind (L_X6_isUnder_4 x1 FU x0 (0 : Int32)) (fun q_3 => Sum.elim (fun w_10 =>
 some (0 : Int32)) (fun r => some r) q_3)
set_option maxRecDepth 100000 in
set_option maxHeartbeats 4000000 in
theorem c_X6_isUnder {G : Gm} {l : Launch} (d : Nat) {x0 : Int32} {x1 : Int32} {M : Mm} {r : Int32}  (h : f_X6_isUnder x0 x1 = some r) : Cm G l (d + 1) yX6_isUnder cX6_isUnder 4 (some .boolean) [.int x0, .int x1] M (some (.int r)) M := by
  unfold f_X6_isUnder at h
  refine m_met (lv := [some (.int x0), some (.int x1), none, none]) (own := RX6) (by decide +kernel) rfl rfl (Nat.le_of_ble_eq_true rfl) rfl ?_
  intro X hX hc hr
  subst hX
  refine m_iload_n hc dX6_isUnder_0 rfl ?_
  refine m_istore_n hc (lv' := [some (.int x0), some (.int x1), some (.int x0), none]) dX6_isUnder_1 (Nat.le_of_ble_eq_true rfl) rfl rfl ?_
  refine m_iconst hc (v := 0) dX6_isUnder_2 (by decide) ?_
  refine m_istore_n hc (lv' := [some (.int x0), some (.int x1), some (.int x0), some (.int (0 : Int32))]) dX6_isUnder_3 (Nat.le_of_ble_eq_true rfl) rfl rfl ?_
  obtain ⟨q_3, c_4, g_7⟩ := bd_o h
  have J_5 : ∀ (w_10 : Unit), (some (0 : Int32)) = some r → WM G X (qQ G X (some (.int r)) M) M 35 [some (.int x0), some (.int x1), none, none] [] := by
    intro w_10 h
    refine m_iconst hc (v := 0) dX6_isUnder_35 (by decide) ?_
    cases h
    exact m_zret hc hr (v := (0 : Int32)) (by decide) dX6_isUnder_36
  have L_6 : ∀ (n_8 : Nat) (x2_1 : Int32) (x3_2 : Int32), L_X6_isUnder_4 x1 n_8 x2_1 x3_2 = some q_3 → WM G X (qQ G X (some (.int r)) M) M 4 [some (.int x0), some (.int x1), some (.int x2_1), some (.int x3_2)] [] := by
    intro n_8
    induction n_8 with
    | zero =>
      intro x2_1 x3_2 h
      cases (show none = some _ from h)
    | succ n_8 i_9 =>
      intro x2_1 x3_2 h
      rw [L_X6_isUnder_4] at h
      refine m_iload_n hc dX6_isUnder_4 rfl ?_
      refine m_iconst hc (v := 4) dX6_isUnder_5 (by decide) ?_
      refine m_icge hc (tgt := 35) dX6_isUnder_6 (by decide) (fun b_11 => ?_) (fun b_11 => ?_)
      · replace h := (if_pos b_11).symm.trans h
        cases h
        exact m_fg [2, 3] rfl (J_5 () g_7)
      · replace h := (if_neg b_11).symm.trans h
        refine m_iload_n hc dX6_isUnder_9 rfl ?_
        refine m_callSi hc (c_X6_isKind (d + 0) rfl) (by omega) (by decide) wm_X6_76 wt_X6_isKind wv_X6_isKind wc_X6_isKind wz_X6_isKind rfl (st := []) rfl rfl (Nat.le_of_ble_eq_true rfl) dX6_isUnder_10 ?_
        refine m_ifeq hc (tgt := 35) dX6_isUnder_13 (by decide) (fun b_12 => ?_) (fun b_12 => ?_)
        · replace h := (if_pos b_12).symm.trans h
          cases h
          exact m_fg [2, 3] rfl (J_5 () g_7)
        · replace h := (if_neg b_12).symm.trans h
          refine m_iload_n hc dX6_isUnder_16 rfl ?_
          refine m_iload_n hc dX6_isUnder_17 rfl ?_
          refine m_icne hc (tgt := 23) dX6_isUnder_18 (by decide) (fun b_13 => ?_) (fun b_13 => ?_)
          · replace h := (if_neg b_13).symm.trans h
            refine m_sget hc 0 (by decide) ws_X6_263 dX6_isUnder_23 ?_
            refine m_iload_n hc dX6_isUnder_26 rfl ?_
            obtain ⟨b_14, h⟩ := ck_o h
            refine m_sald hc 0 (by decide) rfl b_14 dX6_isUnder_27 ?_
            refine m_topI (fun x2_15 e_16 => ?_)
            replace h := nm_x e_16 h
            refine m_istore_n hc (lv' := [some (.int x0), some (.int x1), some (.int x2_15), some (.int x3_2)]) dX6_isUnder_28 (Nat.le_of_ble_eq_true rfl) rfl rfl ?_
            refine m_iinc hc (v := x3_2 + 1) (lv' := [some (.int x0), some (.int x1), some (.int x2_15), some (.int (x3_2 + 1))]) dX6_isUnder_29 rfl rfl rfl rfl ?_
            refine m_goto hc (tgt := 4) dX6_isUnder_32 (by decide) ?_
            exact m_fg [] rfl (i_9 _ _ h)
          · replace h := (if_pos b_13).symm.trans h
            refine m_iconst hc (v := 1) dX6_isUnder_21 (by decide) ?_
            cases h
            have g_7 : some (1 : Int32) = some r := g_7
            cases g_7
            exact m_zret hc hr (v := (1 : Int32)) (by decide) dX6_isUnder_22
  exact m_fg [] rfl (L_6 _ _ _ c_4)
def f_X6_as (x1 : Int32) (x2 : Int32) (x3 : Int32) (M : Mm) : Option (Int32 × Mm) :=
 Option.bind (f_X6_isNote x1 x2 M) (fun q_1 =>
 if q_1 = 0 then (
 nm (f_X6_finding (-100001 : Int32) M) (fun q_4 =>
 some (q_4.1, q_4.2)))
else (
 if (f_X6_isKind x3) = 0 then (
 nm (f_X6_finding (-100001 : Int32) M) (fun q_16 =>
 some (q_16.1, q_16.2)))
else (
 nm ((f_X3_place x1 x2)) (fun x4_7 =>
 ck (ib x4_7 72) (
 Option.bind (f_X6_isUnder (M 5 x4_7.toNatClampNeg) x3) (fun q_10 =>
 if q_10 = 0 then (
 nm (f_X6_finding (-100004 : Int32) M) (fun q_14 =>
 some (q_14.1, q_14.2)))
else (
 ck (ib x4_7 72) (
 some ((M 6 x4_7.toNatClampNeg), M)))))))))
set_option maxRecDepth 100000 in
set_option maxHeartbeats 4000000 in
theorem c_X6_as {G : Gm} {l : Launch} (d : Nat) {x1 : Int32} {x2 : Int32} {x3 : Int32} {M : Mm} {r : Int32 × Mm}  (h : f_X6_as x1 x2 x3 M = some r) : Cm G l (d + 2) yX6_as cX6_as 5 (some .int) [.ref (gR G 0), .int x1, .int x2, .int x3] M (some (.int r.1)) r.2 := by
  unfold f_X6_as at h
  refine m_met (lv := [some (.ref (gR G 0)), some (.int x1), some (.int x2), some (.int x3), none]) (own := RX6) (by decide +kernel) rfl rfl (Nat.le_of_ble_eq_true rfl) rfl ?_
  intro X hX hc hr
  subst hX
  refine m_aload_n hc dX6_as_0 rfl ?_
  refine m_iload_n hc dX6_as_1 rfl ?_
  refine m_iload_n hc dX6_as_2 rfl ?_
  obtain ⟨q_1, c_2, h⟩ := bd_o h
  refine m_callVi hc yO_0 rfl (c_X6_isNote (d + 0) c_2) (by omega) (by decide) wm_X6_93 wi_X6_isNote we_X6_isNote wn_X6 wc_X6_isNote wy_X6_isNote rfl (st := []) rfl rfl (Nat.le_of_ble_eq_true rfl) dX6_as_3 ?_
  refine m_ifeq hc (tgt := 16) dX6_as_6 (by decide) (fun b_3 => ?_) (fun b_3 => ?_)
  · replace h := (if_pos b_3).symm.trans h
    refine m_aload_n hc dX6_as_16 rfl ?_
    refine m_ldc hc dX6_as_17 wk_X6_57 ?_
    obtain ⟨q_4, c_5, h⟩ := nm_o h
    refine m_callVi hc yO_0 rfl (c_X6_finding (d + 1) c_5) (by omega) (by decide) wm_X6_58 wi_X6_finding we_X6_finding wn_X6 wc_X6_finding wy_X6_finding rfl (st := []) rfl rfl (Nat.le_of_ble_eq_true rfl) dX6_as_19 ?_
    cases h
    exact m_iret hc hr dX6_as_22
  · replace h := (if_neg b_3).symm.trans h
    refine m_iload_n hc dX6_as_9 rfl ?_
    refine m_callSi hc (c_X6_isKind (d + 1) rfl) (by omega) (by decide) wm_X6_76 wt_X6_isKind wv_X6_isKind wc_X6_isKind wz_X6_isKind rfl (st := []) rfl rfl (Nat.le_of_ble_eq_true rfl) dX6_as_10 ?_
    refine m_ifne hc (tgt := 23) dX6_as_13 (by decide) (fun b_6 => ?_) (fun b_6 => ?_)
    · replace h := (if_neg b_6).symm.trans h
      refine m_iload_n hc dX6_as_23 rfl ?_
      refine m_iload_n hc dX6_as_24 rfl ?_
      refine m_callSi hc (c_X3_place (d + 1) rfl) (by omega) (by decide) wm_X6_97 wt_X3_place wv_X3_place wc_X3_place wz_X3_place rfl (st := []) rfl rfl (Nat.le_of_ble_eq_true rfl) dX6_as_25 ?_
      refine m_topI (fun x4_7 e_8 => ?_)
      replace h := nm_x e_8 h
      refine m_istore hc (lv' := [some (.ref (gR G 0)), some (.int x1), some (.int x2), some (.int x3), some (.int x4_7)]) dX6_as_28 (Nat.le_of_ble_eq_true rfl) rfl rfl ?_
      refine m_aload_n hc dX6_as_30 rfl ?_
      refine m_getR hc (q := 3) yO_0 rfl tbX6 1 (by decide) wf_X6_19 rfl dX6_as_31 ?_
      refine m_getR hc (q := 5) yO_3 rfl tbX3 2 (by decide) wf_X6_101 rfl dX6_as_34 ?_
      refine m_iload hc dX6_as_37 rfl ?_
      obtain ⟨b_9, h⟩ := ck_o h
      refine m_iald hc yA_5 b_9 dX6_as_39 ?_
      refine m_iload_n hc dX6_as_40 rfl ?_
      obtain ⟨q_10, c_11, h⟩ := bd_o h
      refine m_callSi hc (c_X6_isUnder (d + 0) c_11) (by omega) (by decide) wm_X6_104 wt_X6_isUnder wv_X6_isUnder wc_X6_isUnder wz_X6_isUnder rfl (st := []) rfl rfl (Nat.le_of_ble_eq_true rfl) dX6_as_41 ?_
      refine m_ifne hc (tgt := 54) dX6_as_44 (by decide) (fun b_12 => ?_) (fun b_12 => ?_)
      · replace h := (if_neg b_12).symm.trans h
        refine m_aload_n hc dX6_as_54 rfl ?_
        refine m_getR hc (q := 3) yO_0 rfl tbX6 1 (by decide) wf_X6_19 rfl dX6_as_55 ?_
        refine m_getR hc (q := 6) yO_3 rfl tbX3 3 (by decide) wf_X6_108 rfl dX6_as_58 ?_
        refine m_iload hc dX6_as_61 rfl ?_
        obtain ⟨b_13, h⟩ := ck_o h
        refine m_iald hc yA_6 b_13 dX6_as_63 ?_
        cases h
        exact m_iret hc hr dX6_as_64
      · replace h := (if_pos b_12).symm.trans h
        refine m_aload_n hc dX6_as_47 rfl ?_
        refine m_ldc hc dX6_as_48 wk_X6_107 ?_
        obtain ⟨q_14, c_15, h⟩ := nm_o h
        refine m_callVi hc yO_0 rfl (c_X6_finding (d + 1) c_15) (by omega) (by decide) wm_X6_58 wi_X6_finding we_X6_finding wn_X6 wc_X6_finding wy_X6_finding rfl (st := []) rfl rfl (Nat.le_of_ble_eq_true rfl) dX6_as_50 ?_
        cases h
        exact m_iret hc hr dX6_as_53
    · replace h := (if_pos b_6).symm.trans h
      refine m_aload_n hc dX6_as_16 rfl ?_
      refine m_ldc hc dX6_as_17 wk_X6_57 ?_
      obtain ⟨q_16, c_17, h⟩ := nm_o h
      refine m_callVi hc yO_0 rfl (c_X6_finding (d + 1) c_17) (by omega) (by decide) wm_X6_58 wi_X6_finding we_X6_finding wn_X6 wc_X6_finding wy_X6_finding rfl (st := []) rfl rfl (Nat.le_of_ble_eq_true rfl) dX6_as_19 ?_
      cases h
      exact m_iret hc hr dX6_as_22
