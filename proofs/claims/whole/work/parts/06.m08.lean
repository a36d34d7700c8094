def f_X6_put (x1 : Int32) (x2 : Int32) (x3 : Int32) (M : Mm) : Option (Int32 × Mm) :=
 if (f_X4_isSheet x1) = 0 then (
 nm (f_X6_finding (-100001 : Int32) M) (fun q_16 =>
 some (q_16.1, q_16.2)))
else (
 Option.bind (f_X4_isMissing x1 M) (fun q_2 =>
 if q_2 = 0 then (
 if x2 < 0 then (
 nm (f_X6_finding (-100001 : Int32) M) (fun q_6 =>
 some (q_6.1, q_6.2)))
else (
 ck (ib x1 4) (
 if x2 < (M 206 x1.toNatClampNeg) then (
 Option.bind (f_X4_write x1 x2 x3 M) (fun q_10 =>
 some ((0 : Int32), q_10)))
else (
 nm (f_X6_finding (-100001 : Int32) M) (fun q_12 =>
 some (q_12.1, q_12.2))))))
else (
 nm (f_X6_finding (-100002 : Int32) M) (fun q_14 =>
 some (q_14.1, q_14.2)))))
set_option maxRecDepth 100000 in
set_option maxHeartbeats 4000000 in
theorem c_X6_put {G : Gm} {l : Launch} (d : Nat) {x1 : Int32} {x2 : Int32} {x3 : Int32} {M : Mm} {r : Int32 × Mm}  (h : f_X6_put x1 x2 x3 M = some r) : Cm G l (d + 1) yX6_put cX6_put 4 (some .int) [.ref (gR G 0), .int x1, .int x2, .int x3] M (some (.int r.1)) r.2 := by
  unfold f_X6_put at h
  refine m_met (lv := [some (.ref (gR G 0)), some (.int x1), some (.int x2), some (.int x3)]) (own := RX6) (by decide +kernel) rfl rfl (Nat.le_of_ble_eq_true rfl) rfl ?_
  intro X hX hc hr
  subst hX
  refine m_iload_n hc dX6_put_0 rfl ?_
  refine m_callSi hc (c_X4_isSheet (d + 0) rfl) (by omega) (by decide) wm_X6_209 wt_X4_isSheet wv_X4_isSheet wc_X4_isSheet wz_X4_isSheet rfl (st := []) rfl rfl (Nat.le_of_ble_eq_true rfl) dX6_put_1 ?_
  refine m_ifne hc (tgt := 14) dX6_put_4 (by decide) (fun b_1 => ?_) (fun b_1 => ?_)
  · replace h := (if_neg b_1).symm.trans h
    refine m_aload_n hc dX6_put_14 rfl ?_
    refine m_getR hc (q := 204) yO_0 rfl tbX6 5 (by decide) wf_X6_49 rfl dX6_put_15 ?_
    refine m_iload_n hc dX6_put_18 rfl ?_
    obtain ⟨q_2, c_3, h⟩ := bd_o h
    refine m_callVi hc yO_204 rfl (c_X4_isMissing (d + 0) c_3) (by omega) (by decide) wm_X6_218 wi_X4_isMissing we_X4_isMissing wn_X4 wc_X4_isMissing wy_X4_isMissing rfl (st := []) rfl rfl (Nat.le_of_ble_eq_true rfl) dX6_put_19 ?_
    refine m_ifeq hc (tgt := 32) dX6_put_22 (by decide) (fun b_4 => ?_) (fun b_4 => ?_)
    · replace h := (if_pos b_4).symm.trans h
      refine m_iload_n hc dX6_put_32 rfl ?_
      refine m_iflt hc (tgt := 49) dX6_put_33 (by decide) (fun b_5 => ?_) (fun b_5 => ?_)
      · replace h := (if_pos b_5).symm.trans h
        refine m_aload_n hc dX6_put_49 rfl ?_
        refine m_ldc hc dX6_put_50 wk_X6_57 ?_
        obtain ⟨q_6, c_7, h⟩ := nm_o h
        refine m_callVi hc yO_0 rfl (c_X6_finding (d + 0) c_7) (by omega) (by decide) wm_X6_58 wi_X6_finding we_X6_finding wn_X6 wc_X6_finding wy_X6_finding rfl (st := []) rfl rfl (Nat.le_of_ble_eq_true rfl) dX6_put_52 ?_
        cases h
        exact m_iret hc hr dX6_put_55
      · replace h := (if_neg b_5).symm.trans h
        refine m_iload_n hc dX6_put_36 rfl ?_
        refine m_aload_n hc dX6_put_37 rfl ?_
        refine m_getR hc (q := 204) yO_0 rfl tbX6 5 (by decide) wf_X6_49 rfl dX6_put_38 ?_
        refine m_getR hc (q := 206) yO_204 rfl tbX4 1 (by decide) wf_X6_222 rfl dX6_put_41 ?_
        refine m_iload_n hc dX6_put_44 rfl ?_
        obtain ⟨b_8, h⟩ := ck_o h
        refine m_iald hc yA_206 b_8 dX6_put_45 ?_
        refine m_iclt hc (tgt := 56) dX6_put_46 (by decide) (fun b_9 => ?_) (fun b_9 => ?_)
        · replace h := (if_pos b_9).symm.trans h
          refine m_aload_n hc dX6_put_56 rfl ?_
          refine m_getR hc (q := 204) yO_0 rfl tbX6 5 (by decide) wf_X6_49 rfl dX6_put_57 ?_
          refine m_iload_n hc dX6_put_60 rfl ?_
          refine m_iload_n hc dX6_put_61 rfl ?_
          refine m_iload_n hc dX6_put_62 rfl ?_
          obtain ⟨q_10, c_11, h⟩ := bd_o h
          refine m_callVv hc yO_204 rfl (c_X4_write (d + 0) c_11) (by omega) (by decide) wm_X6_223 wi_X4_write we_X4_write wn_X4 wc_X4_write wy_X4_write rfl (st := []) rfl rfl (Nat.le_of_ble_eq_true rfl) dX6_put_63 ?_
          refine m_iconst hc (v := 0) dX6_put_66 (by decide) ?_
          cases h
          exact m_iret hc hr dX6_put_67
        · replace h := (if_neg b_9).symm.trans h
          refine m_aload_n hc dX6_put_49 rfl ?_
          refine m_ldc hc dX6_put_50 wk_X6_57 ?_
          obtain ⟨q_12, c_13, h⟩ := nm_o h
          refine m_callVi hc yO_0 rfl (c_X6_finding (d + 0) c_13) (by omega) (by decide) wm_X6_58 wi_X6_finding we_X6_finding wn_X6 wc_X6_finding wy_X6_finding rfl (st := []) rfl rfl (Nat.le_of_ble_eq_true rfl) dX6_put_52 ?_
          cases h
          exact m_iret hc hr dX6_put_55
    · replace h := (if_neg b_4).symm.trans h
      refine m_aload_n hc dX6_put_25 rfl ?_
      refine m_ldc hc dX6_put_26 wk_X6_221 ?_
      obtain ⟨q_14, c_15, h⟩ := nm_o h
      refine m_callVi hc yO_0 rfl (c_X6_finding (d + 0) c_15) (by omega) (by decide) wm_X6_58 wi_X6_finding we_X6_finding wn_X6 wc_X6_finding wy_X6_finding rfl (st := []) rfl rfl (Nat.le_of_ble_eq_true rfl) dX6_put_28 ?_
      cases h
      exact m_iret hc hr dX6_put_31
  · replace h := (if_pos b_1).symm.trans h
    refine m_aload_n hc dX6_put_7 rfl ?_
    refine m_ldc hc dX6_put_8 wk_X6_57 ?_
    obtain ⟨q_16, c_17, h⟩ := nm_o h
    refine m_callVi hc yO_0 rfl (c_X6_finding (d + 0) c_17) (by omega) (by decide) wm_X6_58 wi_X6_finding we_X6_finding wn_X6 wc_X6_finding wy_X6_finding rfl (st := []) rfl rfl (Nat.le_of_ble_eq_true rfl) dX6_put_10 ?_
    cases h
    exact m_iret hc hr dX6_put_13
def f_X4_has (x1 : Int32) (x2 : Int32) (x3 : Int32) (M : Mm) : Option (Int32) :=
 if x2 < 0 then (
 some (0 : Int32))
else (
 if x3 < 0 then (
 some (0 : Int32))
else (
 ck (ib x1 4) (
 if (M 206 x1.toNatClampNeg) < x2 then (
 some (0 : Int32))
else (
 ck (ib x1 4) (
 if ((M 206 x1.toNatClampNeg) - x2) < x3 then (
 some (0 : Int32))
else (
 some (1 : Int32)))))))
set_option maxRecDepth 100000 in
set_option maxHeartbeats 4000000 in
theorem c_X4_has {G : Gm} {l : Launch} (d : Nat) {x1 : Int32} {x2 : Int32} {x3 : Int32} {M : Mm} {r : Int32}  (h : f_X4_has x1 x2 x3 M = some r) : Cm G l (d + 0) yX4_has cX4_has 4 (some .boolean) [.ref (gR G 204), .int x1, .int x2, .int x3] M (some (.int r)) M := by
  unfold f_X4_has at h
  refine m_met (lv := [some (.ref (gR G 204)), some (.int x1), some (.int x2), some (.int x3)]) (own := RX4) (by decide +kernel) rfl rfl (Nat.le_of_ble_eq_true rfl) rfl ?_
  intro X hX hc hr
  subst hX
  refine m_iload_n hc dX4_has_0 rfl ?_
  refine m_iflt hc (tgt := 34) dX4_has_1 (by decide) (fun b_1 => ?_) (fun b_1 => ?_)
  · replace h := (if_pos b_1).symm.trans h
    refine m_iconst hc (v := 0) dX4_has_34 (by decide) ?_
    cases h
    exact m_zret hc hr (v := (0 : Int32)) (by decide) dX4_has_35
  · replace h := (if_neg b_1).symm.trans h
    refine m_iload_n hc dX4_has_4 rfl ?_
    refine m_iflt hc (tgt := 34) dX4_has_5 (by decide) (fun b_2 => ?_) (fun b_2 => ?_)
    · replace h := (if_pos b_2).symm.trans h
      refine m_iconst hc (v := 0) dX4_has_34 (by decide) ?_
      cases h
      exact m_zret hc hr (v := (0 : Int32)) (by decide) dX4_has_35
    · replace h := (if_neg b_2).symm.trans h
      refine m_iload_n hc dX4_has_8 rfl ?_
      refine m_aload_n hc dX4_has_9 rfl ?_
      refine m_getR hc (q := 206) yO_204 rfl tbX4 1 (by decide) wf_X4_13 rfl dX4_has_10 ?_
      refine m_iload_n hc dX4_has_13 rfl ?_
      obtain ⟨b_3, h⟩ := ck_o h
      refine m_iald hc yA_206 b_3 dX4_has_14 ?_
      refine m_icgt hc (tgt := 34) dX4_has_15 (by decide) (fun b_4 => ?_) (fun b_4 => ?_)
      · replace h := (if_pos b_4).symm.trans h
        refine m_iconst hc (v := 0) dX4_has_34 (by decide) ?_
        cases h
        exact m_zret hc hr (v := (0 : Int32)) (by decide) dX4_has_35
      · replace h := (if_neg b_4).symm.trans h
        refine m_iload_n hc dX4_has_18 rfl ?_
        refine m_aload_n hc dX4_has_19 rfl ?_
        refine m_getR hc (q := 206) yO_204 rfl tbX4 1 (by decide) wf_X4_13 rfl dX4_has_20 ?_
        refine m_iload_n hc dX4_has_23 rfl ?_
        obtain ⟨b_5, h⟩ := ck_o h
        refine m_iald hc yA_206 b_5 dX4_has_24 ?_
        refine m_iload_n hc dX4_has_25 rfl ?_
        refine m_isub hc dX4_has_26 ?_
        refine m_icgt hc (tgt := 34) dX4_has_27 (by decide) (fun b_6 => ?_) (fun b_6 => ?_)
        · replace h := (if_pos b_6).symm.trans h
          refine m_iconst hc (v := 0) dX4_has_34 (by decide) ?_
          cases h
          exact m_zret hc hr (v := (0 : Int32)) (by decide) dX4_has_35
        · replace h := (if_neg b_6).symm.trans h
          refine m_iconst hc (v := 1) dX4_has_30 (by decide) ?_
          refine m_goto hc (tgt := 35) dX4_has_31 (by decide) ?_
          cases h
          exact m_zret hc hr (v := (1 : Int32)) (by decide) dX4_has_35
def f_X6_copy (x1 : Int32) (x2 : Int32) (x3 : Int32) (x4 : Int32) (x5 : Int32) (M : Mm) : Option (Int32 × Mm) :=
 if (f_X4_isSheet x1) = 0 then (
 nm (f_X6_finding (-100001 : Int32) M) (fun q_2 =>
 some (q_2.1, q_2.2)))
else (
 if (f_X4_isSheet x3) = 0 then (
 nm (f_X6_finding (-100001 : Int32) M) (fun q_35 =>
 some (q_35.1, q_35.2)))
else (
 Option.bind (f_X4_isMissing x1 M) (fun q_5 =>
 if q_5 = 0 then (
 Option.bind (f_X4_isMissing x3 M) (fun q_10 =>
 if q_10 = 0 then (
 ck (ib x1 4) (
 ck (ib x3 4) (
 if (M 205 x1.toNatClampNeg) = (M 205 x3.toNatClampNeg) then (
 Option.bind (f_X4_has x1 x2 x5 M) (fun q_16 =>
 if q_16 = 0 then (
 nm (f_X6_finding (-100001 : Int32) M) (fun q_19 =>
 some (q_19.1, q_19.2)))
else (
 Option.bind (f_X4_has x3 x4 x5 M) (fun q_21 =>
 if q_21 = 0 then (
 nm (f_X6_finding (-100001 : Int32) M) (fun q_29 =>
 some (q_29.1, q_29.2)))
else (
 ck (ib x1 4) (
 ck (ib x3 4) (
 ck (cpo x2 x4 x5 30 30) (
 nm (mu M (208 + x3.toNatClampNeg) (cpy (M (208 + x1.toNatClampNeg)) (M (208 + x3.toNatClampNeg)) x2 x4 x5)) (fun M_27 =>
 some (x5, M_27))))))))))
else (
 nm (f_X6_finding (-100004 : Int32) M) (fun q_31 =>
 some (q_31.1, q_31.2))))))
else (
 nm (f_X6_finding (-100002 : Int32) M) (fun q_33 =>
 some (q_33.1, q_33.2)))))
else (
 nm (f_X6_finding (-100002 : Int32) M) (fun q_8 =>
 some (q_8.1, q_8.2))))))
set_option maxRecDepth 100000 in
set_option maxHeartbeats 4000000 in
theorem c_X6_copy {G : Gm} {l : Launch} (d : Nat) {x1 : Int32} {x2 : Int32} {x3 : Int32} {x4 : Int32} {x5 : Int32} {M : Mm} {r : Int32 × Mm}  (h : f_X6_copy x1 x2 x3 x4 x5 M = some r) : Cm G l (d + 1) yX6_copy cX6_copy 6 (some .int) [.ref (gR G 0), .int x1, .int x2, .int x3, .int x4, .int x5] M (some (.int r.1)) r.2 := by
  unfold f_X6_copy at h
  refine m_met (lv := [some (.ref (gR G 0)), some (.int x1), some (.int x2), some (.int x3), some (.int x4), some (.int x5)]) (own := RX6) (by decide +kernel) rfl rfl (Nat.le_of_ble_eq_true rfl) rfl ?_
  intro X hX hc hr
  subst hX
  refine m_iload_n hc dX6_copy_0 rfl ?_
  refine m_callSi hc (c_X4_isSheet (d + 0) rfl) (by omega) (by decide) wm_X6_209 wt_X4_isSheet wv_X4_isSheet wc_X4_isSheet wz_X4_isSheet rfl (st := []) rfl rfl (Nat.le_of_ble_eq_true rfl) dX6_copy_1 ?_
  refine m_ifeq hc (tgt := 14) dX6_copy_4 (by decide) (fun b_1 => ?_) (fun b_1 => ?_)
  · replace h := (if_pos b_1).symm.trans h
    refine m_aload_n hc dX6_copy_14 rfl ?_
    refine m_ldc hc dX6_copy_15 wk_X6_57 ?_
    obtain ⟨q_2, c_3, h⟩ := nm_o h
    refine m_callVi hc yO_0 rfl (c_X6_finding (d + 0) c_3) (by omega) (by decide) wm_X6_58 wi_X6_finding we_X6_finding wn_X6 wc_X6_finding wy_X6_finding rfl (st := []) rfl rfl (Nat.le_of_ble_eq_true rfl) dX6_copy_17 ?_
    cases h
    exact m_iret hc hr dX6_copy_20
  · replace h := (if_neg b_1).symm.trans h
    refine m_iload_n hc dX6_copy_7 rfl ?_
    refine m_callSi hc (c_X4_isSheet (d + 0) rfl) (by omega) (by decide) wm_X6_209 wt_X4_isSheet wv_X4_isSheet wc_X4_isSheet wz_X4_isSheet rfl (st := []) rfl rfl (Nat.le_of_ble_eq_true rfl) dX6_copy_8 ?_
    refine m_ifne hc (tgt := 21) dX6_copy_11 (by decide) (fun b_4 => ?_) (fun b_4 => ?_)
    · replace h := (if_neg b_4).symm.trans h
      refine m_aload_n hc dX6_copy_21 rfl ?_
      refine m_getR hc (q := 204) yO_0 rfl tbX6 5 (by decide) wf_X6_49 rfl dX6_copy_22 ?_
      refine m_iload_n hc dX6_copy_25 rfl ?_
      obtain ⟨q_5, c_6, h⟩ := bd_o h
      refine m_callVi hc yO_204 rfl (c_X4_isMissing (d + 0) c_6) (by omega) (by decide) wm_X6_218 wi_X4_isMissing we_X4_isMissing wn_X4 wc_X4_isMissing wy_X4_isMissing rfl (st := []) rfl rfl (Nat.le_of_ble_eq_true rfl) dX6_copy_26 ?_
      refine m_ifne hc (tgt := 43) dX6_copy_29 (by decide) (fun b_7 => ?_) (fun b_7 => ?_)
      · replace h := (if_neg b_7).symm.trans h
        refine m_aload_n hc dX6_copy_43 rfl ?_
        refine m_ldc hc dX6_copy_44 wk_X6_221 ?_
        obtain ⟨q_8, c_9, h⟩ := nm_o h
        refine m_callVi hc yO_0 rfl (c_X6_finding (d + 0) c_9) (by omega) (by decide) wm_X6_58 wi_X6_finding we_X6_finding wn_X6 wc_X6_finding wy_X6_finding rfl (st := []) rfl rfl (Nat.le_of_ble_eq_true rfl) dX6_copy_46 ?_
        cases h
        exact m_iret hc hr dX6_copy_49
      · replace h := (if_pos b_7).symm.trans h
        refine m_aload_n hc dX6_copy_32 rfl ?_
        refine m_getR hc (q := 204) yO_0 rfl tbX6 5 (by decide) wf_X6_49 rfl dX6_copy_33 ?_
        refine m_iload_n hc dX6_copy_36 rfl ?_
        obtain ⟨q_10, c_11, h⟩ := bd_o h
        refine m_callVi hc yO_204 rfl (c_X4_isMissing (d + 0) c_11) (by omega) (by decide) wm_X6_218 wi_X4_isMissing we_X4_isMissing wn_X4 wc_X4_isMissing wy_X4_isMissing rfl (st := []) rfl rfl (Nat.le_of_ble_eq_true rfl) dX6_copy_37 ?_
        refine m_ifeq hc (tgt := 50) dX6_copy_40 (by decide) (fun b_12 => ?_) (fun b_12 => ?_)
        · replace h := (if_pos b_12).symm.trans h
          refine m_aload_n hc dX6_copy_50 rfl ?_
          refine m_getR hc (q := 204) yO_0 rfl tbX6 5 (by decide) wf_X6_49 rfl dX6_copy_51 ?_
          refine m_getR hc (q := 205) yO_204 rfl tbX4 0 (by decide) wf_X6_227 rfl dX6_copy_54 ?_
          refine m_iload_n hc dX6_copy_57 rfl ?_
          obtain ⟨b_13, h⟩ := ck_o h
          refine m_iald hc yA_205 b_13 dX6_copy_58 ?_
          refine m_aload_n hc dX6_copy_59 rfl ?_
          refine m_getR hc (q := 204) yO_0 rfl tbX6 5 (by decide) wf_X6_49 rfl dX6_copy_60 ?_
          refine m_getR hc (q := 205) yO_204 rfl tbX4 0 (by decide) wf_X6_227 rfl dX6_copy_63 ?_
          refine m_iload_n hc dX6_copy_66 rfl ?_
          obtain ⟨b_14, h⟩ := ck_o h
          refine m_iald hc yA_205 b_14 dX6_copy_67 ?_
          refine m_iceq hc (tgt := 78) dX6_copy_68 (by decide) (fun b_15 => ?_) (fun b_15 => ?_)
          · replace h := (if_pos b_15).symm.trans h
            refine m_aload_n hc dX6_copy_78 rfl ?_
            refine m_getR hc (q := 204) yO_0 rfl tbX6 5 (by decide) wf_X6_49 rfl dX6_copy_79 ?_
            refine m_iload_n hc dX6_copy_82 rfl ?_
            refine m_iload_n hc dX6_copy_83 rfl ?_
            refine m_iload hc dX6_copy_84 rfl ?_
            obtain ⟨q_16, c_17, h⟩ := bd_o h
            refine m_callVi hc yO_204 rfl (c_X4_has (d + 0) c_17) (by omega) (by decide) wm_X6_230 wi_X4_has we_X4_has wn_X4 wc_X4_has wy_X4_has rfl (st := []) rfl rfl (Nat.le_of_ble_eq_true rfl) dX6_copy_86 ?_
            refine m_ifeq hc (tgt := 107) dX6_copy_89 (by decide) (fun b_18 => ?_) (fun b_18 => ?_)
            · replace h := (if_pos b_18).symm.trans h
              refine m_aload_n hc dX6_copy_107 rfl ?_
              refine m_ldc hc dX6_copy_108 wk_X6_57 ?_
              obtain ⟨q_19, c_20, h⟩ := nm_o h
              refine m_callVi hc yO_0 rfl (c_X6_finding (d + 0) c_20) (by omega) (by decide) wm_X6_58 wi_X6_finding we_X6_finding wn_X6 wc_X6_finding wy_X6_finding rfl (st := []) rfl rfl (Nat.le_of_ble_eq_true rfl) dX6_copy_110 ?_
              cases h
              exact m_iret hc hr dX6_copy_113
            · replace h := (if_neg b_18).symm.trans h
              refine m_aload_n hc dX6_copy_92 rfl ?_
              refine m_getR hc (q := 204) yO_0 rfl tbX6 5 (by decide) wf_X6_49 rfl dX6_copy_93 ?_
              refine m_iload_n hc dX6_copy_96 rfl ?_
              refine m_iload hc dX6_copy_97 rfl ?_
              refine m_iload hc dX6_copy_99 rfl ?_
              obtain ⟨q_21, c_22, h⟩ := bd_o h
              refine m_callVi hc yO_204 rfl (c_X4_has (d + 0) c_22) (by omega) (by decide) wm_X6_230 wi_X4_has we_X4_has wn_X4 wc_X4_has wy_X4_has rfl (st := []) rfl rfl (Nat.le_of_ble_eq_true rfl) dX6_copy_101 ?_
              refine m_ifne hc (tgt := 114) dX6_copy_104 (by decide) (fun b_23 => ?_) (fun b_23 => ?_)
              · replace h := (if_neg b_23).symm.trans h
                refine m_aload_n hc dX6_copy_114 rfl ?_
                refine m_getR hc (q := 204) yO_0 rfl tbX6 5 (by decide) wf_X6_49 rfl dX6_copy_115 ?_
                refine m_getR hc (q := 207) yO_204 rfl tbX4 2 (by decide) wf_X6_234 rfl dX6_copy_118 ?_
                refine m_iload_n hc dX6_copy_121 rfl ?_
                obtain ⟨b_24, h⟩ := ck_o h
                refine m_jald hc yJ_207 b_24 (tSh_d _ (ib_lt b_24)) dX6_copy_122 ?_
                refine m_iload_n hc dX6_copy_123 rfl ?_
                refine m_aload_n hc dX6_copy_124 rfl ?_
                refine m_getR hc (q := 204) yO_0 rfl tbX6 5 (by decide) wf_X6_49 rfl dX6_copy_125 ?_
                refine m_getR hc (q := 207) yO_204 rfl tbX4 2 (by decide) wf_X6_234 rfl dX6_copy_128 ?_
                refine m_iload_n hc dX6_copy_131 rfl ?_
                obtain ⟨b_25, h⟩ := ck_o h
                refine m_jald hc yJ_207 b_25 (tSh_d _ (ib_lt b_25)) dX6_copy_132 ?_
                refine m_iload hc dX6_copy_133 rfl ?_
                refine m_iload hc dX6_copy_135 rfl ?_
                obtain ⟨b_26, h⟩ := ck_o h
                refine m_acpy hc (by omega) (jSh_d _ (ib_lt b_24)) (jSh_d _ (ib_lt b_25)) wm_X6_238 wa_nat wa_sta wa_ini b_26.1 b_26.2.1 b_26.2.2.1 b_26.2.2.2.1 b_26.2.2.2.2 rfl (st := []) (Nat.le_of_ble_eq_true rfl) dX6_copy_137 ?_
                refine m_topM (fun M_27 e_28 => ?_)
                replace h := nm_x e_28 h
                refine m_iload hc dX6_copy_140 rfl ?_
                cases h
                exact m_iret hc hr dX6_copy_142
              · replace h := (if_pos b_23).symm.trans h
                refine m_aload_n hc dX6_copy_107 rfl ?_
                refine m_ldc hc dX6_copy_108 wk_X6_57 ?_
                obtain ⟨q_29, c_30, h⟩ := nm_o h
                refine m_callVi hc yO_0 rfl (c_X6_finding (d + 0) c_30) (by omega) (by decide) wm_X6_58 wi_X6_finding we_X6_finding wn_X6 wc_X6_finding wy_X6_finding rfl (st := []) rfl rfl (Nat.le_of_ble_eq_true rfl) dX6_copy_110 ?_
                cases h
                exact m_iret hc hr dX6_copy_113
          · replace h := (if_neg b_15).symm.trans h
            refine m_aload_n hc dX6_copy_71 rfl ?_
            refine m_ldc hc dX6_copy_72 wk_X6_107 ?_
            obtain ⟨q_31, c_32, h⟩ := nm_o h
            refine m_callVi hc yO_0 rfl (c_X6_finding (d + 0) c_32) (by omega) (by decide) wm_X6_58 wi_X6_finding we_X6_finding wn_X6 wc_X6_finding wy_X6_finding rfl (st := []) rfl rfl (Nat.le_of_ble_eq_true rfl) dX6_copy_74 ?_
            cases h
            exact m_iret hc hr dX6_copy_77
        · replace h := (if_neg b_12).symm.trans h
          refine m_aload_n hc dX6_copy_43 rfl ?_
          refine m_ldc hc dX6_copy_44 wk_X6_221 ?_
          obtain ⟨q_33, c_34, h⟩ := nm_o h
          refine m_callVi hc yO_0 rfl (c_X6_finding (d + 0) c_34) (by omega) (by decide) wm_X6_58 wi_X6_finding we_X6_finding wn_X6 wc_X6_finding wy_X6_finding rfl (st := []) rfl rfl (Nat.le_of_ble_eq_true rfl) dX6_copy_46 ?_
          cases h
          exact m_iret hc hr dX6_copy_49
    · replace h := (if_pos b_4).symm.trans h
      refine m_aload_n hc dX6_copy_14 rfl ?_
      refine m_ldc hc dX6_copy_15 wk_X6_57 ?_
      obtain ⟨q_35, c_36, h⟩ := nm_o h
      refine m_callVi hc yO_0 rfl (c_X6_finding (d + 0) c_36) (by omega) (by decide) wm_X6_58 wi_X6_finding we_X6_finding wn_X6 wc_X6_finding wy_X6_finding rfl (st := []) rfl rfl (Nat.le_of_ble_eq_true rfl) dX6_copy_17 ?_
      cases h
      exact m_iret hc hr dX6_copy_20
def L_X4_hasAbove_2 (x1 : Int32) (x2 : Int32) (M : Mm) : Nat → Int32 → Option ((Unit) ⊕ (Int32))
  | 0, _ => none
  | n_7 + 1, x3_1 =>
    ck (ib x1 4) (
     if (M 206 x1.toNatClampNeg) ≤ x3_1 then (
     some (.inl ()))
    else (
     ck (ib x1 4) (
     ck (ib x3_1 30) (
     if (M (208 + x1.toNatClampNeg) x3_1.toNatClampNeg) ≤ x2 then (
     L_X4_hasAbove_2 x1 x2 M n_7 (x3_1 + 1))
    else (
     some (.inr (1 : Int32)))))))
def f_X4_hasAbove (x1 : Int32) (x2 : Int32) (M : Mm) : Option (Int32) :=
 Option.bind (L_X4_hasAbove_2 x1 x2 M FU (0 : Int32)) (fun q_2 => Sum.elim (fun w_9 =>
 some (0 : Int32)) (fun r => some r) q_2)
set_option maxRecDepth 100000 in
set_option maxHeartbeats 4000000 in
theorem c_X4_hasAbove {G : Gm} {l : Launch} (d : Nat) {x1 : Int32} {x2 : Int32} {M : Mm} {r : Int32}  (h : f_X4_hasAbove x1 x2 M = some r) : Cm G l (d + 0) yX4_hasAbove cX4_hasAbove 4 (some .boolean) [.ref (gR G 204), .int x1, .int x2] M (some (.int r)) M := by
  unfold f_X4_hasAbove at h
  refine m_met (lv := [some (.ref (gR G 204)), some (.int x1), some (.int x2), none]) (own := RX4) (by decide +kernel) rfl rfl (Nat.le_of_ble_eq_true rfl) rfl ?_
  intro X hX hc hr
  subst hX
  refine m_iconst hc (v := 0) dX4_hasAbove_0 (by decide) ?_
  refine m_istore_n hc (lv' := [some (.ref (gR G 204)), some (.int x1), some (.int x2), some (.int (0 : Int32))]) dX4_hasAbove_1 (Nat.le_of_ble_eq_true rfl) rfl rfl ?_
  obtain ⟨q_2, c_3, g_6⟩ := bd_o h
  have J_4 : ∀ (w_9 : Unit), (some (0 : Int32)) = some r → WM G X (qQ G X (some (.int r)) M) M 32 [some (.ref (gR G 204)), some (.int x1), some (.int x2), none] [] := by
    intro w_9 h
    refine m_iconst hc (v := 0) dX4_hasAbove_32 (by decide) ?_
    cases h
    exact m_zret hc hr (v := (0 : Int32)) (by decide) dX4_hasAbove_33
  have L_5 : ∀ (n_7 : Nat) (x3_1 : Int32), L_X4_hasAbove_2 x1 x2 M n_7 x3_1 = some q_2 → WM G X (qQ G X (some (.int r)) M) M 2 [some (.ref (gR G 204)), some (.int x1), some (.int x2), some (.int x3_1)] [] := by
    intro n_7
    induction n_7 with
    | zero =>
      intro x3_1 h
      cases (show none = some _ from h)
    | succ n_7 i_8 =>
      intro x3_1 h
      rw [L_X4_hasAbove_2] at h
      refine m_iload_n hc dX4_hasAbove_2 rfl ?_
      refine m_aload_n hc dX4_hasAbove_3 rfl ?_
      refine m_getR hc (q := 206) yO_204 rfl tbX4 1 (by decide) wf_X4_13 rfl dX4_hasAbove_4 ?_
      refine m_iload_n hc dX4_hasAbove_7 rfl ?_
      obtain ⟨b_10, h⟩ := ck_o h
      refine m_iald hc yA_206 b_10 dX4_hasAbove_8 ?_
      refine m_icge hc (tgt := 32) dX4_hasAbove_9 (by decide) (fun b_11 => ?_) (fun b_11 => ?_)
      · replace h := (if_pos b_11).symm.trans h
        cases h
        exact m_fg [3] rfl (J_4 () g_6)
      · replace h := (if_neg b_11).symm.trans h
        refine m_aload_n hc dX4_hasAbove_12 rfl ?_
        refine m_getR hc (q := 207) yO_204 rfl tbX4 2 (by decide) wf_X4_18 rfl dX4_hasAbove_13 ?_
        refine m_iload_n hc dX4_hasAbove_16 rfl ?_
        obtain ⟨b_12, h⟩ := ck_o h
        refine m_jald hc yJ_207 b_12 (tSh_d _ (ib_lt b_12)) dX4_hasAbove_17 ?_
        refine m_iload_n hc dX4_hasAbove_18 rfl ?_
        obtain ⟨b_13, h⟩ := ck_o h
        refine m_iald hc (jSh_d _ (ib_lt b_12)) b_13 dX4_hasAbove_19 ?_
        refine m_iload_n hc dX4_hasAbove_20 rfl ?_
        refine m_icle hc (tgt := 26) dX4_hasAbove_21 (by decide) (fun b_14 => ?_) (fun b_14 => ?_)
        · replace h := (if_pos b_14).symm.trans h
          refine m_iinc hc (v := x3_1 + 1) (lv' := [some (.ref (gR G 204)), some (.int x1), some (.int x2), some (.int (x3_1 + 1))]) dX4_hasAbove_26 rfl rfl rfl rfl ?_
          refine m_goto hc (tgt := 2) dX4_hasAbove_29 (by decide) ?_
          exact m_fg [] rfl (i_8 _ h)
        · replace h := (if_neg b_14).symm.trans h
          refine m_iconst hc (v := 1) dX4_hasAbove_24 (by decide) ?_
          cases h
          have g_6 : some (1 : Int32) = some r := g_6
          cases g_6
          exact m_zret hc hr (v := (1 : Int32)) (by decide) dX4_hasAbove_25
  exact m_fg [] rfl (L_5 _ _ c_3)
def L_X3_takeTune_5 (a0 : Nat) (a1 : Nat) (x2 : Int32) : Nat → Int32 → Int32 → Mm → Option (Int32 × Mm)
  | 0, _, _, _ => none
  | n_9 + 1, x3_1, x4_2, M_3 =>
    if x2 ≤ x4_2 then (
     some (x3_1, M_3))
    else (
     ck (ib x4_2 12) (
     nm (mw M_3 (a0 + 1) x4_2.toNatClampNeg (0 : Int32)) (fun M_13 =>
     ck (ib x4_2 30) (
     Option.bind (
     if (M_13 a1 x4_2.toNatClampNeg) < (-1 : Int32) then (
     some (x3_1, M_13))
    else (
     ck (ib x4_2 30) (
     Option.bind (f_X3_add a0 x4_2 (0 : Int32) (M_13 a1 x4_2.toNatClampNeg) (0 : Int32) M_13) (fun q_25 =>
     some ((x3_1 + 1), q_25.2))))) (fun q_20 =>
     L_X3_takeTune_5 a0 a1 x2 n_9 q_20.1 (x4_2 + 1) q_20.2)))))
def f_X3_takeTune (a0 : Nat) (a1 : Nat) (x2 : Int32) (M : Mm) : Option (Int32 × Mm) :=
 Option.bind (L_X3_takeTune_5 a0 a1 x2 FU (0 : Int32) (0 : Int32) M) (fun q_4 =>
 some (q_4.1, q_4.2))
set_option maxRecDepth 100000 in
set_option maxHeartbeats 4000000 in
theorem c_X3_takeTune {G : Gm} {l : Launch} (d : Nat) {a0 : Nat} {a1 : Nat} {x2 : Int32} {M : Mm} {r : Int32 × Mm} (h0 : kP a0) (h1 : isA a1 30) (h : f_X3_takeTune a0 a1 x2 M = some r) : Cm G l (d + 2) yX3_takeTune cX3_takeTune 5 (some .int) [.ref (gR G a0), .ref (gR G a1), .int x2] M (some (.int r.1)) r.2 := by
  unfold f_X3_takeTune at h
  refine m_met (lv := [some (.ref (gR G a0)), some (.ref (gR G a1)), some (.int x2), none, none]) (own := RX3) (by decide +kernel) rfl rfl (Nat.le_of_ble_eq_true rfl) rfl ?_
  intro X hX hc hr
  subst hX
  refine m_iconst hc (v := 0) dX3_takeTune_0 (by decide) ?_
  refine m_istore_n hc (lv' := [some (.ref (gR G a0)), some (.ref (gR G a1)), some (.int x2), some (.int (0 : Int32)), none]) dX3_takeTune_1 (Nat.le_of_ble_eq_true rfl) rfl rfl ?_
  refine m_iconst hc (v := 0) dX3_takeTune_2 (by decide) ?_
  refine m_istore hc (lv' := [some (.ref (gR G a0)), some (.ref (gR G a1)), some (.int x2), some (.int (0 : Int32)), some (.int (0 : Int32))]) dX3_takeTune_3 (Nat.le_of_ble_eq_true rfl) rfl rfl ?_
  obtain ⟨q_4, c_5, h⟩ := bd_o h
  have J_6 : WM G X (qQ G X (some (.int r.1)) r.2) q_4.2 49 [some (.ref (gR G a0)), some (.ref (gR G a1)), some (.int x2), some (.int q_4.1), none] [] := by
    refine m_iload_n hc dX3_takeTune_49 rfl ?_
    cases h
    exact m_iret hc hr dX3_takeTune_50
  have L_7 : ∀ (n_9 : Nat) (x3_1 : Int32) (x4_2 : Int32) (M_3 : Mm), L_X3_takeTune_5 a0 a1 x2 n_9 x3_1 x4_2 M_3 = some q_4 → WM G X (qQ G X (some (.int r.1)) r.2) M_3 5 [some (.ref (gR G a0)), some (.ref (gR G a1)), some (.int x2), some (.int x3_1), some (.int x4_2)] [] := by
    intro n_9
    induction n_9 with
    | zero =>
      intro x3_1 x4_2 M_3 h
      cases (show none = some _ from h)
    | succ n_9 i_10 =>
      intro x3_1 x4_2 M_3 h
      rw [L_X3_takeTune_5] at h
      refine m_iload hc dX3_takeTune_5 rfl ?_
      refine m_iload_n hc dX3_takeTune_7 rfl ?_
      refine m_icge hc (tgt := 49) dX3_takeTune_8 (by decide) (fun b_11 => ?_) (fun b_11 => ?_)
      · replace h := (if_pos b_11).symm.trans h
        cases h
        exact m_fg [4] rfl J_6
      · replace h := (if_neg b_11).symm.trans h
        refine m_aload_n hc dX3_takeTune_11 rfl ?_
        refine m_getR hc (q := (a0 + 1)) (kP_o h0) rfl tbX3 1 (by decide) wf_X3_15 rfl dX3_takeTune_12 ?_
        refine m_iload hc dX3_takeTune_15 rfl ?_
        refine m_iconst hc (v := 0) dX3_takeTune_17 (by decide) ?_
        obtain ⟨b_12, h⟩ := ck_o h
        refine m_iast hc (kP_1 h0) b_12 dX3_takeTune_18 ?_
        refine m_topM (fun M_13 e_14 => ?_)
        replace h := nm_x e_14 h
        refine m_aload_n hc dX3_takeTune_19 rfl ?_
        refine m_iload hc dX3_takeTune_20 rfl ?_
        obtain ⟨b_15, h⟩ := ck_o h
        refine m_iald hc h1 b_15 dX3_takeTune_22 ?_
        refine m_iconst hc (v := (-1)) dX3_takeTune_23 (by decide) ?_
        obtain ⟨q_20, c_21, h⟩ := bd_o h
        have J_22 : WM G X (qQ G X (some (.int r.1)) r.2) q_20.2 43 [some (.ref (gR G a0)), some (.ref (gR G a1)), some (.int x2), some (.int q_20.1), some (.int x4_2)] [] := by
          refine m_iinc hc (v := x4_2 + 1) (lv' := [some (.ref (gR G a0)), some (.ref (gR G a1)), some (.int x2), some (.int q_20.1), some (.int (x4_2 + 1))]) dX3_takeTune_43 rfl rfl rfl rfl ?_
          refine m_goto hc (tgt := 5) dX3_takeTune_46 (by decide) ?_
          exact m_fg [] rfl (i_10 _ _ _ h)
        replace h := c_21
        refine m_iclt hc (tgt := 43) dX3_takeTune_24 (by decide) (fun b_23 => ?_) (fun b_23 => ?_)
        · replace h := (if_pos b_23).symm.trans h
          cases h
          exact m_fg [] rfl J_22
        · replace h := (if_neg b_23).symm.trans h
          refine m_aload_n hc dX3_takeTune_27 rfl ?_
          refine m_iload hc dX3_takeTune_28 rfl ?_
          refine m_iconst hc (v := 0) dX3_takeTune_30 (by decide) ?_
          refine m_aload_n hc dX3_takeTune_31 rfl ?_
          refine m_iload hc dX3_takeTune_32 rfl ?_
          obtain ⟨b_24, h⟩ := ck_o h
          refine m_iald hc h1 b_24 dX3_takeTune_34 ?_
          refine m_iconst hc (v := 0) dX3_takeTune_35 (by decide) ?_
          obtain ⟨q_25, c_26, h⟩ := bd_o h
          refine m_callVi hc (kP_o h0) rfl (c_X3_add (d + 0) h0 c_26) (by omega) (by decide) wm_X3_44 wi_X3_add we_X3_add wn_X3 wc_X3_add wy_X3_add rfl (st := []) rfl rfl (Nat.le_of_ble_eq_true rfl) dX3_takeTune_36 ?_
          refine m_pop hc dX3_takeTune_39 rfl ?_
          refine m_iinc hc (v := x3_1 + 1) (lv' := [some (.ref (gR G a0)), some (.ref (gR G a1)), some (.int x2), some (.int (x3_1 + 1)), some (.int x4_2)]) dX3_takeTune_40 rfl rfl rfl rfl ?_
          cases h
          exact m_fg [] rfl J_22
  exact m_fg [] rfl (L_7 _ _ _ _ c_5)
def f_X6_tune (x1 : Int32) (M : Mm) : Option (Int32 × Mm) :=
 if (f_X4_isSheet x1) = 0 then (
 nm (f_X6_finding (-100001 : Int32) M) (fun q_25 =>
 some (q_25.1, q_25.2)))
else (
 Option.bind (f_X4_isMissing x1 M) (fun q_2 =>
 if q_2 = 0 then (
 ck (ib x1 4) (
 nm ((M 206 x1.toNatClampNeg)) (fun x2_6 =>
 if x2_6 ≤ (12 : Int32) then (
 Option.bind (f_X4_hasAbove x1 (100 : Int32) M) (fun q_9 =>
 if q_9 = 0 then (
 Option.bind (f_X2_keep 3 M) (fun q_12 =>
 ck (ib x1 4) (
 Option.bind (f_X3_takeTune 3 (208 + x1.toNatClampNeg) x2_6 q_12) (fun q_15 =>
 nm (f_X5_forgetBeats (0 : Int32) (x2_6 - (1 : Int32)) q_15.2) (fun q_17 =>
 some (q_15.1, q_17))))))
else (
 nm (f_X6_finding (-100001 : Int32) M) (fun q_19 =>
 some (q_19.1, q_19.2)))))
else (
 nm (f_X6_finding (-100003 : Int32) M) (fun q_21 =>
 some (q_21.1, q_21.2))))))
else (
 nm (f_X6_finding (-100002 : Int32) M) (fun q_23 =>
 some (q_23.1, q_23.2)))))
set_option maxRecDepth 100000 in
set_option maxHeartbeats 4000000 in
theorem c_X6_tune {G : Gm} {l : Launch} (d : Nat) {x1 : Int32} {M : Mm} {r : Int32 × Mm}  (h : f_X6_tune x1 M = some r) : Cm G l (d + 3) yX6_tune cX6_tune 4 (some .int) [.ref (gR G 0), .int x1] M (some (.int r.1)) r.2 := by
  unfold f_X6_tune at h
  refine m_met (lv := [some (.ref (gR G 0)), some (.int x1), none, none]) (own := RX6) (by decide +kernel) rfl rfl (Nat.le_of_ble_eq_true rfl) rfl ?_
  intro X hX hc hr
  subst hX
  refine m_iload_n hc dX6_tune_0 rfl ?_
  refine m_callSi hc (c_X4_isSheet (d + 2) rfl) (by omega) (by decide) wm_X6_209 wt_X4_isSheet wv_X4_isSheet wc_X4_isSheet wz_X4_isSheet rfl (st := []) rfl rfl (Nat.le_of_ble_eq_true rfl) dX6_tune_1 ?_
  refine m_ifne hc (tgt := 14) dX6_tune_4 (by decide) (fun b_1 => ?_) (fun b_1 => ?_)
  · replace h := (if_neg b_1).symm.trans h
    refine m_aload_n hc dX6_tune_14 rfl ?_
    refine m_getR hc (q := 204) yO_0 rfl tbX6 5 (by decide) wf_X6_49 rfl dX6_tune_15 ?_
    refine m_iload_n hc dX6_tune_18 rfl ?_
    obtain ⟨q_2, c_3, h⟩ := bd_o h
    refine m_callVi hc yO_204 rfl (c_X4_isMissing (d + 2) c_3) (by omega) (by decide) wm_X6_218 wi_X4_isMissing we_X4_isMissing wn_X4 wc_X4_isMissing wy_X4_isMissing rfl (st := []) rfl rfl (Nat.le_of_ble_eq_true rfl) dX6_tune_19 ?_
    refine m_ifeq hc (tgt := 32) dX6_tune_22 (by decide) (fun b_4 => ?_) (fun b_4 => ?_)
    · replace h := (if_pos b_4).symm.trans h
      refine m_aload_n hc dX6_tune_32 rfl ?_
      refine m_getR hc (q := 204) yO_0 rfl tbX6 5 (by decide) wf_X6_49 rfl dX6_tune_33 ?_
      refine m_getR hc (q := 206) yO_204 rfl tbX4 1 (by decide) wf_X6_222 rfl dX6_tune_36 ?_
      refine m_iload_n hc dX6_tune_39 rfl ?_
      obtain ⟨b_5, h⟩ := ck_o h
      refine m_iald hc yA_206 b_5 dX6_tune_40 ?_
      refine m_topI (fun x2_6 e_7 => ?_)
      replace h := nm_x e_7 h
      refine m_istore_n hc (lv' := [some (.ref (gR G 0)), some (.int x1), some (.int x2_6), none]) dX6_tune_41 (Nat.le_of_ble_eq_true rfl) rfl rfl ?_
      refine m_iload_n hc dX6_tune_42 rfl ?_
      refine m_bipush hc (v := (12 : Int32)) dX6_tune_43 (by decide) ?_
      refine m_icle hc (tgt := 55) dX6_tune_45 (by decide) (fun b_8 => ?_) (fun b_8 => ?_)
      · replace h := (if_pos b_8).symm.trans h
        refine m_aload_n hc dX6_tune_55 rfl ?_
        refine m_getR hc (q := 204) yO_0 rfl tbX6 5 (by decide) wf_X6_49 rfl dX6_tune_56 ?_
        refine m_iload_n hc dX6_tune_59 rfl ?_
        refine m_bipush hc (v := (100 : Int32)) dX6_tune_60 (by decide) ?_
        obtain ⟨q_9, c_10, h⟩ := bd_o h
        refine m_callVi hc yO_204 rfl (c_X4_hasAbove (d + 2) c_10) (by omega) (by decide) wm_X6_244 wi_X4_hasAbove we_X4_hasAbove wn_X4 wc_X4_hasAbove wy_X4_hasAbove rfl (st := []) rfl rfl (Nat.le_of_ble_eq_true rfl) dX6_tune_62 ?_
        refine m_ifeq hc (tgt := 75) dX6_tune_65 (by decide) (fun b_11 => ?_) (fun b_11 => ?_)
        · replace h := (if_pos b_11).symm.trans h
          refine m_aload_n hc dX6_tune_75 rfl ?_
          refine m_getR hc (q := 10) yO_0 rfl tbX6 2 (by decide) wf_X6_26 rfl dX6_tune_76 ?_
          refine m_aload_n hc dX6_tune_79 rfl ?_
          refine m_getR hc (q := 3) yO_0 rfl tbX6 1 (by decide) wf_X6_19 rfl dX6_tune_80 ?_
          obtain ⟨q_12, c_13, h⟩ := bd_o h
          refine m_callVv hc yO_10 rfl (c_X2_keep (d + 0) kP_3lit c_13) (by omega) (by decide) wm_X6_62 wi_X2_keep we_X2_keep wn_X2 wc_X2_keep wy_X2_keep rfl (st := []) rfl rfl (Nat.le_of_ble_eq_true rfl) dX6_tune_83 ?_
          refine m_aload_n hc dX6_tune_86 rfl ?_
          refine m_getR hc (q := 3) yO_0 rfl tbX6 1 (by decide) wf_X6_19 rfl dX6_tune_87 ?_
          refine m_aload_n hc dX6_tune_90 rfl ?_
          refine m_getR hc (q := 204) yO_0 rfl tbX6 5 (by decide) wf_X6_49 rfl dX6_tune_91 ?_
          refine m_getR hc (q := 207) yO_204 rfl tbX4 2 (by decide) wf_X6_234 rfl dX6_tune_94 ?_
          refine m_iload_n hc dX6_tune_97 rfl ?_
          obtain ⟨b_14, h⟩ := ck_o h
          refine m_jald hc yJ_207 b_14 (tSh_d _ (ib_lt b_14)) dX6_tune_98 ?_
          refine m_iload_n hc dX6_tune_99 rfl ?_
          obtain ⟨q_15, c_16, h⟩ := bd_o h
          refine m_callVi hc yO_3 rfl (c_X3_takeTune (d + 0) kP_3lit (jSh_d _ (ib_lt b_14)) c_16) (by omega) (by decide) wm_X6_247 wi_X3_takeTune we_X3_takeTune wn_X3 wc_X3_takeTune wy_X3_takeTune rfl (st := []) rfl rfl (Nat.le_of_ble_eq_true rfl) dX6_tune_100 ?_
          refine m_istore_n hc (lv' := [some (.ref (gR G 0)), some (.int x1), some (.int x2_6), some (.int q_15.1)]) dX6_tune_103 (Nat.le_of_ble_eq_true rfl) rfl rfl ?_
          refine m_aload_n hc dX6_tune_104 rfl ?_
          refine m_getR hc (q := 161) yO_0 rfl tbX6 4 (by decide) wf_X6_42 rfl dX6_tune_105 ?_
          refine m_iconst hc (v := 0) dX6_tune_108 (by decide) ?_
          refine m_iload_n hc dX6_tune_109 rfl ?_
          refine m_iconst hc (v := 1) dX6_tune_110 (by decide) ?_
          refine m_isub hc dX6_tune_111 ?_
          obtain ⟨q_17, c_18, h⟩ := nm_o h
          refine m_callVv hc yO_161 rfl (c_X5_forgetBeats (d + 1) c_18) (by omega) (by decide) wm_X6_88 wi_X5_forgetBeats we_X5_forgetBeats wn_X5 wc_X5_forgetBeats wy_X5_forgetBeats rfl (st := []) rfl rfl (Nat.le_of_ble_eq_true rfl) dX6_tune_112 ?_
          refine m_iload_n hc dX6_tune_115 rfl ?_
          cases h
          exact m_iret hc hr dX6_tune_116
        · replace h := (if_neg b_11).symm.trans h
          refine m_aload_n hc dX6_tune_68 rfl ?_
          refine m_ldc hc dX6_tune_69 wk_X6_57 ?_
          obtain ⟨q_19, c_20, h⟩ := nm_o h
          refine m_callVi hc yO_0 rfl (c_X6_finding (d + 2) c_20) (by omega) (by decide) wm_X6_58 wi_X6_finding we_X6_finding wn_X6 wc_X6_finding wy_X6_finding rfl (st := []) rfl rfl (Nat.le_of_ble_eq_true rfl) dX6_tune_71 ?_
          cases h
          exact m_iret hc hr dX6_tune_74
      · replace h := (if_neg b_8).symm.trans h
        refine m_aload_n hc dX6_tune_48 rfl ?_
        refine m_ldc hc dX6_tune_49 wk_X6_117 ?_
        obtain ⟨q_21, c_22, h⟩ := nm_o h
        refine m_callVi hc yO_0 rfl (c_X6_finding (d + 2) c_22) (by omega) (by decide) wm_X6_58 wi_X6_finding we_X6_finding wn_X6 wc_X6_finding wy_X6_finding rfl (st := []) rfl rfl (Nat.le_of_ble_eq_true rfl) dX6_tune_51 ?_
        cases h
        exact m_iret hc hr dX6_tune_54
    · replace h := (if_neg b_4).symm.trans h
      refine m_aload_n hc dX6_tune_25 rfl ?_
      refine m_ldc hc dX6_tune_26 wk_X6_221 ?_
      obtain ⟨q_23, c_24, h⟩ := nm_o h
      refine m_callVi hc yO_0 rfl (c_X6_finding (d + 2) c_24) (by omega) (by decide) wm_X6_58 wi_X6_finding we_X6_finding wn_X6 wc_X6_finding wy_X6_finding rfl (st := []) rfl rfl (Nat.le_of_ble_eq_true rfl) dX6_tune_28 ?_
      cases h
      exact m_iret hc hr dX6_tune_31
  · replace h := (if_pos b_1).symm.trans h
    refine m_aload_n hc dX6_tune_7 rfl ?_
    refine m_ldc hc dX6_tune_8 wk_X6_57 ?_
    obtain ⟨q_25, c_26, h⟩ := nm_o h
    refine m_callVi hc yO_0 rfl (c_X6_finding (d + 2) c_26) (by omega) (by decide) wm_X6_58 wi_X6_finding we_X6_finding wn_X6 wc_X6_finding wy_X6_finding rfl (st := []) rfl rfl (Nat.le_of_ble_eq_true rfl) dX6_tune_10 ?_
    cases h
    exact m_iret hc hr dX6_tune_13
def f_X2_giveBack (a1 : Nat) (M : Mm) : Option (Mm) :=
 nm (mw M 10 1 ((((M 10 1) + (20 : Int32)) - (1 : Int32)) - (((M 10 1) + (20 : Int32)) - (1 : Int32)) / (20 : Int32) * (20 : Int32))) (fun M_1 =>
 ck (ib (M_1 10 1) 20) (
 Option.bind (f_X3_become a1 (12 + 7 * (M_1 10 1).toNatClampNeg) M_1) (fun q_4 =>
 nm (mw q_4 10 2 ((q_4 10 2) - (1 : Int32))) (fun M_6 =>
 some M_6))))
set_option maxRecDepth 100000 in
set_option maxHeartbeats 4000000 in
theorem c_X2_giveBack {G : Gm} {l : Launch} (d : Nat) {a1 : Nat} {M : Mm} {r : Mm} (h1 : kP a1) (h : f_X2_giveBack a1 M = some r) : Cm G l (d + 2) yX2_giveBack cX2_giveBack 2 none [.ref (gR G 10), .ref (gR G a1)] M none r := by
  unfold f_X2_giveBack at h
  refine m_met (lv := [some (.ref (gR G 10)), some (.ref (gR G a1))]) (own := RX2) (by decide +kernel) rfl rfl (Nat.le_of_ble_eq_true rfl) rfl ?_
  intro X hX hc hr
  subst hX
  refine m_aload_n hc dX2_giveBack_0 rfl ?_
  refine m_aload_n hc dX2_giveBack_1 rfl ?_
  refine m_getI hc yO_10 rfl tbX2 1 (by decide) wf_X2_16 rfl dX2_giveBack_2 ?_
  refine m_bipush hc (v := (20 : Int32)) dX2_giveBack_5 (by decide) ?_
  refine m_iadd hc dX2_giveBack_7 ?_
  refine m_iconst hc (v := 1) dX2_giveBack_8 (by decide) ?_
  refine m_isub hc dX2_giveBack_9 ?_
  refine m_bipush hc (v := (20 : Int32)) dX2_giveBack_10 (by decide) ?_
  refine m_irem hc dX2_giveBack_12 (by decide) ?_
  refine m_putI hc yO_10 rfl tbX2 tyX2 tyX2_ok nmX2 1 (by decide) wf_X2_16 rfl rfl rfl rfl dX2_giveBack_13 ?_
  refine m_topM (fun M_1 e_2 => ?_)
  replace h := nm_x e_2 h
  refine m_aload_n hc dX2_giveBack_16 rfl ?_
  refine m_aload_n hc dX2_giveBack_17 rfl ?_
  refine m_getR hc (q := 11) yO_10 rfl tbX2 0 (by decide) wf_X2_11 rfl dX2_giveBack_18 ?_
  refine m_aload_n hc dX2_giveBack_21 rfl ?_
  refine m_getI hc yO_10 rfl tbX2 1 (by decide) wf_X2_16 rfl dX2_giveBack_22 ?_
  obtain ⟨b_3, h⟩ := ck_o h
  refine m_pald hc yP_11 b_3 (tRi_d _ (ib_lt b_3)) dX2_giveBack_25 ?_
  obtain ⟨q_4, c_5, h⟩ := bd_o h
  refine m_callVv hc (kP_o h1) rfl (c_X3_become (d + 0) h1 (kP_ring (ib_lt b_3)) c_5) (by omega) (by decide) wm_X2_23 wi_X3_become we_X3_become wn_X3 wc_X3_become wy_X3_become rfl (st := []) rfl rfl (Nat.le_of_ble_eq_true rfl) dX2_giveBack_26 ?_
  refine m_aload_n hc dX2_giveBack_29 rfl ?_
  refine m_dup hc dX2_giveBack_30 rfl ?_
  refine m_getI hc yO_10 rfl tbX2 2 (by decide) wf_X2_20 rfl dX2_giveBack_31 ?_
  refine m_iconst hc (v := 1) dX2_giveBack_34 (by decide) ?_
  refine m_isub hc dX2_giveBack_35 ?_
  refine m_putI hc yO_10 rfl tbX2 tyX2 tyX2_ok nmX2 2 (by decide) wf_X2_20 rfl rfl rfl rfl dX2_giveBack_36 ?_
  refine m_topM (fun M_6 e_7 => ?_)
  replace h := nm_x e_7 h
  cases h
  exact m_vret hc hr dX2_giveBack_39
def f_X5_forgetAll (M : Mm) : Mm :=
 nm (f_X5_forgetLength M) (fun q_1 =>
 nm (f_X5_forgetStart q_1) (fun q_3 =>
 q_3))
set_option maxRecDepth 100000 in
set_option maxHeartbeats 4000000 in
theorem c_X5_forgetAll {G : Gm} {l : Launch} (d : Nat) {M : Mm} {r : Mm}  (h : f_X5_forgetAll M = r) : Cm G l (d + 2) yX5_forgetAll cX5_forgetAll 1 none [.ref (gR G 161)] M none r := by
  unfold f_X5_forgetAll at h
  refine m_met (lv := [some (.ref (gR G 161))]) (own := RX5) (by decide +kernel) rfl rfl (Nat.le_of_ble_eq_true rfl) rfl ?_
  intro X hX hc hr
  subst hX
  refine m_aload_n hc dX5_forgetAll_0 rfl ?_
  obtain ⟨q_1, c_2, h⟩ := nm_o h
  refine m_callVv hc yO_161 rfl (c_X5_forgetLength (d + 0) c_2) (by omega) (by decide) wm_X5_78 wi_X5_forgetLength we_X5_forgetLength wn_X5 wc_X5_forgetLength wy_X5_forgetLength rfl (st := []) rfl rfl (Nat.le_of_ble_eq_true rfl) dX5_forgetAll_1 ?_
  refine m_aload_n hc dX5_forgetAll_4 rfl ?_
  obtain ⟨q_3, c_4, h⟩ := nm_o h
  refine m_callVv hc yO_161 rfl (c_X5_forgetStart (d + 0) c_4) (by omega) (by decide) wm_X5_81 wi_X5_forgetStart we_X5_forgetStart wn_X5 wc_X5_forgetStart wy_X5_forgetStart rfl (st := []) rfl rfl (Nat.le_of_ble_eq_true rfl) dX5_forgetAll_5 ?_
  subst h
  exact m_vret hc hr dX5_forgetAll_8
def f_X6_undo (M : Mm) : Option (Int32 × Mm) :=
 if (M 10 2) = 0 then (
 nm (f_X6_finding (-100006 : Int32) M) (fun q_6 =>
 some (q_6.1, q_6.2)))
else (
 Option.bind (f_X2_giveBack 3 M) (fun q_2 =>
 nm (f_X5_forgetAll q_2) (fun q_4 =>
 some ((q_4 10 2), q_4))))
set_option maxRecDepth 100000 in
set_option maxHeartbeats 4000000 in
theorem c_X6_undo {G : Gm} {l : Launch} (d : Nat) {M : Mm} {r : Int32 × Mm}  (h : f_X6_undo M = some r) : Cm G l (d + 3) yX6_undo cX6_undo 1 (some .int) [.ref (gR G 0)] M (some (.int r.1)) r.2 := by
  unfold f_X6_undo at h
  refine m_met (lv := [some (.ref (gR G 0))]) (own := RX6) (by decide +kernel) rfl rfl (Nat.le_of_ble_eq_true rfl) rfl ?_
  intro X hX hc hr
  subst hX
  refine m_aload_n hc dX6_undo_0 rfl ?_
  refine m_getR hc (q := 10) yO_0 rfl tbX6 2 (by decide) wf_X6_26 rfl dX6_undo_1 ?_
  refine m_getI hc yO_10 rfl tbX2 2 (by decide) wf_X6_251 rfl dX6_undo_4 ?_
  refine m_ifne hc (tgt := 17) dX6_undo_7 (by decide) (fun b_1 => ?_) (fun b_1 => ?_)
  · replace h := (if_neg b_1).symm.trans h
    refine m_aload_n hc dX6_undo_17 rfl ?_
    refine m_getR hc (q := 10) yO_0 rfl tbX6 2 (by decide) wf_X6_26 rfl dX6_undo_18 ?_
    refine m_aload_n hc dX6_undo_21 rfl ?_
    refine m_getR hc (q := 3) yO_0 rfl tbX6 1 (by decide) wf_X6_19 rfl dX6_undo_22 ?_
    obtain ⟨q_2, c_3, h⟩ := bd_o h
    refine m_callVv hc yO_10 rfl (c_X2_giveBack (d + 0) kP_3lit c_3) (by omega) (by decide) wm_X6_254 wi_X2_giveBack we_X2_giveBack wn_X2 wc_X2_giveBack wy_X2_giveBack rfl (st := []) rfl rfl (Nat.le_of_ble_eq_true rfl) dX6_undo_25 ?_
    refine m_aload_n hc dX6_undo_28 rfl ?_
    refine m_getR hc (q := 161) yO_0 rfl tbX6 4 (by decide) wf_X6_42 rfl dX6_undo_29 ?_
    obtain ⟨q_4, c_5, h⟩ := nm_o h
    refine m_callVv hc yO_161 rfl (c_X5_forgetAll (d + 0) c_5) (by omega) (by decide) wm_X6_257 wi_X5_forgetAll we_X5_forgetAll wn_X5 wc_X5_forgetAll wy_X5_forgetAll rfl (st := []) rfl rfl (Nat.le_of_ble_eq_true rfl) dX6_undo_32 ?_
    refine m_aload_n hc dX6_undo_35 rfl ?_
    refine m_getR hc (q := 10) yO_0 rfl tbX6 2 (by decide) wf_X6_26 rfl dX6_undo_36 ?_
    refine m_getI hc yO_10 rfl tbX2 2 (by decide) wf_X6_251 rfl dX6_undo_39 ?_
    cases h
    exact m_iret hc hr dX6_undo_42
  · replace h := (if_pos b_1).symm.trans h
    refine m_aload_n hc dX6_undo_10 rfl ?_
    refine m_ldc hc dX6_undo_11 wk_X6_92 ?_
    obtain ⟨q_6, c_7, h⟩ := nm_o h
    refine m_callVi hc yO_0 rfl (c_X6_finding (d + 2) c_7) (by omega) (by decide) wm_X6_58 wi_X6_finding we_X6_finding wn_X6 wc_X6_finding wy_X6_finding rfl (st := []) rfl rfl (Nat.le_of_ble_eq_true rfl) dX6_undo_13 ?_
    cases h
    exact m_iret hc hr dX6_undo_16
def L_X3_countMarks_4 (a0 : Nat) (M : Mm) : Nat → Int32 → Int32 → Option (Int32)
  | 0, _, _ => none
  | n_8 + 1, x1_1, x2_2 =>
    if (84 : Int32) ≤ x2_2 then (
     some x1_1)
    else (
     ck (ib x2_2 84) (
     nm (
     if (M (a0 + 5) x2_2.toNatClampNeg) < 0 then (
     x1_1)
    else (
     (x1_1 + 1))) (fun q_13 =>
     L_X3_countMarks_4 a0 M n_8 q_13 (x2_2 + 1))))
def f_X3_countMarks (a0 : Nat) (M : Mm) : Option (Int32) :=
 Option.bind (L_X3_countMarks_4 a0 M FU (0 : Int32) (0 : Int32)) (fun q_3 =>
 some q_3)
set_option maxRecDepth 100000 in
set_option maxHeartbeats 4000000 in
theorem c_X3_countMarks {G : Gm} {l : Launch} (d : Nat) {a0 : Nat} {M : Mm} {r : Int32} (h0 : kP a0) (h : f_X3_countMarks a0 M = some r) : Cm G l (d + 0) yX3_countMarks cX3_countMarks 3 (some .int) [.ref (gR G a0)] M (some (.int r)) M := by
  unfold f_X3_countMarks at h
  refine m_met (lv := [some (.ref (gR G a0)), none, none]) (own := RX3) (by decide +kernel) rfl rfl (Nat.le_of_ble_eq_true rfl) rfl ?_
  intro X hX hc hr
  subst hX
  refine m_iconst hc (v := 0) dX3_countMarks_0 (by decide) ?_
  refine m_istore_n hc (lv' := [some (.ref (gR G a0)), some (.int (0 : Int32)), none]) dX3_countMarks_1 (Nat.le_of_ble_eq_true rfl) rfl rfl ?_
  refine m_iconst hc (v := 0) dX3_countMarks_2 (by decide) ?_
  refine m_istore_n hc (lv' := [some (.ref (gR G a0)), some (.int (0 : Int32)), some (.int (0 : Int32))]) dX3_countMarks_3 (Nat.le_of_ble_eq_true rfl) rfl rfl ?_
  obtain ⟨q_3, c_4, h⟩ := bd_o h
  have J_5 : WM G X (qQ G X (some (.int r)) M) M 28 [some (.ref (gR G a0)), some (.int q_3), none] [] := by
    refine m_iload_n hc dX3_countMarks_28 rfl ?_
    cases h
    exact m_iret hc hr dX3_countMarks_29
  have L_6 : ∀ (n_8 : Nat) (x1_1 : Int32) (x2_2 : Int32), L_X3_countMarks_4 a0 M n_8 x1_1 x2_2 = some q_3 → WM G X (qQ G X (some (.int r)) M) M 4 [some (.ref (gR G a0)), some (.int x1_1), some (.int x2_2)] [] := by
    intro n_8
    induction n_8 with
    | zero =>
      intro x1_1 x2_2 h
      cases (show none = some _ from h)
    | succ n_8 i_9 =>
      intro x1_1 x2_2 h
      rw [L_X3_countMarks_4] at h
      refine m_iload_n hc dX3_countMarks_4 rfl ?_
      refine m_bipush hc (v := (84 : Int32)) dX3_countMarks_5 (by decide) ?_
      refine m_icge hc (tgt := 28) dX3_countMarks_7 (by decide) (fun b_10 => ?_) (fun b_10 => ?_)
      · replace h := (if_pos b_10).symm.trans h
        cases h
        exact m_fg [2] rfl J_5
      · replace h := (if_neg b_10).symm.trans h
        refine m_aload_n hc dX3_countMarks_10 rfl ?_
        refine m_getR hc (q := (a0 + 5)) (kP_o h0) rfl tbX3 5 (by decide) wf_X3_28 rfl dX3_countMarks_11 ?_
        refine m_iload_n hc dX3_countMarks_14 rfl ?_
        obtain ⟨b_11, h⟩ := ck_o h
        refine m_iald hc (kP_5 h0) b_11 dX3_countMarks_15 ?_
        obtain ⟨q_13, c_14, h⟩ := nm_o h
        have J_15 : WM G X (qQ G X (some (.int r)) M) M 22 [some (.ref (gR G a0)), some (.int q_13), some (.int x2_2)] [] := by
          refine m_iinc hc (v := x2_2 + 1) (lv' := [some (.ref (gR G a0)), some (.int q_13), some (.int (x2_2 + 1))]) dX3_countMarks_22 rfl rfl rfl rfl ?_
          refine m_goto hc (tgt := 4) dX3_countMarks_25 (by decide) ?_
          exact m_fg [] rfl (i_9 _ _ h)
        replace h := c_14
        refine m_iflt hc (tgt := 22) dX3_countMarks_16 (by decide) (fun b_16 => ?_) (fun b_16 => ?_)
        · replace h := (if_pos b_16).symm.trans h
          subst h
          exact m_fg [] rfl J_15
        · replace h := (if_neg b_16).symm.trans h
          refine m_iinc hc (v := x1_1 + 1) (lv' := [some (.ref (gR G a0)), some (.int (x1_1 + 1)), some (.int x2_2)]) dX3_countMarks_19 rfl rfl rfl rfl ?_
          subst h
          exact m_fg [] rfl J_15
  exact m_fg [] rfl (L_6 _ _ _ c_4)
def f_X6_all (x1 : Int32) (M : Mm) : Option (Int32 × Mm) :=
 if x1 = (0 : Int32) then (
 some ((M 3 0), M))
else (
 if x1 = (1 : Int32) then (
 Option.bind (f_X3_countNotes 3 M) (fun q_3 =>
 some (q_3, M)))
else (
 if x1 = (2 : Int32) then (
 Option.bind (f_X3_countMarks 3 M) (fun q_6 =>
 some (q_6, M)))
else (
 if x1 = (3 : Int32) then (
 some ((M 0 6), M))
else (
 nm (f_X6_finding (-100001 : Int32) M) (fun q_9 =>
 some (q_9.1, q_9.2))))))
set_option maxRecDepth 100000 in
set_option maxHeartbeats 4000000 in
theorem c_X6_all {G : Gm} {l : Launch} (d : Nat) {x1 : Int32} {M : Mm} {r : Int32 × Mm}  (h : f_X6_all x1 M = some r) : Cm G l (d + 1) yX6_all cX6_all 2 (some .int) [.ref (gR G 0), .int x1] M (some (.int r.1)) r.2 := by
  unfold f_X6_all at h
  refine m_met (lv := [some (.ref (gR G 0)), some (.int x1)]) (own := RX6) (by decide +kernel) rfl rfl (Nat.le_of_ble_eq_true rfl) rfl ?_
  intro X hX hc hr
  subst hX
  refine m_iload_n hc dX6_all_0 rfl ?_
  by_cases b_1 : x1 = (0 : Int32)
  · replace h := (if_pos b_1).symm.trans h
    refine m_tsK hc (tgt := 32) b_1 dX6_all_1 (by decide) (by decide) rfl (by decide) ?_
    refine m_aload_n hc dX6_all_32 rfl ?_
    refine m_getR hc (q := 3) yO_0 rfl tbX6 1 (by decide) wf_X6_19 rfl dX6_all_33 ?_
    refine m_getI hc yO_3 rfl tbX3 0 (by decide) wf_X6_66 rfl dX6_all_36 ?_
    cases h
    exact m_iret hc hr dX6_all_39
  · replace h := (if_neg b_1).symm.trans h
    by_cases b_2 : x1 = (1 : Int32)
    · replace h := (if_pos b_2).symm.trans h
      refine m_tsK hc (tgt := 40) b_2 dX6_all_1 (by decide) (by decide) rfl (by decide) ?_
      refine m_aload_n hc dX6_all_40 rfl ?_
      refine m_getR hc (q := 3) yO_0 rfl tbX6 1 (by decide) wf_X6_19 rfl dX6_all_41 ?_
      obtain ⟨q_3, c_4, h⟩ := bd_o h
      refine m_callVi hc yO_3 rfl (c_X3_countNotes (d + 0) kP_3lit c_4) (by omega) (by decide) wm_X6_122 wi_X3_countNotes we_X3_countNotes wn_X3 wc_X3_countNotes wy_X3_countNotes rfl (st := []) rfl rfl (Nat.le_of_ble_eq_true rfl) dX6_all_44 ?_
      cases h
      exact m_iret hc hr dX6_all_47
    · replace h := (if_neg b_2).symm.trans h
      by_cases b_5 : x1 = (2 : Int32)
      · replace h := (if_pos b_5).symm.trans h
        refine m_tsK hc (tgt := 48) b_5 dX6_all_1 (by decide) (by decide) rfl (by decide) ?_
        refine m_aload_n hc dX6_all_48 rfl ?_
        refine m_getR hc (q := 3) yO_0 rfl tbX6 1 (by decide) wf_X6_19 rfl dX6_all_49 ?_
        obtain ⟨q_6, c_7, h⟩ := bd_o h
        refine m_callVi hc yO_3 rfl (c_X3_countMarks (d + 0) kP_3lit c_7) (by omega) (by decide) wm_X6_260 wi_X3_countMarks we_X3_countMarks wn_X3 wc_X3_countMarks wy_X3_countMarks rfl (st := []) rfl rfl (Nat.le_of_ble_eq_true rfl) dX6_all_52 ?_
        cases h
        exact m_iret hc hr dX6_all_55
      · replace h := (if_neg b_5).symm.trans h
        by_cases b_8 : x1 = (3 : Int32)
        · replace h := (if_pos b_8).symm.trans h
          refine m_tsK hc (tgt := 56) b_8 dX6_all_1 (by decide) (by decide) rfl (by decide) ?_
          refine m_aload_n hc dX6_all_56 rfl ?_
          refine m_getI hc yO_0 rfl tbX6 6 (by decide) wf_X6_53 rfl dX6_all_57 ?_
          cases h
          exact m_iret hc hr dX6_all_60
        · replace h := (if_neg b_8).symm.trans h
          refine m_tsOut hc (tgt := 61) dX6_all_1 (by have nb_1 := sw_ne (a := 0) b_1 (by decide); have nb_2 := sw_ne (a := 1) b_2 (by decide); have nb_5 := sw_ne (a := 2) b_5 (by decide); have nb_8 := sw_ne (a := 3) b_8 (by decide); omega) (by decide) ?_
          refine m_aload_n hc dX6_all_61 rfl ?_
          refine m_ldc hc dX6_all_62 wk_X6_57 ?_
          obtain ⟨q_9, c_10, h⟩ := nm_o h
          refine m_callVi hc yO_0 rfl (c_X6_finding (d + 0) c_10) (by omega) (by decide) wm_X6_58 wi_X6_finding we_X6_finding wn_X6 wc_X6_finding wy_X6_finding rfl (st := []) rfl rfl (Nat.le_of_ble_eq_true rfl) dX6_all_64 ?_
          cases h
          exact m_iret hc hr dX6_all_67
def f_X7_finding (x1 : Int32) (M : Mm) : Int32 × Mm :=
 nm (mw M 212 6 ((M 212 6) + (1 : Int32))) (fun M_1 =>
 (x1, M_1))
set_option maxRecDepth 100000 in
set_option maxHeartbeats 4000000 in
theorem c_X7_finding {G : Gm} {l : Launch} (d : Nat) {x1 : Int32} {M : Mm} {r : Int32 × Mm}  (h : f_X7_finding x1 M = r) : Cm G l (d + 0) yX7_finding cX7_finding 2 (some .int) [.ref (gR G 212), .int x1] M (some (.int r.1)) r.2 := by
  unfold f_X7_finding at h
  refine m_met (lv := [some (.ref (gR G 212)), some (.int x1)]) (own := RX7) (by decide +kernel) rfl rfl (Nat.le_of_ble_eq_true rfl) rfl ?_
  intro X hX hc hr
  subst hX
  refine m_aload_n hc dX7_finding_0 rfl ?_
  refine m_dup hc dX7_finding_1 rfl ?_
  refine m_getI hc yO_212 rfl tbX7 6 (by decide) wf_X7_56 rfl dX7_finding_2 ?_
  refine m_iconst hc (v := 1) dX7_finding_5 (by decide) ?_
  refine m_iadd hc dX7_finding_6 ?_
  refine m_putI hc yO_212 rfl tbX7 tyX7 tyX7_ok nmX7 6 (by decide) wf_X7_56 rfl rfl rfl rfl dX7_finding_7 ?_
  refine m_topM (fun M_1 e_2 => ?_)
  replace h := nm_x e_2 h
  refine m_iload_n hc dX7_finding_10 rfl ?_
  subst h
  exact m_iret hc hr dX7_finding_11
def f_X7_isIn (x0 : Int32) (x1 : Int32) (x2 : Int32) : Int32 :=
 if x0 < x1 then (
 (0 : Int32))
else (
 if x2 < x0 then (
 (0 : Int32))
else (
 (1 : Int32)))
set_option maxRecDepth 100000 in
set_option maxHeartbeats 4000000 in
theorem c_X7_isIn {G : Gm} {l : Launch} (d : Nat) {x0 : Int32} {x1 : Int32} {x2 : Int32} {M : Mm} {r : Int32}  (h : f_X7_isIn x0 x1 x2 = r) : Cm G l (d + 0) yX7_isIn cX7_isIn 3 (some .boolean) [.int x0, .int x1, .int x2] M (some (.int r)) M := by
  unfold f_X7_isIn at h
  refine m_met (lv := [some (.int x0), some (.int x1), some (.int x2)]) (own := RX7) (by decide +kernel) rfl rfl (Nat.le_of_ble_eq_true rfl) rfl ?_
  intro X hX hc hr
  subst hX
  refine m_iload_n hc dX7_isIn_0 rfl ?_
  refine m_iload_n hc dX7_isIn_1 rfl ?_
  refine m_iclt hc (tgt := 14) dX7_isIn_2 (by decide) (fun b_1 => ?_) (fun b_1 => ?_)
  · replace h := (if_pos b_1).symm.trans h
    refine m_iconst hc (v := 0) dX7_isIn_14 (by decide) ?_
    subst h
    exact m_zret hc hr (v := (0 : Int32)) (by decide) dX7_isIn_15
  · replace h := (if_neg b_1).symm.trans h
    refine m_iload_n hc dX7_isIn_5 rfl ?_
    refine m_iload_n hc dX7_isIn_6 rfl ?_
    refine m_icgt hc (tgt := 14) dX7_isIn_7 (by decide) (fun b_2 => ?_) (fun b_2 => ?_)
    · replace h := (if_pos b_2).symm.trans h
      refine m_iconst hc (v := 0) dX7_isIn_14 (by decide) ?_
      subst h
      exact m_zret hc hr (v := (0 : Int32)) (by decide) dX7_isIn_15
    · replace h := (if_neg b_2).symm.trans h
      refine m_iconst hc (v := 1) dX7_isIn_10 (by decide) ?_
      refine m_goto hc (tgt := 15) dX7_isIn_11 (by decide) ?_
      subst h
      exact m_zret hc hr (v := (1 : Int32)) (by decide) dX7_isIn_15
theorem bz_X7_isIn (x0 : Int32) (x1 : Int32) (x2 : Int32) : narrow .boolean (.int (f_X7_isIn x0 x1 x2)) = .int (f_X7_isIn x0 x1 x2) := by
  unfold f_X7_isIn
  first | (repeat' split) <;> rfl | (first | rfl)
