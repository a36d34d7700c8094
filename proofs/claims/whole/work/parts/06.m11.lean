def L_X7_many_18 (x1 : Int32) (M : Mm) : Nat → Int32 → Int32 → Option (Int32)
  | 0, _, _ => none
  | n_9 + 1, x2_2, x3_3 =>
    if (2187 : Int32) ≤ x3_3 then (
     some x2_2)
    else (
     Option.bind (f_X7_doesFor x1 x3_3 M) (fun q_12 =>
     nm (
     if q_12 = 0 then (
     (0 : Int32))
    else (
     (1 : Int32))) (fun q_15 =>
     nm ((x2_2 + q_15)) (fun x2_19 =>
     L_X7_many_18 x1 M n_9 x2_19 (x3_3 + 1)))))
def f_X7_many (x1 : Int32) (M : Mm) : Option (Int32 × Mm) :=
 if (f_X7_isBeat x1) = 0 then (
 nm (f_X7_finding (-100001 : Int32) M) (fun q_21 =>
 some (q_21.1, q_21.2)))
else (
 Option.bind (L_X7_many_18 x1 M FU (0 : Int32) (0 : Int32)) (fun q_4 =>
 some (q_4, M)))
set_option maxRecDepth 100000 in
set_option maxHeartbeats 4000000 in
theorem c_X7_many {G : Gm} {l : Launch} (d : Nat) {x1 : Int32} {M : Mm} {r : Int32 × Mm}  (h : f_X7_many x1 M = some r) : Cm G l (d + 4) yX7_many cX7_many 4 (some .int) [.ref (gR G 212), .int x1] M (some (.int r.1)) r.2 := by
  unfold f_X7_many at h
  refine m_met (lv := [some (.ref (gR G 212)), some (.int x1), none, none]) (own := RX7) (by decide +kernel) rfl rfl (Nat.le_of_ble_eq_true rfl) rfl ?_
  intro X hX hc hr
  subst hX
  refine m_iload_n hc dX7_many_0 rfl ?_
  refine m_callSi hc (c_X7_isBeat (d + 2) rfl) (by omega) (by decide) wm_X7_64 wt_X7_isBeat wv_X7_isBeat wc_X7_isBeat wz_X7_isBeat rfl (st := []) rfl rfl (Nat.le_of_ble_eq_true rfl) dX7_many_1 ?_
  refine m_ifne hc (tgt := 14) dX7_many_4 (by decide) (fun b_1 => ?_) (fun b_1 => ?_)
  · replace h := (if_neg b_1).symm.trans h
    refine m_iconst hc (v := 0) dX7_many_14 (by decide) ?_
    refine m_istore_n hc (lv' := [some (.ref (gR G 212)), some (.int x1), some (.int (0 : Int32)), none]) dX7_many_15 (Nat.le_of_ble_eq_true rfl) rfl rfl ?_
    refine m_iconst hc (v := 0) dX7_many_16 (by decide) ?_
    refine m_istore_n hc (lv' := [some (.ref (gR G 212)), some (.int x1), some (.int (0 : Int32)), some (.int (0 : Int32))]) dX7_many_17 (Nat.le_of_ble_eq_true rfl) rfl rfl ?_
    obtain ⟨q_4, c_5, h⟩ := bd_o h
    have J_6 : WM G X (qQ G X (some (.int r.1)) r.2) M 48 [some (.ref (gR G 212)), some (.int x1), some (.int q_4), none] [] := by
      refine m_iload_n hc dX7_many_48 rfl ?_
      cases h
      exact m_iret hc hr dX7_many_49
    have L_7 : ∀ (n_9 : Nat) (x2_2 : Int32) (x3_3 : Int32), L_X7_many_18 x1 M n_9 x2_2 x3_3 = some q_4 → WM G X (qQ G X (some (.int r.1)) r.2) M 18 [some (.ref (gR G 212)), some (.int x1), some (.int x2_2), some (.int x3_3)] [] := by
      intro n_9
      induction n_9 with
      | zero =>
        intro x2_2 x3_3 h
        cases (show none = some _ from h)
      | succ n_9 i_10 =>
        intro x2_2 x3_3 h
        rw [L_X7_many_18] at h
        refine m_iload_n hc dX7_many_18 rfl ?_
        refine m_sipush hc (v := (2187 : Int32)) dX7_many_19 (by decide) ?_
        refine m_icge hc (tgt := 48) dX7_many_22 (by decide) (fun b_11 => ?_) (fun b_11 => ?_)
        · replace h := (if_pos b_11).symm.trans h
          cases h
          exact m_fg [3] rfl J_6
        · replace h := (if_neg b_11).symm.trans h
          refine m_iload_n hc dX7_many_25 rfl ?_
          refine m_aload_n hc dX7_many_26 rfl ?_
          refine m_iload_n hc dX7_many_27 rfl ?_
          refine m_iload_n hc dX7_many_28 rfl ?_
          obtain ⟨q_12, c_13, h⟩ := bd_o h
          refine m_callVi hc yO_212 rfl (c_X7_doesFor (d + 0) c_13) (by omega) (by decide) wm_X7_124 wi_X7_doesFor we_X7_doesFor wn_X7 wc_X7_doesFor wy_X7_doesFor rfl (st := [.int x2_2]) rfl rfl (Nat.le_of_ble_eq_true rfl) dX7_many_29 ?_
          obtain ⟨q_15, c_16, h⟩ := nm_o h
          have J_17 : WM G X (qQ G X (some (.int r.1)) r.2) M 40 [some (.ref (gR G 212)), some (.int x1), some (.int x2_2), some (.int x3_3)] [.int q_15, .int x2_2] := by
            refine m_iadd hc dX7_many_40 ?_
            refine m_topI (fun x2_19 e_20 => ?_)
            replace h := nm_x e_20 h
            refine m_istore_n hc (lv' := [some (.ref (gR G 212)), some (.int x1), some (.int x2_19), some (.int x3_3)]) dX7_many_41 (Nat.le_of_ble_eq_true rfl) rfl rfl ?_
            refine m_iinc hc (v := x3_3 + 1) (lv' := [some (.ref (gR G 212)), some (.int x1), some (.int x2_19), some (.int (x3_3 + 1))]) dX7_many_42 rfl rfl rfl rfl ?_
            refine m_goto hc (tgt := 18) dX7_many_45 (by decide) ?_
            exact m_fg [] rfl (i_10 _ _ h)
          replace h := c_16
          refine m_ifeq hc (tgt := 39) dX7_many_32 (by decide) (fun b_18 => ?_) (fun b_18 => ?_)
          · replace h := (if_pos b_18).symm.trans h
            refine m_iconst hc (v := 0) dX7_many_39 (by decide) ?_
            subst h
            exact m_fg [] rfl J_17
          · replace h := (if_neg b_18).symm.trans h
            refine m_iconst hc (v := 1) dX7_many_35 (by decide) ?_
            refine m_goto hc (tgt := 40) dX7_many_36 (by decide) ?_
            subst h
            exact m_fg [] rfl J_17
    exact m_fg [] rfl (L_7 _ _ _ c_5)
  · replace h := (if_pos b_1).symm.trans h
    refine m_aload_n hc dX7_many_7 rfl ?_
    refine m_ldc hc dX7_many_8 wk_X7_83 ?_
    obtain ⟨q_21, c_22, h⟩ := nm_o h
    refine m_callVi hc yO_212 rfl (c_X7_finding (d + 3) c_22) (by omega) (by decide) wm_X7_72 wi_X7_finding we_X7_finding wn_X7 wc_X7_finding wy_X7_finding rfl (st := []) rfl rfl (Nat.le_of_ble_eq_true rfl) dX7_many_10 ?_
    cases h
    exact m_iret hc hr dX7_many_13
def L_X7_ringing_5 (x1 : Int32) (x2 : Int32) (M : Mm) : Nat → Int32 → Int32 → Option (Int32)
  | 0, _, _ => none
  | n_8 + 1, x3_1, x4_2 =>
    ck (ib ((1 : Int32) + x1) 320) (
     if (M 213 ((1 : Int32) + x1).toNatClampNeg) ≤ x4_2 then (
     some x3_1)
    else (
     Option.bind (f_X7_note x1 x4_2 (2 : Int32) M) (fun q_12 =>
     Option.bind (
     if q_12 = (1 : Int32) then (
     Option.bind (f_X7_stringOf x1 x4_2 x2 M) (fun q_21 =>
     some ((1 : Int32) <<< ((q_21 - q_21 / (7 : Int32) * (7 : Int32)) &&& 31))))
    else (
     some (0 : Int32))) (fun q_17 =>
     nm ((x3_1 ||| q_17)) (fun x3_23 =>
     L_X7_ringing_5 x1 x2 M n_8 x3_23 (x4_2 + 1))))))
def f_X7_ringing (x1 : Int32) (x2 : Int32) (M : Mm) : Option (Int32) :=
 Option.bind (L_X7_ringing_5 x1 x2 M FU (0 : Int32) (0 : Int32)) (fun q_3 =>
 some q_3)
set_option maxRecDepth 100000 in
set_option maxHeartbeats 4000000 in
theorem c_X7_ringing {G : Gm} {l : Launch} (d : Nat) {x1 : Int32} {x2 : Int32} {M : Mm} {r : Int32}  (h : f_X7_ringing x1 x2 M = some r) : Cm G l (d + 3) yX7_ringing cX7_ringing 5 (some .int) [.ref (gR G 212), .int x1, .int x2] M (some (.int r)) M := by
  unfold f_X7_ringing at h
  refine m_met (lv := [some (.ref (gR G 212)), some (.int x1), some (.int x2), none, none]) (own := RX7) (by decide +kernel) rfl rfl (Nat.le_of_ble_eq_true rfl) rfl ?_
  intro X hX hc hr
  subst hX
  refine m_iconst hc (v := 0) dX7_ringing_0 (by decide) ?_
  refine m_istore_n hc (lv' := [some (.ref (gR G 212)), some (.int x1), some (.int x2), some (.int (0 : Int32)), none]) dX7_ringing_1 (Nat.le_of_ble_eq_true rfl) rfl rfl ?_
  refine m_iconst hc (v := 0) dX7_ringing_2 (by decide) ?_
  refine m_istore hc (lv' := [some (.ref (gR G 212)), some (.int x1), some (.int x2), some (.int (0 : Int32)), some (.int (0 : Int32))]) dX7_ringing_3 (Nat.le_of_ble_eq_true rfl) rfl rfl ?_
  obtain ⟨q_3, c_4, h⟩ := bd_o h
  have J_5 : WM G X (qQ G X (some (.int r)) M) M 56 [some (.ref (gR G 212)), some (.int x1), some (.int x2), some (.int q_3), none] [] := by
    refine m_iload_n hc dX7_ringing_56 rfl ?_
    cases h
    exact m_iret hc hr dX7_ringing_57
  have L_6 : ∀ (n_8 : Nat) (x3_1 : Int32) (x4_2 : Int32), L_X7_ringing_5 x1 x2 M n_8 x3_1 x4_2 = some q_3 → WM G X (qQ G X (some (.int r)) M) M 5 [some (.ref (gR G 212)), some (.int x1), some (.int x2), some (.int x3_1), some (.int x4_2)] [] := by
    intro n_8
    induction n_8 with
    | zero =>
      intro x3_1 x4_2 h
      cases (show none = some _ from h)
    | succ n_8 i_9 =>
      intro x3_1 x4_2 h
      rw [L_X7_ringing_5] at h
      refine m_iload hc dX7_ringing_5 rfl ?_
      refine m_aload_n hc dX7_ringing_7 rfl ?_
      refine m_getR hc (q := 213) yO_212 rfl tbX7 0 (by decide) wf_X7_7 rfl dX7_ringing_8 ?_
      refine m_iconst hc (v := 1) dX7_ringing_11 (by decide) ?_
      refine m_iload_n hc dX7_ringing_12 rfl ?_
      refine m_iadd hc dX7_ringing_13 ?_
      obtain ⟨b_10, h⟩ := ck_o h
      refine m_iald hc yA_213 b_10 dX7_ringing_14 ?_
      refine m_icge hc (tgt := 56) dX7_ringing_15 (by decide) (fun b_11 => ?_) (fun b_11 => ?_)
      · replace h := (if_pos b_11).symm.trans h
        cases h
        exact m_fg [4] rfl J_5
      · replace h := (if_neg b_11).symm.trans h
        refine m_iload_n hc dX7_ringing_18 rfl ?_
        refine m_aload_n hc dX7_ringing_19 rfl ?_
        refine m_iload_n hc dX7_ringing_20 rfl ?_
        refine m_iload hc dX7_ringing_21 rfl ?_
        refine m_iconst hc (v := 2) dX7_ringing_23 (by decide) ?_
        obtain ⟨q_12, c_13, h⟩ := bd_o h
        refine m_callVi hc yO_212 rfl (c_X7_note (d + 2) c_13) (by omega) (by decide) wm_X7_93 wi_X7_note we_X7_note wn_X7 wc_X7_note wy_X7_note rfl (st := [.int x3_1]) rfl rfl (Nat.le_of_ble_eq_true rfl) dX7_ringing_24 ?_
        refine m_iconst hc (v := 1) dX7_ringing_27 (by decide) ?_
        obtain ⟨q_17, c_18, h⟩ := bd_o h
        have J_19 : WM G X (qQ G X (some (.int r)) M) M 48 [some (.ref (gR G 212)), some (.int x1), some (.int x2), some (.int x3_1), some (.int x4_2)] [.int q_17, .int x3_1] := by
          refine m_ior hc dX7_ringing_48 ?_
          refine m_topI (fun x3_23 e_24 => ?_)
          replace h := nm_x e_24 h
          refine m_istore_n hc (lv' := [some (.ref (gR G 212)), some (.int x1), some (.int x2), some (.int x3_23), some (.int x4_2)]) dX7_ringing_49 (Nat.le_of_ble_eq_true rfl) rfl rfl ?_
          refine m_iinc hc (v := x4_2 + 1) (lv' := [some (.ref (gR G 212)), some (.int x1), some (.int x2), some (.int x3_23), some (.int (x4_2 + 1))]) dX7_ringing_50 rfl rfl rfl rfl ?_
          refine m_goto hc (tgt := 5) dX7_ringing_53 (by decide) ?_
          exact m_fg [] rfl (i_9 _ _ h)
        replace h := c_18
        refine m_icne hc (tgt := 47) dX7_ringing_28 (by decide) (fun b_20 => ?_) (fun b_20 => ?_)
        · replace h := (if_neg b_20).symm.trans h
          refine m_iconst hc (v := 0) dX7_ringing_47 (by decide) ?_
          cases h
          exact m_fg [] rfl J_19
        · replace h := (if_pos b_20).symm.trans h
          refine m_iconst hc (v := 1) dX7_ringing_31 (by decide) ?_
          refine m_aload_n hc dX7_ringing_32 rfl ?_
          refine m_iload_n hc dX7_ringing_33 rfl ?_
          refine m_iload hc dX7_ringing_34 rfl ?_
          refine m_iload_n hc dX7_ringing_36 rfl ?_
          obtain ⟨q_21, c_22, h⟩ := bd_o h
          refine m_callVi hc yO_212 rfl (c_X7_stringOf (d + 0) c_22) (by omega) (by decide) wm_X7_121 wi_X7_stringOf we_X7_stringOf wn_X7 wc_X7_stringOf wy_X7_stringOf rfl (st := [.int (1 : Int32), .int x3_1]) rfl rfl (Nat.le_of_ble_eq_true rfl) dX7_ringing_37 ?_
          refine m_bipush hc (v := (7 : Int32)) dX7_ringing_40 (by decide) ?_
          refine m_irem hc dX7_ringing_42 (by decide) ?_
          refine m_ishl hc dX7_ringing_43 ?_
          refine m_goto hc (tgt := 48) dX7_ringing_44 (by decide) ?_
          cases h
          exact m_fg [] rfl J_19
  exact m_fg [] rfl (L_6 _ _ _ c_4)
def f_X7_moved (x0 : Int32) (x1 : Int32) (x2 : Int32) (x3 : Int32) : Option (Int32) :=
 if ((x3 >>> (x1 &&& 31)) &&& (1 : Int32)) = (1 : Int32) then (
 some (-1 : Int32))
else (
 Option.bind (f_X7_standOf x0 x1) (fun q_2 =>
 ck (ib x1 7) (
 some (x0 + ((st_ 8 x1.toNatClampNeg) * (((q_2 + x2) - (q_2 + x2) / (3 : Int32) * (3 : Int32)) - q_2))))))
set_option maxRecDepth 100000 in
set_option maxHeartbeats 4000000 in
theorem c_X7_moved {G : Gm} {l : Launch} (d : Nat) {x0 : Int32} {x1 : Int32} {x2 : Int32} {x3 : Int32} {M : Mm} {r : Int32}  (h : f_X7_moved x0 x1 x2 x3 = some r) : Cm G l (d + 1) yX7_moved cX7_moved 5 (some .int) [.int x0, .int x1, .int x2, .int x3] M (some (.int r)) M := by
  unfold f_X7_moved at h
  refine m_met (lv := [some (.int x0), some (.int x1), some (.int x2), some (.int x3), none]) (own := RX7) (by decide +kernel) rfl rfl (Nat.le_of_ble_eq_true rfl) rfl ?_
  intro X hX hc hr
  subst hX
  refine m_iload_n hc dX7_moved_0 rfl ?_
  refine m_iload_n hc dX7_moved_1 rfl ?_
  refine m_ishr hc dX7_moved_2 ?_
  refine m_iconst hc (v := 1) dX7_moved_3 (by decide) ?_
  refine m_iand hc dX7_moved_4 ?_
  refine m_iconst hc (v := 1) dX7_moved_5 (by decide) ?_
  refine m_icne hc (tgt := 11) dX7_moved_6 (by decide) (fun b_1 => ?_) (fun b_1 => ?_)
  · replace h := (if_neg b_1).symm.trans h
    refine m_iload_n hc dX7_moved_11 rfl ?_
    refine m_iload_n hc dX7_moved_12 rfl ?_
    obtain ⟨q_2, c_3, h⟩ := bd_o h
    refine m_callSi hc (c_X7_standOf (d + 0) c_3) (by omega) (by decide) wm_X7_112 wt_X7_standOf wv_X7_standOf wc_X7_standOf wz_X7_standOf rfl (st := []) rfl rfl (Nat.le_of_ble_eq_true rfl) dX7_moved_13 ?_
    refine m_istore hc (lv' := [some (.int x0), some (.int x1), some (.int x2), some (.int x3), some (.int q_2)]) dX7_moved_16 (Nat.le_of_ble_eq_true rfl) rfl rfl ?_
    refine m_iload_n hc dX7_moved_18 rfl ?_
    refine m_sget hc 8 (by decide) ws_X7_106 dX7_moved_19 ?_
    refine m_iload_n hc dX7_moved_22 rfl ?_
    obtain ⟨b_4, h⟩ := ck_o h
    refine m_sald hc 8 (by decide) rfl b_4 dX7_moved_23 ?_
    refine m_iload hc dX7_moved_24 rfl ?_
    refine m_iload_n hc dX7_moved_26 rfl ?_
    refine m_iadd hc dX7_moved_27 ?_
    refine m_iconst hc (v := 3) dX7_moved_28 (by decide) ?_
    refine m_irem hc dX7_moved_29 (by decide) ?_
    refine m_iload hc dX7_moved_30 rfl ?_
    refine m_isub hc dX7_moved_32 ?_
    refine m_imul hc dX7_moved_33 ?_
    refine m_iadd hc dX7_moved_34 ?_
    cases h
    exact m_iret hc hr dX7_moved_35
  · replace h := (if_pos b_1).symm.trans h
    refine m_iconst hc (v := (-1)) dX7_moved_9 (by decide) ?_
    cases h
    exact m_iret hc hr dX7_moved_10
def L_X7_tellNext_59 (q_1 : Int32) (x4_5 : Int32) (q_19 : Int32) : Nat → Int32 → Mm → Option (Mm)
  | 0, _, _ => none
  | n_33 + 1, x6_26, M_27 =>
    if (9 : Int32) ≤ x6_26 then (
     some M_27)
    else (
     if q_19 < 0 then (
     some M_27)
    else (
     Option.bind (
     if x6_26 = 0 then (
     some q_19)
    else (
     ck (ib ((3 : Int32) + ((x6_26 - (1 : Int32)) / (2 : Int32))) 7) (
     Option.bind (f_X7_moved q_19 (st_ 9 ((3 : Int32) + ((x6_26 - (1 : Int32)) / (2 : Int32))).toNatClampNeg) ((1 : Int32) + ((x6_26 - (1 : Int32)) - (x6_26 - (1 : Int32)) / (2 : Int32) * (2 : Int32))) q_1) (fun q_46 =>
     some q_46)))) (fun q_41 =>
     Option.bind (
     if q_41 < 0 then (
     some M_27)
    else (
     ck (ib (M_27 212 11) 63) (
     nm (mw M_27 220 (M_27 212 11).toNatClampNeg q_41) (fun M_72 =>
     nm (
     if x4_5 = 0 then (
     (0 : Int32))
    else (
     (1 : Int32))) (fun q_75 =>
     nm (
     if x6_26 = 0 then (
     (0 : Int32))
    else (
     (1 : Int32))) (fun q_80 =>
     ck (ib (M_72 212 11) 63) (
     nm (mw M_72 221 (M_72 212 11).toNatClampNeg (q_75 + q_80)) (fun M_85 =>
     nm (mw M_85 212 11 ((M_85 212 11) + (1 : Int32))) (fun M_87 =>
     some M_87))))))))) (fun q_67 =>
     L_X7_tellNext_59 q_1 x4_5 q_19 n_33 (x6_26 + 1) q_67))))
def L_X7_tellNext_15 (x2 : Int32) (q_1 : Int32) : Nat → Int32 → Mm → Option (Mm)
  | 0, _, _ => none
  | n_12 + 1, x4_5, M_6 =>
    if (7 : Int32) ≤ x4_5 then (
     some M_6)
    else (
     Option.bind (
     if x4_5 = 0 then (
     some x2)
    else (
     ck (ib ((x4_5 - (1 : Int32)) / (2 : Int32)) 7) (
     Option.bind (f_X7_moved x2 (st_ 9 ((x4_5 - (1 : Int32)) / (2 : Int32)).toNatClampNeg) ((1 : Int32) + ((x4_5 - (1 : Int32)) - (x4_5 - (1 : Int32)) / (2 : Int32) * (2 : Int32))) q_1) (fun q_24 =>
     some q_24)))) (fun q_19 =>
     Option.bind (L_X7_tellNext_59 q_1 x4_5 q_19 FU (0 : Int32) M_6) (fun q_28 =>
     L_X7_tellNext_15 x2 q_1 n_12 (x4_5 + 1) q_28)))
def f_X7_tellNext (x1 : Int32) (x2 : Int32) (M : Mm) : Option (Mm) :=
 Option.bind (f_X7_ringing x1 x2 M) (fun q_1 =>
 nm (mw M 212 11 (0 : Int32)) (fun M_3 =>
 Option.bind (L_X7_tellNext_15 x2 q_1 FU (0 : Int32) M_3) (fun q_7 =>
 some q_7)))
set_option maxRecDepth 100000 in
set_option maxHeartbeats 4000000 in
theorem c_X7_tellNext {G : Gm} {l : Launch} (d : Nat) {x1 : Int32} {x2 : Int32} {M : Mm} {r : Mm}  (h : f_X7_tellNext x1 x2 M = some r) : Cm G l (d + 4) yX7_tellNext cX7_tellNext 8 none [.ref (gR G 212), .int x1, .int x2] M none r := by
  unfold f_X7_tellNext at h
  refine m_met (lv := [some (.ref (gR G 212)), some (.int x1), some (.int x2), none, none, none, none, none]) (own := RX7) (by decide +kernel) rfl rfl (Nat.le_of_ble_eq_true rfl) rfl ?_
  intro X hX hc hr
  subst hX
  refine m_aload_n hc dX7_tellNext_0 rfl ?_
  refine m_iload_n hc dX7_tellNext_1 rfl ?_
  refine m_iload_n hc dX7_tellNext_2 rfl ?_
  obtain ⟨q_1, c_2, h⟩ := bd_o h
  refine m_callVi hc yO_212 rfl (c_X7_ringing (d + 0) c_2) (by omega) (by decide) wm_X7_127 wi_X7_ringing we_X7_ringing wn_X7 wc_X7_ringing wy_X7_ringing rfl (st := []) rfl rfl (Nat.le_of_ble_eq_true rfl) dX7_tellNext_3 ?_
  refine m_istore_n hc (lv' := [some (.ref (gR G 212)), some (.int x1), some (.int x2), some (.int q_1), none, none, none, none]) dX7_tellNext_6 (Nat.le_of_ble_eq_true rfl) rfl rfl ?_
  refine m_aload_n hc dX7_tellNext_7 rfl ?_
  refine m_iconst hc (v := 0) dX7_tellNext_8 (by decide) ?_
  refine m_putI hc yO_212 rfl tbX7 tyX7 tyX7_ok nmX7 11 (by decide) wf_X7_130 rfl rfl rfl rfl dX7_tellNext_9 ?_
  refine m_topM (fun M_3 e_4 => ?_)
  replace h := nm_x e_4 h
  refine m_iconst hc (v := 0) dX7_tellNext_12 (by decide) ?_
  refine m_istore hc (lv' := [some (.ref (gR G 212)), some (.int x1), some (.int x2), some (.int q_1), some (.int (0 : Int32)), none, none, none]) dX7_tellNext_13 (Nat.le_of_ble_eq_true rfl) rfl rfl ?_
  obtain ⟨q_7, c_8, h⟩ := bd_o h
  have J_9 : WM G X (qQ G X none r) q_7 177 [some (.ref (gR G 212)), some (.int x1), some (.int x2), some (.int q_1), none, none, none, none] [] := by
    cases h
    exact m_vret hc hr dX7_tellNext_177
  have L_10 : ∀ (n_12 : Nat) (x4_5 : Int32) (M_6 : Mm), L_X7_tellNext_15 x2 q_1 n_12 x4_5 M_6 = some q_7 → WM G X (qQ G X none r) M_6 15 [some (.ref (gR G 212)), some (.int x1), some (.int x2), some (.int q_1), some (.int x4_5), none, none, none] [] := by
    intro n_12
    induction n_12 with
    | zero =>
      intro x4_5 M_6 h
      cases (show none = some _ from h)
    | succ n_12 i_13 =>
      intro x4_5 M_6 h
      rw [L_X7_tellNext_15] at h
      refine m_iload hc dX7_tellNext_15 rfl ?_
      refine m_bipush hc (v := (7 : Int32)) dX7_tellNext_17 (by decide) ?_
      refine m_icge hc (tgt := 177) dX7_tellNext_19 (by decide) (fun b_14 => ?_) (fun b_14 => ?_)
      · replace h := (if_pos b_14).symm.trans h
        cases h
        exact m_fg [4] rfl J_9
      · replace h := (if_neg b_14).symm.trans h
        refine m_iload hc dX7_tellNext_22 rfl ?_
        obtain ⟨q_19, c_20, h⟩ := bd_o h
        have J_21 : WM G X (qQ G X none r) M_6 54 [some (.ref (gR G 212)), some (.int x1), some (.int x2), some (.int q_1), some (.int x4_5), none, none, none] [.int q_19] := by
          refine m_istore hc (lv' := [some (.ref (gR G 212)), some (.int x1), some (.int x2), some (.int q_1), some (.int x4_5), some (.int q_19), none, none]) dX7_tellNext_54 (Nat.le_of_ble_eq_true rfl) rfl rfl ?_
          refine m_iconst hc (v := 0) dX7_tellNext_56 (by decide) ?_
          refine m_istore hc (lv' := [some (.ref (gR G 212)), some (.int x1), some (.int x2), some (.int q_1), some (.int x4_5), some (.int q_19), some (.int (0 : Int32)), none]) dX7_tellNext_57 (Nat.le_of_ble_eq_true rfl) rfl rfl ?_
          obtain ⟨q_28, c_29, h⟩ := bd_o h
          have J_30 : WM G X (qQ G X none r) q_28 171 [some (.ref (gR G 212)), some (.int x1), some (.int x2), some (.int q_1), some (.int x4_5), some (.int q_19), none, none] [] := by
            refine m_iinc hc (v := x4_5 + 1) (lv' := [some (.ref (gR G 212)), some (.int x1), some (.int x2), some (.int q_1), some (.int (x4_5 + 1)), some (.int q_19), none, none]) dX7_tellNext_171 rfl rfl rfl rfl ?_
            refine m_goto hc (tgt := 15) dX7_tellNext_174 (by decide) ?_
            exact m_fg [5] rfl (i_13 _ _ h)
          have L_31 : ∀ (n_33 : Nat) (x6_26 : Int32) (M_27 : Mm), L_X7_tellNext_59 q_1 x4_5 q_19 n_33 x6_26 M_27 = some q_28 → WM G X (qQ G X none r) M_27 59 [some (.ref (gR G 212)), some (.int x1), some (.int x2), some (.int q_1), some (.int x4_5), some (.int q_19), some (.int x6_26), none] [] := by
            intro n_33
            induction n_33 with
            | zero =>
              intro x6_26 M_27 h
              cases (show none = some _ from h)
            | succ n_33 i_34 =>
              intro x6_26 M_27 h
              rw [L_X7_tellNext_59] at h
              refine m_iload hc dX7_tellNext_59 rfl ?_
              refine m_bipush hc (v := (9 : Int32)) dX7_tellNext_61 (by decide) ?_
              refine m_icge hc (tgt := 171) dX7_tellNext_63 (by decide) (fun b_35 => ?_) (fun b_35 => ?_)
              · replace h := (if_pos b_35).symm.trans h
                cases h
                exact m_fg [6] rfl J_30
              · replace h := (if_neg b_35).symm.trans h
                refine m_iload hc dX7_tellNext_66 rfl ?_
                refine m_iflt hc (tgt := 171) dX7_tellNext_68 (by decide) (fun b_36 => ?_) (fun b_36 => ?_)
                · replace h := (if_pos b_36).symm.trans h
                  cases h
                  exact m_fg [6] rfl J_30
                · replace h := (if_neg b_36).symm.trans h
                  refine m_iload hc dX7_tellNext_71 rfl ?_
                  obtain ⟨q_41, c_42, h⟩ := bd_o h
                  have J_43 : WM G X (qQ G X none r) M_27 107 [some (.ref (gR G 212)), some (.int x1), some (.int x2), some (.int q_1), some (.int x4_5), some (.int q_19), some (.int x6_26), none] [.int q_41] := by
                    refine m_istore hc (lv' := [some (.ref (gR G 212)), some (.int x1), some (.int x2), some (.int q_1), some (.int x4_5), some (.int q_19), some (.int x6_26), some (.int q_41)]) dX7_tellNext_107 (Nat.le_of_ble_eq_true rfl) rfl rfl ?_
                    refine m_iload hc dX7_tellNext_109 rfl ?_
                    obtain ⟨q_67, c_68, h⟩ := bd_o h
                    have J_69 : WM G X (qQ G X none r) q_67 165 [some (.ref (gR G 212)), some (.int x1), some (.int x2), some (.int q_1), some (.int x4_5), some (.int q_19), some (.int x6_26), some (.int q_41)] [] := by
                      refine m_iinc hc (v := x6_26 + 1) (lv' := [some (.ref (gR G 212)), some (.int x1), some (.int x2), some (.int q_1), some (.int x4_5), some (.int q_19), some (.int (x6_26 + 1)), some (.int q_41)]) dX7_tellNext_165 rfl rfl rfl rfl ?_
                      refine m_goto hc (tgt := 59) dX7_tellNext_168 (by decide) ?_
                      exact m_fg [7] rfl (i_34 _ _ h)
                    replace h := c_68
                    refine m_iflt hc (tgt := 165) dX7_tellNext_111 (by decide) (fun b_70 => ?_) (fun b_70 => ?_)
                    · replace h := (if_pos b_70).symm.trans h
                      cases h
                      exact m_fg [] rfl J_69
                    · replace h := (if_neg b_70).symm.trans h
                      refine m_aload_n hc dX7_tellNext_114 rfl ?_
                      refine m_getR hc (q := 220) yO_212 rfl tbX7 9 (by decide) wf_X7_31 rfl dX7_tellNext_115 ?_
                      refine m_aload_n hc dX7_tellNext_118 rfl ?_
                      refine m_getI hc yO_212 rfl tbX7 11 (by decide) wf_X7_130 rfl dX7_tellNext_119 ?_
                      refine m_iload hc dX7_tellNext_122 rfl ?_
                      obtain ⟨b_71, h⟩ := ck_o h
                      refine m_iast hc yA_220 b_71 dX7_tellNext_124 ?_
                      refine m_topM (fun M_72 e_73 => ?_)
                      replace h := nm_x e_73 h
                      refine m_aload_n hc dX7_tellNext_125 rfl ?_
                      refine m_getR hc (q := 221) yO_212 rfl tbX7 10 (by decide) wf_X7_34 rfl dX7_tellNext_126 ?_
                      refine m_aload_n hc dX7_tellNext_129 rfl ?_
                      refine m_getI hc yO_212 rfl tbX7 11 (by decide) wf_X7_130 rfl dX7_tellNext_130 ?_
                      refine m_iload hc dX7_tellNext_133 rfl ?_
                      obtain ⟨q_75, c_76, h⟩ := nm_o h
                      have J_77 : WM G X (qQ G X none r) M_72 143 [some (.ref (gR G 212)), some (.int x1), some (.int x2), some (.int q_1), some (.int x4_5), some (.int q_19), some (.int x6_26), some (.int q_41)] [.int q_75, .int (M_72 212 11), .ref (gR G 221)] := by
                        refine m_iload hc dX7_tellNext_143 rfl ?_
                        obtain ⟨q_80, c_81, h⟩ := nm_o h
                        have J_82 : WM G X (qQ G X none r) M_72 153 [some (.ref (gR G 212)), some (.int x1), some (.int x2), some (.int q_1), some (.int x4_5), some (.int q_19), some (.int x6_26), some (.int q_41)] [.int q_80, .int q_75, .int (M_72 212 11), .ref (gR G 221)] := by
                          refine m_iadd hc dX7_tellNext_153 ?_
                          obtain ⟨b_84, h⟩ := ck_o h
                          refine m_iast hc yA_221 b_84 dX7_tellNext_154 ?_
                          refine m_topM (fun M_85 e_86 => ?_)
                          replace h := nm_x e_86 h
                          refine m_aload_n hc dX7_tellNext_155 rfl ?_
                          refine m_dup hc dX7_tellNext_156 rfl ?_
                          refine m_getI hc yO_212 rfl tbX7 11 (by decide) wf_X7_130 rfl dX7_tellNext_157 ?_
                          refine m_iconst hc (v := 1) dX7_tellNext_160 (by decide) ?_
                          refine m_iadd hc dX7_tellNext_161 ?_
                          refine m_putI hc yO_212 rfl tbX7 tyX7 tyX7_ok nmX7 11 (by decide) wf_X7_130 rfl rfl rfl rfl dX7_tellNext_162 ?_
                          refine m_topM (fun M_87 e_88 => ?_)
                          replace h := nm_x e_88 h
                          cases h
                          exact m_fg [] rfl J_69
                        replace h := c_81
                        refine m_ifne hc (tgt := 152) dX7_tellNext_145 (by decide) (fun b_83 => ?_) (fun b_83 => ?_)
                        · replace h := (if_neg b_83).symm.trans h
                          refine m_iconst hc (v := 1) dX7_tellNext_152 (by decide) ?_
                          subst h
                          exact m_fg [] rfl J_82
                        · replace h := (if_pos b_83).symm.trans h
                          refine m_iconst hc (v := 0) dX7_tellNext_148 (by decide) ?_
                          refine m_goto hc (tgt := 153) dX7_tellNext_149 (by decide) ?_
                          subst h
                          exact m_fg [] rfl J_82
                      replace h := c_76
                      refine m_ifne hc (tgt := 142) dX7_tellNext_135 (by decide) (fun b_78 => ?_) (fun b_78 => ?_)
                      · replace h := (if_neg b_78).symm.trans h
                        refine m_iconst hc (v := 1) dX7_tellNext_142 (by decide) ?_
                        subst h
                        exact m_fg [] rfl J_77
                      · replace h := (if_pos b_78).symm.trans h
                        refine m_iconst hc (v := 0) dX7_tellNext_138 (by decide) ?_
                        refine m_goto hc (tgt := 143) dX7_tellNext_139 (by decide) ?_
                        subst h
                        exact m_fg [] rfl J_77
                  replace h := c_42
                  refine m_ifne hc (tgt := 81) dX7_tellNext_73 (by decide) (fun b_44 => ?_) (fun b_44 => ?_)
                  · replace h := (if_neg b_44).symm.trans h
                    refine m_iload hc dX7_tellNext_81 rfl ?_
                    refine m_sget hc 9 (by decide) ws_X7_133 dX7_tellNext_83 ?_
                    refine m_iconst hc (v := 3) dX7_tellNext_86 (by decide) ?_
                    refine m_iload hc dX7_tellNext_87 rfl ?_
                    refine m_iconst hc (v := 1) dX7_tellNext_89 (by decide) ?_
                    refine m_isub hc dX7_tellNext_90 ?_
                    refine m_iconst hc (v := 2) dX7_tellNext_91 (by decide) ?_
                    refine m_idiv hc dX7_tellNext_92 (by decide) ?_
                    refine m_iadd hc dX7_tellNext_93 ?_
                    obtain ⟨b_45, h⟩ := ck_o h
                    refine m_sald hc 9 (by decide) rfl b_45 dX7_tellNext_94 ?_
                    refine m_iconst hc (v := 1) dX7_tellNext_95 (by decide) ?_
                    refine m_iload hc dX7_tellNext_96 rfl ?_
                    refine m_iconst hc (v := 1) dX7_tellNext_98 (by decide) ?_
                    refine m_isub hc dX7_tellNext_99 ?_
                    refine m_iconst hc (v := 2) dX7_tellNext_100 (by decide) ?_
                    refine m_irem hc dX7_tellNext_101 (by decide) ?_
                    refine m_iadd hc dX7_tellNext_102 ?_
                    refine m_iload_n hc dX7_tellNext_103 rfl ?_
                    obtain ⟨q_46, c_47, h⟩ := bd_o h
                    refine m_callSi hc (c_X7_moved (d + 2) c_47) (by omega) (by decide) wm_X7_136 wt_X7_moved wv_X7_moved wc_X7_moved wz_X7_moved rfl (st := []) rfl rfl (Nat.le_of_ble_eq_true rfl) dX7_tellNext_104 ?_
                    cases h
                    exact m_fg [] rfl J_43
                  · replace h := (if_pos b_44).symm.trans h
                    refine m_iload hc dX7_tellNext_76 rfl ?_
                    refine m_goto hc (tgt := 107) dX7_tellNext_78 (by decide) ?_
                    cases h
                    exact m_fg [] rfl J_43
          exact m_fg [] rfl (L_31 _ _ _ c_29)
        replace h := c_20
        refine m_ifne hc (tgt := 31) dX7_tellNext_24 (by decide) (fun b_22 => ?_) (fun b_22 => ?_)
        · replace h := (if_neg b_22).symm.trans h
          refine m_iload_n hc dX7_tellNext_31 rfl ?_
          refine m_sget hc 9 (by decide) ws_X7_133 dX7_tellNext_32 ?_
          refine m_iload hc dX7_tellNext_35 rfl ?_
          refine m_iconst hc (v := 1) dX7_tellNext_37 (by decide) ?_
          refine m_isub hc dX7_tellNext_38 ?_
          refine m_iconst hc (v := 2) dX7_tellNext_39 (by decide) ?_
          refine m_idiv hc dX7_tellNext_40 (by decide) ?_
          obtain ⟨b_23, h⟩ := ck_o h
          refine m_sald hc 9 (by decide) rfl b_23 dX7_tellNext_41 ?_
          refine m_iconst hc (v := 1) dX7_tellNext_42 (by decide) ?_
          refine m_iload hc dX7_tellNext_43 rfl ?_
          refine m_iconst hc (v := 1) dX7_tellNext_45 (by decide) ?_
          refine m_isub hc dX7_tellNext_46 ?_
          refine m_iconst hc (v := 2) dX7_tellNext_47 (by decide) ?_
          refine m_irem hc dX7_tellNext_48 (by decide) ?_
          refine m_iadd hc dX7_tellNext_49 ?_
          refine m_iload_n hc dX7_tellNext_50 rfl ?_
          obtain ⟨q_24, c_25, h⟩ := bd_o h
          refine m_callSi hc (c_X7_moved (d + 2) c_25) (by omega) (by decide) wm_X7_136 wt_X7_moved wv_X7_moved wc_X7_moved wz_X7_moved rfl (st := []) rfl rfl (Nat.le_of_ble_eq_true rfl) dX7_tellNext_51 ?_
          cases h
          exact m_fg [] rfl J_21
        · replace h := (if_pos b_22).symm.trans h
          refine m_iload_n hc dX7_tellNext_27 rfl ?_
          refine m_goto hc (tgt := 54) dX7_tellNext_28 (by decide) ?_
          cases h
          exact m_fg [] rfl J_21
  exact m_fg [] rfl (L_10 _ _ _ c_8)
def L_X7_ahead_7 (x1 : Int32) (M : Mm) : Nat → Int32 → Int32 → Int32 → Option (Int32 × Int32)
  | 0, _, _, _ => none
  | n_9 + 1, x2_1, x3_2, x4_3 =>
    if (7 : Int32) ≤ x4_3 then (
     some (x2_1, x3_2))
    else (
     ck (ib ((313 : Int32) + x4_3) 320) (
     Option.bind (
     if (M 213 ((313 : Int32) + x4_3).toNatClampNeg) < 0 then (
     some (0 : Int32))
    else (
     ck (ib ((313 : Int32) + x4_3) 320) (
     Option.bind (f_X7_standOf x1 x4_3) (fun q_23 =>
     if (M 213 ((313 : Int32) + x4_3).toNatClampNeg) = q_23 then (
     some (0 : Int32))
    else (
     some (1 : Int32)))))) (fun q_18 =>
     nm (
     if x4_3 = (6 : Int32) then (
     q_18)
    else (
     if (2 : Int32) ≤ x4_3 then (
     (0 : Int32))
    else (
     q_18))) (fun q_28 =>
     nm ((x2_1 + q_28)) (fun x2_33 =>
     nm (
     if (6 : Int32) ≤ x4_3 then (
     (0 : Int32))
    else (
     if x4_3 ≤ (1 : Int32) then (
     (0 : Int32))
    else (
     q_18))) (fun q_37 =>
     nm ((x3_2 + q_37)) (fun x3_42 =>
     L_X7_ahead_7 x1 M n_9 x2_33 x3_42 (x4_3 + 1))))))))
def f_X7_ahead (x1 : Int32) (M : Mm) : Option (Int32) :=
 Option.bind (L_X7_ahead_7 x1 M FU (0 : Int32) (0 : Int32) (0 : Int32)) (fun q_4 =>
 if (1 : Int32) < q_4.1 then (
 some (100000 : Int32))
else (
 if q_4.2 ≤ (1 : Int32) then (
 some (q_4.1 + q_4.2))
else (
 some (100000 : Int32))))
set_option maxRecDepth 100000 in
set_option maxHeartbeats 4000000 in
theorem c_X7_ahead {G : Gm} {l : Launch} (d : Nat) {x1 : Int32} {M : Mm} {r : Int32}  (h : f_X7_ahead x1 M = some r) : Cm G l (d + 1) yX7_ahead cX7_ahead 6 (some .int) [.ref (gR G 212), .int x1] M (some (.int r)) M := by
  unfold f_X7_ahead at h
  refine m_met (lv := [some (.ref (gR G 212)), some (.int x1), none, none, none, none]) (own := RX7) (by decide +kernel) rfl rfl (Nat.le_of_ble_eq_true rfl) rfl ?_
  intro X hX hc hr
  subst hX
  refine m_iconst hc (v := 0) dX7_ahead_0 (by decide) ?_
  refine m_istore_n hc (lv' := [some (.ref (gR G 212)), some (.int x1), some (.int (0 : Int32)), none, none, none]) dX7_ahead_1 (Nat.le_of_ble_eq_true rfl) rfl rfl ?_
  refine m_iconst hc (v := 0) dX7_ahead_2 (by decide) ?_
  refine m_istore_n hc (lv' := [some (.ref (gR G 212)), some (.int x1), some (.int (0 : Int32)), some (.int (0 : Int32)), none, none]) dX7_ahead_3 (Nat.le_of_ble_eq_true rfl) rfl rfl ?_
  refine m_iconst hc (v := 0) dX7_ahead_4 (by decide) ?_
  refine m_istore hc (lv' := [some (.ref (gR G 212)), some (.int x1), some (.int (0 : Int32)), some (.int (0 : Int32)), some (.int (0 : Int32)), none]) dX7_ahead_5 (Nat.le_of_ble_eq_true rfl) rfl rfl ?_
  obtain ⟨q_4, c_5, h⟩ := bd_o h
  have J_6 : WM G X (qQ G X (some (.int r)) M) M 105 [some (.ref (gR G 212)), some (.int x1), some (.int q_4.1), some (.int q_4.2), none, none] [] := by
    refine m_iload_n hc dX7_ahead_105 rfl ?_
    refine m_iconst hc (v := 1) dX7_ahead_106 (by decide) ?_
    refine m_icgt hc (tgt := 115) dX7_ahead_107 (by decide) (fun b_44 => ?_) (fun b_44 => ?_)
    · replace h := (if_pos b_44).symm.trans h
      refine m_ldc hc dX7_ahead_115 wk_X7_140 ?_
      refine m_goto hc (tgt := 123) dX7_ahead_117 (by decide) ?_
      cases h
      exact m_iret hc hr dX7_ahead_123
    · replace h := (if_neg b_44).symm.trans h
      refine m_iload_n hc dX7_ahead_110 rfl ?_
      refine m_iconst hc (v := 1) dX7_ahead_111 (by decide) ?_
      refine m_icle hc (tgt := 120) dX7_ahead_112 (by decide) (fun b_45 => ?_) (fun b_45 => ?_)
      · replace h := (if_pos b_45).symm.trans h
        refine m_iload_n hc dX7_ahead_120 rfl ?_
        refine m_iload_n hc dX7_ahead_121 rfl ?_
        refine m_iadd hc dX7_ahead_122 ?_
        cases h
        exact m_iret hc hr dX7_ahead_123
      · replace h := (if_neg b_45).symm.trans h
        refine m_ldc hc dX7_ahead_115 wk_X7_140 ?_
        refine m_goto hc (tgt := 123) dX7_ahead_117 (by decide) ?_
        cases h
        exact m_iret hc hr dX7_ahead_123
  have L_7 : ∀ (n_9 : Nat) (x2_1 : Int32) (x3_2 : Int32) (x4_3 : Int32), L_X7_ahead_7 x1 M n_9 x2_1 x3_2 x4_3 = some q_4 → WM G X (qQ G X (some (.int r)) M) M 7 [some (.ref (gR G 212)), some (.int x1), some (.int x2_1), some (.int x3_2), some (.int x4_3), none] [] := by
    intro n_9
    induction n_9 with
    | zero =>
      intro x2_1 x3_2 x4_3 h
      cases (show none = some _ from h)
    | succ n_9 i_10 =>
      intro x2_1 x3_2 x4_3 h
      rw [L_X7_ahead_7] at h
      refine m_iload hc dX7_ahead_7 rfl ?_
      refine m_bipush hc (v := (7 : Int32)) dX7_ahead_9 (by decide) ?_
      refine m_icge hc (tgt := 105) dX7_ahead_11 (by decide) (fun b_11 => ?_) (fun b_11 => ?_)
      · replace h := (if_pos b_11).symm.trans h
        cases h
        exact m_fg [4] rfl J_6
      · replace h := (if_neg b_11).symm.trans h
        refine m_aload_n hc dX7_ahead_14 rfl ?_
        refine m_getR hc (q := 213) yO_212 rfl tbX7 0 (by decide) wf_X7_7 rfl dX7_ahead_15 ?_
        refine m_sipush hc (v := (313 : Int32)) dX7_ahead_18 (by decide) ?_
        refine m_iload hc dX7_ahead_21 rfl ?_
        refine m_iadd hc dX7_ahead_23 ?_
        obtain ⟨b_12, h⟩ := ck_o h
        refine m_iald hc yA_213 b_12 dX7_ahead_24 ?_
        obtain ⟨q_18, c_19, h⟩ := bd_o h
        have J_20 : WM G X (qQ G X (some (.int r)) M) M 53 [some (.ref (gR G 212)), some (.int x1), some (.int x2_1), some (.int x3_2), some (.int x4_3), none] [.int q_18] := by
          refine m_istore hc (lv' := [some (.ref (gR G 212)), some (.int x1), some (.int x2_1), some (.int x3_2), some (.int x4_3), some (.int q_18)]) dX7_ahead_53 (Nat.le_of_ble_eq_true rfl) rfl rfl ?_
          refine m_iload_n hc dX7_ahead_55 rfl ?_
          refine m_iload hc dX7_ahead_56 rfl ?_
          refine m_bipush hc (v := (6 : Int32)) dX7_ahead_58 (by decide) ?_
          obtain ⟨q_28, c_29, h⟩ := nm_o h
          have J_30 : WM G X (qQ G X (some (.int r)) M) M 75 [some (.ref (gR G 212)), some (.int x1), some (.int x2_1), some (.int x3_2), some (.int x4_3), some (.int q_18)] [.int q_28, .int x2_1] := by
            refine m_iadd hc dX7_ahead_75 ?_
            refine m_topI (fun x2_33 e_34 => ?_)
            replace h := nm_x e_34 h
            refine m_istore_n hc (lv' := [some (.ref (gR G 212)), some (.int x1), some (.int x2_33), some (.int x3_2), some (.int x4_3), some (.int q_18)]) dX7_ahead_76 (Nat.le_of_ble_eq_true rfl) rfl rfl ?_
            refine m_iload_n hc dX7_ahead_77 rfl ?_
            refine m_iload hc dX7_ahead_78 rfl ?_
            refine m_bipush hc (v := (6 : Int32)) dX7_ahead_80 (by decide) ?_
            obtain ⟨q_37, c_38, h⟩ := nm_o h
            have J_39 : WM G X (qQ G X (some (.int r)) M) M 97 [some (.ref (gR G 212)), some (.int x1), some (.int x2_33), some (.int x3_2), some (.int x4_3), some (.int q_18)] [.int q_37, .int x3_2] := by
              refine m_iadd hc dX7_ahead_97 ?_
              refine m_topI (fun x3_42 e_43 => ?_)
              replace h := nm_x e_43 h
              refine m_istore_n hc (lv' := [some (.ref (gR G 212)), some (.int x1), some (.int x2_33), some (.int x3_42), some (.int x4_3), some (.int q_18)]) dX7_ahead_98 (Nat.le_of_ble_eq_true rfl) rfl rfl ?_
              refine m_iinc hc (v := x4_3 + 1) (lv' := [some (.ref (gR G 212)), some (.int x1), some (.int x2_33), some (.int x3_42), some (.int (x4_3 + 1)), some (.int q_18)]) dX7_ahead_99 rfl rfl rfl rfl ?_
              refine m_goto hc (tgt := 7) dX7_ahead_102 (by decide) ?_
              exact m_fg [5] rfl (i_10 _ _ _ h)
            replace h := c_38
            refine m_icge hc (tgt := 96) dX7_ahead_82 (by decide) (fun b_40 => ?_) (fun b_40 => ?_)
            · replace h := (if_pos b_40).symm.trans h
              refine m_iconst hc (v := 0) dX7_ahead_96 (by decide) ?_
              subst h
              exact m_fg [] rfl J_39
            · replace h := (if_neg b_40).symm.trans h
              refine m_iload hc dX7_ahead_85 rfl ?_
              refine m_iconst hc (v := 1) dX7_ahead_87 (by decide) ?_
              refine m_icle hc (tgt := 96) dX7_ahead_88 (by decide) (fun b_41 => ?_) (fun b_41 => ?_)
              · replace h := (if_pos b_41).symm.trans h
                refine m_iconst hc (v := 0) dX7_ahead_96 (by decide) ?_
                subst h
                exact m_fg [] rfl J_39
              · replace h := (if_neg b_41).symm.trans h
                refine m_iload hc dX7_ahead_91 rfl ?_
                refine m_goto hc (tgt := 97) dX7_ahead_93 (by decide) ?_
                subst h
                exact m_fg [] rfl J_39
          replace h := c_29
          refine m_iceq hc (tgt := 69) dX7_ahead_60 (by decide) (fun b_31 => ?_) (fun b_31 => ?_)
          · replace h := (if_pos b_31).symm.trans h
            refine m_iload hc dX7_ahead_69 rfl ?_
            refine m_goto hc (tgt := 75) dX7_ahead_71 (by decide) ?_
            subst h
            exact m_fg [] rfl J_30
          · replace h := (if_neg b_31).symm.trans h
            refine m_iload hc dX7_ahead_63 rfl ?_
            refine m_iconst hc (v := 2) dX7_ahead_65 (by decide) ?_
            refine m_icge hc (tgt := 74) dX7_ahead_66 (by decide) (fun b_32 => ?_) (fun b_32 => ?_)
            · replace h := (if_pos b_32).symm.trans h
              refine m_iconst hc (v := 0) dX7_ahead_74 (by decide) ?_
              subst h
              exact m_fg [] rfl J_30
            · replace h := (if_neg b_32).symm.trans h
              refine m_iload hc dX7_ahead_69 rfl ?_
              refine m_goto hc (tgt := 75) dX7_ahead_71 (by decide) ?_
              subst h
              exact m_fg [] rfl J_30
        replace h := c_19
        refine m_iflt hc (tgt := 52) dX7_ahead_25 (by decide) (fun b_21 => ?_) (fun b_21 => ?_)
        · replace h := (if_pos b_21).symm.trans h
          refine m_iconst hc (v := 0) dX7_ahead_52 (by decide) ?_
          cases h
          exact m_fg [] rfl J_20
        · replace h := (if_neg b_21).symm.trans h
          refine m_aload_n hc dX7_ahead_28 rfl ?_
          refine m_getR hc (q := 213) yO_212 rfl tbX7 0 (by decide) wf_X7_7 rfl dX7_ahead_29 ?_
          refine m_sipush hc (v := (313 : Int32)) dX7_ahead_32 (by decide) ?_
          refine m_iload hc dX7_ahead_35 rfl ?_
          refine m_iadd hc dX7_ahead_37 ?_
          obtain ⟨b_22, h⟩ := ck_o h
          refine m_iald hc yA_213 b_22 dX7_ahead_38 ?_
          refine m_iload_n hc dX7_ahead_39 rfl ?_
          refine m_iload hc dX7_ahead_40 rfl ?_
          obtain ⟨q_23, c_24, h⟩ := bd_o h
          refine m_callSi hc (c_X7_standOf (d + 0) c_24) (by omega) (by decide) wm_X7_112 wt_X7_standOf wv_X7_standOf wc_X7_standOf wz_X7_standOf rfl (st := [.int (M 213 ((313 : Int32) + x4_3).toNatClampNeg)]) rfl rfl (Nat.le_of_ble_eq_true rfl) dX7_ahead_42 ?_
          refine m_iceq hc (tgt := 52) dX7_ahead_45 (by decide) (fun b_25 => ?_) (fun b_25 => ?_)
          · replace h := (if_pos b_25).symm.trans h
            refine m_iconst hc (v := 0) dX7_ahead_52 (by decide) ?_
            cases h
            exact m_fg [] rfl J_20
          · replace h := (if_neg b_25).symm.trans h
            refine m_iconst hc (v := 1) dX7_ahead_48 (by decide) ?_
            refine m_goto hc (tgt := 53) dX7_ahead_49 (by decide) ?_
            cases h
            exact m_fg [] rfl J_20
  exact m_fg [] rfl (L_7 _ _ _ _ c_5)
def L_X7_tell_79 (x2_4 : Int32) (q_84 : Mm) : Nat → Int32 → Int32 → Int32 → Option (Int32 × Int32)
  | 0, _, _, _ => none
  | n_94 + 1, x4_86, x5_87, x6_88 =>
    if (q_84 212 11) ≤ x6_88 then (
     some (x4_86, x5_87))
    else (
     ck (ib x6_88 63) (
     nm ((((2187 : Int32) * (x2_4 + (1 : Int32))) + (q_84 220 x6_88.toNatClampNeg))) (fun x7_98 =>
     ck (ib x6_88 63) (
     ck (ib x7_98 26244) (
     nm (((q_84 221 x6_88.toNatClampNeg) + (q_84 218 x7_98.toNatClampNeg))) (fun x8_102 =>
     nm (
     if x4_86 ≤ x8_102 then (
     (x4_86, x5_87))
    else (
     (x8_102, (0 : Int32)))) (fun q_105 =>
     Option.bind (
     if x8_102 = q_105.1 then (
     if (100000 : Int32) ≤ x8_102 then (
     some (0 : Int32))
    else (
     ck (ib x7_98 26244) (
     some (q_84 219 x7_98.toNatClampNeg))))
    else (
     some (0 : Int32))) (fun q_112 =>
     nm ((q_105.2 + q_112)) (fun x5_118 =>
     nm (
     if x5_118 ≤ (1000000 : Int32) then (
     x5_118)
    else (
     (1000000 : Int32))) (fun q_121 =>
     L_X7_tell_79 x2_4 q_84 n_94 q_105.1 q_121 (x6_88 + 1)))))))))))
def L_X7_tell_17 (x1_2 : Int32) (x2_4 : Int32) : Nat → Int32 → Mm → Option (Mm)
  | 0, _, _ => none
  | n_21 + 1, x3_14, M_15 =>
    if (2187 : Int32) ≤ x3_14 then (
     some M_15)
    else (
     Option.bind (f_X7_doesFor x2_4 x3_14 M_15) (fun q_24 =>
     nm (
     if q_24 = 0 then (
     (100001 : Int32))
    else (
     if x2_4 = x1_2 then (
     (0 : Int32))
    else (
     (100000 : Int32)))) (fun q_28 =>
     nm (
     if q_28 = 0 then (
     (1 : Int32))
    else (
     (0 : Int32))) (fun q_34 =>
     Option.bind (
     if q_28 = (100000 : Int32) then (
     Option.bind (f_X7_tellNext x2_4 x3_14 M_15) (fun q_84 =>
     Option.bind (L_X7_tell_79 x2_4 q_84 FU q_28 q_34 (0 : Int32)) (fun q_89 =>
     some (q_89.1, q_89.2, q_84))))
    else (
     some (q_28, q_34, M_15))) (fun q_80 =>
     nm (
     if q_80.1 ≤ (100000 : Int32) then (
     q_80.1)
    else (
     (100000 : Int32))) (fun q_126 =>
     ck (ib (((2187 : Int32) * x2_4) + x3_14) 26244) (
     nm (mw q_80.2.2 218 (((2187 : Int32) * x2_4) + x3_14).toNatClampNeg q_126) (fun M_131 =>
     ck (ib (((2187 : Int32) * x2_4) + x3_14) 26244) (
     nm (mw M_131 219 (((2187 : Int32) * x2_4) + x3_14).toNatClampNeg q_80.2.1) (fun M_134 =>
     L_X7_tell_17 x1_2 x2_4 n_21 (x3_14 + 1) M_134))))))))))
def L_X7_tell_11 (x1_2 : Int32) : Nat → Int32 → Mm → Option (Mm)
  | 0, _, _ => none
  | n_11 + 1, x2_4, M_5 =>
    if x2_4 < 0 then (
     some M_5)
    else (
     Option.bind (L_X7_tell_17 x1_2 x2_4 FU (0 : Int32) M_5) (fun q_16 =>
     L_X7_tell_11 x1_2 n_11 (x2_4 + (-1)) q_16))
def L_X7_tell_245 (q_6 : Mm) : Nat → Int32 → Int32 → Option (Int32)
  | 0, _, _ => none
  | n_143 + 1, x2_136, x3_137 =>
    if (2187 : Int32) ≤ x3_137 then (
     some x2_136)
    else (
     Option.bind (f_X7_ahead x3_137 q_6) (fun q_146 =>
     ck (ib x3_137 26244) (
     nm ((q_146 + (q_6 218 x3_137.toNatClampNeg))) (fun x4_149 =>
     nm (
     if x2_136 ≤ x4_149 then (
     x2_136)
    else (
     x4_149)) (fun q_152 =>
     L_X7_tell_245 q_6 n_143 q_152 (x3_137 + 1))))))
def f_X7_tell (M : Mm) : Option (Int32 × Mm) :=
 ck (ib (0 : Int32) 320) (
 nm (((M 213 (0 : Int32).toNatClampNeg) - (1 : Int32))) (fun x1_2 =>
 Option.bind (L_X7_tell_11 x1_2 FU x1_2 M) (fun q_6 =>
 Option.bind (L_X7_tell_245 q_6 FU (100000 : Int32) (0 : Int32)) (fun q_138 =>
 some (q_138, q_6)))))
set_option maxRecDepth 100000 in
set_option maxHeartbeats 4000000 in
theorem c_X7_tell {G : Gm} {l : Launch} (d : Nat) {M : Mm} {r : Int32 × Mm}  (h : f_X7_tell M = some r) : Cm G l (d + 5) yX7_tell cX7_tell 9 (some .int) [.ref (gR G 212)] M (some (.int r.1)) r.2 := by
  unfold f_X7_tell at h
  refine m_met (lv := [some (.ref (gR G 212)), none, none, none, none, none, none, none, none]) (own := RX7) (by decide +kernel) rfl rfl (Nat.le_of_ble_eq_true rfl) rfl ?_
  intro X hX hc hr
  subst hX
  refine m_aload_n hc dX7_tell_0 rfl ?_
  refine m_getR hc (q := 213) yO_212 rfl tbX7 0 (by decide) wf_X7_7 rfl dX7_tell_1 ?_
  refine m_iconst hc (v := 0) dX7_tell_4 (by decide) ?_
  obtain ⟨b_1, h⟩ := ck_o h
  refine m_iald hc yA_213 b_1 dX7_tell_5 ?_
  refine m_iconst hc (v := 1) dX7_tell_6 (by decide) ?_
  refine m_isub hc dX7_tell_7 ?_
  refine m_topI (fun x1_2 e_3 => ?_)
  replace h := nm_x e_3 h
  refine m_istore_n hc (lv' := [some (.ref (gR G 212)), some (.int x1_2), none, none, none, none, none, none, none]) dX7_tell_8 (Nat.le_of_ble_eq_true rfl) rfl rfl ?_
  refine m_iload_n hc dX7_tell_9 rfl ?_
  refine m_istore_n hc (lv' := [some (.ref (gR G 212)), some (.int x1_2), some (.int x1_2), none, none, none, none, none, none]) dX7_tell_10 (Nat.le_of_ble_eq_true rfl) rfl rfl ?_
  obtain ⟨q_6, c_7, h⟩ := bd_o h
  have J_8 : WM G X (qQ G X (some (.int r.1)) r.2) q_6 240 [some (.ref (gR G 212)), some (.int x1_2), none, none, none, none, none, none, none] [] := by
    refine m_ldc hc dX7_tell_240 wk_X7_140 ?_
    refine m_istore_n hc (lv' := [some (.ref (gR G 212)), some (.int x1_2), some (.int (100000 : Int32)), none, none, none, none, none, none]) dX7_tell_242 (Nat.le_of_ble_eq_true rfl) rfl rfl ?_
    refine m_iconst hc (v := 0) dX7_tell_243 (by decide) ?_
    refine m_istore_n hc (lv' := [some (.ref (gR G 212)), some (.int x1_2), some (.int (100000 : Int32)), some (.int (0 : Int32)), none, none, none, none, none]) dX7_tell_244 (Nat.le_of_ble_eq_true rfl) rfl rfl ?_
    obtain ⟨q_138, c_139, h⟩ := bd_o h
    have J_140 : WM G X (qQ G X (some (.int r.1)) r.2) q_6 285 [some (.ref (gR G 212)), some (.int x1_2), some (.int q_138), none, none, none, none, none, none] [] := by
      refine m_iload_n hc dX7_tell_285 rfl ?_
      cases h
      exact m_iret hc hr dX7_tell_286
    have L_141 : ∀ (n_143 : Nat) (x2_136 : Int32) (x3_137 : Int32), L_X7_tell_245 q_6 n_143 x2_136 x3_137 = some q_138 → WM G X (qQ G X (some (.int r.1)) r.2) q_6 245 [some (.ref (gR G 212)), some (.int x1_2), some (.int x2_136), some (.int x3_137), none, none, none, none, none] [] := by
      intro n_143
      induction n_143 with
      | zero =>
        intro x2_136 x3_137 h
        cases (show none = some _ from h)
      | succ n_143 i_144 =>
        intro x2_136 x3_137 h
        rw [L_X7_tell_245] at h
        refine m_iload_n hc dX7_tell_245 rfl ?_
        refine m_sipush hc (v := (2187 : Int32)) dX7_tell_246 (by decide) ?_
        refine m_icge hc (tgt := 285) dX7_tell_249 (by decide) (fun b_145 => ?_) (fun b_145 => ?_)
        · replace h := (if_pos b_145).symm.trans h
          cases h
          exact m_fg [3] rfl J_140
        · replace h := (if_neg b_145).symm.trans h
          refine m_aload_n hc dX7_tell_252 rfl ?_
          refine m_iload_n hc dX7_tell_253 rfl ?_
          obtain ⟨q_146, c_147, h⟩ := bd_o h
          refine m_callVi hc yO_212 rfl (c_X7_ahead (d + 3) c_147) (by omega) (by decide) wm_X7_147 wi_X7_ahead we_X7_ahead wn_X7 wc_X7_ahead wy_X7_ahead rfl (st := []) rfl rfl (Nat.le_of_ble_eq_true rfl) dX7_tell_254 ?_
          refine m_aload_n hc dX7_tell_257 rfl ?_
          refine m_getR hc (q := 218) yO_212 rfl tbX7 7 (by decide) wf_X7_25 rfl dX7_tell_258 ?_
          refine m_iload_n hc dX7_tell_261 rfl ?_
          obtain ⟨b_148, h⟩ := ck_o h
          refine m_iald hc yA_218 b_148 dX7_tell_262 ?_
          refine m_iadd hc dX7_tell_263 ?_
          refine m_topI (fun x4_149 e_150 => ?_)
          replace h := nm_x e_150 h
          refine m_istore hc (lv' := [some (.ref (gR G 212)), some (.int x1_2), some (.int x2_136), some (.int x3_137), some (.int x4_149), none, none, none, none]) dX7_tell_264 (Nat.le_of_ble_eq_true rfl) rfl rfl ?_
          refine m_iload hc dX7_tell_266 rfl ?_
          refine m_iload_n hc dX7_tell_268 rfl ?_
          obtain ⟨q_152, c_153, h⟩ := nm_o h
          have J_154 : WM G X (qQ G X (some (.int r.1)) r.2) q_6 278 [some (.ref (gR G 212)), some (.int x1_2), some (.int x2_136), some (.int x3_137), some (.int x4_149), none, none, none, none] [.int q_152] := by
            refine m_istore_n hc (lv' := [some (.ref (gR G 212)), some (.int x1_2), some (.int q_152), some (.int x3_137), some (.int x4_149), none, none, none, none]) dX7_tell_278 (Nat.le_of_ble_eq_true rfl) rfl rfl ?_
            refine m_iinc hc (v := x3_137 + 1) (lv' := [some (.ref (gR G 212)), some (.int x1_2), some (.int q_152), some (.int (x3_137 + 1)), some (.int x4_149), none, none, none, none]) dX7_tell_279 rfl rfl rfl rfl ?_
            refine m_goto hc (tgt := 245) dX7_tell_282 (by decide) ?_
            exact m_fg [4] rfl (i_144 _ _ h)
          replace h := c_153
          refine m_icge hc (tgt := 277) dX7_tell_269 (by decide) (fun b_155 => ?_) (fun b_155 => ?_)
          · replace h := (if_pos b_155).symm.trans h
            refine m_iload_n hc dX7_tell_277 rfl ?_
            subst h
            exact m_fg [] rfl J_154
          · replace h := (if_neg b_155).symm.trans h
            refine m_iload hc dX7_tell_272 rfl ?_
            refine m_goto hc (tgt := 278) dX7_tell_274 (by decide) ?_
            subst h
            exact m_fg [] rfl J_154
    exact m_fg [] rfl (L_141 _ _ _ c_139)
  have L_9 : ∀ (n_11 : Nat) (x2_4 : Int32) (M_5 : Mm), L_X7_tell_11 x1_2 n_11 x2_4 M_5 = some q_6 → WM G X (qQ G X (some (.int r.1)) r.2) M_5 11 [some (.ref (gR G 212)), some (.int x1_2), some (.int x2_4), none, none, none, none, none, none] [] := by
    intro n_11
    induction n_11 with
    | zero =>
      intro x2_4 M_5 h
      cases (show none = some _ from h)
    | succ n_11 i_12 =>
      intro x2_4 M_5 h
      rw [L_X7_tell_11] at h
      refine m_iload_n hc dX7_tell_11 rfl ?_
      refine m_iflt hc (tgt := 240) dX7_tell_12 (by decide) (fun b_13 => ?_) (fun b_13 => ?_)
      · replace h := (if_pos b_13).symm.trans h
        cases h
        exact m_fg [2] rfl J_8
      · replace h := (if_neg b_13).symm.trans h
        refine m_iconst hc (v := 0) dX7_tell_15 (by decide) ?_
        refine m_istore_n hc (lv' := [some (.ref (gR G 212)), some (.int x1_2), some (.int x2_4), some (.int (0 : Int32)), none, none, none, none, none]) dX7_tell_16 (Nat.le_of_ble_eq_true rfl) rfl rfl ?_
        obtain ⟨q_16, c_17, h⟩ := bd_o h
        have J_18 : WM G X (qQ G X (some (.int r.1)) r.2) q_16 234 [some (.ref (gR G 212)), some (.int x1_2), some (.int x2_4), none, none, none, none, none, none] [] := by
          refine m_iinc hc (v := x2_4 + (-1)) (lv' := [some (.ref (gR G 212)), some (.int x1_2), some (.int (x2_4 + (-1))), none, none, none, none, none, none]) dX7_tell_234 rfl rfl rfl rfl ?_
          refine m_goto hc (tgt := 11) dX7_tell_237 (by decide) ?_
          exact m_fg [] rfl (i_12 _ _ h)
        have L_19 : ∀ (n_21 : Nat) (x3_14 : Int32) (M_15 : Mm), L_X7_tell_17 x1_2 x2_4 n_21 x3_14 M_15 = some q_16 → WM G X (qQ G X (some (.int r.1)) r.2) M_15 17 [some (.ref (gR G 212)), some (.int x1_2), some (.int x2_4), some (.int x3_14), none, none, none, none, none] [] := by
          intro n_21
          induction n_21 with
          | zero =>
            intro x3_14 M_15 h
            cases (show none = some _ from h)
          | succ n_21 i_22 =>
            intro x3_14 M_15 h
            rw [L_X7_tell_17] at h
            refine m_iload_n hc dX7_tell_17 rfl ?_
            refine m_sipush hc (v := (2187 : Int32)) dX7_tell_18 (by decide) ?_
            refine m_icge hc (tgt := 234) dX7_tell_21 (by decide) (fun b_23 => ?_) (fun b_23 => ?_)
            · replace h := (if_pos b_23).symm.trans h
              cases h
              exact m_fg [3] rfl J_18
            · replace h := (if_neg b_23).symm.trans h
              refine m_aload_n hc dX7_tell_24 rfl ?_
              refine m_iload_n hc dX7_tell_25 rfl ?_
              refine m_iload_n hc dX7_tell_26 rfl ?_
              obtain ⟨q_24, c_25, h⟩ := bd_o h
              refine m_callVi hc yO_212 rfl (c_X7_doesFor (d + 1) c_25) (by omega) (by decide) wm_X7_124 wi_X7_doesFor we_X7_doesFor wn_X7 wc_X7_doesFor wy_X7_doesFor rfl (st := []) rfl rfl (Nat.le_of_ble_eq_true rfl) dX7_tell_27 ?_
              obtain ⟨q_28, c_29, h⟩ := nm_o h
              have J_30 : WM G X (qQ G X (some (.int r.1)) r.2) M_15 49 [some (.ref (gR G 212)), some (.int x1_2), some (.int x2_4), some (.int x3_14), none, none, none, none, none] [.int q_28] := by
                refine m_istore hc (lv' := [some (.ref (gR G 212)), some (.int x1_2), some (.int x2_4), some (.int x3_14), some (.int q_28), none, none, none, none]) dX7_tell_49 (Nat.le_of_ble_eq_true rfl) rfl rfl ?_
                refine m_iload hc dX7_tell_51 rfl ?_
                obtain ⟨q_34, c_35, h⟩ := nm_o h
                have J_36 : WM G X (qQ G X (some (.int r.1)) r.2) M_15 61 [some (.ref (gR G 212)), some (.int x1_2), some (.int x2_4), some (.int x3_14), some (.int q_28), none, none, none, none] [.int q_34] := by
                  refine m_istore hc (lv' := [some (.ref (gR G 212)), some (.int x1_2), some (.int x2_4), some (.int x3_14), some (.int q_28), some (.int q_34), none, none, none]) dX7_tell_61 (Nat.le_of_ble_eq_true rfl) rfl rfl ?_
                  refine m_iload hc dX7_tell_63 rfl ?_
                  refine m_ldc hc dX7_tell_65 wk_X7_140 ?_
                  obtain ⟨q_80, c_81, h⟩ := bd_o h
                  have J_82 : WM G X (qQ G X (some (.int r.1)) r.2) q_80.2.2 188 [some (.ref (gR G 212)), some (.int x1_2), some (.int x2_4), some (.int x3_14), some (.int q_80.1), some (.int q_80.2.1), none, none, none] [] := by
                    refine m_aload_n hc dX7_tell_188 rfl ?_
                    refine m_getR hc (q := 218) yO_212 rfl tbX7 7 (by decide) wf_X7_25 rfl dX7_tell_189 ?_
                    refine m_sipush hc (v := (2187 : Int32)) dX7_tell_192 (by decide) ?_
                    refine m_iload_n hc dX7_tell_195 rfl ?_
                    refine m_imul hc dX7_tell_196 ?_
                    refine m_iload_n hc dX7_tell_197 rfl ?_
                    refine m_iadd hc dX7_tell_198 ?_
                    refine m_iload hc dX7_tell_199 rfl ?_
                    refine m_ldc hc dX7_tell_201 wk_X7_140 ?_
                    obtain ⟨q_126, c_127, h⟩ := nm_o h
                    have J_128 : WM G X (qQ G X (some (.int r.1)) r.2) q_80.2.2 213 [some (.ref (gR G 212)), some (.int x1_2), some (.int x2_4), some (.int x3_14), some (.int q_80.1), some (.int q_80.2.1), none, none, none] [.int q_126, .int (((2187 : Int32) * x2_4) + x3_14), .ref (gR G 218)] := by
                      obtain ⟨b_130, h⟩ := ck_o h
                      refine m_iast hc yA_218 b_130 dX7_tell_213 ?_
                      refine m_topM (fun M_131 e_132 => ?_)
                      replace h := nm_x e_132 h
                      refine m_aload_n hc dX7_tell_214 rfl ?_
                      refine m_getR hc (q := 219) yO_212 rfl tbX7 8 (by decide) wf_X7_28 rfl dX7_tell_215 ?_
                      refine m_sipush hc (v := (2187 : Int32)) dX7_tell_218 (by decide) ?_
                      refine m_iload_n hc dX7_tell_221 rfl ?_
                      refine m_imul hc dX7_tell_222 ?_
                      refine m_iload_n hc dX7_tell_223 rfl ?_
                      refine m_iadd hc dX7_tell_224 ?_
                      refine m_iload hc dX7_tell_225 rfl ?_
                      obtain ⟨b_133, h⟩ := ck_o h
                      refine m_iast hc yA_219 b_133 dX7_tell_227 ?_
                      refine m_topM (fun M_134 e_135 => ?_)
                      replace h := nm_x e_135 h
                      refine m_iinc hc (v := x3_14 + 1) (lv' := [some (.ref (gR G 212)), some (.int x1_2), some (.int x2_4), some (.int (x3_14 + 1)), some (.int q_80.1), some (.int q_80.2.1), none, none, none]) dX7_tell_228 rfl rfl rfl rfl ?_
                      refine m_goto hc (tgt := 17) dX7_tell_231 (by decide) ?_
                      exact m_fg [4, 5] rfl (i_22 _ _ h)
                    replace h := c_127
                    refine m_icle hc (tgt := 211) dX7_tell_203 (by decide) (fun b_129 => ?_) (fun b_129 => ?_)
                    · replace h := (if_pos b_129).symm.trans h
                      refine m_iload hc dX7_tell_211 rfl ?_
                      subst h
                      exact m_fg [] rfl J_128
                    · replace h := (if_neg b_129).symm.trans h
                      refine m_ldc hc dX7_tell_206 wk_X7_140 ?_
                      refine m_goto hc (tgt := 213) dX7_tell_208 (by decide) ?_
                      subst h
                      exact m_fg [] rfl J_128
                  replace h := c_81
                  refine m_icne hc (tgt := 188) dX7_tell_67 (by decide) (fun b_83 => ?_) (fun b_83 => ?_)
                  · replace h := (if_neg b_83).symm.trans h
                    cases h
                    exact m_fg [] rfl J_82
                  · replace h := (if_pos b_83).symm.trans h
                    refine m_aload_n hc dX7_tell_70 rfl ?_
                    refine m_iload_n hc dX7_tell_71 rfl ?_
                    refine m_iload_n hc dX7_tell_72 rfl ?_
                    obtain ⟨q_84, c_85, h⟩ := bd_o h
                    refine m_callVv hc yO_212 rfl (c_X7_tellNext (d + 0) c_85) (by omega) (by decide) wm_X7_142 wi_X7_tellNext we_X7_tellNext wn_X7 wc_X7_tellNext wy_X7_tellNext rfl (st := []) rfl rfl (Nat.le_of_ble_eq_true rfl) dX7_tell_73 ?_
                    refine m_iconst hc (v := 0) dX7_tell_76 (by decide) ?_
                    refine m_istore hc (lv' := [some (.ref (gR G 212)), some (.int x1_2), some (.int x2_4), some (.int x3_14), some (.int q_28), some (.int q_34), some (.int (0 : Int32)), none, none]) dX7_tell_77 (Nat.le_of_ble_eq_true rfl) rfl rfl ?_
                    obtain ⟨q_89, c_90, h⟩ := bd_o h
                    have J_91 : WM G X (qQ G X (some (.int r.1)) r.2) q_84 188 [some (.ref (gR G 212)), some (.int x1_2), some (.int x2_4), some (.int x3_14), some (.int q_89.1), some (.int q_89.2), none, none, none] [] := by
                      cases h
                      exact m_fg [] rfl J_82
                    have L_92 : ∀ (n_94 : Nat) (x4_86 : Int32) (x5_87 : Int32) (x6_88 : Int32), L_X7_tell_79 x2_4 q_84 n_94 x4_86 x5_87 x6_88 = some q_89 → WM G X (qQ G X (some (.int r.1)) r.2) q_84 79 [some (.ref (gR G 212)), some (.int x1_2), some (.int x2_4), some (.int x3_14), some (.int x4_86), some (.int x5_87), some (.int x6_88), none, none] [] := by
                      intro n_94
                      induction n_94 with
                      | zero =>
                        intro x4_86 x5_87 x6_88 h
                        cases (show none = some _ from h)
                      | succ n_94 i_95 =>
                        intro x4_86 x5_87 x6_88 h
                        rw [L_X7_tell_79] at h
                        refine m_iload hc dX7_tell_79 rfl ?_
                        refine m_aload_n hc dX7_tell_81 rfl ?_
                        refine m_getI hc yO_212 rfl tbX7 11 (by decide) wf_X7_130 rfl dX7_tell_82 ?_
                        refine m_icge hc (tgt := 188) dX7_tell_85 (by decide) (fun b_96 => ?_) (fun b_96 => ?_)
                        · replace h := (if_pos b_96).symm.trans h
                          cases h
                          exact m_fg [6] rfl J_91
                        · replace h := (if_neg b_96).symm.trans h
                          refine m_sipush hc (v := (2187 : Int32)) dX7_tell_88 (by decide) ?_
                          refine m_iload_n hc dX7_tell_91 rfl ?_
                          refine m_iconst hc (v := 1) dX7_tell_92 (by decide) ?_
                          refine m_iadd hc dX7_tell_93 ?_
                          refine m_imul hc dX7_tell_94 ?_
                          refine m_aload_n hc dX7_tell_95 rfl ?_
                          refine m_getR hc (q := 220) yO_212 rfl tbX7 9 (by decide) wf_X7_31 rfl dX7_tell_96 ?_
                          refine m_iload hc dX7_tell_99 rfl ?_
                          obtain ⟨b_97, h⟩ := ck_o h
                          refine m_iald hc yA_220 b_97 dX7_tell_101 ?_
                          refine m_iadd hc dX7_tell_102 ?_
                          refine m_topI (fun x7_98 e_99 => ?_)
                          replace h := nm_x e_99 h
                          refine m_istore hc (lv' := [some (.ref (gR G 212)), some (.int x1_2), some (.int x2_4), some (.int x3_14), some (.int x4_86), some (.int x5_87), some (.int x6_88), some (.int x7_98), none]) dX7_tell_103 (Nat.le_of_ble_eq_true rfl) rfl rfl ?_
                          refine m_aload_n hc dX7_tell_105 rfl ?_
                          refine m_getR hc (q := 221) yO_212 rfl tbX7 10 (by decide) wf_X7_34 rfl dX7_tell_106 ?_
                          refine m_iload hc dX7_tell_109 rfl ?_
                          obtain ⟨b_100, h⟩ := ck_o h
                          refine m_iald hc yA_221 b_100 dX7_tell_111 ?_
                          refine m_aload_n hc dX7_tell_112 rfl ?_
                          refine m_getR hc (q := 218) yO_212 rfl tbX7 7 (by decide) wf_X7_25 rfl dX7_tell_113 ?_
                          refine m_iload hc dX7_tell_116 rfl ?_
                          obtain ⟨b_101, h⟩ := ck_o h
                          refine m_iald hc yA_218 b_101 dX7_tell_118 ?_
                          refine m_iadd hc dX7_tell_119 ?_
                          refine m_topI (fun x8_102 e_103 => ?_)
                          replace h := nm_x e_103 h
                          refine m_istore hc (lv' := [some (.ref (gR G 212)), some (.int x1_2), some (.int x2_4), some (.int x3_14), some (.int x4_86), some (.int x5_87), some (.int x6_88), some (.int x7_98), some (.int x8_102)]) dX7_tell_120 (Nat.le_of_ble_eq_true rfl) rfl rfl ?_
                          refine m_iload hc dX7_tell_122 rfl ?_
                          refine m_iload hc dX7_tell_124 rfl ?_
                          obtain ⟨q_105, c_106, h⟩ := nm_o h
                          have J_107 : WM G X (qQ G X (some (.int r.1)) r.2) q_84 136 [some (.ref (gR G 212)), some (.int x1_2), some (.int x2_4), some (.int x3_14), some (.int q_105.1), some (.int q_105.2), some (.int x6_88), some (.int x7_98), some (.int x8_102)] [] := by
                            refine m_iload hc dX7_tell_136 rfl ?_
                            refine m_iload hc dX7_tell_138 rfl ?_
                            refine m_iload hc dX7_tell_140 rfl ?_
                            obtain ⟨q_112, c_113, h⟩ := bd_o h
                            have J_114 : WM G X (qQ G X (some (.int r.1)) r.2) q_84 163 [some (.ref (gR G 212)), some (.int x1_2), some (.int x2_4), some (.int x3_14), some (.int q_105.1), some (.int q_105.2), some (.int x6_88), some (.int x7_98), some (.int x8_102)] [.int q_112, .int q_105.2] := by
                              refine m_iadd hc dX7_tell_163 ?_
                              refine m_topI (fun x5_118 e_119 => ?_)
                              replace h := nm_x e_119 h
                              refine m_istore hc (lv' := [some (.ref (gR G 212)), some (.int x1_2), some (.int x2_4), some (.int x3_14), some (.int q_105.1), some (.int x5_118), some (.int x6_88), some (.int x7_98), some (.int x8_102)]) dX7_tell_164 (Nat.le_of_ble_eq_true rfl) rfl rfl ?_
                              refine m_iload hc dX7_tell_166 rfl ?_
                              refine m_ldc hc dX7_tell_168 wk_X7_146 ?_
                              obtain ⟨q_121, c_122, h⟩ := nm_o h
                              have J_123 : WM G X (qQ G X (some (.int r.1)) r.2) q_84 180 [some (.ref (gR G 212)), some (.int x1_2), some (.int x2_4), some (.int x3_14), some (.int q_105.1), some (.int x5_118), some (.int x6_88), some (.int x7_98), some (.int x8_102)] [.int q_121] := by
                                refine m_istore hc (lv' := [some (.ref (gR G 212)), some (.int x1_2), some (.int x2_4), some (.int x3_14), some (.int q_105.1), some (.int q_121), some (.int x6_88), some (.int x7_98), some (.int x8_102)]) dX7_tell_180 (Nat.le_of_ble_eq_true rfl) rfl rfl ?_
                                refine m_iinc hc (v := x6_88 + 1) (lv' := [some (.ref (gR G 212)), some (.int x1_2), some (.int x2_4), some (.int x3_14), some (.int q_105.1), some (.int q_121), some (.int (x6_88 + 1)), some (.int x7_98), some (.int x8_102)]) dX7_tell_182 rfl rfl rfl rfl ?_
                                refine m_goto hc (tgt := 79) dX7_tell_185 (by decide) ?_
                                exact m_fg [7, 8] rfl (i_95 _ _ _ h)
                              replace h := c_122
                              refine m_icle hc (tgt := 178) dX7_tell_170 (by decide) (fun b_124 => ?_) (fun b_124 => ?_)
                              · replace h := (if_pos b_124).symm.trans h
                                refine m_iload hc dX7_tell_178 rfl ?_
                                subst h
                                exact m_fg [] rfl J_123
                              · replace h := (if_neg b_124).symm.trans h
                                refine m_ldc hc dX7_tell_173 wk_X7_146 ?_
                                refine m_goto hc (tgt := 180) dX7_tell_175 (by decide) ?_
                                subst h
                                exact m_fg [] rfl J_123
                            replace h := c_113
                            refine m_icne hc (tgt := 162) dX7_tell_142 (by decide) (fun b_115 => ?_) (fun b_115 => ?_)
                            · replace h := (if_neg b_115).symm.trans h
                              refine m_iconst hc (v := 0) dX7_tell_162 (by decide) ?_
                              cases h
                              exact m_fg [] rfl J_114
                            · replace h := (if_pos b_115).symm.trans h
                              refine m_iload hc dX7_tell_145 rfl ?_
                              refine m_ldc hc dX7_tell_147 wk_X7_140 ?_
                              refine m_icge hc (tgt := 162) dX7_tell_149 (by decide) (fun b_116 => ?_) (fun b_116 => ?_)
                              · replace h := (if_pos b_116).symm.trans h
                                refine m_iconst hc (v := 0) dX7_tell_162 (by decide) ?_
                                cases h
                                exact m_fg [] rfl J_114
                              · replace h := (if_neg b_116).symm.trans h
                                refine m_aload_n hc dX7_tell_152 rfl ?_
                                refine m_getR hc (q := 219) yO_212 rfl tbX7 8 (by decide) wf_X7_28 rfl dX7_tell_153 ?_
                                refine m_iload hc dX7_tell_156 rfl ?_
                                obtain ⟨b_117, h⟩ := ck_o h
                                refine m_iald hc yA_219 b_117 dX7_tell_158 ?_
                                refine m_goto hc (tgt := 163) dX7_tell_159 (by decide) ?_
                                cases h
                                exact m_fg [] rfl J_114
                          replace h := c_106
                          refine m_icge hc (tgt := 136) dX7_tell_126 (by decide) (fun b_108 => ?_) (fun b_108 => ?_)
                          · replace h := (if_pos b_108).symm.trans h
                            subst h
                            exact m_fg [] rfl J_107
                          · replace h := (if_neg b_108).symm.trans h
                            refine m_iload hc dX7_tell_129 rfl ?_
                            refine m_istore hc (lv' := [some (.ref (gR G 212)), some (.int x1_2), some (.int x2_4), some (.int x3_14), some (.int x8_102), some (.int x5_87), some (.int x6_88), some (.int x7_98), some (.int x8_102)]) dX7_tell_131 (Nat.le_of_ble_eq_true rfl) rfl rfl ?_
                            refine m_iconst hc (v := 0) dX7_tell_133 (by decide) ?_
                            refine m_istore hc (lv' := [some (.ref (gR G 212)), some (.int x1_2), some (.int x2_4), some (.int x3_14), some (.int x8_102), some (.int (0 : Int32)), some (.int x6_88), some (.int x7_98), some (.int x8_102)]) dX7_tell_134 (Nat.le_of_ble_eq_true rfl) rfl rfl ?_
                            subst h
                            exact m_fg [] rfl J_107
                    exact m_fg [] rfl (L_92 _ _ _ _ c_90)
                replace h := c_35
                refine m_ifne hc (tgt := 60) dX7_tell_53 (by decide) (fun b_37 => ?_) (fun b_37 => ?_)
                · replace h := (if_neg b_37).symm.trans h
                  refine m_iconst hc (v := 0) dX7_tell_60 (by decide) ?_
                  subst h
                  exact m_fg [] rfl J_36
                · replace h := (if_pos b_37).symm.trans h
                  refine m_iconst hc (v := 1) dX7_tell_56 (by decide) ?_
                  refine m_goto hc (tgt := 61) dX7_tell_57 (by decide) ?_
                  subst h
                  exact m_fg [] rfl J_36
              replace h := c_29
              refine m_ifeq hc (tgt := 47) dX7_tell_30 (by decide) (fun b_31 => ?_) (fun b_31 => ?_)
              · replace h := (if_pos b_31).symm.trans h
                refine m_ldc hc dX7_tell_47 wk_X7_141 ?_
                subst h
                exact m_fg [] rfl J_30
              · replace h := (if_neg b_31).symm.trans h
                refine m_iload_n hc dX7_tell_33 rfl ?_
                refine m_iload_n hc dX7_tell_34 rfl ?_
                refine m_icne hc (tgt := 42) dX7_tell_35 (by decide) (fun b_32 => ?_) (fun b_32 => ?_)
                · replace h := (if_neg b_32).symm.trans h
                  refine m_ldc hc dX7_tell_42 wk_X7_140 ?_
                  refine m_goto hc (tgt := 49) dX7_tell_44 (by decide) ?_
                  subst h
                  exact m_fg [] rfl J_30
                · replace h := (if_pos b_32).symm.trans h
                  refine m_iconst hc (v := 0) dX7_tell_38 (by decide) ?_
                  refine m_goto hc (tgt := 49) dX7_tell_39 (by decide) ?_
                  subst h
                  exact m_fg [] rfl J_30
        exact m_fg [] rfl (L_19 _ _ _ c_17)
  exact m_fg [] rfl (L_9 _ _ _ c_7)
