/-- the stands of diagram d, two bits a pedal -/
def sB (d : Nat) : Nat := d % 3 + 4 * (d / 3 % 3) + 16 * (d / 9 % 3) + 64 * (d / 27 % 3) + 256 * (d / 81 % 3) + 1024 * (d / 243 % 3) + 4096 * (d / 729 % 3)
theorem sB_step : ∀ d : Nat, d < 2187 → (nI (sB (d / 3)) <<< ((2 : Int32) &&& 31)) ||| (nI d - nI d / 3 * 3) = nI (sB d) := by decide +kernel
theorem sB_ix : ∀ d : Nat, d < 2187 → ib (nI d / 3) 2187 ∧ (nI d / 3).toNatClampNeg = d / 3 := by decide +kernel
def hS_ (i : Nat) : Nat → Int32 := fun j => if j < i then nI (sB j) else 0
theorem hS_0 : hS_ 0 = fun _ => 0 := by
  funext j
  unfold hS_
  rw [if_neg (by omega)]
theorem hS_s {i : Nat} : upd (hS_ i) i (nI (sB i)) = hS_ (i + 1) := by
  funext j
  unfold upd hS_
  by_cases h : j = i
  · subst h
    rw [if_pos rfl, if_pos (by omega)]
  · rw [if_neg h]
    by_cases h2 : j < i
    · rw [if_pos h2, if_pos (by omega)]
    · rw [if_neg h2, if_neg (by omega)]
set_option maxRecDepth 100000 in
set_option maxHeartbeats 4000000 in
theorem harp_loop {G : Gm} {X : Xm} {d : Nat} {M : Mm} {op : List (Nat × va_E)} {Q : State → Prop} (hG : gB G) (hk : kb op 1) (hc : xc G X cX1_init 2 RX1 (d + 1)) (kk : WR G X Q (RN G 3 ((1, .inr (1, [.ref (gR G 2)])) :: op) (mu M 2 (hS_ 2187))) 48 [some (.ref (gR G 1)), none] []) :
    ∀ (k i : Nat), i ≤ 2187 → 2187 < k + i → WR G X Q (RN G 3 ((1, .inr (1, [.ref (gR G 2)])) :: op) (mu M 2 (hS_ i))) 15 [some (.ref (gR G 1)), some (.int (nI i))] []
  | 0, i, h1, h2 => absurd h2 (by omega)
  | k + 1, i, h1, h2 => by
    have hk2 : kb ((1, .inr (1, [.ref (gR G 2)])) :: op) 2 := kb_cons (kb_mono hk (by omega)) (by omega)
    refine m_iload_n hc dX1_init_15 rfl ?_
    refine m_sipush hc (v := 2187) dX1_init_16 (by decide) ?_
    refine m_icge hc (tgt := 48) dX1_init_19 (by decide) (fun b => ?_) (fun b => ?_)
    · have e : i = 2187 := by
        have h3 : nI 2187 ≤ nI i := b
        rw [nI_leI (by decide) (by omega)] at h3
        omega
      subst e
      exact m_fg [1] rfl kk
    · have hlt : i < 2187 := by
        have h3 : ¬ nI 2187 ≤ nI i := b
        rw [nI_leI (by decide) (by omega)] at h3
        omega
      have hib : ib (nI i) 2187 := by
        have e := nI_toInt (show i < 2 ^ 31 by omega)
        exact ⟨by rw [e]; omega, by rw [e]; omega⟩
      refine m_aload_n hc dX1_init_22 rfl ?_
      refine n_get (n := 3) (a := 1) hc (by omega) oE_hd rfl tbX1 0 (by decide) wf_X1_9 rfl dX1_init_23 ?_
      refine m_iload_n hc dX1_init_26 rfl ?_
      refine m_aload_n hc dX1_init_27 rfl ?_
      refine n_get (n := 3) (a := 1) hc (by omega) oE_hd rfl tbX1 0 (by decide) wf_X1_9 rfl dX1_init_28 ?_
      refine m_iload_n hc dX1_init_31 rfl ?_
      refine m_iconst hc (v := 3) dX1_init_32 (by decide) ?_
      refine m_idiv hc dX1_init_33 (by decide) ?_
      refine n_iald (n := 3) (a := 2) hc (by omega) yA_2 hk2 (Nat.le_refl _) (sB_ix i hlt).1 dX1_init_34 ?_
      refine m_topI (fun x e1 => ?_)
      rw [(sB_ix i hlt).2, mu_s] at e1
      have e2 : x = nI (sB (i / 3)) := by
        rw [e1]
        unfold hS_
        by_cases h0 : i = 0
        · subst h0
          rfl
        · rw [if_pos (by omega)]
      refine m_iconst hc (v := 2) dX1_init_35 (by decide) ?_
      refine m_ishl hc dX1_init_36 ?_
      refine m_iload_n hc dX1_init_37 rfl ?_
      refine m_iconst hc (v := 3) dX1_init_38 (by decide) ?_
      refine m_irem hc dX1_init_39 (by decide) ?_
      refine m_ior hc dX1_init_40 ?_
      refine m_topI (fun y e3 => ?_)
      rw [e2, sB_step i hlt] at e3
      refine n_iast (n := 3) (a := 2) hc hG (by omega) yA_2 hk2 (Nat.le_refl _) hib dX1_init_41 ?_
      refine n_cM (N := mu M 2 (hS_ (i + 1))) ?_ ?_
      · rw [nI_clamp (show i < 2 ^ 31 by omega), e3]
        unfold mw
        rw [mu_s, hS_s]
        funext q
        unfold mu
        by_cases hq : q = 2
        · rw [if_pos hq, if_pos hq]
        · rw [if_neg hq, if_neg hq, if_neg hq]
      · refine m_iinc hc (v := nI (i + 1)) (lv' := [some (.ref (gR G 1)), some (.int (nI (i + 1)))]) dX1_init_42 rfl (nI_1 i) rfl rfl ?_
        refine m_goto hc (tgt := 15) dX1_init_45 (by decide) ?_
        exact harp_loop hG hk hc kk k (i + 1) (by omega) (by omega)
def iH (M : Mm) : Mm := mu (mu M 2 (hS_ 2187)) 1 (fun _ => 0)
set_option maxRecDepth 100000 in
set_option maxHeartbeats 4000000 in
theorem n_X1_init {G : Gm} {l : Launch} (d : Nat) {M : Mm} {op : List (Nat × va_E)} (hG : gB G) (hk : kb op 1) (hz : ∀ k, 2 ≤ k → M k = fun _ => 0) : Cn G l (d + 1) yX1_init cX1_init 2 [.ref (gR G 1)] 2 ((1, .inr (1, [.null])) :: op) M 3 op (iH M) 1 2187 := by
  refine n_met (lv := [some (.ref (gR G 1)), none]) (own := RX1) (by decide +kernel) rfl rfl (Nat.le_of_ble_eq_true rfl) rfl ?_
  intro X hX hc hr hin2 hgm hC0 hS0 hRc hRs
  subst hX
  refine m_aload_n hc dX1_init_0 rfl ?_
  refine n_obj hc (by omega) nm_X1_3 no_i no_c rfl (st := []) (Nat.le_of_ble_eq_true rfl) dX1_init_1 ?_
  refine m_aload_n hc dX1_init_4 rfl ?_
  refine m_sipush hc (v := 2187) dX1_init_5 (by decide) ?_
  refine n_newI (n := 2) hc hG (len := 2187) yA_2 (hz _ (by omega)) (kb_cons (kb_mono hk (by omega)) (by omega)) (by decide) (by decide) (by decide) wac_I (by show xC X + 1 ≤ (xR X).cells; omega) (by show xS X + 2187 ≤ (xR X).slots; omega) dX1_init_8 (fun hc => ?_)
  refine n_putF (n := 3) (a := 1) (fs := [.null]) hc hG hin2 (by omega) rfl tbX1 tyX1 tyX1_ok nmX1 0 (by decide) wf_X1_9 rfl rfl rfl rfl (Nat.le_of_ble_eq_true rfl) dX1_init_10 ?_
  refine m_iconst hc (v := 0) dX1_init_13 (by decide) ?_
  refine m_istore_n hc (lv' := [some (.ref (gR G 1)), some (.int (nI 0))]) dX1_init_14 (Nat.le_of_ble_eq_true rfl) rfl rfl ?_
  refine n_cM (N := mu M 2 (hS_ 0)) ?_ ?_
  · funext q
    unfold mu
    by_cases hq : q = 2
    · rw [if_pos hq, hq, hz 2 (by omega), hS_0]
    · rw [if_neg hq]
  refine harp_loop hG hk hc ?_ 2188 0 (by omega) (by omega)
  refine n_close (fun _ => 0) yO_1 hk rfl ?_
  exact n_vret hc hr (by simp only [x10_p]) (by show xC X + 1 ≤ 1; omega) (by show xS X + 2187 ≤ 2187; omega) dX1_init_48
