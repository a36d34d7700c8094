/-! THE CONSTRUCTORS -/
/-- what an object's fields are, its ints being g -/
def flg (G : Gm) (g : Nat → Int32) (t : List (Option Nat)) (j : Nat) : Value := match t.getD j none with
  | none => Value.int (g j)
  | some q => Value.ref (gR G q)
theorem flg_fl {G : Gm} {M : Mm} {a : Nat} {g : Nat → Int32} {t : List (Option Nat)} : fl_ G (mu M a g) a t = flg G g t := by
  funext j
  unfold fl_ flg
  rw [mu_s]
  cases t.getD j none <;> rfl
theorem n_close {G : Gm} {X : Xm} {Q : State → Prop} {M : Mm} {pc n : Nat} {lv : List (Option Value)} {st : List Value} {op : List (Nat × va_E)} {a ci nf : Nat} {t : List (Option Nat)} {fs : List Value} (g : Nat → Int32) (ho : isO a ci nf t) (hk : kb op a) (hfs : (List.range nf).map (flg G g t) = fs) (kk : WR G X Q (RN G n op (mu M a g)) pc lv st) : WR G X Q (RN G n ((a, .inr (ci, fs)) :: op) M) pc lv st := by
  refine n_conv (fun k _ => ?_) kk
  by_cases h : k = a
  · subst h
    rw [oE_hd, oE_kb hk (Nat.le_refl _), en_O ho, flg_fl, hfs]
  · rw [oE_tl h]
    exact oE_congr (mu_n h).symm
theorem n_cM {G : Gm} {X : Xm} {Q : State → Prop} {M N : Mm} {pc n : Nat} {lv : List (Option Value)} {st : List Value} {op : List (Nat × va_E)} (h : M = N) (kk : WR G X Q (RN G n op N) pc lv st) : WR G X Q (RN G n op M) pc lv st := h ▸ kk
/-- Arrays.fill -/
theorem fill_loop (len a : Nat) (x : Int32) (hl : len < 2 ^ 31) : ∀ (n i : Nat) (M : Mm), i ≤ len → len < n + i → L_J7_fill_53178_5 len a x (nI len) n (nI i) M = some (mu M a (fun j => if i ≤ j ∧ j < len then x else M a j))
  | 0, i, M, h1, h2 => absurd h2 (by omega)
  | n + 1, i, M, h1, h2 => by
    rw [L_J7_fill_53178_5]
    by_cases h : i = len
    · subst h
      rw [if_pos (nI_le (Nat.le_refl _) hl)]
      congr 1
      funext k
      unfold mu
      by_cases hk : k = a
      · subst hk
        rw [if_pos rfl]
        funext j
        rw [if_neg (by omega)]
      · rw [if_neg hk]
    · have hlt : i < len := by omega
      rw [if_neg (nI_ge hlt hl)]
      have hib : ib (nI i) len := by
        have e := nI_toInt (show i < 2 ^ 31 by omega)
        exact ⟨by rw [e]; omega, by rw [e]; omega⟩
      unfold ck nm
      rw [if_pos hib, nI_1 i]
      dsimp only
      rw [fill_loop len a x hl n (i + 1) _ (by omega) (by omega), nI_clamp (show i < 2 ^ 31 by omega)]
      congr 1
      funext k
      unfold mw mu
      by_cases hk : k = a
      · subst hk
        rw [if_pos rfl, if_pos rfl]
        funext j
        by_cases hj : j = i
        · subst hj
          show (if j + 1 ≤ j ∧ j < len then x else upd (M k) j x j) = _
          rw [if_neg (by omega), if_pos rfl, if_pos (show j ≤ j ∧ j < len from ⟨Nat.le_refl _, hlt⟩)]
          simp [upd]
        · rw [if_pos rfl]
          by_cases h3 : i + 1 ≤ j ∧ j < len
          · rw [if_pos h3, if_pos (by omega)]
          · rw [if_neg h3, if_neg (by omega)]
            simp [upd, hj]
      · rw [if_neg hk, if_neg hk, if_neg hk]
theorem fill_eq {len a : Nat} {x : Int32} {M : Mm} (hl : len < 10000) : f_J7_fill_53178 len a x M = some (mu M a (fun j => if j < len then x else M a j)) := by
  unfold f_J7_fill_53178 nm
  dsimp only
  rw [show (0 : Int32) = nI 0 from nI_0.symm, fill_loop len a x (by omega) FU 0 M (Nat.zero_le _) (by unfold FU; omega)]
  show some _ = some _
  congr 1
  congr 1
  funext j
  by_cases h : j < len
  · rw [if_pos h, if_pos ⟨Nat.zero_le _, h⟩]
  · rw [if_neg h, if_neg (fun q => h q.2)]
set_option maxRecDepth 100000 in
set_option maxHeartbeats 4000000 in
theorem n_J7_fill {G : Gm} {l : Launch} (d : Nat) {N a0 n b : Nat} {x1 : Int32} {M r : Mm} {op : List (Nat × va_E)} (hG : gB G) (han : a0 < n) (h0 : isA a0 N) (hk : kb op b) (hb : b ≤ a0) (h : f_J7_fill_53178 N a0 x1 M = some r) : Cn G l (d + 0) yJ7_fill_53178 cJ7_fill_53178 4 [.ref (gR G a0), .int x1] n op M n op r 0 0 := by
  unfold f_J7_fill_53178 at h
  refine n_met (lv := [some (.ref (gR G a0)), some (.int x1), none, none]) (own := RJ7) (by decide +kernel) rfl rfl (Nat.le_of_ble_eq_true rfl) rfl ?_
  intro X hX hc hr hin2 hgm hC0 hS0 hRc hRs
  subst hX
  refine m_iconst hc (v := 0) dJ7_fill_53178_0 (by decide) ?_
  refine m_istore_n hc (lv' := [some (.ref (gR G a0)), some (.int x1), some (.int (0 : Int32)), none]) dJ7_fill_53178_1 (Nat.le_of_ble_eq_true rfl) rfl rfl ?_
  refine m_aload_n hc dJ7_fill_53178_2 rfl ?_
  refine n_alen hc han h0 hk hb dJ7_fill_53178_3 ?_
  refine m_topI (fun x3_1 e_2 => ?_)
  replace h := nm_x e_2 h
  refine m_istore_n hc (lv' := [some (.ref (gR G a0)), some (.int x1), some (.int (0 : Int32)), some (.int x3_1)]) dJ7_fill_53178_4 (Nat.le_of_ble_eq_true rfl) rfl rfl ?_
  obtain ⟨q_5, c_6, h⟩ := bd_o h
  have J_7 : WR G X (qNQ G X n op r 0 0) (RN G n op q_5) 20 [some (.ref (gR G a0)), some (.int x1), none, some (.int x3_1)] [] := by
    cases h
    exact n_vret hc hr rfl (by omega) (by omega) dJ7_fill_53178_20
  have L_8 : ∀ (n_10 : Nat) (x2_3 : Int32) (M_4 : Mm), L_J7_fill_53178_5 N a0 x1 x3_1 n_10 x2_3 M_4 = some q_5 → WR G X (qNQ G X n op r 0 0) (RN G n op M_4) 5 [some (.ref (gR G a0)), some (.int x1), some (.int x2_3), some (.int x3_1)] [] := by
    intro n_10
    induction n_10 with
    | zero =>
      intro x2_3 M_4 h
      cases (show none = some _ from h)
    | succ n_10 i_11 =>
      intro x2_3 M_4 h
      rw [L_J7_fill_53178_5] at h
      refine m_iload_n hc dJ7_fill_53178_5 rfl ?_
      refine m_iload_n hc dJ7_fill_53178_6 rfl ?_
      refine m_icge hc (tgt := 20) dJ7_fill_53178_7 (by decide) (fun b_12 => ?_) (fun b_12 => ?_)
      · replace h := (if_pos b_12).symm.trans h
        cases h
        exact m_fg [2] rfl J_7
      · replace h := (if_neg b_12).symm.trans h
        refine m_aload_n hc dJ7_fill_53178_10 rfl ?_
        refine m_iload_n hc dJ7_fill_53178_11 rfl ?_
        refine m_iload_n hc dJ7_fill_53178_12 rfl ?_
        obtain ⟨b_13, h⟩ := ck_o h
        refine n_iast hc hG han h0 hk hb b_13 dJ7_fill_53178_13 ?_
        refine n_topM (fun M_14 e_15 => ?_)
        replace h := nm_x e_15 h
        refine m_iinc hc (v := x2_3 + 1) (lv' := [some (.ref (gR G a0)), some (.int x1), some (.int (x2_3 + 1)), some (.int x3_1)]) dJ7_fill_53178_14 rfl rfl rfl rfl ?_
        refine m_goto hc (tgt := 5) dJ7_fill_53178_17 (by decide) ?_
        exact m_fg [] rfl (i_11 _ _ h)
  exact m_fg [] rfl (L_8 _ _ _ c_6)
