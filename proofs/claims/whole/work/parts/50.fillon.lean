/-! PURE: fillOnward, isEven -/
theorem bt_top {m : Nat} (hm : m ≤ 62) {p : Pr} (h : okP m p) : bt p top = p := by
  rcases h with h | h
  · rw [h]
    exact bt_tt
  · exact bt_l (by show p.1 < 63; omega)
theorem bs_abs {p : Pr} : ∀ l : List Pr, (∀ x ∈ l, p.1 < x.1) → bs p l = p
  | [], _ => rfl
  | x :: l, h => by
    show bt x (bs p l) = p
    rw [bs_abs l (fun y hy => h y (List.mem_cons_of_mem _ hy)), bt_r (h x List.mem_cons_self)]
/-- all have as many moves -/
def EvenP (f : Nat → Pr) : Prop := ∀ d, d < 2187 → (f d).1 = (f 0).1
theorem sf_even {L : Nat → Prop} {F : List Nat} (hF : ∀ p, p ∈ F → p < 7) {f g : Nat → Pr} (he : EvenP f) (hg : ∀ d, d < 2187 → g d = f d) {d : Nat} (hd : d < 2187) : sf L F g d = f d := by
  unfold sf
  rw [hg d hd]
  refine bs_abs _ (fun x hx => ?_)
  obtain ⟨e, h1, h2⟩ := List.mem_map.mp hx
  have h3 := fl_lt hd F hF h1
  rw [← h2, hg e h3, sh_1, he d hd, he e h3]
  omega
theorem tv_even {N : Nt} {b d : Nat} {f : Nat → Pr} (he : EvenP f) (hd : d < 2187) : tv N b f d = f d := sf_even fL_7 he (fun _ h => sf_even fR_7 he (fun _ _ => rfl) h) hd
theorem tv_ok {N : Nt} {b d m : Nat} (hm : m + 2 ≤ 40) {f : Nat → Pr} (hf : okR m f) (hd : d < 2187) : okP (m + 4) (tv N b f d) := sf_ok fL_7 (by omega) (sf_ok fR_7 (by omega) hf) d hd
theorem wv_tv {N : Nt} {e b d m : Nat} (hm : m + 4 ≤ 40) {f : Nat → Pr} (hf : okR m f) (hd : d < 2187) (he : b ≠ e) : Wv N e b f d = ifD N b (tv N b f) d := by
  by_cases c : does N b d
  · rw [wv_n c he, ifD_t c, ops_s]
    exact bt_top (by omega) (tv_ok (by omega) hf hd)
  · rw [wv_f c, ifD_f c]
theorem lk_sil {N : Nt} {b d : Nat} (h : ∀ j, j < sz N b → rg N b j = 0) {p : Nat} : ¬ lk N b d p := fun ⟨n, h1, h2, _⟩ => by
  have := h n h1
  omega
theorem ifD_c {N : Nt} {b d : Nat} {f g : Nat → Pr} (h : f d = g d) : ifD N b f d = ifD N b g d := by
  by_cases c : does N b d
  · rw [ifD_t c, ifD_t c, h]
  · rw [ifD_f c, ifD_f c]
theorem ifD_2 {N : Nt} {b : Nat} {f : Nat → Pr} : ifD N b (ifD N b f) = ifD N b f := funext (fun d => by
  by_cases c : does N b d
  · rw [ifD_t c]
  · rw [ifD_f c, ifD_f c])
theorem fillOnward_c {N : Nt} (hN : WP N) {b e a2 m : Nat} {M : Mm} (hb : b ≤ e) (he : e < 12) (ha2 : a2 = 172 + b ∨ a2 = 198) (h30 : M 3 0 = nI (e + 1)) (hH : Hp M) (hC : Ch 162 M N b) {f : Nat → Pr} (hm : m + 4 ≤ 40) (hf : okR m f) (hR : b < e → Row (173 + b) M f ∧ (M 184 (b + 1) = 0 ∨ EvenP f)) :
    ∃ M', f_X5_fillOnward (nI b) a2 M = some M' ∧ Row a2 M' (Wv N e b f) ∧ Fo a2 M M' := by
  have e1 : nI (e + 1) - (1 : Int32) = nI e := zsu (a := e + 1) (b := 1) (by omega)
  unfold f_X5_fillOnward
  rw [h30, e1]
  by_cases c : b < e
  · obtain ⟨hR1, hE⟩ := hR c
    have er : 172 + (b + 1) = 173 + b := by omega
    have hdrop : ∀ (M1 : Mm) (g : Nat → Pr), okR (m + 4) g → Row a2 M1 g → (∀ d, d < 2187 → ifD N b g d = ifD N b (tv N b f) d) → Fo a2 M M1 → ∃ M', Option.bind (some M1) (fun q_21 => Option.bind (f_X5_dropUnfit a2 q_21) (fun q_44 => some q_44)) = some M' ∧ Row a2 M' (Wv N e b f) ∧ Fo a2 M M' := fun M1 g g1 g2 g3 g4 => by
      obtain ⟨M2, r1, r2, r3⟩ := drop_c hN (show b < 12 by omega) (show 171 < a2 by omega) (show m + 4 ≤ 40 by omega) g1 (fun t ht => by rw [g4 2 (by omega) (by omega) (by omega) (by omega) (by omega)]; exact hH t ht) (ch_f hC (fun c q1 q2 => g4 c (by omega) (by omega) (by omega) (by omega) (by omega))) g2
      rw [bd_s, r1, bd_s]
      refine ⟨M2, rfl, fun d hd => ?_, fo_t g4 (fo_1 r3)⟩
      rw [r2 d hd, g3 d hd, wv_tv hm hf hd (by omega)]
    rw [if_pos ((zlt (by omega) (by omega)).mpr c), nI_s, zck (by omega) (by omega), zcl (by omega), er]
    by_cases c2 : M 184 (b + 1) = 0
    · rw [if_pos c2]
      rcases sil_c hN (show b < 12 by omega) hC with ⟨hs, es⟩ | es
      · rw [es, bd_s, if_neg (by decide), zck (by omega) (by omega)]
        obtain ⟨M1, q1, q2, q3⟩ := spread_c (a0 := 173 + b) (a2 := 200) bits_R0 (by omega) (show m ≤ 40 by omega) hf hR1
        rw [sg_0R] at q2
        have o1 := sf_ok (L := nL) fR_7 (show m ≤ 40 by omega) hf
        obtain ⟨M2, r1, r2, r3⟩ := spread_c (a0 := 200) (a2 := a2) bits_L0 (by omega) (show m + 2 ≤ 40 by omega) o1 q2
        rw [sg_0L] at r2
        rw [q1, bd_s, r1, bd_s]
        refine hdrop M2 _ (sf_ok (L := nL) fL_7 (by omega) o1) r2 (fun d hd => ?_) (fo_t (fo_200 q3) (fo_1 r3))
        refine ifD_c ?_
        have hl : ∀ p, nL p ↔ lk N b d p := fun p => ⟨fun q => q.elim, fun q => lk_sil hs q⟩
        have hn : sf nL fR f = sf (lk N b d) fR f := funext (fun t => sf_c (fun p _ => hl p))
        rw [hn, sf_c (L' := lk N b d) (fun p _ => hl p)]
        rfl
      · rw [es, bd_s, if_pos rfl, zck (by omega) (by omega)]
        obtain ⟨M1, q1, q2, q3⟩ := fillL_c hN (show b < 12 by omega) (show 173 + b ≠ a2 by omega) (by omega) (by omega) hm hf hH hC hR1
        rw [q1, bd_s]
        refine hdrop M1 _ (fun d hd => ?_) q2 (fun d hd => by rw [ifD_2]) q3
        by_cases c3 : does N b d
        · rw [ifD_t c3]
          exact tv_ok (by omega) hf hd
        · rw [ifD_f c3]
          exact Or.inl rfl
    · rw [if_neg c2, zck (by omega) (by omega), ck_t (by decide), nm_d]
      have hev := hE.resolve_left c2
      refine hdrop _ f (fun d hd => okP_w (hf d hd) (by omega)) (fun d hd => ?_) (fun d hd => ifD_c (tv_even hev hd).symm) (fo_1 (fun c g => mu_n g))
      rw [mu_s, show (2187 : Int32) = nI 2187 from rfl, cpy_a (by omega) hd]
      exact hR1 d hd
  · have hbe : b = e := by omega
    obtain ⟨M1, q1, q2, q3, q4⟩ := fill_c (N := 2187) (a := a2) (v := 1) (M := M) (by omega)
    rw [if_neg (fun q => c ((zlt (by omega) (by omega)).mp q)), q1, bd_s, bd_s]
    have hR1 : Row a2 M1 (fun _ => (0, 1)) := fun d hd => q2 d hd
    obtain ⟨M2, r1, r2, r3⟩ := drop_c hN (show b < 12 by omega) (show 171 < a2 by omega) (m := 0) (by omega) (fun _ _ => Or.inr ⟨Nat.le_refl 0, by show 1 ≤ 1000000; omega⟩) (fun t ht => by rw [q4 2 (by omega)]; exact hH t ht) (ch_f hC (fun c q1 q2 => q4 c (by omega))) hR1
    rw [r1, bd_s]
    refine ⟨M2, rfl, fun d hd => ?_, fo_t (fo_1 q4) (fo_1 r3)⟩
    rw [r2 d hd]
    by_cases c3 : does N b d
    · rw [ifD_t c3, wv_e c3 hbe]
    · rw [ifD_f c3, wv_f c3]
theorem even_l {a m : Nat} {M : Mm} (hm : m ≤ 40) {f : Nat → Pr} (hf : okR m f) (hR : Row a M f) : ∀ (k n d : Nat), d + k = 2187 → k < n → (∀ t, t < d → (f t).1 = (f 0).1) →
    (EvenP f ∧ L_X5_isEven_2 a M n (nI d) = some (.inl ())) ∨ L_X5_isEven_2 a M n (nI d) = some (.inr 0)
  | _, 0, _, _, h2, _ => by omega
  | 0, n + 1, d, h1, h2, h3 => by
    rw [L_X5_isEven_2, if_pos ((zleD (by omega)).mpr (by omega))]
    exact Or.inl ⟨fun t ht => h3 t (by omega), rfl⟩
  | k + 1, n + 1, d, h1, h2, h3 => by
    have hd : d < 2187 := by omega
    have e0 : M a (0 : Int32).toNatClampNeg = enc (f 0) := hR 0 (by omega)
    have l1 := okP_1 (show m ≤ 63 by omega) (hf d hd)
    have l0 := okP_1 (show m ≤ 63 by omega) (hf 0 (by omega))
    rw [L_X5_isEven_2, if_neg (fun q => by have := (zleD (by omega)).mp q; omega), zck hd (by omega), ck_t (by decide), zcl (by omega), e0, hR d hd, enc_s (okP_E hm (hf d hd)), enc_s (okP_E hm (hf 0 (by omega))), nI_s]
    by_cases c : (f d).1 = (f 0).1
    · rw [if_pos (congrArg nI c)]
      exact even_l hm hf hR k n (d + 1) (by omega) (by omega) (fun t ht => by
        by_cases c2 : t = d
        · rw [c2]
          exact c
        · exact h3 t (by omega))
    · rw [if_neg (fun q => c ((zeq (by omega) (by omega)).mp q))]
      exact Or.inr rfl
theorem isEven_c {a m : Nat} {M : Mm} (hm : m ≤ 40) {f : Nat → Pr} (hf : okR m f) (hR : Row a M f) : (EvenP f ∧ f_X5_isEven a M = some 1) ∨ f_X5_isEven a M = some 0 := by
  unfold f_X5_isEven
  rcases even_l hm hf hR 2186 FU 1 (by omega) (by unfold FU; omega) (fun t ht => by rw [show t = 0 by omega]) with ⟨h, e⟩ | e
  · have e' : L_X5_isEven_2 a M FU (1 : Int32) = some (.inl ()) := e
    rw [e']
    exact Or.inl ⟨h, rfl⟩
  · have e' : L_X5_isEven_2 a M FU (1 : Int32) = some (.inr 0) := e
    rw [e']
    exact Or.inr rfl
