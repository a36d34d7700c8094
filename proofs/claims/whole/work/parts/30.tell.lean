/-! PURE: the table of ways on, as the model tells it -/
/-- beat b by the prices f behind it; e is the last beat -/
noncomputable def Wv (N : Nt) (e b : Nat) (f : Nat → Pr) (d : Nat) : Pr := haveI := Classical.propDecidable (does N b d); if does N b d then (if b = e then (0, 1) else bs top ((ops (lk N b d) d).map (op f))) else top
theorem wv_f {N : Nt} {e b d : Nat} {f : Nat → Pr} (h : ¬ does N b d) : Wv N e b f d = top := if_neg h
theorem wv_e {N : Nt} {e b d : Nat} {f : Nat → Pr} (h : does N b d) (he : b = e) : Wv N e b f d = (0, 1) := (if_pos h).trans (if_pos he)
theorem wv_n {N : Nt} {e b d : Nat} {f : Nat → Pr} (h : does N b d) (he : b ≠ e) : Wv N e b f d = bs top ((ops (lk N b d) d).map (op f)) := (if_pos h).trans (if_neg he)
/-- the price of going on from d, k beats before the last -/
noncomputable def V (N : Nt) (e : Nat) : Nat → Nat → Pr
  | 0 => Wv N e e (fun _ => top)
  | k + 1 => Wv N e (e - (k + 1)) (V N e k)
theorem okP_w {m m' : Nat} {p : Pr} (h : okP m p) (hm : m ≤ m') : okP m' p := by
  rcases h with h | h
  · exact Or.inl h
  · exact Or.inr ⟨by omega, h.2⟩
theorem okP_bs {m : Nat} (hm : m ≤ 40) {f : Nat → Pr} (hf : ∀ e, e < 2187 → okP m (f e)) {p : Pr} (hp : okP (m + 2) p) : ∀ l : List (Nat × Nat), (∀ a ∈ l, a.1 < 2187 ∧ a.2 ≤ 2) → okP (m + 2) (bs p (l.map (op f)))
  | [], _ => hp
  | a :: l, h => by
    have h1 := okP_bs hm hf hp l (fun q hq => h q (List.mem_cons_of_mem _ hq))
    have h2 := h a List.mem_cons_self
    show okP (m + 2) (bt (op f a) (bs p (l.map (op f))))
    rw [bt_comm]
    exact (okP_bt hm h1 (hf a.1 h2.1) h2.2).1
theorem wv_ok {N : Nt} {e b d m : Nat} {f : Nat → Pr} (hm : m ≤ 40) (hd : d < 2187) (hf : ∀ e, e < 2187 → okP m (f e)) : okP (m + 2) (Wv N e b f d) := by
  by_cases c : does N b d
  · by_cases c2 : b = e
    · rw [wv_e c c2]
      exact Or.inr ⟨by show 0 ≤ _; omega, by show 1 ≤ 1000000; omega⟩
    · rw [wv_n c c2]
      exact okP_bs hm hf (Or.inl rfl) _ (fun a ha => ops_b hd ha)
  · rw [wv_f c]
    exact Or.inl rfl
theorem V_ok {N : Nt} {e : Nat} : ∀ k d : Nat, k < 12 → d < 2187 → okP (2 * k + 2) (V N e k d)
  | 0, d, _, hd => wv_ok (m := 0) (by omega) hd (fun _ _ => Or.inl rfl)
  | k + 1, d, hk, hd => okP_w (wv_ok (m := 2 * k + 2) (by omega) hd (fun q hq => V_ok k q (by omega) hq)) (by omega)
theorem tell_v {M : Mm} (h : WP (M 213)) {b e d m : Nat} (he : b ≤ e) (h11 : e < 12) (hd : d < 2187) (hm : m ≤ 40) {f : Nat → Pr} (hf : ∀ e, e < 2187 → okP m (f e)) (hR : b < e → Rw M (b + 1) f) (K : Int32 × Int32 × Mm → Option Mm) :
    ∃ M1 u, Option.bind (f_X7_doesFor (nI b) (nI d) M) (fun q_24 =>
     nm (if q_24 = 0 then (100001 : Int32) else (if nI b = nI e then (0 : Int32) else (100000 : Int32))) (fun q_28 =>
     nm (if q_28 = 0 then (1 : Int32) else (0 : Int32)) (fun q_34 =>
     Option.bind (if q_28 = (100000 : Int32) then (
     Option.bind (f_X7_tellNext (nI b) (nI d) M) (fun q_84 =>
     Option.bind (L_X7_tell_79 (nI b) q_84 FU q_28 q_34 (0 : Int32)) (fun q_89 =>
     some (q_89.1, q_89.2, q_84)))) else (some (q_28, q_34, M))) K))) = K (nI u, nI (Wv (M 213) e b f d).2, M1) ∧ Fr M M1 ∧ (if nI u ≤ (100000 : Int32) then nI u else (100000 : Int32)) = nI (eC (Wv (M 213) e b f d).1) := by
  rw [doesFor_m h (by omega) hd, bd_s, nm_d, nm_d]
  by_cases c : does (M 213) b d
  · rw [if_neg (fun q => yes_0.mp q c)]
    by_cases c2 : b = e
    · rw [if_pos (congrArg nI c2), if_pos rfl, if_neg (by decide), bd_s, wv_e c c2]
      exact ⟨M, 0, rfl, fr_r M, by decide⟩
    · obtain ⟨M1, q1, q2, q3⟩ := tellNext_m h (show b < 12 by omega) hd
      have hR1 : Rw M1 (b + 1) f := by
        have h9 := hR (by omega)
        intro t ht
        rw [fr_c q3 (by decide) (by decide) (by decide), fr_c q3 (by decide) (by decide) (by decide)]
        exact h9 t ht
      have h8 := tell_i (show b < 11 by omega) hm hf hR1 q2 ops_l (fun a ha => ops_b hd ha) (ops (lk (M 213) b d) d).length FU 0 top (by omega) (by have := ops_l (L := lk (M 213) b d) (d := d); unfold FU; omega) (Or.inl rfl)
      rw [List.drop_zero] at h8
      obtain ⟨h8, h7⟩ := h8
      have h6 := eC_b h7 (by omega)
      rw [if_neg (fun q => c2 ((zeq (by omega) (by omega)).mp q)), if_pos rfl, if_neg (show ¬ (100000 : Int32) = 0 by decide), q1, bd_s, wv_n c c2]
      have e9 : L_X7_tell_79 (nI b) M1 FU (100000 : Int32) (0 : Int32) (0 : Int32) = L_X7_tell_79 (nI b) M1 FU (nI (eC top.1)) (nI top.2) (nI 0) := rfl
      rw [e9, h8, bd_s, bd_s]
      refine ⟨M1, _, rfl, q3, ?_⟩
      rw [if_pos ((zle5' (by omega)).mpr h6.1)]
  · rw [if_pos (yes_f c), if_neg (by decide), if_neg (by decide), bd_s, wv_f c]
    exact ⟨M, 100001, rfl, fr_r M, by decide⟩
theorem zleD {a : Nat} (ha : a < 2147483648) : (2187 : Int32) ≤ nI a ↔ 2187 ≤ a := zle (a := 2187) (by omega) ha
/-- but for the model's list and its row b, M' is M -/
def Ft (b : Nat) (M M' : Mm) : Prop := ∀ a j, a ≠ 220 → a ≠ 221 → ¬ (a = 212 ∧ j = 11) → ¬ ((a = 218 ∨ a = 219) ∧ 2187 * b ≤ j ∧ j < 2187 * b + 2187) → M' a j = M a j
theorem ft_r (b : Nat) (M : Mm) : Ft b M M := fun _ _ _ _ _ _ => rfl
theorem ft_t {b : Nat} {M M' M'' : Mm} (h : Ft b M M') (h' : Ft b M' M'') : Ft b M M'' := fun a j h1 h2 h3 h4 => (h' a j h1 h2 h3 h4).trans (h a j h1 h2 h3 h4)
theorem ft_c {b : Nat} {M M' : Mm} (h : Ft b M M') {a : Nat} (h1 : a ≠ 220) (h2 : a ≠ 221) (h3 : a ≠ 212) (h4 : a ≠ 218) (h5 : a ≠ 219) : M' a = M a := funext (fun j => h a j h1 h2 (fun q => h3 q.1) (fun q => q.1.elim h4 h5))
theorem ft_R {b b' : Nat} {M M' : Mm} {f : Nat → Pr} (h : Ft b M M') (hb : b ≠ b') (hR : Rw M b' f) : Rw M' b' f := by
  intro d hd
  rw [h 218 _ (by decide) (by decide) (fun q => absurd q.1 (by decide)) (fun q => by omega), h 219 _ (by decide) (by decide) (fun q => absurd q.1 (by decide)) (fun q => by omega)]
  exact hR d hd
theorem tell_d {e b m : Nat} (he : b ≤ e) (h11 : e < 12) (hm : m ≤ 40) {N : Nt} {f : Nat → Pr} (hf : ∀ e, e < 2187 → okP m (f e)) : ∀ (k n d : Nat) (M : Mm), d + k = 2187 → k < n → M 213 = N → WP N → (b < e → Rw M (b + 1) f) →
    (∀ t, t < d → M 218 (2187 * b + t) = nI (eC (Wv N e b f t).1) ∧ M 219 (2187 * b + t) = nI (Wv N e b f t).2) →
    ∃ M', L_X7_tell_17 (nI e) (nI b) n (nI d) M = some M' ∧ Rw M' b (Wv N e b f) ∧ Ft b M M'
  | _, 0, _, _, _, h2, _, _, _, _ => by omega
  | 0, n + 1, d, M, h1, h2, h3, h4, h5, h6 => by
    rw [L_X7_tell_17, if_pos ((zleD (by omega)).mpr (by omega))]
    exact ⟨M, rfl, fun t ht => h6 t (by omega), ft_r b M⟩
  | k + 1, n + 1, d, M, h1, h2, h3, h4, h5, h6 => by
    subst h3
    rw [L_X7_tell_17, if_neg (fun q => by have := (zleD (by omega)).mp q; omega)]
    obtain ⟨M1, u, q1, q2, q3⟩ := tell_v h4 he h11 (show d < 2187 by omega) hm hf h5 _
    rw [q1, nm_d, q3]
    have ex : (2187 : Int32) * nI b + nI d = nI (2187 * b + d) := by rw [show (2187 : Int32) = nI 2187 from rfl, zmu, zad]
    rw [ex, ck_t (ib_nI (by omega) (by decide)), nm_d, ck_t (ib_nI (by omega) (by decide)), nm_d, zcl (by omega), nI_s]
    have e213 : M1 213 = M 213 := fr_c q2 (by decide) (by decide) (by decide)
    have hF : Ft b M (mw (mw M1 218 (2187 * b + d) (nI (eC (Wv (M 213) e b f d).1))) 219 (2187 * b + d) (nI (Wv (M 213) e b f d).2)) := by
      intro a j g1 g2 g3 g4
      rw [mw_at, if_neg (fun q => g4 ⟨Or.inr q.1, by omega⟩), mw_at, if_neg (fun q => g4 ⟨Or.inl q.1, by omega⟩)]
      exact q2 a j g1 g2 g3
    obtain ⟨M2, r1, r2, r3⟩ := tell_d he h11 hm hf k n (d + 1) (mw (mw M1 218 (2187 * b + d) (nI (eC (Wv (M 213) e b f d).1))) 219 (2187 * b + d) (nI (Wv (M 213) e b f d).2)) (by omega) (by omega) (by rw [mw_c (by decide), mw_c (by decide), e213]) h4 (fun q => ft_R hF (by omega) (h5 q)) (by
      intro t ht
      by_cases c : t = d
      · subst c
        rw [mw_c (show (218 : Nat) ≠ 219 by decide), mw_s, mw_s]
        exact ⟨rfl, rfl⟩
      · rw [mw_c (show (218 : Nat) ≠ 219 by decide), mw_o (by omega), mw_o (by omega), mw_c (show (219 : Nat) ≠ 218 by decide), fr_c q2 (a := 218) (by decide) (by decide) (by decide), fr_c q2 (a := 219) (by decide) (by decide) (by decide)]
        exact h6 t (by omega))
    exact ⟨M2, r1, r2, ft_t hF r3⟩
