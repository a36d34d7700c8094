/-! PURE: the prices of the ways on -/
theorem zle {a b : Nat} (ha : a < 2147483648) (hb : b < 2147483648) : nI a ≤ nI b ↔ a ≤ b := by
  rw [oI_n, oI_n, oI_le ⟨by omega, by omega⟩ ⟨by omega, by omega⟩]
  omega
theorem zlt {a b : Nat} (ha : a < 2147483648) (hb : b < 2147483648) : nI a < nI b ↔ a < b := by
  rw [oI_n, oI_n, oI_lt ⟨by omega, by omega⟩ ⟨by omega, by omega⟩]
  omega
theorem zeq {a b : Nat} (ha : a < 2147483648) (hb : b < 2147483648) : nI a = nI b ↔ a = b := by
  rw [oI_n, oI_n, oI_eq ⟨by omega, by omega⟩ ⟨by omega, by omega⟩]
  omega
theorem zad (a b : Nat) : nI a + nI b = nI (a + b) := by rw [oI_n, oI_n, oI_n, oI_add]; congr 1
theorem zmu (a b : Nat) : nI a * nI b = nI (a * b) := by rw [oI_n, oI_n, oI_n, oI_mul]; congr 1
theorem zcl {a : Nat} (ha : a < 2147483648) : (nI a).toNatClampNeg = a := by
  rw [oI_n, oI_cl ⟨by omega, by omega⟩]
  omega
theorem zle5 {a : Nat} (ha : a < 2147483648) : (100000 : Int32) ≤ nI a ↔ 100000 ≤ a := zle (a := 100000) (by omega) ha
theorem zle5' {a : Nat} (ha : a < 2147483648) : nI a ≤ (100000 : Int32) ↔ a ≤ 100000 := zle (b := 100000) ha (by omega)
theorem zle6 {a : Nat} (ha : a < 2147483648) : nI a ≤ (1000000 : Int32) ↔ a ≤ 1000000 := zle (b := 1000000) ha (by omega)
def top : Pr := (63, 0)
/-- a price of at most m moves, or none -/
def okP (m : Nat) (p : Pr) : Prop := p = top ∨ (p.1 ≤ m ∧ p.2 ≤ 1000000)
/-- moves as the model writes them -/
def eC (c : Nat) : Nat := if 63 ≤ c then 100000 else c
/-- the model's step -/
def stp (u v w m : Nat) : Nat × Nat :=
  ((if u ≤ w then u else w), min ((if u ≤ w then v else 0) + (if w = (if u ≤ w then u else w) then (if 100000 ≤ w then 0 else m) else 0)) 1000000)
theorem eC_t : eC 63 = 100000 := rfl
theorem eC_f {c : Nat} (h : c < 63) : eC c = c := if_neg (by omega)
theorem bt_l {p q : Pr} (h : p.1 < q.1) : bt p q = p := if_pos h
theorem bt_r {p q : Pr} (h : q.1 < p.1) : bt p q = q := (if_neg (by omega)).trans (if_pos h)
theorem bt_e {p q : Pr} (h : p.1 = q.1) : bt p q = (p.1, min (p.2 + q.2) 1000000) := (if_neg (by omega)).trans (if_neg (by omega))
theorem stp_l {u v w m : Nat} (h : u < w) (hv : v ≤ 1000000) : stp u v w m = (u, v) := by
  unfold stp
  rw [if_pos (show u ≤ w by omega), if_pos (show u ≤ w by omega), if_neg (by omega), Nat.add_zero, Nat.min_eq_left hv]
theorem stp_e {v w m : Nat} (h : w < 100000) : stp w v w m = (w, min (v + m) 1000000) := by
  unfold stp
  rw [if_pos (Nat.le_refl w), if_pos (Nat.le_refl w), if_pos rfl, if_neg (by omega)]
theorem stp_t {v w m : Nat} (h : 100000 ≤ w) (hv : v ≤ 1000000) : stp w v w m = (w, v) := by
  unfold stp
  rw [if_pos (Nat.le_refl w), if_pos (Nat.le_refl w), if_pos rfl, if_pos h, Nat.add_zero, Nat.min_eq_left hv]
theorem stp_r {u v w m : Nat} (h : w < u) (hw : w < 100000) (hm : m ≤ 1000000) : stp u v w m = (w, m) := by
  unfold stp
  rw [if_neg (show ¬ u ≤ w by omega), if_neg (show ¬ u ≤ w by omega), if_pos rfl, if_neg (by omega), Nat.zero_add, Nat.min_eq_left hm]
theorem okP_bt {m c : Nat} {p q : Pr} (hm : m ≤ 40) (hp : okP (m + 2) p) (hq : okP m q) (hc : c ≤ 2) : okP (m + 2) (bt p (sh c q)) ∧ stp (eC p.1) p.2 (c + eC q.1) q.2 = (eC (bt p (sh c q)).1, (bt p (sh c q)).2) := by
  obtain ⟨p1, p2⟩ := p
  obtain ⟨q1, q2⟩ := q
  unfold okP top at hp hq
  rw [Prod.mk.injEq] at hp hq
  have es : sh c (q1, q2) = (q1 + c, q2) := rfl
  rw [es]
  have hp2 : p2 ≤ 1000000 := by
    rcases hp with ⟨e1, e2⟩ | hp
    · omega
    · exact hp.2
  rcases hq with ⟨e1, e2⟩ | hq
  · subst e1 e2
    rcases hp with ⟨e1, e2⟩ | hp
    · subst e1 e2
      have hc' : c = 0 ∨ c = 1 ∨ c = 2 := by omega
      rcases hc' with h | h | h <;> subst h <;> exact ⟨Or.inl rfl, by decide⟩
    · have h1 : p1 ≤ m + 2 := hp.1
      rw [bt_l (show p1 < 63 + c by omega)]
      refine ⟨Or.inr hp, ?_⟩
      show stp (eC p1) p2 (c + eC 63) 0 = (eC p1, p2)
      rw [eC_t, eC_f (by omega), stp_l (by omega) hp2]
  · have h2 : q1 ≤ m := hq.1
    have h4 : q2 ≤ 1000000 := hq.2
    rcases hp with ⟨e1, e2⟩ | hp
    · subst e1 e2
      rw [bt_r (show q1 + c < 63 by omega)]
      refine ⟨Or.inr ⟨by show q1 + c ≤ m + 2; omega, hq.2⟩, ?_⟩
      show stp (eC 63) 0 (c + eC q1) q2 = (eC (q1 + c), q2)
      rw [eC_t, eC_f (show q1 < 63 by omega), eC_f (show q1 + c < 63 by omega), stp_r (by omega) (by omega) h4, Nat.add_comm]
    · have h1 : p1 ≤ m + 2 := hp.1
      rcases Nat.lt_trichotomy p1 (q1 + c) with h | h | h
      · rw [bt_l (show p1 < q1 + c from h)]
        refine ⟨Or.inr hp, ?_⟩
        show stp (eC p1) p2 (c + eC q1) q2 = (eC p1, p2)
        rw [eC_f (show p1 < 63 by omega), eC_f (show q1 < 63 by omega), stp_l (by omega) hp2]
      · rw [bt_e (show p1 = q1 + c from h)]
        refine ⟨Or.inr ⟨h1, ?_⟩, ?_⟩
        · show min (p2 + q2) 1000000 ≤ 1000000
          omega
        · show stp (eC p1) p2 (c + eC q1) q2 = (eC p1, min (p2 + q2) 1000000)
          rw [eC_f (show p1 < 63 by omega), eC_f (show q1 < 63 by omega), show c + q1 = p1 by omega, stp_e (by omega)]
      · rw [bt_r (show q1 + c < p1 from h)]
        refine ⟨Or.inr ⟨by show q1 + c ≤ m + 2; omega, hq.2⟩, ?_⟩
        show stp (eC p1) p2 (c + eC q1) q2 = (eC (q1 + c), q2)
        rw [eC_f (show p1 < 63 by omega), eC_f (show q1 < 63 by omega), eC_f (show q1 + c < 63 by omega), stp_r (by omega) (by omega) h4, Nat.add_comm]
theorem eC_b {m : Nat} {p : Pr} (h : okP m p) (hm : m ≤ 50) : eC p.1 ≤ 100000 ∧ p.2 ≤ 1000000 := by
  unfold eC
  rcases h with h | h
  · subst h
    exact ⟨by decide, by decide⟩
  · exact ⟨by split <;> omega, h.2⟩
/-- the model's row b holds f -/
def Rw (M : Mm) (b : Nat) (f : Nat → Pr) : Prop := ∀ d, d < 2187 → M 218 (2187 * b + d) = nI (eC (f d).1) ∧ M 219 (2187 * b + d) = nI (f d).2
/-- an option's price -/
def op (f : Nat → Pr) (a : Nat × Nat) : Pr := sh a.2 (f a.1)
theorem tell_i {M : Mm} {b : Nat} (hb : b < 11) {m : Nat} (hm : m ≤ 40) {f : Nat → Pr} (hf : ∀ e, e < 2187 → okP m (f e)) (hR : Rw M (b + 1) f) {l : List (Nat × Nat)} (hl : Lst M l) (hz : l.length ≤ 63) (ha : ∀ a ∈ l, a.1 < 2187 ∧ a.2 ≤ 2) :
    ∀ (k n i : Nat) (p : Pr), i + k = l.length → k < n → okP (m + 2) p →
    L_X7_tell_79 (nI b) M n (nI (eC p.1)) (nI p.2) (nI i) = some (nI (eC (bs p ((l.drop i).map (op f))).1), nI (bs p ((l.drop i).map (op f))).2) ∧ okP (m + 2) (bs p ((l.drop i).map (op f)))
  | _, 0, _, _, _, h2, _ => by omega
  | 0, n + 1, i, p, h1, h2, h3 => by
    rw [L_X7_tell_79, hl.1, if_pos ((zle (by omega) (by omega)).mpr (by omega)), List.drop_eq_nil_of_le (by omega)]
    exact ⟨rfl, h3⟩
  | k + 1, n + 1, i, p, h1, h2, h3 => by
    have hi : i < l.length := by omega
    have hin := ha l[i] (List.getElem_mem hi)
    obtain ⟨g1, g2⟩ := hl.2 i hi
    obtain ⟨r1, r2⟩ := hR l[i].1 hin.1
    have hq := hf l[i].1 hin.1
    have hqb := eC_b hq (by omega)
    have hpb := eC_b h3 (by omega)
    obtain ⟨s1, s2⟩ := okP_bt hm h3 hq hin.2
    have ex : (2187 : Int32) * (nI b + 1) + nI l[i].1 = nI (2187 * (b + 1) + l[i].1) := by
      rw [show (2187 : Int32) = nI 2187 from rfl, nI_s, zmu, zad]
    rw [L_X7_tell_79, hl.1, if_neg (fun q => by have := (zle (by omega) (by omega)).mp q; omega), ck_t (ib_nI (by omega) (by decide)), nm_d, zcl (by omega), g1, g2, ex, ck_t (ib_nI (by omega) (by decide)), ck_t (ib_nI (by omega) (by decide)), nm_d, zcl (by omega), r1, zad, nm_d, nI_s]
    have e1 : (if nI (eC p.1) ≤ nI (l[i].2 + eC (f l[i].1).1) then (nI (eC p.1), nI p.2) else (nI (l[i].2 + eC (f l[i].1).1), (0 : Int32))) = (nI (if eC p.1 ≤ l[i].2 + eC (f l[i].1).1 then eC p.1 else l[i].2 + eC (f l[i].1).1), nI (if eC p.1 ≤ l[i].2 + eC (f l[i].1).1 then p.2 else 0)) := by
      by_cases c : eC p.1 ≤ l[i].2 + eC (f l[i].1).1
      · rw [if_pos ((zle (by omega) (by omega)).mpr c), if_pos c, if_pos c]
      · rw [if_neg (fun q => c ((zle (by omega) (by omega)).mp q)), if_neg c, if_neg c]
        rfl
    rw [e1]
    have hu : (if eC p.1 ≤ l[i].2 + eC (f l[i].1).1 then eC p.1 else l[i].2 + eC (f l[i].1).1) ≤ 100002 := by split <;> omega
    have hv : (if eC p.1 ≤ l[i].2 + eC (f l[i].1).1 then p.2 else 0) ≤ 1000000 := by split <;> omega
    unfold stp at s2
    rw [Prod.mk.injEq] at s2
    obtain ⟨s2, s3⟩ := s2
    generalize (if eC p.1 ≤ l[i].2 + eC (f l[i].1).1 then eC p.1 else l[i].2 + eC (f l[i].1).1) = u at *
    generalize (if eC p.1 ≤ l[i].2 + eC (f l[i].1).1 then p.2 else 0) = v at *
    dsimp only
    have e2 : (if nI (l[i].2 + eC (f l[i].1).1) = nI u then (if (100000 : Int32) ≤ nI (l[i].2 + eC (f l[i].1).1) then some (0 : Int32) else ck (ib (nI (2187 * (b + 1) + l[i].1)) 26244) (some (M 219 (2187 * (b + 1) + l[i].1)))) else some (0 : Int32)) = some (nI (if l[i].2 + eC (f l[i].1).1 = u then (if 100000 ≤ l[i].2 + eC (f l[i].1).1 then 0 else (f l[i].1).2) else 0)) := by
      by_cases c : l[i].2 + eC (f l[i].1).1 = u
      · rw [if_pos ((zeq (by omega) (by omega)).mpr c), if_pos c]
        by_cases c2 : 100000 ≤ l[i].2 + eC (f l[i].1).1
        · rw [if_pos ((zle5 (by omega)).mpr c2), if_pos c2]
          rfl
        · rw [if_neg (fun q => c2 ((zle5 (by omega)).mp q)), if_neg c2, ck_t (ib_nI (by omega) (by decide)), r2]
      · rw [if_neg (fun q => c ((zeq (by omega) (by omega)).mp q)), if_neg c]
        rfl
    rw [e2, bd_s, nm_d, zad]
    have hw : (if l[i].2 + eC (f l[i].1).1 = u then (if 100000 ≤ l[i].2 + eC (f l[i].1).1 then 0 else (f l[i].1).2) else 0) ≤ 1000000 := by split <;> (try split) <;> omega
    generalize (if l[i].2 + eC (f l[i].1).1 = u then (if 100000 ≤ l[i].2 + eC (f l[i].1).1 then 0 else (f l[i].1).2) else 0) = w at *
    have e3 : (if nI (v + w) ≤ (1000000 : Int32) then nI (v + w) else (1000000 : Int32)) = nI (min (v + w) 1000000) := by
      by_cases c : v + w ≤ 1000000
      · rw [if_pos ((zle6 (by omega)).mpr c), Nat.min_eq_left c]
      · rw [if_neg (fun q => c ((zle6 (by omega)).mp q)), Nat.min_eq_right (by omega)]
        rfl
    rw [nm_d, e3, s3, s2, List.drop_eq_getElem_cons hi, List.map_cons]
    have e4 : bs p (op f l[i] :: (l.drop (i + 1)).map (op f)) = bs (bt p (op f l[i])) ((l.drop (i + 1)).map (op f)) := by
      rw [bs_out, bt_comm]
      rfl
    rw [e4]
    exact tell_i hb hm hf hR hl hz ha k n (i + 1) (bt p (op f l[i])) (by omega) (by omega) s1
