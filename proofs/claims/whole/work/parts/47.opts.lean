/-! PURE: the options, foot by foot -/
theorem bs_hd {z x : Pr} {l : List Pr} : bs z (x :: l) = bt (bs x l) z := by
  rw [← bs_out, bt_comm, bs_out, bt_comm]
  rfl
theorem bs_2 {x y : Pr} {α : Type} {p q : α → Pr} : ∀ B : List α, bs (bt x y) (B.map (fun l => bt (p l) (q l))) = bt (bs x (B.map p)) (bs y (B.map q))
  | [] => rfl
  | l :: B => by
    show bt (bt (p l) (q l)) (bs (bt x y) _) = bt (bt (p l) (bs x _)) (bt (q l) (bs y _))
    rw [bs_2 B, bt_assoc, bt_assoc, ← bt_assoc (q l), bt_comm (q l), bt_assoc]
theorem bs_swap {α β : Type} {u : Pr} {a : α → Pr} {b : β → Pr} {c : α → β → Pr} {B : List β} : ∀ A : List α, bs (bs u (B.map b)) (A.map (fun r => bs (a r) (B.map (c r)))) = bs (bs u (A.map a)) (B.map (fun l => bs (b l) (A.map (fun r => c r l))))
  | [] => rfl
  | r :: A => by
    show bt (bs (a r) (B.map (c r))) (bs _ _) = bs (bt (a r) (bs u (A.map a))) (B.map (fun l => bt (c r l) (bs (b l) (A.map (fun r => c r l)))))
    rw [bs_swap A, bs_2]
/-- moves of the pedals F, but for those that L locks -/
noncomputable def ml (L : Nat → Prop) : List Nat → List (Nat × Nat)
  | [] => []
  | p :: F => haveI := Classical.propDecidable (L p); if L p then ml L F else (p, 1) :: (p, 2) :: ml L F
theorem ml_fl {L : Nat → Prop} {d : Nat} : ∀ F, fl L d F = (ml L F).map (fun m => mv d m.1 m.2)
  | [] => rfl
  | p :: F => by
    rw [fl, ml, ml_fl F]
    split <;> rfl
theorem ml_in {L : Nat → Prop} {m : Nat × Nat} : ∀ F, m ∈ ml L F → m.1 ∈ F
  | [], h => by cases h
  | p :: F, h => by
    rw [ml] at h
    split at h
    · exact List.mem_cons_of_mem _ (ml_in F h)
    · rcases List.mem_cons.mp h with h | h
      · rw [h]
        exact List.mem_cons_self
      · rcases List.mem_cons.mp h with h | h
        · rw [h]
          exact List.mem_cons_self
        · exact List.mem_cons_of_mem _ (ml_in F h)
def fL : List Nat := [0, 1, 6]
def fR : List Nat := [2, 3, 4, 5]
theorem mv_hi {d p k : Nat} (hp : p < 7) : mv d p k / 3 ^ (p + 1) = d / 3 ^ (p + 1) := by
  unfold mv sd
  rcases p7 hp with h | h | h | h | h | h | h <;> subst h <;> omega
theorem mv_lo {d p k : Nat} (hp : p < 7) : mv d p k % 3 ^ p = d % 3 ^ p := by
  unfold mv sd
  rcases p7 hp with h | h | h | h | h | h | h <;> subst h <;> omega
theorem sd_hi {x p q : Nat} (h : p < q) : sd x q = x / 3 ^ (p + 1) / 3 ^ (q - (p + 1)) % 3 := by
  unfold sd
  rw [Nat.div_div_eq_div_mul, ← Nat.pow_add, show p + 1 + (q - (p + 1)) = q by omega]
theorem sd_lo {x p q : Nat} (h : q < p) : sd x q = x % 3 ^ p % (3 ^ q * 3) / 3 ^ q := by
  unfold sd
  rw [Nat.mod_mod_of_dvd _ (show 3 ^ q * 3 ∣ 3 ^ p from Nat.pow_dvd_pow 3 (show q + 1 ≤ p from h)), Nat.mod_mul_right_div_self]
theorem sd_mq {d p q k : Nat} (hp : p < 7) (hq : p ≠ q) : sd (mv d p k) q = sd d q := by
  by_cases c : p < q
  · rw [sd_hi c, sd_hi (x := d) c, mv_hi hp]
  · rw [sd_lo (p := p) (by omega), sd_lo (x := d) (p := p) (by omega), mv_lo hp]
theorem sd_mv {d p q k : Nat} (hp : p ∈ fL) (hq : q ∈ fR) : sd (mv d p k) q = sd d q ∧ sd (mv d q k) p = sd d p := by
  have hp' : p = 0 ∨ p = 1 ∨ p = 6 := by simpa [fL] using hp
  have hq' : q = 2 ∨ q = 3 ∨ q = 4 ∨ q = 5 := by simpa [fR] using hq
  exact ⟨sd_mq (by omega) (by omega), sd_mq (by omega) (by omega)⟩
theorem mv_cm {d p q k j : Nat} (hp : p ∈ fL) (hq : q ∈ fR) : mv (mv d p k) q j = mv (mv d q j) p k := by
  have hp' : p = 0 ∨ p = 1 ∨ p = 6 := by simpa [fL] using hp
  have hq' : q = 2 ∨ q = 3 ∨ q = 4 ∨ q = 5 := by simpa [fR] using hq
  have h1 := mv_i (d := mv d p k) (k := j) (show q < 7 by omega)
  have h2 := mv_i (d := mv d q j) (k := k) (show p < 7 by omega)
  have h3 := mv_i (d := d) (k := k) (show p < 7 by omega)
  have h4 := mv_i (d := d) (k := j) (show q < 7 by omega)
  rw [(sd_mv hp hq).1] at h1
  rw [(sd_mv hp hq).2] at h2
  omega
/-- the sum over one move of F out of d, or none -/
noncomputable def sf (L : Nat → Prop) (F : List Nat) (f : Nat → Pr) (d : Nat) : Pr := bs (f d) ((fl L d F).map (fun e => sh 1 (f e)))
theorem sf_ml {L : Nat → Prop} {F : List Nat} {f : Nat → Pr} {d : Nat} : sf L F f d = bs (f d) ((ml L F).map (fun m => sh 1 (f (mv d m.1 m.2)))) := by
  unfold sf
  rw [ml_fl, List.map_map]
  rfl
theorem sf_sh {L : Nat → Prop} {F : List Nat} {f : Nat → Pr} {d : Nat} : sh 1 (sf L F f d) = bs (sh 1 (f d)) ((ml L F).map (fun m => sh 2 (f (mv d m.1 m.2)))) := by
  rw [sf_ml, bs_sh, List.map_map]
  rfl
/-- the feet in either order -/
theorem sf_swap {L : Nat → Prop} {f : Nat → Pr} {d : Nat} : sf L fR (sf L fL f) d = sf L fL (sf L fR f) d := by
  rw [sf_ml, sf_ml (F := fL), sf_ml (F := fL), sf_ml (F := fR) (f := f)]
  have e1 : (ml L fR).map (fun m => sh 1 (sf L fL f (mv d m.1 m.2))) = (ml L fR).map (fun r => bs (sh 1 (f (mv d r.1 r.2))) ((ml L fL).map (fun m => sh 2 (f (mv (mv d r.1 r.2) m.1 m.2))))) := List.map_congr_left (fun m _ => sf_sh)
  have e2 : (ml L fL).map (fun m => sh 1 (sf L fR f (mv d m.1 m.2))) = (ml L fL).map (fun l => bs (sh 1 (f (mv d l.1 l.2))) ((ml L fR).map (fun m => sh 2 (f (mv (mv d m.1 m.2) l.1 l.2))))) := List.map_congr_left (fun m hm => by
    rw [sf_sh]
    congr 1
    exact List.map_congr_left (fun n hn => by rw [mv_cm (ml_in _ hm) (ml_in _ hn)]))
  rw [e1, e2]
  exact bs_swap (c := fun (r l : Nat × Nat) => sh 2 (f (mv (mv d r.1 r.2) l.1 l.2))) (ml L fR)
theorem opR_e {L : Nat → Prop} {e c : Nat} : opR L e c 9 0 = (e, c) :: (fl L e fR).map (fun x => (x, c + 1)) := by
  by_cases h2 : L 2 <;> by_cases h3 : L 3 <;> by_cases h4 : L 4 <;> by_cases h5 : L 5 <;> simp [opR, rgt, one, fl, fR, ft, h2, h3, h4, h5]
theorem opL_e {L : Nat → Prop} {d : Nat} : ops L d = opR L d 0 9 0 ++ (fl L d [6, 0, 1]).flatMap (fun x => opR L x 1 9 0) := by
  unfold ops
  by_cases h2 : L 6 <;> by_cases h3 : L 0 <;> by_cases h4 : L 1 <;> simp [opL, lft, one, fl, ft, h2, h3, h4]
theorem opR_s {L : Nat → Prop} {e c : Nat} {f : Nat → Pr} {z : Pr} : bs z ((opR L e c 9 0).map (op f)) = bt (sh c (sf L fR f e)) z := by
  rw [opR_e, List.map_cons, bs_hd, List.map_map]
  congr 1
  unfold sf
  rw [bs_sh, List.map_map]
  have e1 : ((op f ∘ fun x => (x, c + 1)) : Nat → Pr) = (sh c ∘ fun e => sh 1 (f e)) := funext (fun x => by
    show sh (c + 1) (f x) = sh c (sh 1 (f x))
    rw [sh_sh, Nat.add_comm])
  rw [e1]
  rfl
theorem fl_s {L : Nat → Prop} {f : Nat → Pr} {z : Pr} : ∀ l : List Nat, bs z ((l.flatMap (fun x => opR L x 1 9 0)).map (op f)) = bs z (l.map (fun x => sh 1 (sf L fR f x)))
  | [] => rfl
  | x :: l => by
    rw [List.flatMap_cons, List.map_append, bs_app, opR_s, fl_s l]
    rfl
theorem sh_0 (a : Pr) : sh 0 a = a := rfl
theorem fl_left {L : Nat → Prop} {d : Nat} : (fl L d [6, 0, 1]).Perm (fl L d fL) := by
  have h : ∀ F, fl L d (6 :: F) = fl L d [6] ++ fl L d F := fun F => by
    by_cases c : L 6
    · rw [fl_t c, fl_t c]
      rfl
    · rw [fl_f c, fl_f c]
      rfl
  have h0 : fl L d fL = fl L d [0, 1] ++ fl L d [6] := by
    by_cases c0 : L 0 <;> by_cases c1 : L 1 <;> simp [fl, fL, c0, c1]
  rw [h, h0]
  exact List.perm_append_comm
theorem ops_s {L : Nat → Prop} {d : Nat} {f : Nat → Pr} {z : Pr} : bs z ((ops L d).map (op f)) = bt (sf L fL (sf L fR f) d) z := by
  rw [opL_e, List.map_append, bs_app, opR_s, fl_s, sh_0]
  show bs z ((sf L fR f d) :: (fl L d [6, 0, 1]).map (fun x => sh 1 (sf L fR f x))) = _
  rw [bs_hd]
  congr 1
  exact bs_perm (fl_left.map _)
/-- only locks of the foot's own pedals matter -/
theorem fl_c {L L' : Nat → Prop} {d : Nat} : ∀ F, (∀ p, p ∈ F → (L p ↔ L' p)) → fl L d F = fl L' d F
  | [], _ => rfl
  | p :: F, h => by
    have ih := fl_c (d := d) F (fun q hq => h q (List.mem_cons_of_mem _ hq))
    by_cases c : L p
    · rw [fl_t c, fl_t ((h p List.mem_cons_self).mp c), ih]
    · rw [fl_f c, fl_f (fun q => c ((h p List.mem_cons_self).mpr q)), ih]
theorem sf_c {L L' : Nat → Prop} {d : Nat} {F : List Nat} {f : Nat → Pr} (h : ∀ p, p ∈ F → (L p ↔ L' p)) : sf L F f d = sf L' F f d := by
  unfold sf
  rw [fl_c F h]
/-- the class's sets of pedals -/
def PL (L : Nat → Prop) (p : Nat) : Prop := p ∈ fL ∧ ¬ L p
def PR (L : Nat → Prop) (p : Nat) : Prop := p ∈ fR ∧ ¬ L p
theorem fr_L {L : Nat → Prop} {d : Nat} : fl nL d (fr (PL L) 7 0) = fl L d fL := by
  by_cases h0 : L 0 <;> by_cases h1 : L 1 <;> by_cases h6 : L 6 <;> simp [fr, PL, fl, fL, nL, h0, h1, h6]
theorem fr_R {L : Nat → Prop} {d : Nat} : fl nL d (fr (PR L) 7 0) = fl L d fR := by
  by_cases h2 : L 2 <;> by_cases h3 : L 3 <;> by_cases h4 : L 4 <;> by_cases h5 : L 5 <;> simp [fr, PR, fl, fR, nL, h2, h3, h4, h5]
theorem sg_L {L : Nat → Prop} {f : Nat → Pr} {d : Nat} : sg nL (fr (PL L) 7 0) f f d = sf L fL f d := by
  unfold sg sf
  rw [fr_L]
theorem sg_R {L : Nat → Prop} {f : Nat → Pr} {d : Nat} : sg nL (fr (PR L) 7 0) f f d = sf L fR f d := by
  unfold sg sf
  rw [fr_R]
