/-! PURE: exists of the class -/
/-- one can stand at beat b -/
def cs (N : Nt) (b : Nat) : Prop := ∃ d, d < 2187 ∧ A N b d < 63 ∧ does N b d
def stkP (N : Nt) (s : Nat) : Prop := s < pl N ∧ (∀ b, b < s → cs N b) ∧ (s + 1 = pl N ∨ ¬ cs N s)
def SolO (N : Nt) (M : Mm) : Prop := M 161 15 = enc (BP N) ∧ ((BP N).1 < 63 → ∃ w, isW N w ∧ ∀ i, i < pl N → M 203 i = nI (w i))
/-- what the way's memory holds is right of N -/
def WI (N : Nt) (M : Mm) : Prop := ∃ o k : Nat, o ≤ 12 ∧ k ≤ 12 ∧ M 161 12 = nI o ∧ OnO N M o ∧ M 161 13 = oI ((k : Int) - 1) ∧ ArO N M k ∧ (M 161 14 = 0 ∨ (o = 0 ∧ SolO N M)) ∧ (M 161 16 = 0 ∨ ∃ s, M 161 17 = nI s ∧ stkP N s)
/-- but for the way, M' is M -/
def FW (M M' : Mm) : Prop := ∀ c, ¬ (161 ≤ c ∧ c ≤ 203) → M' c = M c
theorem fW_t {M M' M'' : Mm} (h : FW M M') (h' : FW M' M'') : FW M M'' := fun c g => (h' c g).trans (h c g)
theorem BP_d {N : Nt} : BP N = bsn (tp N) 2187 := by
  unfold BP
  rfl
theorem BP_f {N : Nt} : BP N = bsn (bsf (A N 0) (VB N 0)) 2187 := by rw [BP_d, tp_V]
theorem BP_E {N : Nt} (hN : WP N) : okE (BP N) ∧ (BP N).1 ≤ 63 := by
  refine ⟨?_, by rw [BP_d]; exact bsn_1 _ _⟩
  rw [BP_f]
  have hE : ∀ t, t < 2187 → okE (bsf (A N 0) (VB N 0) t) := fun t ht => by
    have h2 := okP_E (by omega) (VB_ok (b := 0) hN t ht)
    have h3 := V_1 (b := 0) hN ht
    have h4 := ahd_b N t
    exact ⟨by show (VB N 0 t).1 + ahd N t ≤ 1000; omega, h2.2⟩
  have hB : ∀ t, t ≤ 2187 → okE (bsn (bsf (A N 0) (VB N 0)) t) := fun t => by
    induction t with
    | zero => exact fun _ => ⟨by show 63 ≤ 1000; omega, Nat.zero_le _⟩
    | succ t ih => exact fun ht => okE_bt (ih (by omega)) (hE t (by omega))
  exact hB 2187 (Nat.le_refl _)
