theorem pure_law {L : Nat} {sx : Nat → Int32} (hL : L ≤ 3072) : f_L_law L sx M0 = some 1 := by
  obtain ⟨M', e⟩ := law_l (sx := sx) hL FU 0 M0 (by omega) (by unfold FU; omega) M0_I
  rw [nI_00] at e
  unfold f_L_law
  rw [e]
  rfl
