/-! what each call keeps -/
/-- behind the class's call: nothing of the reference has changed -/
def Mid (I J I1 J1 : Mz) : Prop := (∀ a, 121 ≤ a → I1 a = I a) ∧ J1 137 = J 137
/-- what the reference's calls ask for -/
def MP (I J : Mz) : Prop := gR (I 121 0) (I 122) ∧ mT I ∧ mPl I ∧ mK I ∧ mLs I J ∧ mTp I ∧ (I 121 30 = 0 ∨ I 121 30 = 1) ∧ (I 121 30 = 1 → 2 ≤ I 121 31 ∧ I 121 31 ≤ 30)
theorem Inv.mp {I J : Mz} (h : Inv I J) : MP I J := by
  obtain ⟨h1, h2, h3, h4, h5⟩ := h
  refine ⟨h1.1.m, h5.2.2, h1.mPl, h1.mK, h3.m, h4.m, by rw [h2.2.1]; exact h2.1, fun q => ?_⟩
  have := h2.2.2.2.2.2 (by rw [← h2.2.1]; exact q)
  rw [this.1]; exact h2.2.2.1.1
theorem Mid.mp {I J I1 J1 : Mz} (m : Mid I J I1 J1) (h : MP I J) : MP I1 J1 := by
  obtain ⟨m1, m2⟩ := m
  have e121 := m1 121 (by omega)
  have e122 := m1 122 (by omega)
  have e123 := m1 123 (by omega)
  have e124 := m1 124 (by omega)
  have e125 := m1 125 (by omega)
  have e126 := m1 126 (by omega)
  have e127 := m1 127 (by omega)
  have e136 := m1 136 (by omega)
  have e141 := m1 141 (by omega)
  unfold MP mT mPl mK mLs mTp at *
  rw [e121, e122, e123, e124, e125, e126, e127, e136, e141, m2]
  exact h
theorem Inv.mid {I J I1 J1 : Mz} (h : Inv I J) (m : Mid I J I1 J1) : MP I1 J1 := m.mp h.mp
theorem cch_c {I J I' J' : Mz} (h : cch I J) (e87 : I' 87 = I 87) (e88 : I' 88 = I 88) (e96 : I' 96 = I 96) (e97 : I' 97 = I 97) (e98 : I' 98 = I 98) (e99 : I' 99 = I 99) (e90 : J' 90 = J 90) : cch I' J' := by
  unfold cch dOk dP pkOk cOk at *
  rw [e87, e88, e96, e97, e98, e99, e90]; exact h
theorem bOk_c {I I' : Mz} (h : bOk I) (e100 : I' 100 = I 100) (e102 : I' 102 = I 102) : bOk I' := by
  unfold bOk bR at *
  rw [e100, e102]; exact h
/-- nothing but what is kept for speed has changed -/
def Qt (I J I2 J2 : Mz) : Prop := (∀ a, a < 87 → I2 a = I a) ∧ (∀ a, 103 ≤ a → a ≤ 111 → I2 a = I a ∧ J2 a = J a) ∧ (∀ q, q = 0 ∨ q = 3 ∨ q = 25 ∨ q = 30 ∨ q = 31 ∨ q = 32 → I2 121 q = I 121 q) ∧ (∀ a, a = 122 ∨ a = 123 ∨ a = 124 ∨ a = 125 ∨ a = 126 ∨ a = 127 ∨ a = 136 ∨ a = 141 ∨ (143 ≤ a ∧ a ≤ 146) → I2 a = I a) ∧ J2 137 = J 137
theorem Inv.qt {I J I2 J2 : Mz} (h : Inv I J) (q : Qt I J I2 J2) (hc : cch I2 J2) (hb : bOk I2) : Inv I2 J2 := by
  obtain ⟨⟨h1, h2, h3, h4⟩, h5, h6, h7, h8⟩ := h
  obtain ⟨q1, q2, q3, q4, q5⟩ := q
  have e2 := q1 2 (by omega)
  have e4 := q1 4 (by omega)
  have e0 := q1 0 (by omega)
  have e110 := (q2 110 (by omega) (by omega)).1
  refine ⟨⟨h1.c (by rw [e2]) (q1 3 (by omega)) (q3 0 (by omega)) (q4 122 (by omega)), h2.c (by rw [e4]) (q1 5 (by omega)) (q1 6 (by omega)) (q3 3 (by omega)) (q4 123 (by omega)), h3.c (fun a x y => q1 a (by omega)) (q4 124 (by omega)) (q4 125 (by omega)), h4.c (fun a x y => q1 a (by omega)) (q4 124 (by omega)) (q4 125 (by omega))⟩, h5.c (by rw [e0]) (fun a x y => q1 a (by omega)) (q3 30 (by omega)) (q3 31 (by omega)) (q3 32 (by omega)) (fun a x y => q4 a (by omega)), h6.c (fun i x y => ?_) (q4 136 (by omega)) q5, h7.c (by rw [e110]) (q2 111 (by omega) (by omega)).1 (q3 25 (by omega)) (q4 141 (by omega)), hc, hb, ?_⟩
  · have x1 := q2 (lc i) (by simp only [lc]; omega) (by simp only [lc]; omega)
    have x2 := q2 (lc i + 1) (by simp only [lc]; omega) (by simp only [lc]; omega)
    exact ⟨by rw [x1.1], x2.2⟩
  · have := h8.2.2
    unfold mT at *
    rw [q4 126 (by omega), q4 127 (by omega)]; exact this
