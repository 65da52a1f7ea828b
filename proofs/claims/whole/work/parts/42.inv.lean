/-! how the class's cells stand to the reference's -/
def RowR (I : Mz) : Prop := gR (I 2 0) (I 3) ∧ I 121 0 = I 2 0 ∧ I 122 = I 3
/-- a plan at p against a plan of pl at cell q -/
def PlnE (I : Mz) (p : Nat) (pl : Int) (q : Nat) : Prop := plOk I p ∧ pl = I p 0 ∧ ∀ i, 0 ≤ i → i < I p 0 → I q (2 * i) = I (p + 1) i ∧ I q (2 * i + 1) = I (p + 2) i
/-- shelf s at b against that of cells m, q -/
def ShfE (I : Mz) (b : Nat) (s : Int) (m q : Nat) : Prop := shOk I b ∧ I m s = I b 0 ∧ ∀ k, 0 ≤ k → k < I b 0 → I q (31 * (8 * s + k)) = I (rc b k) 0 ∧ kR (I q) s k = I (rc b k + 1)
def StaR (I : Mz) : Prop := RowR I ∧ PlnE I 4 (I 121 3) 123 ∧ ShfE I 8 0 124 125 ∧ ShfE I 26 1 124 125
def ImgR (I : Mz) : Prop := (I 0 2 = 0 ∨ I 0 2 = 1) ∧ I 121 30 = I 0 2 ∧ gR (I 45 0) (I 46) ∧ (0 ≤ I 51 0 ∧ I 51 0 ≤ 8) ∧ (0 ≤ I 69 0 ∧ I 69 0 ≤ 8) ∧ (I 0 2 = 1 → I 121 31 = I 45 0 ∧ I 143 = I 46 ∧ PlnE I 47 (I 121 32) 144 ∧ ShfE I 51 0 145 146 ∧ ShfE I 69 1 145 146)
def LstR (I J : Mz) : Prop := lsOk I J ∧ (∀ i, 0 ≤ i → i < 3 → I 136 i = I (lc i) 0 ∧ ∀ j, 0 ≤ j → j < 30 → J 137 (30 * i + j) = J (lc i + 1) j) ∧ ∀ j, -9223372036854775808 ≤ J 137 j ∧ J 137 j ≤ 9223372036854775807
def TapR (I : Mz) : Prop := tpOk I ∧ I 121 25 = I 110 2 ∧ I 141 = I 111
def CchR (I J : Mz) : Prop := cch I J ∧ bOk I ∧ mT I
def Inv (I J : Mz) : Prop := StaR I ∧ ImgR I ∧ LstR I J ∧ TapR I ∧ CchR I J
theorem PlnE.c {I I' : Mz} {p q : Nat} {pl pl' : Int} (h : PlnE I p pl q) (e0 : I' p 0 = I p 0) (e1 : I' (p + 1) = I (p + 1)) (e2 : I' (p + 2) = I (p + 2)) (el : pl' = pl) (eq : I' q = I q) : PlnE I' p pl' q := by
  unfold PlnE plOk at *
  rw [e0, e1, e2, el, eq]; exact h
theorem ShfE.c {I I' : Mz} {b m q : Nat} {s : Int} (h : ShfE I b s m q) (e : ∀ a, b ≤ a → a < b + 18 → I' a = I a) (em : I' m = I m) (eq : I' q = I q) : ShfE I' b s m q := by
  have e0 := e b (by omega) (by omega)
  have hb := h.1.1
  have er : ∀ k, 0 ≤ k → k < I b 0 → I' (rc b k) = I (rc b k) ∧ I' (rc b k + 1) = I (rc b k + 1) := fun k a c => ⟨e _ (by simp only [rc]; omega) (by simp only [rc]; omega), e _ (by simp only [rc]; omega) (by simp only [rc]; omega)⟩
  refine ⟨⟨by rw [e0]; exact hb, fun k a c => ?_⟩, by rw [em, e0]; exact h.2.1, fun k a c => ?_⟩
  · rw [e0] at c; rw [(er k a c).1, (er k a c).2]; exact h.1.2 k a c
  · rw [e0] at c; rw [(er k a c).1, (er k a c).2, eq]; exact h.2.2 k a c
theorem RowR.c {I I' : Mz} (h : RowR I) (e0 : I' 2 0 = I 2 0) (e1 : I' 3 = I 3) (e2 : I' 121 0 = I 121 0) (e3 : I' 122 = I 122) : RowR I' := by
  unfold RowR at *
  rw [e0, e1, e2, e3]; exact h
theorem ImgR.c {I I' : Mz} (h : ImgR I) (e0 : I' 0 2 = I 0 2) (ea : ∀ a, 44 < a → a < 87 → I' a = I a) (e30 : I' 121 30 = I 121 30) (e31 : I' 121 31 = I 121 31) (e32 : I' 121 32 = I 121 32) (eb : ∀ a, 143 ≤ a → a ≤ 146 → I' a = I a) : ImgR I' := by
  obtain ⟨h1, h2, h3, h4, h5, h6⟩ := h
  refine ⟨by rw [e0]; exact h1, by rw [e30, e0]; exact h2, by rw [ea 45 (by omega) (by omega), ea 46 (by omega) (by omega)]; exact h3, by rw [ea 51 (by omega) (by omega)]; exact h4, by rw [ea 69 (by omega) (by omega)]; exact h5, fun q => ?_⟩
  obtain ⟨a1, a2, a3, a4, a5⟩ := h6 (by rw [← e0]; exact q)
  refine ⟨by rw [e31, ea 45 (by omega) (by omega)]; exact a1, by rw [eb 143 (by omega) (by omega), ea 46 (by omega) (by omega)]; exact a2, a3.c (by rw [ea 47 (by omega) (by omega)]) (ea 48 (by omega) (by omega)) (ea 49 (by omega) (by omega)) e32 (eb 144 (by omega) (by omega)), a4.c (fun a x y => ea a (by omega) (by omega)) (eb 145 (by omega) (by omega)) (eb 146 (by omega) (by omega)), a5.c (fun a x y => ea a (by omega) (by omega)) (eb 145 (by omega) (by omega)) (eb 146 (by omega) (by omega))⟩
theorem LstR.c {I I' J J' : Mz} (h : LstR I J) (e : ∀ i, 0 ≤ i → i < 3 → I' (lc i) 0 = I (lc i) 0 ∧ J' (lc i + 1) = J (lc i + 1)) (e1 : I' 136 = I 136) (e2 : J' 137 = J 137) : LstR I' J' := by
  obtain ⟨h1, h2, h3⟩ := h
  refine ⟨fun i a b => ?_, fun i a b => ?_, by rw [e2]; exact h3⟩
  · rw [(e i a b).1, (e i a b).2]; exact h1 i a b
  · rw [(e i a b).1, (e i a b).2, e1, e2]; exact h2 i a b
theorem TapR.c {I I' : Mz} (h : TapR I) (e0 : I' 110 2 = I 110 2) (e1 : I' 111 = I 111) (e2 : I' 121 25 = I 121 25) (e3 : I' 141 = I 141) : TapR I' := by
  unfold TapR tpOk at *
  rw [e0, e1, e2, e3]; exact h
/-- what the reference asks for -/
theorem RowR.m {I : Mz} (h : RowR I) : gR (I 121 0) (I 122) := by rw [h.2.1, h.2.2]; exact h.1
theorem StaR.mPl {I : Mz} (h : StaR I) : mPl I := by
  obtain ⟨_, ⟨h1, h2, h3⟩, _⟩ := h
  refine ⟨by rw [h2]; exact h1.1, fun i a b => ?_⟩
  rw [h2] at b
  rw [(h3 i a b).1, (h3 i a b).2]
  exact h1.2 i a b
theorem StaR.mK {I : Mz} (h : StaR I) : mK I := by
  obtain ⟨_, _, h1, h2⟩ := h
  have key : ∀ (b : Nat) (s : Int), ShfE I b s 124 125 → (0 ≤ I 124 s ∧ I 124 s ≤ 8) ∧ ∀ k, 0 ≤ k → k < I 124 s → gR (I 125 (31 * (8 * s + k))) (kR (I 125) s k) := fun b s ⟨a1, a2, a3⟩ => by
    rw [a2]
    refine ⟨a1.1, fun k x y => ?_⟩
    rw [(a3 k x y).1, (a3 k x y).2]; exact a1.2 k x y
  intro s s0 s1
  have : s = 0 ∨ s = 1 := by omega
  rcases this with rfl | rfl
  · exact key 8 0 h1
  · exact key 26 1 h2
theorem LstR.m {I J : Mz} (h : LstR I J) : mLs I J := ⟨fun i a b => by rw [(h.2.1 i a b).1]; exact (h.1 i a b).1, h.2.2⟩
theorem TapR.m {I : Mz} (h : TapR I) : mTp I := by
  obtain ⟨h1, h2, h3⟩ := h
  unfold mTp; rw [h2, h3]; exact h1
