/-! plans, shelves, lists, the tape, the image -/
theorem ShfE.f {I I' : Mz} {b m q : Nat} {s : Int} (h : ShfE I b s m q) (e : ∀ a, b ≤ a → a < b + 18 → I' a = I a) (em : I' m s = I m s) (eq : ∀ x, 31 * (8 * s) ≤ x → x < 31 * (8 * s + 8) → I' q x = I q x) : ShfE I' b s m q := by
  have e0 := e b (by omega) (by omega)
  have hb := h.1.1
  have er : ∀ k, 0 ≤ k → k < I b 0 → I' (rc b k) = I (rc b k) ∧ I' (rc b k + 1) = I (rc b k + 1) := fun k a c => ⟨e _ (by simp only [rc]; omega) (by simp only [rc]; omega), e _ (by simp only [rc]; omega) (by simp only [rc]; omega)⟩
  refine ⟨⟨by rw [e0]; exact hb, fun k a c => ?_⟩, by rw [em, e0]; exact h.2.1, fun k a c => ?_⟩
  · rw [e0] at c; rw [(er k a c).1, (er k a c).2]; exact h.1.2 k a c
  · rw [e0] at c
    have hk : kR (I' q) s k = kR (I q) s k := by
      funext x
      unfold kR
      by_cases hx : 0 ≤ x ∧ x < 30
      · rw [if_pos hx, if_pos hx, eq _ (by omega) (by omega)]
      · rw [if_neg hx, if_neg hx]
    rw [(er k a c).1, (er k a c).2, eq _ (by omega) (by omega), hk]; exact h.2.2 k a c
theorem ShfE.mv {I I' : Mz} {b m q b' m' q' : Nat} {s : Int} (h : ShfE I b s m q) (e0 : I' b' 0 = I b 0) (er : ∀ k, 0 ≤ k → k < I b 0 → I' (rc b' k) 0 = I (rc b k) 0 ∧ I' (rc b' k + 1) = I (rc b k + 1)) (em : I' m' s = I m s) (eq : I' q' = I q) : ShfE I' b' s m' q' := by
  refine ⟨⟨by rw [e0]; exact h.1.1, fun k a c => ?_⟩, by rw [em, e0]; exact h.2.1, fun k a c => ?_⟩
  · rw [e0] at c; rw [(er k a c).1, (er k a c).2]; exact h.1.2 k a c
  · rw [e0] at c; rw [(er k a c).1, (er k a c).2, eq]; exact h.2.2 k a c
theorem PlnE.mv {I I' : Mz} {p q p' q' : Nat} {pl pl' : Int} (h : PlnE I p pl q) (e0 : I' p' 0 = I p 0) (e1 : I' (p' + 1) = I (p + 1)) (e2 : I' (p' + 2) = I (p + 2)) (el : pl' = pl) (eq : I' q' = I q) : PlnE I' p' pl' q' := by
  unfold PlnE plOk at *
  rw [e0, e1, e2, el, eq]; exact h
def BS : List Nat := [8, 9, 10, 11, 12, 13, 14, 15, 16, 17, 18, 19, 20, 21, 22, 23, 24, 25, 26, 27, 28, 29, 30, 31, 32, 33, 34, 35, 36, 37, 38, 39, 40, 41, 42, 43]
theorem BS_n {q : Nat} (h : q ∉ BS) : q < 8 ∨ 43 < q := by
  by_cases h1 : q < 8 ∨ 43 < q
  · exact h1
  · exfalso
    have hk : ∀ k : Nat, k < 36 → BS.contains (8 + k) = true := by decide +kernel
    have := hk (q - 8) (by omega)
    rw [show 8 + (q - 8) = q from by omega] at this
    exact h (List.contains_iff_mem.mp this)
def BI : List Nat := [0, 44, 45, 46, 47, 48, 49, 50, 51, 52, 53, 54, 55, 56, 57, 58, 59, 60, 61, 62, 63, 64, 65, 66, 67, 68, 69, 70, 71, 72, 73, 74, 75, 76, 77, 78, 79, 80, 81, 82, 83, 84, 85, 86]
theorem BI_n {q : Nat} (h : q ∉ BI) : (0 < q ∧ q < 44) ∨ 87 ≤ q := by
  by_cases h1 : (0 < q ∧ q < 44) ∨ 87 ≤ q
  · exact h1
  · exfalso
    by_cases h2 : q = 0
    · subst h2; exact h (List.contains_iff_mem.mp rfl)
    · have hk : ∀ k : Nat, k < 43 → BI.contains (44 + k) = true := by decide +kernel
      have := hk (q - 44) (by omega)
      rw [show 44 + (q - 44) = q from by omega] at this
      exact h (List.contains_iff_mem.mp this)
def BU : List Nat := [1, 2, 3, 4, 5, 6, 7, 8, 9, 10, 11, 12, 13, 14, 15, 16, 17, 18, 19, 20, 21, 22, 23, 24, 25, 26, 27, 28, 29, 30, 31, 32, 33, 34, 35, 36, 37, 38, 39, 40, 41, 42, 43]
theorem BU_n {q : Nat} (h : q ∉ BU) : q < 1 ∨ 44 ≤ q := by
  by_cases h1 : q < 1 ∨ 44 ≤ q
  · exact h1
  · exfalso
    have hk : ∀ k : Nat, k < 43 → BU.contains (1 + k) = true := by decide +kernel
    have := hk (q - 1) (by omega)
    rw [show 1 + (q - 1) = q from by omega] at this
    exact h (List.contains_iff_mem.mp this)
/-- shelves changed alone -/
theorem Inv.sh {I J I1 J1 I2 J2 : Mz} (h : Inv I J) (f : fr BS I I1) (e : J1 = J) (g : fr [124, 125] I1 I2) (e2 : J2 = J1) (hs : ∀ t, 0 ≤ t → t < 2 → ShfE I2 (sc t) t 124 125) : Inv I2 J2 := by
  have f3 := f.ap g
  exact h.up f3 (fr.e (e2.trans e)) f3.q0 (h8 := Or.inr (hs 0 (by omega) (by omega))) (h26 := Or.inr (hs 1 (by omega) (by omega)))
theorem LstR.set {I J I2 J2 : Mz} (h : LstR I J) {i n : Int} {v : Int → Int} (hi : 0 ≤ i ∧ i < 3) (hn : -1 ≤ n ∧ n ≤ 30) (hv : ∀ j, -9223372036854775808 ≤ v j ∧ v j ≤ 9223372036854775807) (a1 : I2 (lc i) 0 = n) (a2 : J2 (lc i + 1) = v) (a3 : ∀ t, 0 ≤ t → t < 3 → t ≠ i → I2 (lc t) 0 = I (lc t) 0 ∧ J2 (lc t + 1) = J (lc t + 1)) (a4 : I2 136 i = n) (a5 : ∀ t, t ≠ i → I2 136 t = I 136 t) (a6 : ∀ j, 0 ≤ j → j < 30 → J2 137 (30 * i + j) = v j) (a7 : ∀ x, x < 30 * i ∨ 30 * i + 30 ≤ x → J2 137 x = J 137 x) : LstR I2 J2 := by
  obtain ⟨h1, h2, h3⟩ := h
  refine ⟨fun t x y => ?_, fun t x y => ?_, fun x => ?_⟩
  · by_cases ht : t = i
    · subst ht; rw [a1, a2]; exact ⟨hn, hv⟩
    · rw [(a3 t x y ht).1, (a3 t x y ht).2]; exact h1 t x y
  · by_cases ht : t = i
    · subst ht; rw [a1, a2, a4]; exact ⟨rfl, a6⟩
    · rw [(a3 t x y ht).1, (a3 t x y ht).2, a5 t ht]
      refine ⟨(h2 t x y).1, fun j z w => ?_⟩
      rw [a7 _ (by omega)]; exact (h2 t x y).2 j z w
  · by_cases hx : x < 30 * i ∨ 30 * i + 30 ≤ x
    · rw [a7 x hx]; exact h3 x
    · have := a6 (x - 30 * i) (by omega) (by omega)
      rw [show 30 * i + (x - 30 * i) = x from by omega] at this
      rw [this]; exact hv _
theorem fr_lc {I : Mz} {i : Int} {f : Int → Int} (hi : 0 ≤ i ∧ i < 3) : fr [104, 106, 108] I (sz I (lc i) f) := by
  have : i = 0 ∨ i = 1 ∨ i = 2 := by omega
  rcases this with rfl | rfl | rfl <;> exact fr.rf.st rfl
theorem fr_lj {I : Mz} {i : Int} {f : Int → Int} (hi : 0 ≤ i ∧ i < 3) : fr [105, 107, 109] I (sz I (lc i + 1) f) := by
  have : i = 0 ∨ i = 1 ∨ i = 2 := by omega
  rcases this with rfl | rfl | rfl <;> exact fr.rf.st rfl
section
variable {I J I1 J1 : Mz} {r : Int}
theorem o_plan {a v : Int} (hv : -2147483648 ≤ v ∧ v ≤ 2147483647) (h : Inv I J) (hc : Cp_plan a v I J r I1 J1) : Mid I J I1 J1 ∧ ∀ r2 I2 J2, Mp_plan a v I1 J1 r2 I2 J2 → r = r2 ∧ Inv I2 J2 := by
  obtain ⟨p1, p2, p3⟩ := h.1.2.1
  obtain ⟨e, hc⟩ := hc
  have f : fr [4, 5, 6] I I1 := by
    rcases hc with ⟨_, _, e1⟩ | ⟨_, _, _, e1⟩ | ⟨_, _, _, e1⟩
    · rw [e1]; exact fr.rf
    · rw [e1]; exact fr.rf
    · rw [e1]; exact ((fr.rf.st rfl).st rfl).st rfl
  have m : Mid I J I1 J1 := Mid.fr f (fr.e e)
  refine ⟨m, fun r2 I2 J2 hm => ?_⟩
  obtain ⟨e2, hm⟩ := hm
  rw [m.1 121 (by omega), m.1 123 (by omega), p2] at hm
  rcases hc with ⟨c, x, e1⟩ | ⟨c, c2, x, e1⟩ | ⟨c, c2, x, e1⟩ <;> rcases hm with ⟨b, y, g1⟩ | ⟨b, b2, y, g1⟩ | ⟨b, b2, y, g1⟩ <;> first | (exact absurd c b) | (exact absurd b c) | (exfalso; omega) | (exact ⟨x.trans y.symm, by rw [g1, e1, e2, e]; exact h⟩) | skip
  have g : fr [121, 123] I1 I2 := by rw [g1]; exact (fr.rf.st rfl).st rfl
  have v4 : I2 4 0 = I 4 0 + 1 := by rw [g.at 4 rfl, e1]; simp [sz, uz]
  have v5 : I2 5 = uz (I 5) (I 4 0) a := by rw [g.at 5 rfl, e1]; simp [sz]
  have v6 : I2 6 = uz (I 6) (I 4 0) v := by rw [g.at 6 rfl, e1]; simp [sz]
  have v121 : I2 121 3 = I 4 0 + 1 := by rw [g1]; simp [sz, uz]
  have v123 : I2 123 = uz (uz (I 123) (2 * I 4 0) a) (2 * I 4 0 + 1) v := by rw [g1]; simp [sz]
  refine ⟨x.trans y.symm, h.up (Q := [3]) (f.ap g) (fr.e (e2.trans e)) (fun q hq => ?_) (hp := Or.inr ⟨⟨by rw [v4]; have := p1.1; omega, fun i a1 a2 => ?_⟩, by rw [v4, v121], fun i a1 a2 => ?_⟩)⟩
  · have hq3 : q ≠ 3 := qn hq
    rw [g1]; simp [sz, uz, hq3]
  · rw [v4] at a2
    rw [show (4 + 1 : Nat) = 5 from rfl, show (4 + 2 : Nat) = 6 from rfl, v5, v6]
    by_cases hi : i = I 4 0
    · subst hi; rw [uz_eq, uz_eq]; exact ⟨c, hv⟩
    · rw [uz_ne _ _ hi, uz_ne _ _ hi]; exact p1.2 i a1 (by omega)
  · rw [v4] at a2
    rw [show (4 + 1 : Nat) = 5 from rfl, show (4 + 2 : Nat) = 6 from rfl, v5, v6, v123]
    by_cases hi : i = I 4 0
    · subst hi; rw [uz_ne _ _ (by omega), uz_eq, uz_eq, uz_eq, uz_eq]; exact ⟨rfl, rfl⟩
    · repeat rw [uz_ne _ _ (by omega)]
      exact p3 i a1 (by omega)
theorem o_unplan (h : Inv I J) (hc : Cp_unplan I J r I1 J1) : Mid I J I1 J1 ∧ ∀ r2 I2 J2, Mp_unplan I1 J1 r2 I2 J2 → r = r2 ∧ Inv I2 J2 := by
  obtain ⟨p1, p2, p3⟩ := h.1.2.1
  obtain ⟨x, e1, e⟩ := hc
  have f : fr [4] I I1 := by rw [e1]; exact fr.rf.st rfl
  have m : Mid I J I1 J1 := Mid.fr f (fr.e e)
  refine ⟨m, fun r2 I2 J2 hm => ?_⟩
  obtain ⟨y, g1, e2⟩ := hm
  have g : fr [121] I1 I2 := by rw [g1]; exact fr.rf.st rfl
  have v4 : I2 4 0 = 0 := by rw [g.at 4 rfl, e1]; simp [sz, uz]
  have v121 : I2 121 3 = 0 := by rw [g1]; simp [sz, uz]
  refine ⟨by rw [x, y, m.1 121 (by omega), p2], h.up (Q := [3]) (f.ap g) (fr.e (e2.trans e)) (fun q hq => ?_) (hp := Or.inr ⟨⟨by rw [v4]; omega, fun i a1 a2 => by rw [v4] at a2; omega⟩, by rw [v4, v121], fun i a1 a2 => by rw [v4] at a2; omega⟩)⟩
  have hq3 : q ≠ 3 := qn hq
  rw [g1]; simp [sz, uz, hq3, m.1 121 (by omega)]
theorem o_keep {s : Int} (h : Inv I J) (hc : Cp_keep s I J r I1 J1) : Mid I J I1 J1 ∧ ∀ r2 I2 J2, Mp_keep s I1 J1 r2 I2 J2 → r = r2 ∧ Inv I2 J2 := by
  have hr := h.1.1
  obtain ⟨e, hc⟩ := hc
  have f : fr BS I I1 := by
    rcases hc with ⟨_, _, e1⟩ | ⟨_, _, _, e1⟩ | ⟨a, a2, _, _, _, _, e1⟩
    · rw [e1]; exact fr.rf
    · rw [e1]; exact fr.rf
    · intro q hq
      have := BS_n hq
      have := (h.1.sh a).1.1
      exact e1 q (by simp only [sc]; omega) (by simp only [rc, sc] at *; omega) (by simp only [rc, sc] at *; omega)
  have m : Mid I J I1 J1 := Mid.fr f (fr.e e)
  refine ⟨m, fun r2 I2 J2 hm => ?_⟩
  obtain ⟨e2, hm⟩ := hm
  by_cases hs : 0 ≤ s ∧ s < 2
  · have hE := h.1.sh hs
    have hb := hE.1.1
    rw [m.1 121 (by omega), m.1 122 (by omega), m.1 124 (by omega), m.1 125 (by omega), hE.2.1, hr.2.1, hr.2.2] at hm
    rcases hc with ⟨c, x, e1⟩ | ⟨c, c2, x, e1⟩ | ⟨c, c2, x, c3, c4, c5, e1⟩ <;> rcases hm with ⟨b, y, g1⟩ | ⟨b, b2, y, g1⟩ | ⟨b, b2, y, g, g3, g4, g5, g6⟩ <;> first | (exact absurd c b) | (exact absurd b c) | (exfalso; omega) | (exact ⟨x.trans y.symm, by rw [g1, e1, e2, e]; exact h⟩) | skip
    refine ⟨x.trans y.symm, h.sh f e g e2 (fun t t0 t1 => ?_)⟩
    by_cases ht : t = s
    · subst ht
      have k0 : I2 (sc t) = I1 (sc t) := g (sc t) (by simp only [sc]; intro q; simp at q; omega)
      have kr : ∀ k, 0 ≤ k → k ≤ I (sc t) 0 → I2 (rc (sc t) k) = I1 (rc (sc t) k) ∧ I2 (rc (sc t) k + 1) = I1 (rc (sc t) k + 1) := fun k a1 a2 => ⟨g _ (by simp only [rc, sc] at *; intro q; simp at q; omega), g _ (by simp only [rc, sc] at *; intro q; simp at q; omega)⟩
      have ko : ∀ k, 0 ≤ k → k < I (sc t) 0 → I1 (rc (sc t) k) = I (rc (sc t) k) ∧ I1 (rc (sc t) k + 1) = I (rc (sc t) k + 1) := fun k a1 a2 => ⟨e1 _ (by simp only [rc, sc] at *; omega) (by simp only [rc, sc] at *; omega) (by simp only [rc, sc] at *; omega), e1 _ (by simp only [rc, sc] at *; omega) (by simp only [rc, sc] at *; omega) (by simp only [rc, sc] at *; omega)⟩
      refine ⟨⟨by rw [k0, c3]; omega, fun k a1 a2 => ?_⟩, by rw [g3, uz_eq, k0, c3], fun k a1 a2 => ?_⟩
      · rw [k0, c3] at a2
        rw [(kr k a1 (by omega)).1, (kr k a1 (by omega)).2]
        by_cases hk : k = I (sc t) 0
        · subst hk; rw [c4, c5]; exact hr.1
        · rw [(ko k a1 (by omega)).1, (ko k a1 (by omega)).2]; exact hE.1.2 k a1 (by omega)
      · rw [k0, c3] at a2
        rw [(kr k a1 (by omega)).1, (kr k a1 (by omega)).2]
        by_cases hk : k = I (sc t) 0
        · subst hk
          rw [c4, c5, g4]
          refine ⟨rfl, ?_⟩
          funext x1
          unfold kR
          by_cases hx : 0 ≤ x1 ∧ x1 < 30
          · rw [if_pos hx, g5 x1 hx.1 hx.2]
          · rw [if_neg hx, hr.1.2.2 x1 (by have := hr.1.1; omega)]
        · rw [(ko k a1 (by omega)).1, (ko k a1 (by omega)).2, g6 _ (by omega)]
          have := hE.2.2 k a1 (by omega)
          rw [← this.1, ← this.2]
          refine ⟨rfl, ?_⟩
          funext x1
          unfold kR
          by_cases hx : 0 ≤ x1 ∧ x1 < 30
          · rw [if_pos hx, if_pos hx, g6 _ (by omega)]
          · rw [if_neg hx, if_neg hx]
    · refine (h.1.sh ⟨t0, t1⟩).f (fun a b1 b2 => ?_) (by rw [g3, uz_ne _ _ ht]) (fun x1 b1 b2 => g6 x1 (by omega))
      rw [g a (by simp only [sc] at *; intro q; simp at q; omega)]
      exact e1 a (by simp only [sc] at *; omega) (by simp only [rc, sc] at *; omega) (by simp only [rc, sc] at *; omega)
  · rcases hc with ⟨_, x, e1⟩ | ⟨a, _⟩ | ⟨a, _⟩
    · rcases hm with ⟨_, y, g1⟩ | ⟨b, _⟩ | ⟨b, _⟩
      · exact ⟨x.trans y.symm, by rw [g1, e1, e2, e]; exact h⟩
      · exact absurd b hs
      · exact absurd b hs
    · exact absurd a hs
    · exact absurd a hs
theorem o_lay {s k : Int} (h : Inv I J) (hc : Cp_lay s k I J r I1 J1) : Mid I J I1 J1 ∧ ∀ r2 I2 J2, Mp_lay s k I1 J1 r2 I2 J2 → r = r2 ∧ Inv I2 J2 := by
  obtain ⟨e, hc⟩ := hc
  have f : fr [2, 3] I I1 := by
    rcases hc with ⟨_, _, e1⟩ | ⟨a, _, e1⟩
    · rw [e1]; exact fr.rf
    · rw [e1]; exact (fr.rf.st rfl).st rfl
  have m : Mid I J I1 J1 := Mid.fr f (fr.e e)
  refine ⟨m, fun r2 I2 J2 hm => ?_⟩
  obtain ⟨e2, hm⟩ := hm
  by_cases hs : 0 ≤ s ∧ s < 2
  · have hE := h.1.sh hs
    rw [m.1 121 (by omega), m.1 124 (by omega), m.1 125 (by omega), hE.2.1] at hm
    rcases hc with ⟨c, x, e1⟩ | ⟨c, x, e1⟩ <;> rcases hm with ⟨b, y, g1⟩ | ⟨b, y, g1⟩ <;> first | (exact absurd c b) | (exact absurd b c) | (exact ⟨x.trans y.symm, by rw [g1, e1, e2, e]; exact h⟩) | skip
    have hk := hE.2.2 k c.2.1 c.2.2
    have hg := hE.1.2 k c.2.1 c.2.2
    rw [hk.1, hk.2] at y g1
    have g : fr [121, 122] I1 I2 := by rw [g1]; exact (fr.rf.st rfl).st rfl
    refine ⟨x.trans y.symm, h.up (Q := [0]) (f.ap g) (fr.e (e2.trans e)) (fun q hq => ?_) (hr := Or.inr (RowR.i hg ?_ ?_ ?_ ?_))⟩
    · have hq0 : q ≠ 0 := qn hq
      rw [g1]; simp [sz, uz, hq0]
    · rw [g.at 2 rfl, e1]; simp [sz, uz]
    · rw [g.at 3 rfl, e1]; simp [sz]
    · rw [g1]; simp [sz, uz]
    · rw [g1]; simp [sz]
  · rcases hc with ⟨_, x, e1⟩ | ⟨a, _⟩
    · rcases hm with ⟨_, y, g1⟩ | ⟨b, _⟩
      · exact ⟨x.trans y.symm, by rw [g1, e1, e2, e]; exact h⟩
      · exact absurd b.1 hs
    · exact absurd a.1 hs
theorem o_drop {s k : Int} (h : Inv I J) (hc : Cp_drop s k I J r I1 J1) : Mid I J I1 J1 ∧ ∀ r2 I2 J2, Mp_drop s k I1 J1 r2 I2 J2 → r = r2 ∧ Inv I2 J2 := by
  obtain ⟨e, hc⟩ := hc
  have f : fr BS I I1 := by
    rcases hc with ⟨_, _, e1⟩ | ⟨a, _, _, _, e1⟩
    · rw [e1]; exact fr.rf
    · intro q hq
      have := BS_n hq
      have := (h.1.sh a.1).1.1
      exact e1 q (by simp only [sc]; omega) (fun m1 b1 b2 => by simp only [rc, sc] at *; omega)
  have m : Mid I J I1 J1 := Mid.fr f (fr.e e)
  refine ⟨m, fun r2 I2 J2 hm => ?_⟩
  obtain ⟨e2, hm⟩ := hm
  by_cases hs : 0 ≤ s ∧ s < 2
  · have hE := h.1.sh hs
    have hb := hE.1.1
    rw [m.1 124 (by omega), m.1 125 (by omega), hE.2.1] at hm
    rcases hc with ⟨c, x, e1⟩ | ⟨c, x, c3, c4, e1⟩ <;> rcases hm with ⟨b, y, g1⟩ | ⟨b, y, g1⟩ <;> first | (exact absurd c b) | (exact absurd b c) | (exact ⟨x.trans y.symm, by rw [g1, e1, e2, e]; exact h⟩) | skip
    have g : fr [124, 125] I1 I2 := by rw [g1]; exact (fr.rf.st rfl).st rfl
    have g3 : I2 124 = uz (I 124) s (I (sc s) 0 - 1) := by rw [g1]; simp [sz]
    have g4 : I2 125 = cpN (I 125) (31 * (8 * s + k) + 31) (31 * (8 * s + k)) (31 * (I (sc s) 0 - 1 - k)) := by rw [g1]; simp [sz]
    refine ⟨x.trans y.symm, h.sh f e g e2 (fun t t0 t1 => ?_)⟩
    by_cases ht : t = s
    · subst ht
      have k0 : I2 (sc t) = I1 (sc t) := g (sc t) (by simp only [sc]; intro q; simp at q; omega)
      have kr : ∀ k, 0 ≤ k → k ≤ I (sc t) 0 → I2 (rc (sc t) k) = I1 (rc (sc t) k) ∧ I2 (rc (sc t) k + 1) = I1 (rc (sc t) k + 1) := fun k a1 a2 => ⟨g _ (by simp only [rc, sc] at *; intro q; simp at q; omega), g _ (by simp only [rc, sc] at *; intro q; simp at q; omega)⟩
      have ko : ∀ m1, 0 ≤ m1 → m1 < k → I1 (rc (sc t) m1) = I (rc (sc t) m1) ∧ I1 (rc (sc t) m1 + 1) = I (rc (sc t) m1 + 1) := fun m1 a1 a2 => ⟨e1 _ (by simp only [rc, sc] at *; omega) (fun m2 b1 b2 => by simp only [rc, sc] at *; omega), e1 _ (by simp only [rc, sc] at *; omega) (fun m2 b1 b2 => by simp only [rc, sc] at *; omega)⟩
      refine ⟨⟨by rw [k0, c3]; omega, fun m1 a1 a2 => ?_⟩, by rw [g3, uz_eq, k0, c3], fun m1 a1 a2 => ?_⟩
      · rw [k0, c3] at a2
        rw [(kr m1 a1 (by omega)).1, (kr m1 a1 (by omega)).2]
        by_cases hk : m1 < k
        · rw [(ko m1 a1 hk).1, (ko m1 a1 hk).2]; exact hE.1.2 m1 a1 (by omega)
        · rw [(c4 m1 (by omega) (by omega)).1, (c4 m1 (by omega) (by omega)).2]; exact hE.1.2 (m1 + 1) (by omega) (by omega)
      · rw [k0, c3] at a2
        rw [(kr m1 a1 (by omega)).1, (kr m1 a1 (by omega)).2, g4]
        by_cases hk : m1 < k
        · rw [(ko m1 a1 hk).1, (ko m1 a1 hk).2]
          have := hE.2.2 m1 a1 (by omega)
          rw [← this.1, ← this.2]
          refine ⟨by unfold cpN; rw [if_neg (by omega)], ?_⟩
          funext x1
          unfold kR
          by_cases hx : 0 ≤ x1 ∧ x1 < 30
          · rw [if_pos hx, if_pos hx]; unfold cpN; rw [if_neg (by omega)]
          · rw [if_neg hx, if_neg hx]
        · rw [(c4 m1 (by omega) (by omega)).1, (c4 m1 (by omega) (by omega)).2]
          have := hE.2.2 (m1 + 1) (by omega) (by omega)
          rw [← this.1, ← this.2]
          refine ⟨by unfold cpN; rw [if_pos (by omega)]; congr 1; omega, ?_⟩
          funext x1
          unfold kR
          by_cases hx : 0 ≤ x1 ∧ x1 < 30
          · rw [if_pos hx, if_pos hx]; unfold cpN; rw [if_pos (by omega)]; congr 1; omega
          · rw [if_neg hx, if_neg hx]
    · refine (h.1.sh ⟨t0, t1⟩).f (fun a b1 b2 => ?_) (by rw [g3, uz_ne _ _ ht]) (fun x1 b1 b2 => by rw [g4]; unfold cpN; rw [if_neg (by omega)])
      rw [g a (by simp only [sc] at *; intro q; simp at q; omega)]
      exact e1 a (by simp only [sc] at *; omega) (fun m1 d1 d2 => by simp only [rc, sc] at *; omega)
  · rcases hc with ⟨_, x, e1⟩ | ⟨a, _⟩
    · rcases hm with ⟨_, y, g1⟩ | ⟨b, _⟩
      · exact ⟨x.trans y.symm, by rw [g1, e1, e2, e]; exact h⟩
      · exact absurd b.1 hs
    · exact absurd a.1 hs
theorem o_pour {s o : Int} (h : Inv I J) (hc : Cp_pour s o I J r I1 J1) : Mid I J I1 J1 ∧ ∀ r2 I2 J2, Mp_pour s o I1 J1 r2 I2 J2 → r = r2 ∧ Inv I2 J2 := by
  obtain ⟨e, hc⟩ := hc
  have f : fr BS I I1 := by
    rcases hc with ⟨_, _, e1⟩ | ⟨_, _, _, e1⟩ | ⟨_, _, _, _, e1⟩ | ⟨a, _, a3, _, _, _, _, e1⟩
    · rw [e1]; exact fr.rf
    · rw [e1]; exact fr.rf
    · rw [e1]; exact fr.rf
    · intro q hq
      have := BS_n hq
      have := (h.1.sh a.1).1.1
      have := (h.1.sh a.2).1.1
      exact e1 q (by simp only [sc]; omega) (by simp only [sc]; omega) (fun m1 b1 b2 => by simp only [rc, sc] at *; omega)
  have m : Mid I J I1 J1 := Mid.fr f (fr.e e)
  refine ⟨m, fun r2 I2 J2 hm => ?_⟩
  obtain ⟨e2, hm⟩ := hm
  by_cases hs : (0 ≤ s ∧ s < 2) ∧ (0 ≤ o ∧ o < 2)
  · have hE := h.1.sh hs.1
    have hF := h.1.sh hs.2
    have hb := hE.1.1
    have hb2 := hF.1.1
    rw [m.1 124 (by omega), m.1 125 (by omega), hE.2.1, hF.2.1] at hm
    rcases hc with ⟨c, x, e1⟩ | ⟨c, c2, x, e1⟩ | ⟨c, c2, c3, x, e1⟩ | ⟨c, c2, c3, x, c4, c5, c6, e1⟩ <;> rcases hm with ⟨b, y, g1⟩ | ⟨b, b2, y, g1⟩ | ⟨b, b2, b3, y, g1⟩ | ⟨b, b2, b3, y, g1⟩ <;> first | (exact absurd c b) | (exact absurd b c) | (exact absurd c2 b2) | (exact absurd b2 c2) | (exfalso; omega) | (exact ⟨x.trans y.symm, by rw [g1, e1, e2, e]; exact h⟩) | skip
    have g : fr [124, 125] I1 I2 := by rw [g1]; exact (fr.rf.st rfl).st rfl
    have g3 : I2 124 = uz (uz (I 124) o (I (sc o) 0 + I (sc s) 0)) s 0 := by rw [g1]; simp [sz]
    have g4 : I2 125 = cpN (I 125) (31 * (8 * s)) (31 * (8 * o + I (sc o) 0)) (31 * I (sc s) 0) := by rw [g1]; simp [sz]
    refine ⟨x.trans y.symm, h.sh f e g e2 (fun t t0 t1 => ?_)⟩
    by_cases ht : t = s
    · subst ht
      have k0 : I2 (sc t) = I1 (sc t) := g (sc t) (by simp only [sc]; intro q; simp at q; omega)
      refine ⟨⟨by rw [k0, c5]; omega, fun m1 a1 a2 => ?_⟩, by rw [g3, uz_eq, k0, c5], fun m1 a1 a2 => ?_⟩
      · rw [k0, c5] at a2; omega
      · rw [k0, c5] at a2; omega
    · have ht2 : t = o := by omega
      subst ht2
      have k0 : I2 (sc t) = I1 (sc t) := g (sc t) (by simp only [sc]; intro q; simp at q; omega)
      have kr : ∀ k, 0 ≤ k → k ≤ 8 → I2 (rc (sc t) k) = I1 (rc (sc t) k) ∧ I2 (rc (sc t) k + 1) = I1 (rc (sc t) k + 1) := fun k a1 a2 => ⟨g _ (by simp only [rc, sc] at *; intro q; simp at q; omega), g _ (by simp only [rc, sc] at *; intro q; simp at q; omega)⟩
      have ko : ∀ m1, 0 ≤ m1 → m1 < I (sc t) 0 → I1 (rc (sc t) m1) = I (rc (sc t) m1) ∧ I1 (rc (sc t) m1 + 1) = I (rc (sc t) m1 + 1) := fun m1 a1 a2 => ⟨e1 _ (by simp only [rc, sc] at *; omega) (by simp only [rc, sc] at *; omega) (fun m2 b1 b2 => by simp only [rc, sc] at *; omega), e1 _ (by simp only [rc, sc] at *; omega) (by simp only [rc, sc] at *; omega) (fun m2 b1 b2 => by simp only [rc, sc] at *; omega)⟩
      refine ⟨⟨by rw [k0, c4]; omega, fun m1 a1 a2 => ?_⟩, by rw [g3, uz_ne _ _ ht, uz_eq, k0, c4], fun m1 a1 a2 => ?_⟩
      · rw [k0, c4] at a2
        rw [(kr m1 a1 (by omega)).1, (kr m1 a1 (by omega)).2]
        by_cases hk : m1 < I (sc t) 0
        · rw [(ko m1 a1 hk).1, (ko m1 a1 hk).2]; exact hF.1.2 m1 a1 hk
        · have q := c6 (m1 - I (sc t) 0) (by omega) (by omega)
          rw [show I (sc t) 0 + (m1 - I (sc t) 0) = m1 from by omega] at q
          rw [q.1, q.2]; exact hE.1.2 _ (by omega) (by omega)
      · rw [k0, c4] at a2
        rw [(kr m1 a1 (by omega)).1, (kr m1 a1 (by omega)).2, g4]
        by_cases hk : m1 < I (sc t) 0
        · rw [(ko m1 a1 hk).1, (ko m1 a1 hk).2]
          have := hF.2.2 m1 a1 hk
          rw [← this.1, ← this.2]
          refine ⟨by unfold cpN; rw [if_neg (by omega)], ?_⟩
          funext x1
          unfold kR
          by_cases hx : 0 ≤ x1 ∧ x1 < 30
          · rw [if_pos hx, if_pos hx]; unfold cpN; rw [if_neg (by omega)]
          · rw [if_neg hx, if_neg hx]
        · have q := c6 (m1 - I (sc t) 0) (by omega) (by omega)
          rw [show I (sc t) 0 + (m1 - I (sc t) 0) = m1 from by omega] at q
          rw [q.1, q.2]
          have := hE.2.2 (m1 - I (sc t) 0) (by omega) (by omega)
          rw [← this.1, ← this.2]
          refine ⟨by unfold cpN; rw [if_pos (by omega)]; congr 1; omega, ?_⟩
          funext x1
          unfold kR
          by_cases hx : 0 ≤ x1 ∧ x1 < 30
          · rw [if_pos hx, if_pos hx]; unfold cpN; rw [if_pos (by omega)]; congr 1; omega
          · rw [if_neg hx, if_neg hx]
  · rcases hc with ⟨_, x, e1⟩ | ⟨a, _⟩ | ⟨a, _⟩ | ⟨a, _⟩
    · rcases hm with ⟨_, y, g1⟩ | ⟨b, _⟩ | ⟨b, _⟩ | ⟨b, _⟩
      · exact ⟨x.trans y.symm, by rw [g1, e1, e2, e]; exact h⟩
      all_goals exact absurd b hs
    all_goals exact absurd a hs
end
