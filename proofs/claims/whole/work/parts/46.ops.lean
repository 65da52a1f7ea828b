/-! a call's frame and what it keeps of the invariant; calls that keep the state -/
def nC (A L : List Nat) : Bool := A.all (fun x => !L.contains x)
theorem nC_n {A L : List Nat} (h : nC A L = true) {q : Nat} (hq : A.contains q = true) : q ∉ L := fun hm => by
  have h1 := List.all_eq_true.mp h q (List.contains_iff_mem.mp hq)
  rw [List.contains_iff_mem.mpr hm] at h1
  cases h1
theorem fr.ap {L M : List Nat} {I I1 I2 : Mz} (h : fr L I I1) (g : fr M I1 I2) : fr (L ++ M) I I2 := fun q hq => (g q (fun x => hq (List.mem_append.mpr (Or.inr x)))).trans (h q (fun x => hq (List.mem_append.mpr (Or.inl x))))
theorem Inv.up {I J I2 J2 : Mz} {L LJ : List Nat} {Q : List Int} (h : Inv I J) (f : fr L I I2) (fj : fr LJ J J2) (fq : ∀ q, q ∉ Q → I2 121 q = I 121 q)
    (hT : nC [126, 127] L = true := by decide +kernel)
    (hr : (nC [2, 3, 122] L = true ∧ (0 : Int) ∉ Q) ∨ RowR I2 := by exact Or.inl ⟨by decide +kernel, by decide +kernel⟩)
    (hp : (nC [4, 5, 6, 123] L = true ∧ (3 : Int) ∉ Q) ∨ PlnE I2 4 (I2 121 3) 123 := by exact Or.inl ⟨by decide +kernel, by decide +kernel⟩)
    (h8 : nC [8, 9, 10, 11, 12, 13, 14, 15, 16, 17, 18, 19, 20, 21, 22, 23, 24, 25, 124, 125] L = true ∨ ShfE I2 8 0 124 125 := by exact Or.inl (by decide +kernel))
    (h26 : nC [26, 27, 28, 29, 30, 31, 32, 33, 34, 35, 36, 37, 38, 39, 40, 41, 42, 43, 124, 125] L = true ∨ ShfE I2 26 1 124 125 := by exact Or.inl (by decide +kernel))
    (hi : (nC [0, 45, 46, 47, 48, 49, 50, 51, 52, 53, 54, 55, 56, 57, 58, 59, 60, 61, 62, 63, 64, 65, 66, 67, 68, 69, 70, 71, 72, 73, 74, 75, 76, 77, 78, 79, 80, 81, 82, 83, 84, 85, 86, 143, 144, 145, 146] L = true ∧ (30 : Int) ∉ Q ∧ (31 : Int) ∉ Q ∧ (32 : Int) ∉ Q) ∨ ImgR I2 := by exact Or.inl ⟨by decide +kernel, by decide +kernel, by decide +kernel, by decide +kernel⟩)
    (hl : (nC [104, 106, 108, 136] L = true ∧ nC [105, 107, 109, 137] LJ = true) ∨ LstR I2 J2 := by exact Or.inl ⟨by decide +kernel, by decide +kernel⟩)
    (ht : (nC [110, 111, 141] L = true ∧ (25 : Int) ∉ Q) ∨ TapR I2 := by exact Or.inl ⟨by decide +kernel, by decide +kernel⟩)
    (hc : (nC [87, 88, 96, 97, 98, 99] L = true ∧ nC [90] LJ = true) ∨ cch I2 J2 := by exact Or.inl ⟨by decide +kernel, by decide +kernel⟩)
    (hb : nC [100, 102] L = true ∨ bOk I2 := by exact Or.inl (by decide +kernel)) : Inv I2 J2 := by
  obtain ⟨⟨g1, g2, g3, g4⟩, g5, g6, g7, g8, g9, g10⟩ := h
  refine ⟨⟨?_, ?_, ?_, ?_⟩, ?_, ?_, ?_, ?_, ?_, ?_⟩
  · rcases hr with ⟨a, b⟩ | a
    · exact g1.c (by rw [f 2 (nC_n a rfl)]) (f 3 (nC_n a rfl)) (fq 0 b) (f 122 (nC_n a rfl))
    · exact a
  · rcases hp with ⟨a, b⟩ | a
    · exact g2.c (by rw [f 4 (nC_n a rfl)]) (f 5 (nC_n a rfl)) (f 6 (nC_n a rfl)) (fq 3 b) (f 123 (nC_n a rfl))
    · exact a
  · rcases h8 with a | a
    · refine g3.c (fun x y z => f x (nC_n a ?_)) (f 124 (nC_n a rfl)) (f 125 (nC_n a rfl))
      have hx : x = 8 ∨ x = 9 ∨ x = 10 ∨ x = 11 ∨ x = 12 ∨ x = 13 ∨ x = 14 ∨ x = 15 ∨ x = 16 ∨ x = 17 ∨ x = 18 ∨ x = 19 ∨ x = 20 ∨ x = 21 ∨ x = 22 ∨ x = 23 ∨ x = 24 ∨ x = 25 := by omega
      rcases hx with rfl | rfl | rfl | rfl | rfl | rfl | rfl | rfl | rfl | rfl | rfl | rfl | rfl | rfl | rfl | rfl | rfl | rfl <;> rfl
    · exact a
  · rcases h26 with a | a
    · refine g4.c (fun x y z => f x (nC_n a ?_)) (f 124 (nC_n a rfl)) (f 125 (nC_n a rfl))
      have hx : x = 26 ∨ x = 27 ∨ x = 28 ∨ x = 29 ∨ x = 30 ∨ x = 31 ∨ x = 32 ∨ x = 33 ∨ x = 34 ∨ x = 35 ∨ x = 36 ∨ x = 37 ∨ x = 38 ∨ x = 39 ∨ x = 40 ∨ x = 41 ∨ x = 42 ∨ x = 43 := by omega
      rcases hx with rfl | rfl | rfl | rfl | rfl | rfl | rfl | rfl | rfl | rfl | rfl | rfl | rfl | rfl | rfl | rfl | rfl | rfl <;> rfl
    · exact a
  · rcases hi with ⟨a, b30, b31, b32⟩ | a
    · refine g5.c (by rw [f 0 (nC_n a rfl)]) (fun x y z => f x (nC_n a ?_)) (fq 30 b30) (fq 31 b31) (fq 32 b32) (fun x y z => f x (nC_n a ?_))
      · have hk : ∀ k : Nat, k < 42 → [0, 45, 46, 47, 48, 49, 50, 51, 52, 53, 54, 55, 56, 57, 58, 59, 60, 61, 62, 63, 64, 65, 66, 67, 68, 69, 70, 71, 72, 73, 74, 75, 76, 77, 78, 79, 80, 81, 82, 83, 84, 85, 86, 143, 144, 145, 146].contains (45 + k) = true := by decide +kernel
        have := hk (x - 45) (by omega)
        rwa [show 45 + (x - 45) = x from by omega] at this
      · have hk : ∀ k : Nat, k < 4 → [0, 45, 46, 47, 48, 49, 50, 51, 52, 53, 54, 55, 56, 57, 58, 59, 60, 61, 62, 63, 64, 65, 66, 67, 68, 69, 70, 71, 72, 73, 74, 75, 76, 77, 78, 79, 80, 81, 82, 83, 84, 85, 86, 143, 144, 145, 146].contains (143 + k) = true := by decide +kernel
        have := hk (x - 143) (by omega)
        rwa [show 143 + (x - 143) = x from by omega] at this
    · exact a
  · rcases hl with ⟨a, b⟩ | a
    · refine g6.c (fun i y z => ?_) (f 136 (nC_n a rfl)) (fj 137 (nC_n b rfl))
      have hx : i = 0 ∨ i = 1 ∨ i = 2 := by omega
      rcases hx with rfl | rfl | rfl
      · exact ⟨by rw [show lc 0 = 104 from rfl, f 104 (nC_n a rfl)], fj 105 (nC_n b rfl)⟩
      · exact ⟨by rw [show lc 1 = 106 from rfl, f 106 (nC_n a rfl)], fj 107 (nC_n b rfl)⟩
      · exact ⟨by rw [show lc 2 = 108 from rfl, f 108 (nC_n a rfl)], fj 109 (nC_n b rfl)⟩
    · exact a
  · rcases ht with ⟨a, b⟩ | a
    · exact g7.c (by rw [f 110 (nC_n a rfl)]) (f 111 (nC_n a rfl)) (fq 25 b) (f 141 (nC_n a rfl))
    · exact a
  · rcases hc with ⟨a, b⟩ | a
    · exact cch_c g8 (f 87 (nC_n a rfl)) (f 88 (nC_n a rfl)) (f 96 (nC_n a rfl)) (f 97 (nC_n a rfl)) (f 98 (nC_n a rfl)) (f 99 (nC_n a rfl)) (fj 90 (nC_n b rfl))
    · exact a
  · rcases hb with a | a
    · exact bOk_c g9 (f 100 (nC_n a rfl)) (f 102 (nC_n a rfl))
    · exact a
  · unfold mT at *
    rw [f 126 (nC_n hT rfl), f 127 (nC_n hT rfl)]; exact g10
theorem Mid.fr {I J I1 J1 : Mz} {L LJ : List Nat} (f : fr L I I1) (fj : fr LJ J J1) (hL : L.all (fun x => Nat.blt x 121) = true := by decide +kernel) (hJ : LJ.contains 137 = false := by decide +kernel) : Mid I J I1 J1 := ⟨fun a ha => f a (fun hm => by
  have h1 := List.all_eq_true.mp hL a hm
  have h2 : a < 121 := Nat.blt_eq.mp h1
  omega), fj.at 137 hJ⟩
theorem Mid.rf {I J : Mz} : Mid I J I J := ⟨fun _ _ => rfl, rfl⟩
section
variable {I J I1 J1 : Mz} {r : Int}
theorem StaR.sh {I : Mz} (h : StaR I) {s : Int} (hs : 0 ≤ s ∧ s < 2) : ShfE I (sc s) s 124 125 := by
  have : s = 0 ∨ s = 1 := by omega
  rcases this with rfl | rfl
  · exact h.2.2.1
  · exact h.2.2.2
theorem o_of {e : Int} (h : Inv I J) (hc : Cp_of e I J r I1 J1) : Mid I J I1 J1 ∧ ∀ r2 I2 J2, Mp_of e I1 J1 r2 I2 J2 → r = r2 ∧ Inv I2 J2 := by
  have hr := h.1.1
  rcases hc with ⟨a, rfl, rfl, rfl⟩ | ⟨a, rfl, rfl, rfl⟩
  · refine ⟨Mid.rf, fun r2 I2 J2 hm => ?_⟩
    rcases hm with ⟨b, rfl, rfl, rfl⟩ | ⟨b, rfl, rfl, rfl⟩
    · exact ⟨rfl, h⟩
    · exact absurd (by rw [← hr.2.1]; exact b) a
  · refine ⟨Mid.rf, fun r2 I2 J2 hm => ?_⟩
    rcases hm with ⟨b, rfl, rfl, rfl⟩ | ⟨b, rfl, rfl, rfl⟩
    · exact absurd (by rw [hr.2.1]; exact a) b
    · exact ⟨by rw [hr.2.2], h⟩
theorem o_weight (h : Inv I J) (hc : Cp_weight I J r I1 J1) : Mid I J I1 J1 ∧ ∀ r2 I2 J2, Mp_weight I1 J1 r2 I2 J2 → r = r2 ∧ Inv I2 J2 := by
  have hr := h.1.1
  obtain ⟨rfl, rfl, rfl⟩ := hc
  refine ⟨Mid.rf, fun r2 I2 J2 hm => ?_⟩
  obtain ⟨rfl, rfl, rfl⟩ := hm
  exact ⟨by rw [hr.2.1, hr.2.2], h⟩
theorem o_best (h : Inv I J) (hc : Cp_best I J r I1 J1) : Mid I J I1 J1 ∧ ∀ r2 I2 J2, Mp_best I1 J1 r2 I2 J2 → r = r2 ∧ Inv I2 J2 := by
  have hr := h.1.1
  obtain ⟨rfl, rfl, rfl⟩ := hc
  refine ⟨Mid.rf, fun r2 I2 J2 hm => ?_⟩
  obtain ⟨rfl, rfl, rfl⟩ := hm
  exact ⟨by rw [hr.2.1, hr.2.2], h⟩
theorem o_stays {w : Int} (h : Inv I J) (hc : Cp_stays w I J r I1 J1) : Mid I J I1 J1 ∧ ∀ r2 I2 J2, Mp_stays w I1 J1 r2 I2 J2 → r = r2 ∧ Inv I2 J2 := by
  have hr := h.1.1
  obtain ⟨e1, e2, hc⟩ := hc
  replace e1 := e1.symm
  replace e2 := e2.symm
  subst e1 e2
  refine ⟨Mid.rf, fun r2 I2 J2 hm => ?_⟩
  obtain ⟨e1, e2, hm⟩ := hm
  replace e1 := e1.symm
  replace e2 := e2.symm
  subst e1 e2
  refine ⟨?_, h⟩
  rw [hr.2.1, hr.2.2] at hm
  rcases hc with ⟨a, rfl⟩ | ⟨a, rfl⟩ | ⟨a, rfl⟩ <;> rcases hm with ⟨b, rfl⟩ | ⟨b, rfl⟩ | ⟨b, rfl⟩ <;> first | rfl | (exfalso; omega)
theorem o_alike {i : Int} (h : Inv I J) (hc : Cp_alike i I J r I1 J1) : Mid I J I1 J1 ∧ ∀ r2 I2 J2, Mp_alike i I1 J1 r2 I2 J2 → r = r2 ∧ Inv I2 J2 := by
  have hr := h.1.1
  have hl := h.2.2.1.2.1
  obtain ⟨e1, e2, hc⟩ := hc
  replace e1 := e1.symm
  replace e2 := e2.symm
  subst e1 e2
  refine ⟨Mid.rf, fun r2 I2 J2 hm => ?_⟩
  obtain ⟨e1, e2, hm⟩ := hm
  replace e1 := e1.symm
  replace e2 := e2.symm
  subst e1 e2
  refine ⟨?_, h⟩
  rw [hr.2.1, hr.2.2] at hm
  by_cases hi : 0 ≤ i ∧ i < 3
  · have e := hl i hi.1 hi.2
    rw [e.1] at hm
    have ef : fz (fun k => ∀ j, 0 ≤ j → j < I 2 0 → tn (I 3) (I 2 0) k j = J 137 (30 * i + j)) (-5) 0 (I 2 0) = fz (fun k => ∀ j, 0 ≤ j → j < I 2 0 → tn (I 3) (I 2 0) k j = J (lc i + 1) j) (-5) 0 (I 2 0) := fz_c (fun k _ _ => ⟨fun q j a b => by rw [← e.2 j a (by have := hr.1.1; omega)]; exact q j a b, fun q j a b => by rw [e.2 j a (by have := hr.1.1; omega)]; exact q j a b⟩)
    rw [ef] at hm
    rcases hc with ⟨a, rfl⟩ | ⟨a, a2, rfl⟩ | ⟨a, a2, a3, rfl⟩ | ⟨a, a2, rfl⟩ <;> rcases hm with ⟨b, rfl⟩ | ⟨b, b2, rfl⟩ | ⟨b, b2, b3, rfl⟩ | ⟨b, b2, rfl⟩ <;> first | rfl | (exfalso; have := hr.1.1; omega)
  · rcases hc with ⟨a, rfl⟩ | ⟨a, _⟩ | ⟨a, _⟩ | ⟨a, _⟩
    · rcases hm with ⟨b, rfl⟩ | ⟨b, _⟩ | ⟨b, _⟩ | ⟨b, _⟩
      · rfl
      all_goals exact absurd b hi
    all_goals exact absurd a hi
theorem o_where {e : Int} (h : Inv I J) (hc : Cp_where e I J r I1 J1) : Mid I J I1 J1 ∧ ∀ r2 I2 J2, Mp_where e I1 J1 r2 I2 J2 → r = r2 ∧ Inv I2 J2 := by
  have hr := h.1.1
  obtain ⟨p1, p2, p3⟩ := h.1.2.1
  obtain ⟨e1, e2, hc⟩ := hc
  replace e1 := e1.symm
  replace e2 := e2.symm
  subst e1 e2
  refine ⟨Mid.rf, fun r2 I2 J2 hm => ?_⟩
  obtain ⟨e1, e2, hm⟩ := hm
  replace e1 := e1.symm
  replace e2 := e2.symm
  subst e1 e2
  refine ⟨?_, h⟩
  rw [hr.2.1, p2] at hm
  have ew : ∀ k : Nat, (k : Int) ≤ I 4 0 → whF (fun k => I 123 (2 * k)) (fun k => I 123 (2 * k + 1)) (I 2 0) e k = whF (I 5) (I 6) (I 2 0) e k := by
    intro k
    induction k with
    | zero => intro _; rfl
    | succ k ih =>
      intro hk
      have q1 : I 123 (2 * (k : Int)) = I 5 k := (p3 k (by omega) (by omega)).1
      have q2 : I 123 (2 * (k : Int) + 1) = I 6 k := (p3 k (by omega) (by omega)).2
      simp only [whF]
      rw [ih (by omega)]
      by_cases hp : cCh (I 5 k) (I 6 k) (I 2 0)
      · rw [if_pos hp, if_pos (by rw [q1, q2]; exact hp), q1, q2]
      · rw [if_neg hp, if_neg (by rw [q1, q2]; exact hp)]
  have ew := ew (I 4 0).toNat (by have := p1.1; omega)
  rw [ew] at hm
  rcases hc with ⟨a, rfl⟩ | ⟨a, rfl⟩ <;> rcases hm with ⟨b, rfl⟩ | ⟨b, rfl⟩ <;> first | rfl | (exfalso; omega)
theorem o_lightest {s : Int} (h : Inv I J) (hc : Cp_lightest s I J r I1 J1) : Mid I J I1 J1 ∧ ∀ r2 I2 J2, Mp_lightest s I1 J1 r2 I2 J2 → r = r2 ∧ Inv I2 J2 := by
  obtain ⟨e1, e2, hc⟩ := hc
  replace e1 := e1.symm
  replace e2 := e2.symm
  subst e1 e2
  refine ⟨Mid.rf, fun r2 I2 J2 hm => ?_⟩
  obtain ⟨e1, e2, hm⟩ := hm
  replace e1 := e1.symm
  replace e2 := e2.symm
  subst e1 e2
  refine ⟨?_, h⟩
  by_cases hs : 0 ≤ s ∧ s < 2
  · have hE : ShfE I (sc s) s 124 125 := by
      have : s = 0 ∨ s = 1 := by omega
      rcases this with rfl | rfl
      · exact h.1.2.2.1
      · exact h.1.2.2.2
    rw [hE.2.1] at hm
    have hb := hE.1.1
    have ew : ∀ m, 0 ≤ m → m < I (sc s) 0 → su (kR (I 125) s m) 30 = su (I (rc (sc s) m + 1)) (I (rc (sc s) m) 0) := fun m a b => by
      rw [(hE.2.2 m a b).2, gR_30 (hE.1.2 m a b)]
    have el : ∀ k : Nat, (k : Int) < I (sc s) 0 → lgF (fun m => su (kR (I 125) s m) 30) k = lgF (fun m => su (I (rc (sc s) m + 1)) (I (rc (sc s) m) 0)) k := by
      intro k
      induction k with
      | zero => intro _; rfl
      | succ k ih =>
        intro hk
        have hlb := lgF_b (fun m => su (I (rc (sc s) m + 1)) (I (rc (sc s) m) 0)) k
        simp only [lgF]
        rw [ih (by omega)]
        have q1 := ew (k + 1) (by omega) (by omega)
        have q2 := ew _ hlb.1 (by omega)
        by_cases hp : su (I (rc (sc s) (k + 1) + 1)) (I (rc (sc s) (k + 1)) 0) < su (I (rc (sc s) (lgF (fun m => su (I (rc (sc s) m + 1)) (I (rc (sc s) m) 0)) k) + 1)) (I (rc (sc s) (lgF (fun m => su (I (rc (sc s) m + 1)) (I (rc (sc s) m) 0)) k)) 0)
        · rw [if_pos hp, if_pos (by rw [q1, q2]; exact hp)]
        · rw [if_neg hp, if_neg (by rw [q1, q2]; exact hp)]
    rcases hc with ⟨a, rfl⟩ | ⟨a, a2, rfl⟩ | ⟨a, a2, rfl⟩ <;> rcases hm with ⟨b, rfl⟩ | ⟨b, b2, rfl⟩ | ⟨b, b2, rfl⟩ <;> first | rfl | (exfalso; omega) | (exact (el _ (by omega)).symm)
  · rcases hc with ⟨a, rfl⟩ | ⟨a, _⟩ | ⟨a, _⟩
    · rcases hm with ⟨b, rfl⟩ | ⟨b, _⟩ | ⟨b, _⟩
      · rfl
      all_goals exact absurd b hs
    all_goals exact absurd a hs
theorem o_held {s k : Int} (h : Inv I J) (hc : Cp_held s k I J r I1 J1) : Mid I J I1 J1 ∧ ∀ r2 I2 J2, Mp_held s k I1 J1 r2 I2 J2 → r = r2 ∧ Inv I2 J2 := by
  obtain ⟨e1, e2, hc⟩ := hc
  replace e1 := e1.symm
  replace e2 := e2.symm
  subst e1 e2
  refine ⟨Mid.rf, fun r2 I2 J2 hm => ?_⟩
  obtain ⟨e1, e2, hm⟩ := hm
  replace e1 := e1.symm
  replace e2 := e2.symm
  subst e1 e2
  refine ⟨?_, h⟩
  by_cases hs : 0 ≤ s ∧ s < 2
  · have hE := h.1.sh hs
    rw [hE.2.1] at hm
    have ew : ∀ m, 0 ≤ m → m < I (sc s) 0 → su (kR (I 125) s m) 30 = su (I (rc (sc s) m + 1)) (I (rc (sc s) m) 0) := fun m a b => by
      rw [(hE.2.2 m a b).2, gR_30 (hE.1.2 m a b)]
    rcases hc with ⟨a, rfl⟩ | ⟨a, a2, rfl⟩ | ⟨a, a2, a3, rfl⟩ | ⟨a, a2, rfl⟩ <;> rcases hm with ⟨b, rfl⟩ | ⟨b, b2, rfl⟩ | ⟨b, b2, b3, rfl⟩ | ⟨b, b2, rfl⟩ <;> first | rfl | (exact absurd hs a) | (exact absurd hs b) | (exfalso; omega) | (exact (ew _ a2.1 a2.2).symm)
  · rcases hc with ⟨a, rfl⟩ | ⟨a, _⟩ | ⟨a, _⟩ | ⟨a, _⟩
    · rcases hm with ⟨b, rfl⟩ | ⟨b, _⟩ | ⟨b, _⟩ | ⟨b, _⟩
      · rfl
      all_goals exact absurd b hs
    all_goals exact absurd a hs
theorem o_get {i j : Int} (h : Inv I J) (hc : Cp_get i j I J r I1 J1) : Mid I J I1 J1 ∧ ∀ r2 I2 J2, Mp_get i j I1 J1 r2 I2 J2 → r = r2 ∧ Inv I2 J2 := by
  have hl := h.2.2.1.2.1
  have hk := h.2.2.1.1
  obtain ⟨e1, e2, hc⟩ := hc
  replace e1 := e1.symm
  replace e2 := e2.symm
  subst e1 e2
  refine ⟨Mid.rf, fun r2 I2 J2 hm => ?_⟩
  obtain ⟨e1, e2, hm⟩ := hm
  replace e1 := e1.symm
  replace e2 := e2.symm
  subst e1 e2
  refine ⟨?_, h⟩
  by_cases hi : 0 ≤ i ∧ i < 3
  · have e := hl i hi.1 hi.2
    have e3 := (hk i hi.1 hi.2).1
    rw [e.1] at hm
    rcases hc with ⟨a, rfl⟩ | ⟨a, rfl⟩ <;> rcases hm with ⟨b, rfl⟩ | ⟨b, rfl⟩
    · rfl
    · exact absurd b a
    · exact absurd a b
    · exact (e.2 j a.2.1 (by omega)).symm
  · rcases hc with ⟨a, rfl⟩ | ⟨a, rfl⟩
    · rcases hm with ⟨b, rfl⟩ | ⟨b, rfl⟩
      · rfl
      · exact absurd b.1 hi
    · exact absurd a.1 hi
theorem o_count {w : Int} (h : Inv I J) (hc : Cp_count w I J r I1 J1) : Mid I J I1 J1 ∧ ∀ r2 I2 J2, Mp_count w I1 J1 r2 I2 J2 → r = r2 ∧ Inv I2 J2 := by
  have hr := h.1.1
  have hl := h.2.2.1.2.1
  have h8 := h.1.2.2.1.2.1
  have h26 := h.1.2.2.2.2.1
  have hp := h.1.2.1.2.1
  have ht := h.2.2.2.1.2.1
  obtain ⟨e1, e2, hc⟩ := hc
  replace e1 := e1.symm
  replace e2 := e2.symm
  subst e1 e2
  refine ⟨Mid.rf, fun r2 I2 J2 hm => ?_⟩
  obtain ⟨e1, e2, hm⟩ := hm
  replace e1 := e1.symm
  replace e2 := e2.symm
  subst e1 e2
  refine ⟨?_, h⟩
  have e5 : su (fun i => zb (0 ≤ I 136 i)) 3 = su (fun i => zb (0 ≤ I (lc i) 0)) 3 := su_c (fun j a b => by
    show zb (0 ≤ I 136 j) = zb (0 ≤ I (lc j) 0)
    rw [(hl j a b).1])
  rw [hr.2.1, hr.2.2, hp, ht, h8, h26, e5] at hm
  rcases hc with ⟨a, rfl⟩ | ⟨a, rfl⟩ | ⟨a, rfl⟩ | ⟨a, rfl⟩ | ⟨a, rfl⟩ | ⟨a, rfl⟩ | ⟨a, rfl⟩ <;> rcases hm with ⟨b, rfl⟩ | ⟨b, rfl⟩ | ⟨b, rfl⟩ | ⟨b, rfl⟩ | ⟨b, rfl⟩ | ⟨b, rfl⟩ | ⟨b, rfl⟩ <;> first | rfl | (exfalso; omega)
theorem o_prime {i : Int} (h : Inv I J) (hc : Cp_prime i I J r I1 J1) : Mid I J I1 J1 ∧ ∀ r2 I2 J2, Mp_prime i I1 J1 r2 I2 J2 → r = r2 ∧ Inv I2 J2 := by
  have hr := h.1.1
  obtain ⟨e1, e2, hc⟩ := hc
  replace e1 := e1.symm
  replace e2 := e2.symm
  subst e1 e2
  refine ⟨Mid.rf, fun r2 I2 J2 hm => ?_⟩
  obtain ⟨e1, e2, hm⟩ := hm
  replace e1 := e1.symm
  replace e2 := e2.symm
  subst e1 e2
  refine ⟨?_, h⟩
  rw [hr.2.1] at hm
  rcases hc with ⟨a, rfl⟩ | ⟨a, rfl⟩
  · have hn := hr.1.1
    rw [hm, fz_skip (a' := I 2 0 + 1) (by omega) (by omega) (fun p a1 a2 q => by
      have := (su_zb (fun q => isP q (I 2 0)) (e := p) (by omega)).1
      have := q.2
      omega), fz_end _ _ (by omega), if_neg (by omega)]
  · exact hm.symm
end
