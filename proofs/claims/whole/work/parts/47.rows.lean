/-! calls that change the row -/
theorem RowR.i {I : Mz} {n : Int} {c : Int → Int} (h : gR n c) (a1 : I 2 0 = n) (a2 : I 3 = c) (a3 : I 121 0 = n) (a4 : I 122 = c) : RowR I := by
  unfold RowR; rw [a1, a2, a3, a4]; exact ⟨h, rfl, rfl⟩
theorem gR_z {n : Int} (h : 2 ≤ n ∧ n ≤ 30) : gR n (fun _ => 0) := ⟨h, fun _ => ⟨by show (0 : Int) ≤ 0; omega, by show (0 : Int) ≤ 9; omega⟩, fun _ _ => rfl⟩
theorem gR_u {n : Int} {c : Int → Int} (h : gR n c) {e v : Int} (he : 0 ≤ e ∧ e < n) (hv : 0 ≤ v ∧ v ≤ 9) : gR n (uz c e v) := by
  refine ⟨h.1, fun x => ?_, fun x hx => ?_⟩
  · unfold uz; split
    · exact hv
    · exact h.2.1 x
  · rw [uz_ne _ _ (by omega)]; exact h.2.2 x hx
theorem gR_d {n : Int} {c fi : Int → Int} (h : gR n c) (hv : vld n c fi) : gR n (fun e => c e - fi e) := by
  refine ⟨h.1, fun e => ?_, fun e he => ?_⟩
  · have := hv.1 e; have := h.2.1 e; show 0 ≤ c e - fi e ∧ c e - fi e ≤ 9; omega
  · show c e - fi e = 0
    rw [h.2.2 e he, hv.2 e he]; rfl
theorem fr.e {I I1 : Mz} (h : I1 = I) : fr [] I I1 := by rw [h]; exact fr.rf
theorem fr.q0 {L : List Nat} {I I2 : Mz} (f : fr L I I2) (hL : L.contains 121 = false := by decide +kernel) : ∀ q, q ∉ ([] : List Int) → I2 121 q = I 121 q := fun q _ => by rw [f.at 121 hL]
theorem qn {q k : Int} {Q : List Int} (h : q ∉ Q) (hk : Q.contains k = true := by decide +kernel) : q ≠ k := fun e => h (by rw [e]; exact List.contains_iff_mem.mp hk)
section
variable {I J I1 J1 : Mz} {r : Int}
theorem o_base {a : Int} (h : Inv I J) (hc : Cp_base a I J r I1 J1) : Mid I J I1 J1 ∧ ∀ r2 I2 J2, Mp_base a I1 J1 r2 I2 J2 → r = r2 ∧ Inv I2 J2 := by
  have hr := h.1.1
  rcases hc with ⟨a1, e, e1, e2⟩ | ⟨a1, e, e1, e2⟩
  · have f : fr [2, 3] I I1 := by rw [e1]; exact (fr.rf.st rfl).st rfl
    have m : Mid I J I1 J1 := Mid.fr f (fr.e e2)
    refine ⟨m, fun r2 I2 J2 hm => ?_⟩
    have e121 := m.1 121 (by omega)
    rcases hm with ⟨b, g, g1, g2⟩ | ⟨b, g, g1, g2⟩
    · have f2 : fr [121, 122] I1 I2 := by rw [g1]; exact (fr.rf.st rfl).st rfl
      refine ⟨by rw [e, g, e121, hr.2.1], h.up (Q := [0]) (f.ap f2) (fr.e (g2.trans e2)) (fun q hq => ?_) (hr := Or.inr (RowR.i (gR_z a1) ?_ ?_ ?_ ?_))⟩
      · have := qn (k := 0) hq
        rw [g1]; simp [sz, uz, this, e121]
      · rw [f2.at 2 rfl, e1]; simp [sz, uz]
      · rw [f2.at 3 rfl, e1]; simp [sz]
      · rw [g1]; simp [sz, uz]
      · rw [g1]; simp [sz]
    · exact absurd a1 b
  · subst e e1 e2
    refine ⟨Mid.rf, fun r2 I2 J2 hm => ?_⟩
    rcases hm with ⟨b, g, g1, g2⟩ | ⟨b, g, g1, g2⟩
    · exact absurd b a1
    · subst g g1 g2
      exact ⟨rfl, h⟩
theorem o_set {e c : Int} (h : Inv I J) (hc : Cp_set e c I J r I1 J1) : Mid I J I1 J1 ∧ ∀ r2 I2 J2, Mp_set e c I1 J1 r2 I2 J2 → r = r2 ∧ Inv I2 J2 := by
  have hr := h.1.1
  have F : fr [3] I I1 ∧ J1 = J := by
    rcases hc with ⟨_, _, e1, e2⟩ | ⟨_, _, _, e1, e2⟩ | ⟨_, _, _, e1, e2⟩
    · exact ⟨by rw [e1]; exact fr.rf, e2⟩
    · exact ⟨by rw [e1]; exact fr.rf, e2⟩
    · exact ⟨by rw [e1]; exact fr.rf.st rfl, e2⟩
  have m : Mid I J I1 J1 := Mid.fr F.1 (fr.e F.2)
  refine ⟨m, fun r2 I2 J2 hm => ?_⟩
  unfold Mp_set at hm
  rw [m.1 121 (by omega), m.1 122 (by omega), hr.2.1, hr.2.2] at hm
  rcases hc with ⟨a, x, e1, e2⟩ | ⟨a, a2, x, e1, e2⟩ | ⟨a, a2, x, e1, e2⟩ <;> rcases hm with ⟨b, g, g1, g2⟩ | ⟨b, b2, g, g1, g2⟩ | ⟨b, b2, g, g1, g2⟩ <;> first | (exact absurd a b) | (exact absurd b a) | (exact absurd a2 b2) | (exact absurd b2 a2) | (exact ⟨by rw [x, g], by rw [g1, e1, g2, e2]; exact h⟩) | skip
  have f2 : fr [122] I1 I2 := by rw [g1]; exact fr.rf.st rfl
  have f3 := F.1.ap f2
  refine ⟨by rw [x, g], h.up f3 (fr.e (g2.trans e2)) f3.q0 (hr := Or.inr (RowR.i (gR_u hr.1 a a2) ?_ ?_ ?_ ?_))⟩
  · rw [f3.at 2 rfl]
  · rw [f2.at 3 rfl, e1, sz_eq]
  · rw [f3.at 121 rfl, hr.2.1]
  · rw [g1, sz_eq]
theorem o_add {e : Int} (h : Inv I J) (hc : Cp_add e I J r I1 J1) : Mid I J I1 J1 ∧ ∀ r2 I2 J2, Mp_add e I1 J1 r2 I2 J2 → r = r2 ∧ Inv I2 J2 := by
  have hr := h.1.1
  have F : fr [3] I I1 ∧ J1 = J := by
    rcases hc with ⟨_, _, e1, e2⟩ | ⟨_, _, _, e1, e2⟩ | ⟨_, _, _, e1, e2⟩
    · exact ⟨by rw [e1]; exact fr.rf, e2⟩
    · exact ⟨by rw [e1]; exact fr.rf, e2⟩
    · exact ⟨by rw [e1]; exact fr.rf.st rfl, e2⟩
  have m : Mid I J I1 J1 := Mid.fr F.1 (fr.e F.2)
  refine ⟨m, fun r2 I2 J2 hm => ?_⟩
  unfold Mp_add at hm
  rw [m.1 121 (by omega), m.1 122 (by omega), hr.2.1, hr.2.2] at hm
  rcases hc with ⟨a, x, e1, e2⟩ | ⟨a, a2, x, e1, e2⟩ | ⟨a, a2, x, e1, e2⟩ <;> rcases hm with ⟨b, g, g1, g2⟩ | ⟨b, b2, g, g1, g2⟩ | ⟨b, b2, g, g1, g2⟩ <;> first | (exact absurd a b) | (exact absurd b a) | (exfalso; omega) | (exact ⟨by rw [x, g], by rw [g1, e1, g2, e2]; exact h⟩) | skip
  have f2 : fr [122] I1 I2 := by rw [g1]; exact fr.rf.st rfl
  have f3 := F.1.ap f2
  have hv := hr.1.2.1 e
  refine ⟨by rw [x, g], h.up f3 (fr.e (g2.trans e2)) f3.q0 (hr := Or.inr (RowR.i (gR_u (v := I 3 e + 1) hr.1 a (by omega)) ?_ ?_ ?_ ?_))⟩
  · rw [f3.at 2 rfl]
  · rw [f2.at 3 rfl, e1, sz_eq]
  · rw [f3.at 121 rfl, hr.2.1]
  · rw [g1, sz_eq]
theorem o_clear (h : Inv I J) (hc : Cp_clear I J r I1 J1) : Mid I J I1 J1 ∧ ∀ r2 I2 J2, Mp_clear I1 J1 r2 I2 J2 → r = r2 ∧ Inv I2 J2 := by
  have hr := h.1.1
  obtain ⟨x, e1, e2⟩ := hc
  have f : fr [3] I I1 := by rw [e1]; exact fr.rf.st rfl
  have m : Mid I J I1 J1 := Mid.fr f (fr.e e2)
  refine ⟨m, fun r2 I2 J2 hm => ?_⟩
  obtain ⟨g, g1, g2⟩ := hm
  rw [m.1 121 (by omega), m.1 122 (by omega), hr.2.1, hr.2.2] at g
  have f2 : fr [122] I1 I2 := by rw [g1]; exact fr.rf.st rfl
  have f3 := f.ap f2
  refine ⟨by rw [x, g], h.up f3 (fr.e (g2.trans e2)) f3.q0 (hr := Or.inr (RowR.i (gR_z hr.1.1) ?_ ?_ ?_ ?_))⟩
  · rw [f3.at 2 rfl]
  · rw [f2.at 3 rfl, e1, sz_eq]
  · rw [f3.at 121 rfl, hr.2.1]
  · rw [g1, sz_eq]
/-- the row changed to the same on both sides, or kept on both -/
theorem Inv.rw1 {I2 J2 : Mz} {c : Int → Int} (h : Inv I J) (f : fr [3, 118] I I1) (e : J1 = J) (f2 : fr [122, 135] I1 I2) (e2 : J2 = J1) (hg : gR (I 2 0) c) (a : I1 3 = c) (b : I2 122 = c) : Inv I2 J2 := by
  have f3 := f.ap f2
  refine h.up f3 (fr.e (e2.trans e)) f3.q0 (hr := Or.inr (RowR.i hg ?_ ?_ ?_ b))
  · rw [f3.at 2 rfl]
  · rw [f2.at 3 rfl, a]
  · rw [f3.at 121 rfl, h.1.1.2.1]
theorem o_turn {k : Int} (h : Inv I J) (hc : Cp_turn k I J r I1 J1) : Mid I J I1 J1 ∧ ∀ r2 I2 J2, Mp_turn k I1 J1 r2 I2 J2 → r = r2 ∧ Inv I2 J2 := by
  have hr := h.1.1
  obtain ⟨f, e, x, hc⟩ := hc
  have m : Mid I J I1 J1 := Mid.fr f (fr.e e)
  refine ⟨m, fun r2 I2 J2 hm => ?_⟩
  obtain ⟨f2, e2, g, hm⟩ := hm
  rw [m.1 121 (by omega), m.1 122 (by omega), hr.2.1, hr.2.2] at hm
  rcases hc with ⟨a, a2⟩ | ⟨a, a2⟩ <;> rcases hm with ⟨b, b2⟩ | ⟨b, b2⟩
  · exact ⟨by rw [x, g, a2, b2], h.rw1 f e f2 e2 (chg_gR hr.1 a) a2 b2⟩
  · exact absurd a b
  · exact absurd b a
  · exact ⟨by rw [x, g, a2, b2], h.rw1 f e f2 e2 hr.1 a2 b2⟩
theorem o_mirror (h : Inv I J) (hc : Cp_mirror I J r I1 J1) : Mid I J I1 J1 ∧ ∀ r2 I2 J2, Mp_mirror I1 J1 r2 I2 J2 → r = r2 ∧ Inv I2 J2 := by
  have hr := h.1.1
  obtain ⟨f, e, x, hc⟩ := hc
  have m : Mid I J I1 J1 := Mid.fr f (fr.e e)
  refine ⟨m, fun r2 I2 J2 hm => ?_⟩
  obtain ⟨f2, e2, g, hm⟩ := hm
  rw [m.1 121 (by omega), m.1 122 (by omega), hr.2.1, hr.2.2] at hm
  rcases hc with ⟨a, a2⟩ | ⟨a, a2⟩ <;> rcases hm with ⟨b, b2⟩ | ⟨b, b2⟩
  · exact ⟨by rw [x, g, a2, b2], h.rw1 f e f2 e2 (chg_gR hr.1 a) a2 b2⟩
  · exact absurd a b
  · exact absurd b a
  · exact ⟨by rw [x, g, a2, b2], h.rw1 f e f2 e2 hr.1 a2 b2⟩
theorem o_times {u : Int} (h : Inv I J) (hc : Cp_times u I J r I1 J1) : Mid I J I1 J1 ∧ ∀ r2 I2 J2, Mp_times u I1 J1 r2 I2 J2 → r = r2 ∧ Inv I2 J2 := by
  have hr := h.1.1
  rcases hc with ⟨a, x, e1, e2⟩ | ⟨a, f, e, hc⟩
  · subst x e1 e2
    refine ⟨Mid.rf, fun r2 I2 J2 hm => ?_⟩
    rcases hm with ⟨b, g, g1, g2⟩ | ⟨b, _⟩ | ⟨b, _⟩
    · subst g g1 g2
      exact ⟨rfl, h⟩
    · exact absurd b a
    · exact absurd b a
  · have m : Mid I J I1 J1 := Mid.fr f (fr.e e)
    refine ⟨m, fun r2 I2 J2 hm => ?_⟩
    unfold Mp_times at hm
    rw [m.1 121 (by omega), m.1 122 (by omega), hr.2.1, hr.2.2] at hm
    rcases hm with ⟨b, _⟩ | ⟨b, b2, g, g1, g2⟩ | ⟨b, b2, f2, e2, g, hm⟩
    · exact absurd a b
    · rcases hc with ⟨a2, _⟩ | ⟨a2, x, a3⟩
      · exact absurd a2 b2
      · refine ⟨by rw [x, g], ?_⟩
        have f2 : fr [122, 135] I1 I2 := by rw [g1]; exact fr.rf
        exact h.rw1 f e f2 g2 hr.1 a3 (by rw [g1, m.1 122 (by omega), hr.2.2])
    · have hk := chg_1 hr.1 b2
      rcases hm with ⟨b3, b4⟩ | ⟨b3, b4⟩
      · rcases hc with ⟨a2, a3, x, a4⟩ | ⟨a2, x, a4⟩
        · exact ⟨by rw [x, g, a4, b4], h.rw1 f e f2 e2 (chg_gR hr.1 hk) a4 b4⟩
        · exact absurd ⟨b2, hk⟩ a2
      · exact absurd hk b3
theorem o_raise {u : Int} (h : Inv I J) (hc : Cp_raise u I J r I1 J1) : Mid I J I1 J1 ∧ ∀ r2 I2 J2, Mp_raise u I1 J1 r2 I2 J2 → r = r2 ∧ Inv I2 J2 := by
  have hr := h.1.1
  rcases hc with ⟨a, x, e1, e2⟩ | ⟨a, f, e, hc⟩
  · subst x e1 e2
    refine ⟨Mid.rf, fun r2 I2 J2 hm => ?_⟩
    rcases hm with ⟨b, g, g1, g2⟩ | ⟨b, _⟩
    · subst g g1 g2
      exact ⟨rfl, h⟩
    · exact absurd (by rw [← hr.2.1]; exact b) a
  · have m : Mid I J I1 J1 := Mid.fr f (fr.e e)
    refine ⟨m, fun r2 I2 J2 hm => ?_⟩
    unfold Mp_raise at hm
    rw [m.1 121 (by omega), m.1 122 (by omega), hr.2.1, hr.2.2] at hm
    rcases hm with ⟨b, _⟩ | ⟨b, f2, e2, hm⟩
    · exact absurd a b
    · rcases hc with ⟨a2, x, a3⟩ | ⟨a2, x, a3⟩ <;> rcases hm with ⟨b2, g, b3⟩ | ⟨b2, g, b3⟩
      · exact ⟨by rw [x, g, a3, b3], h.rw1 f e f2 e2 (chg_gR hr.1 a2) a3 b3⟩
      · exact absurd a2 b2
      · exact absurd b2 a2
      · exact ⟨by rw [x, g], h.rw1 f e f2 e2 hr.1 a3 b3⟩
theorem o_run (h : Inv I J) (hc : Cp_run I J r I1 J1) : Mid I J I1 J1 ∧ ∀ r2 I2 J2, Mp_run I1 J1 r2 I2 J2 → r = r2 ∧ Inv I2 J2 := by
  have hr := h.1.1
  obtain ⟨p1, p2, p3⟩ := h.1.2.1
  obtain ⟨f, e, a, x⟩ := hc
  have m : Mid I J I1 J1 := Mid.fr f (fr.e e)
  refine ⟨m, fun r2 I2 J2 hm => ?_⟩
  obtain ⟨f2, e2, b, g⟩ := hm
  rw [m.1 121 (by omega), m.1 122 (by omega), m.1 123 (by omega), hr.2.1, hr.2.2, p2] at b g
  have ew : ∀ k : Nat, (k : Int) ≤ I 4 0 → rnR (fun k => I 123 (2 * k)) (fun k => I 123 (2 * k + 1)) (I 2 0) (I 3) k = rnR (I 5) (I 6) (I 2 0) (I 3) k := by
    intro k
    induction k with
    | zero => intro _; rfl
    | succ k ih =>
      intro hk
      have q1 : I 123 (2 * (k : Int)) = I 5 k := (p3 k (by omega) (by omega)).1
      have q2 : I 123 (2 * (k : Int) + 1) = I 6 k := (p3 k (by omega) (by omega)).2
      simp only [rnR]
      rw [ih (by omega)]
      by_cases hp : rnP (I 5 k) (I 6 k) (I 2 0) (rnR (I 5) (I 6) (I 2 0) (I 3) k)
      · rw [if_pos hp, if_pos (by rw [q1, q2]; exact hp), q1, q2]
      · rw [if_neg hp, if_neg (by rw [q1, q2]; exact hp)]
  rw [ew _ (by have := p1.1; omega)] at b
  refine ⟨?_, h.rw1 f e f2 e2 (rnR_g hr.1 _) a b⟩
  rw [x, g]
  refine su_c (fun k a1 a2 => ?_)
  show zb (rnP (I 5 k) (I 6 k) (I 2 0) (rnR (I 5) (I 6) (I 2 0) (I 3) k.toNat)) = zb (rnP (I 123 (2 * k)) (I 123 (2 * k + 1)) (I 2 0) (rnR (fun k => I 123 (2 * k)) (fun k => I 123 (2 * k + 1)) (I 2 0) (I 3) k.toNat))
  have q1 : I 123 (2 * k) = I 5 k := (p3 k a1 a2).1
  have q2 : I 123 (2 * k + 1) = I 6 k := (p3 k a1 a2).2
  rw [ew k.toNat (by omega), q1, q2]
end
