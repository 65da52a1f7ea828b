/-! lists, the tape, the image -/
section
variable {I J I1 J1 : Mz} {r : Int}
theorem lc_n {t i : Int} (a : 0 ≤ t) (b : 0 ≤ i) (h : t ≠ i) : lc t ≠ lc i ∧ lc t + 1 ≠ lc i + 1 ∧ lc t ≠ lc i + 1 ∧ lc t + 1 ≠ lc i := by
  simp only [lc]; omega
theorem o_list {i n : Int} (h : Inv I J) (hc : Cp_list i n I J r I1 J1) : Mid I J I1 J1 ∧ ∀ r2 I2 J2, Mp_list i n I1 J1 r2 I2 J2 → r = r2 ∧ Inv I2 J2 := by
  have F : fr [104, 106, 108] I I1 ∧ fr [105, 107, 109] J J1 := by
    rcases hc with ⟨_, _, e1, e2⟩ | ⟨_, _, _, e1, e2⟩ | ⟨_, _, _, e1, e2⟩ | ⟨a, _, _, e1, e2⟩
    · rw [e1, e2]; exact ⟨fr.rf, fr.rf⟩
    · rw [e1, e2]; exact ⟨fr.rf, fr.rf⟩
    · rw [e1, e2]; exact ⟨fr.rf, fr.rf⟩
    · rw [e1, e2]; exact ⟨fr_lc a, fr_lj a⟩
  have m : Mid I J I1 J1 := Mid.fr F.1 F.2
  refine ⟨m, fun r2 I2 J2 hm => ?_⟩
  rcases hc with ⟨c, x, e1, e2⟩ | ⟨c, c2, x, e1, e2⟩ | ⟨c, c2, x, e1, e2⟩ | ⟨c, c2, x, e1, e2⟩ <;> rcases hm with ⟨b, y, g1, g2⟩ | ⟨b, b2, y, g1, g2⟩ | ⟨b, b2, y, g1, g2⟩ | ⟨b, b2, y, g1, gj, g3, g4⟩ <;> first | (exact absurd c b) | (exact absurd b c) | (exfalso; omega) | (exact ⟨x.trans y.symm, by rw [g1, e1, g2, e2]; exact h⟩) | skip
  have g : fr [136] I1 I2 := by rw [g1]; exact fr.rf.st rfl
  have f3 := F.1.ap g
  refine ⟨x.trans y.symm, h.up f3 (F.2.ap gj) f3.q0 (hl := Or.inr (h.2.2.1.set (i := i) (n := n) (v := fun _ => 0) c c2 (fun j => by show (-9223372036854775808 : Int) ≤ 0 ∧ (0 : Int) ≤ 9223372036854775807; omega) ?_ ?_ (fun t t0 t1 ht => ?_) ?_ (fun t ht => ?_) (fun j j0 j1 => ?_) (fun z hz => ?_)))⟩
  · rw [g (lc i) (by simp only [lc]; intro q; simp at q; omega), e1, sz_eq, uz_eq]
  · rw [gj (lc i + 1) (by simp only [lc]; intro q; simp at q; omega), e2, sz_eq]
  · have hn := lc_n t0 c.1 ht
    rw [g (lc t) (by simp only [lc]; intro q; simp at q; omega), gj (lc t + 1) (by simp only [lc]; intro q; simp at q; omega), e1, e2, sz_ne _ _ hn.1, sz_ne _ _ hn.2.1]
    exact ⟨rfl, rfl⟩
  · rw [g1, sz_eq, uz_eq]
  · rw [g1, sz_eq, uz_ne _ _ ht, F.1.at 136 rfl]
  · exact g3 _ (by omega) (by omega)
  · rw [g4 z hz, F.2.at 137 rfl]
theorem o_film {i : Int} (h : Inv I J) (hc : Cp_film i I J r I1 J1) : Mid I J I1 J1 ∧ ∀ r2 I2 J2, Mp_film i I1 J1 r2 I2 J2 → r = r2 ∧ Inv I2 J2 := by
  have hr := h.1.1
  have F : fr [104, 106, 108] I I1 ∧ fr [105, 107, 109] J J1 := by
    rcases hc with ⟨_, _, e1, e2⟩ | ⟨a, _, e1, e2⟩
    · rw [e1, e2]; exact ⟨fr.rf, fr.rf⟩
    · rw [e1, e2]; exact ⟨fr_lc a, fr_lj a⟩
  have m : Mid I J I1 J1 := Mid.fr F.1 F.2
  refine ⟨m, fun r2 I2 J2 hm => ?_⟩
  unfold Mp_film at hm
  rw [m.1 121 (by omega), m.1 122 (by omega), hr.2.1, hr.2.2] at hm
  rcases hc with ⟨c, x, e1, e2⟩ | ⟨c, x, e1, e2⟩ <;> rcases hm with ⟨b, y, g1, g2⟩ | ⟨b, y, g1, gj, g3, g4⟩ <;> first | (exact absurd c b) | (exact absurd b c) | (exact ⟨x.trans y.symm, by rw [g1, e1, g2, e2]; exact h⟩) | skip
  have g : fr [136] I1 I2 := by rw [g1]; exact fr.rf.st rfl
  have f3 := F.1.ap g
  refine ⟨x.trans y.symm, h.up f3 (F.2.ap gj) f3.q0 (hl := Or.inr (h.2.2.1.set (i := i) (n := I 2 0) (v := I 3) c (by have := hr.1.1; omega) (fun j => by have := hr.1.2.1 j; omega) ?_ ?_ (fun t t0 t1 ht => ?_) ?_ (fun t ht => ?_) (fun j j0 j1 => ?_) (fun z hz => ?_)))⟩
  · rw [g (lc i) (by simp only [lc]; intro q; simp at q; omega), e1, sz_eq, uz_eq]
  · rw [gj (lc i + 1) (by simp only [lc]; intro q; simp at q; omega), e2, sz_eq]
  · have hn := lc_n t0 c.1 ht
    rw [g (lc t) (by simp only [lc]; intro q; simp at q; omega), gj (lc t + 1) (by simp only [lc]; intro q; simp at q; omega), e1, e2, sz_ne _ _ hn.1, sz_ne _ _ hn.2.1]
    exact ⟨rfl, rfl⟩
  · rw [g1, sz_eq, uz_eq]
  · rw [g1, sz_eq, uz_ne _ _ ht, F.1.at 136 rfl]
  · exact g3 _ (by omega) (by omega)
  · rw [g4 z hz, F.2.at 137 rfl]
theorem o_put {i j v : Int} (hv : -9223372036854775808 ≤ v ∧ v ≤ 9223372036854775807) (h : Inv I J) (hc : Cp_put i j v I J r I1 J1) : Mid I J I1 J1 ∧ ∀ r2 I2 J2, Mp_put i j v I1 J1 r2 I2 J2 → r = r2 ∧ Inv I2 J2 := by
  have hL := h.2.2.1
  obtain ⟨e1, hc⟩ := hc
  replace e1 := e1.symm
  subst e1
  have F : fr [105, 107, 109] J J1 := by
    rcases hc with ⟨_, _, e2⟩ | ⟨_, _, _, e2⟩ | ⟨_, _, _, _, e2⟩ | ⟨a, _, _, e2⟩
    · rw [e2]; exact fr.rf
    · rw [e2]; exact fr.rf
    · rw [e2]; exact fr.rf
    · rw [e2]; exact fr_lj a
  have m : Mid I J I J1 := Mid.fr (L := []) fr.rf F
  refine ⟨m, fun r2 I2 J2 hm => ?_⟩
  obtain ⟨e1, hm⟩ := hm
  replace e1 := e1.symm
  subst e1
  by_cases hi : 0 ≤ i ∧ i < 3
  · have e := hL.2.1 i hi.1 hi.2
    have hb := hL.1 i hi.1 hi.2
    rw [e.1, m.2] at hm
    rcases hc with ⟨c, x, e2⟩ | ⟨c, c2, x, e2⟩ | ⟨c, c2, c3, x, e2⟩ | ⟨c, c2, x, e2⟩ <;> rcases hm with ⟨b, y, g2⟩ | ⟨b, b2, y, g2⟩ | ⟨b, b2, b3, y, g2⟩ | ⟨b, b2, y, g2⟩ <;> first | (exact absurd c b) | (exact absurd b c) | (exfalso; omega) | (exact ⟨x.trans y.symm, by rw [g2, e2]; exact h⟩) | skip
    have gj : fr [137] J1 J2 := by rw [g2]; exact fr.rf.st rfl
    refine ⟨x.trans y.symm, h.up (L := []) fr.rf (F.ap gj) (fun q (_ : q ∉ ([] : List Int)) => rfl) (hl := Or.inr (hL.set (i := i) (n := I (lc i) 0) (v := uz (J (lc i + 1)) j v) hi hb.1 (fun q => ?_) rfl ?_ (fun t t0 t1 ht => ?_) e.1 (fun t ht => rfl) (fun q j0 j1 => ?_) (fun z hz => ?_)))⟩
    · unfold uz; split
      · exact hv
      · exact hb.2 q
    · rw [gj (lc i + 1) (by simp only [lc]; intro q; simp at q; omega), e2, sz_eq]
    · have hn := lc_n t0 c.1 ht
      rw [gj (lc t + 1) (by simp only [lc]; intro q; simp at q; omega), e2, sz_ne _ _ hn.2.1]
      exact ⟨rfl, rfl⟩
    · rw [g2, sz_eq]
      by_cases hq : q = j
      · rw [hq, uz_eq, uz_eq]
      · rw [uz_ne _ _ (by omega), uz_ne _ _ hq]; exact e.2 q j0 j1
    · rw [g2, sz_eq, uz_ne _ _ (by omega)]
  · rcases hc with ⟨c, x, e2⟩ | ⟨c, _⟩ | ⟨c, _⟩ | ⟨c, _⟩
    · rcases hm with ⟨b, y, g2⟩ | ⟨b, _⟩ | ⟨b, _⟩ | ⟨b, _⟩
      · exact ⟨x.trans y.symm, by rw [g2, e2]; exact h⟩
      all_goals exact absurd b hi
    all_goals exact absurd c hi
theorem o_feed {a : Int} (h : Inv I J) (hc : Cp_feed a I J r I1 J1) : Mid I J I1 J1 ∧ ∀ r2 I2 J2, Mp_feed a I1 J1 r2 I2 J2 → r = r2 ∧ Inv I2 J2 := by
  obtain ⟨t1, t2, t3⟩ := h.2.2.2.1
  obtain ⟨e, hc⟩ := hc
  have f : fr [110, 111] I I1 := by
    rcases hc with ⟨_, _, e1⟩ | ⟨_, _, _, e1⟩ | ⟨_, _, _, e1⟩
    · rw [e1]; exact fr.rf
    · rw [e1]; exact fr.rf
    · rw [e1]; exact (fr.rf.st rfl).st rfl
  have m : Mid I J I1 J1 := Mid.fr f (fr.e e)
  refine ⟨m, fun r2 I2 J2 hm => ?_⟩
  obtain ⟨e2, hm⟩ := hm
  rw [m.1 121 (by omega), m.1 141 (by omega), t2, t3] at hm
  rcases hc with ⟨c, x, e1⟩ | ⟨c, c2, x, e1⟩ | ⟨c, c2, x, e1⟩ <;> rcases hm with ⟨b, y, g1⟩ | ⟨b, b2, y, g1⟩ | ⟨b, b2, y, g1⟩ <;> first | (exact absurd c b) | (exact absurd b c) | (exfalso; omega) | (exact ⟨x.trans y.symm, by rw [g1, e1, e2, e]; exact h⟩) | skip
  have g : fr [121, 141] I1 I2 := by rw [g1]; exact (fr.rf.st rfl).st rfl
  have v110 : I2 110 2 = I 110 2 + 1 := by rw [g.at 110 rfl, e1]; simp [sz, uz]
  have v111 : I2 111 = uz (I 111) (I 110 2) a := by rw [g.at 111 rfl, e1]; simp [sz]
  have v121 : I2 121 25 = I 110 2 + 1 := by rw [g1]; simp [sz, uz]
  have v141 : I2 141 = uz (I 111) (I 110 2) a := by rw [g1]; simp [sz]
  refine ⟨x.trans y.symm, h.up (Q := [25]) (f.ap g) (fr.e (e2.trans e)) (fun q hq => ?_) (ht := Or.inr ⟨⟨by rw [v110]; have := t1.1; omega, fun j a1 a2 => ?_⟩, by rw [v110, v121], by rw [v111, v141]⟩)⟩
  · have hq3 : q ≠ 25 := qn hq
    rw [g1]; simp [sz, uz, hq3]
  · rw [v110] at a2
    rw [v111]
    by_cases hj : j = I 110 2
    · rw [hj, uz_eq]; exact c
    · rw [uz_ne _ _ hj]; exact t1.2 j a1 (by omega)
theorem o_wipe (h : Inv I J) (hc : Cp_wipe I J r I1 J1) : Mid I J I1 J1 ∧ ∀ r2 I2 J2, Mp_wipe I1 J1 r2 I2 J2 → r = r2 ∧ Inv I2 J2 := by
  obtain ⟨t1, t2, t3⟩ := h.2.2.2.1
  obtain ⟨x, e1, e⟩ := hc
  have f : fr [110] I I1 := by rw [e1]; exact fr.rf.st rfl
  have m : Mid I J I1 J1 := Mid.fr f (fr.e e)
  refine ⟨m, fun r2 I2 J2 hm => ?_⟩
  obtain ⟨y, g1, e2⟩ := hm
  have g : fr [121] I1 I2 := by rw [g1]; exact fr.rf.st rfl
  have v110 : I2 110 2 = 0 := by rw [g.at 110 rfl, e1]; simp [sz, uz]
  have v121 : I2 121 25 = 0 := by rw [g1]; simp [sz, uz]
  refine ⟨by rw [x, y, m.1 121 (by omega), t2], h.up (Q := [25]) (f.ap g) (fr.e (e2.trans e)) (fun q hq => ?_) (ht := Or.inr ⟨⟨by rw [v110]; omega, fun j a1 a2 => by rw [v110] at a2; omega⟩, by rw [v110, v121], by rw [(f.ap g).at 141 rfl, (f.ap g).at 111 rfl, t3]⟩)⟩
  have hq3 : q ≠ 25 := qn hq
  rw [g1]; simp [sz, uz, hq3, m.1 121 (by omega)]
theorem o_read (h : Inv I J) (hc : Cp_read I J r I1 J1) : Mid I J I1 J1 ∧ ∀ r2 I2 J2, Mp_read I1 J1 r2 I2 J2 → r = r2 ∧ Inv I2 J2 := by
  have hr := h.1.1
  obtain ⟨t1, t2, t3⟩ := h.2.2.2.1
  obtain ⟨e, f, e110, hc⟩ := hc
  have m : Mid I J I1 J1 := Mid.fr f (fr.e e)
  refine ⟨m, fun r2 I2 J2 hm => ?_⟩
  obtain ⟨e2, ⟨g, gq⟩, e25, hm⟩ := hm
  rw [m.1 121 (by omega), m.1 122 (by omega), m.1 141 (by omega), t2, t3, hr.2.1, hr.2.2] at hm
  have key : ∀ n c, gR n c → I1 2 0 = n → I1 3 = c → I2 121 0 = n → I2 122 = c → Inv I2 J2 := fun n c hg a1 a2 a3 a4 => by
    refine h.up (Q := [0, 25, 26, 27]) (f.ap g) (fr.e (e2.trans e)) (fun q hq => (gq q (qn hq) (qn hq) (qn hq) (qn hq)).trans (by rw [f.at 121 rfl])) (hr := Or.inr (RowR.i hg ?_ ?_ a3 a4)) (ht := Or.inr ⟨⟨by rw [g.at 110 rfl, e110]; omega, fun j b1 b2 => by rw [g.at 110 rfl, e110] at b2; omega⟩, by rw [g.at 110 rfl, e110, e25], by rw [(f.ap g).at 141 rfl, (f.ap g).at 111 rfl, t3]⟩)
    · rw [g.at 2 rfl, a1]
    · rw [g.at 3 rfl, a2]
  rcases hc with ⟨c, x, c1, c2⟩ | ⟨c, c3, x, c1, c2⟩ | ⟨c, c3, c4, x, c1, c2, c5⟩ <;> rcases hm with ⟨b, y, b1, b2⟩ | ⟨b, b3, y, b1, b2⟩ | ⟨b, b3, b4, y, b1, b2⟩
  · exact ⟨x.trans y.symm, key _ _ hr.1 (by rw [c1]) c2 b1 b2⟩
  · exact absurd b c
  · exact absurd b c
  · exact absurd c b
  · exact ⟨x.trans y.symm, key _ _ hr.1 (by rw [c1]) c2 b1 b2⟩
  · exfalso; omega
  · exact absurd c b
  · exfalso; omega
  · exact ⟨x.trans y.symm, key _ _ c5 c1 c2 b1 b2⟩
theorem o_image (h : Inv I J) (hc : Cp_image I J r I1 J1) : Mid I J I1 J1 ∧ ∀ r2 I2 J2, Mp_image I1 J1 r2 I2 J2 → r = r2 ∧ Inv I2 J2 := by
  obtain ⟨hr, hp, h8, h26⟩ := h.1
  obtain ⟨x, c0, c45, c46, c47, c48, c49, c51, c69, e1, e⟩ := hc
  have f : fr BI I I1 := fun q hq => e1 q (BI_n hq)
  have m : Mid I J I1 J1 := Mid.fr f (fr.e e)
  refine ⟨m, fun r2 I2 J2 hm => ?_⟩
  obtain ⟨y, g1, e2⟩ := hm
  rw [m.1 121 (by omega), m.1 122 (by omega), hr.2.1, hr.2.2] at y
  have g : fr [121, 143, 144, 145, 146] I1 I2 := by rw [g1]; exact ((((fr.rf.st rfl).st rfl).st rfl).st rfl).st rfl
  have v30 : I2 121 30 = 1 := by rw [g1]; simp [sz, uz]
  have v31 : I2 121 31 = I 2 0 := by rw [g1]; simp [sz, uz]; rw [m.1 121 (by omega), hr.2.1]
  have v32 : I2 121 32 = I 121 3 := by rw [g1]; simp [sz, uz]; rw [m.1 121 (by omega)]
  have v143 : I2 143 = I 3 := by rw [g1]; simp [sz]; rw [m.1 122 (by omega), hr.2.2]
  have v144 : I2 144 = I 123 := by rw [g1]; simp [sz]; rw [m.1 123 (by omega)]
  have v145 : I2 145 = I 124 := by rw [g1]; simp [sz]; rw [m.1 124 (by omega)]
  have v146 : I2 146 = I 125 := by rw [g1]; simp [sz]; rw [m.1 125 (by omega)]
  have w0 : I2 0 2 = 1 := by rw [g.at 0 rfl, c0]
  have w45 : I2 45 0 = I 2 0 := by rw [g.at 45 rfl, c45]
  have w46 : I2 46 = I 3 := by rw [g.at 46 rfl, c46]
  have w51 : I2 51 0 = I 8 0 := by rw [g.at 51 rfl, c51.1]
  have w69 : I2 69 0 = I 26 0 := by rw [g.at 69 rfl, c69.1]
  have hb8 := h8.1.1
  have hb26 := h26.1.1
  refine ⟨x.trans y.symm, h.up (Q := [30, 31, 32]) (f.ap g) (fr.e (e2.trans e)) (fun q hq => ?_) (hi := Or.inr ⟨Or.inr w0, by rw [v30, w0], by rw [w45, w46]; exact hr.1, by rw [w51]; exact hb8, by rw [w69]; exact hb26, fun _ => ⟨by rw [v31, w45], by rw [v143, w46], hp.mv ?_ ?_ ?_ v32 v144, h8.mv w51 (fun k a b => ?_) (by rw [v145]) v146, h26.mv w69 (fun k a b => ?_) (by rw [v145]) v146⟩⟩)⟩
  · have q1 : q ≠ 30 := qn hq
    have q2 : q ≠ 31 := qn hq
    have q3 : q ≠ 32 := qn hq
    rw [g1]; simp [sz, uz, q1, q2, q3, m.1 121 (by omega)]
  · rw [g.at 47 rfl, c47]
  · rw [show (47 + 1 : Nat) = 48 from rfl, g.at 48 rfl, c48]
  · rw [show (47 + 2 : Nat) = 49 from rfl, g.at 49 rfl, c49]
  · rw [g (rc 51 k) (by simp only [rc]; intro q; simp at q; omega), g (rc 51 k + 1) (by simp only [rc]; intro q; simp at q; omega)]
    exact c51.2 k a b
  · rw [g (rc 69 k) (by simp only [rc]; intro q; simp at q; omega), g (rc 69 k + 1) (by simp only [rc]; intro q; simp at q; omega)]
    exact c69.2 k a b
theorem o_undo (h : Inv I J) (hc : Cp_undo I J r I1 J1) : Mid I J I1 J1 ∧ ∀ r2 I2 J2, Mp_undo I1 J1 r2 I2 J2 → r = r2 ∧ Inv I2 J2 := by
  obtain ⟨i1, i2, i3, i4, i5, i6⟩ := h.2.1
  obtain ⟨e, hc⟩ := hc
  have f : fr BU I I1 := by
    rcases hc with ⟨_, _, e1⟩ | ⟨_, _, _, _, _, _, _, _, _, e1⟩
    · rw [e1]; exact fr.rf
    · exact fun q hq => e1 q (BU_n hq)
  have m : Mid I J I1 J1 := Mid.fr f (fr.e e)
  refine ⟨m, fun r2 I2 J2 hm => ?_⟩
  obtain ⟨e2, hm⟩ := hm
  rw [m.1 121 (by omega), m.1 143 (by omega), m.1 144 (by omega), m.1 145 (by omega), m.1 146 (by omega), i2] at hm
  rcases hc with ⟨c, x, e1⟩ | ⟨c, x, c2, c3, c4, c5, c6, c8, c26, e1⟩ <;> rcases hm with ⟨b, y, g1⟩ | ⟨b, y, g1⟩ <;> first | (exfalso; omega) | (exact ⟨x.trans y.symm, by rw [g1, e1, e2, e]; exact h⟩) | skip
  obtain ⟨j1, j2, j3, j4, j5⟩ := i6 c
  rw [j1, j2] at y g1
  have g : fr [121, 122, 123, 124, 125] I1 I2 := by rw [g1]; exact ((((fr.rf.st rfl).st rfl).st rfl).st rfl).st rfl
  have v0 : I2 121 0 = I 45 0 := by rw [g1]; simp [sz, uz]
  have v3 : I2 121 3 = I 121 32 := by rw [g1]; simp [sz, uz]
  have v122 : I2 122 = I 46 := by rw [g1]; simp [sz]
  have v123 : I2 123 = I 144 := by rw [g1]; simp [sz]
  have v124 : I2 124 = I 145 := by rw [g1]; simp [sz]
  have v125 : I2 125 = I 146 := by rw [g1]; simp [sz]
  refine ⟨x.trans y.symm, h.up (Q := [0, 3]) (f.ap g) (fr.e (e2.trans e)) (fun q hq => ?_) (hr := Or.inr (RowR.i i3 ?_ ?_ v0 v122)) (hp := Or.inr (j3.mv ?_ ?_ ?_ v3 v123)) (h8 := Or.inr (j4.mv ?_ (fun k a b => ?_) (by rw [v124]) v125)) (h26 := Or.inr (j5.mv ?_ (fun k a b => ?_) (by rw [v124]) v125))⟩
  · have q1 : q ≠ 0 := qn hq
    have q2 : q ≠ 3 := qn hq
    rw [g1]; simp [sz, uz, q1, q2]
  · rw [g.at 2 rfl, c2]
  · rw [g.at 3 rfl, c3]
  · rw [g.at 4 rfl, c4]
  · rw [show (4 + 1 : Nat) = 5 from rfl, g.at 5 rfl, c5]
  · rw [show (4 + 2 : Nat) = 6 from rfl, g.at 6 rfl, c6]
  · rw [g.at 8 rfl, c8.1]
  · have := i4
    rw [g (rc 8 k) (by simp only [rc]; intro q; simp at q; omega), g (rc 8 k + 1) (by simp only [rc]; intro q; simp at q; omega)]
    exact c8.2 k a b
  · rw [g.at 26 rfl, c26.1]
  · have := i5
    rw [g (rc 26 k) (by simp only [rc]; intro q; simp at q; omega), g (rc 26 k + 1) (by simp only [rc]; intro q; simp at q; omega)]
    exact c26.2 k a b
end
