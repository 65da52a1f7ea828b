/-! calls that change what is kept for speed only, and take -/
def BC : List Nat := [87, 88, 89, 91, 92, 93, 95, 96, 97, 98, 99, 100, 101, 102, 112, 113, 114, 115, 116, 117, 118, 119, 120]
def BM : List Nat := [121, 128, 129, 130, 131, 132, 133, 134, 135, 138, 139, 140, 142]
theorem cch_d {I J I' J' : Mz} (h : cch I J) (hd : dOk I') (hp : pkOk I' J') (e96 : I' 96 = I 96) (e97 : I' 97 = I 97) (e98 : I' 98 = I 98) (e99 : I' 99 = I 99) : cch I' J' := by
  refine ⟨hd, hp, ?_⟩
  have := h.2.2
  unfold cOk at *
  rw [e96, e97, e98, e99]; exact this
theorem Inv.c2 {I J I1 J1 I2 J2 : Mz} {L LJ M : List Nat} (h : Inv I J) (f : fr L I I1) (fj : fr LJ J J1) (hc : cch I1 J1) (hb : bOk I1) (g : fr M I1 I2) (ej : J2 = J1) (fq : ∀ q, q ∉ ([15, 16, 17, 26, 27, 29] : List Int) → I2 121 q = I1 121 q)
    (hL : L.all (fun x => BC.contains x) = true := by decide +kernel) (hJ : LJ.all (fun x => [90, 94].contains x) = true := by decide +kernel) (hM : M.all (fun x => BM.contains x) = true := by decide +kernel) : Inv I2 J2 := by
  have f' : fr BC I I1 := f.sub hL
  have fj' : fr [90, 94] J J1 := fj.sub hJ
  have g' : fr BM I1 I2 := g.sub hM
  subst ej
  refine h.up (f'.ap g') fj' (fun q hq => (fq q hq).trans (by rw [f'.at 121 rfl])) (hc := Or.inr ?_) (hb := Or.inr ?_)
  · exact cch_c hc (g'.at 87 rfl) (g'.at 88 rfl) (g'.at 96 rfl) (g'.at 97 rfl) (g'.at 98 rfl) (g'.at 99 rfl) rfl
  · exact bOk_c hb (g'.at 100 rfl) (g'.at 102 rfl)
section
variable {I J I1 J1 : Mz} {r : Int}
theorem o_phi {i : Int} (h : Inv I J) (hc : Cp_phi i I J r I1 J1) : Mid I J I1 J1 ∧ ∀ r2 I2 J2, Mp_phi i I1 J1 r2 I2 J2 → r = r2 ∧ Inv I2 J2 := by
  have hr := h.1.1
  obtain ⟨f, d1, d2, e, hc⟩ := hc
  have m : Mid I J I1 J1 := Mid.fr f (fr.e e)
  refine ⟨m, fun r2 I2 J2 hm => ?_⟩
  obtain ⟨e1, e2, hm⟩ := hm
  rw [m.1 121 (by omega), hr.2.1] at hm
  refine ⟨?_, h.c2 f (fr.e e) (cch_d h.2.2.2.2.1 d1 d2 (f.at 96 rfl) (f.at 97 rfl) (f.at 98 rfl) (f.at 99 rfl)) (bOk_c h.2.2.2.2.2.1 (f.at 100 rfl) (f.at 102 rfl)) (fr.e e1) e2 (fun q _ => by rw [e1])⟩
  have hd := dg_b hr.1.1
  rcases hc with ⟨a, x⟩ | ⟨a, x⟩ | ⟨a, x⟩ <;> rcases hm with ⟨b, y⟩ | ⟨b, y⟩ | ⟨b, y⟩ <;> first | (exact x.trans y.symm) | (exfalso; omega)
theorem o_rest {i : Int} (h : Inv I J) (hc : Cp_rest i I J r I1 J1) : Mid I J I1 J1 ∧ ∀ r2 I2 J2, Mp_rest i I1 J1 r2 I2 J2 → r = r2 ∧ Inv I2 J2 := by
  have hr := h.1.1
  obtain ⟨f, d1, d2, e, hc⟩ := hc
  have m : Mid I J I1 J1 := Mid.fr f (fr.e e)
  refine ⟨m, fun r2 I2 J2 hm => ?_⟩
  obtain ⟨g, e2, hm⟩ := hm
  rw [m.1 121 (by omega), m.1 122 (by omega), hr.2.1, hr.2.2] at hm
  refine ⟨?_, h.c2 f (fr.e e) (cch_d h.2.2.2.2.1 d1 d2 (f.at 96 rfl) (f.at 97 rfl) (f.at 98 rfl) (f.at 99 rfl)) (bOk_c h.2.2.2.2.2.1 (f.at 100 rfl) (f.at 102 rfl)) g e2 (fun q _ => by rw [g.at 121 rfl])⟩
  rcases hc with ⟨a, x⟩ | ⟨a, x⟩ <;> rcases hm with ⟨b, y⟩ | ⟨b, y⟩ <;> first | (exact x.trans y.symm) | (exact absurd a b) | (exact absurd b a)
theorem o_nought (h : Inv I J) (hc : Cp_nought I J r I1 J1) : Mid I J I1 J1 ∧ ∀ r2 I2 J2, Mp_nought I1 J1 r2 I2 J2 → r = r2 ∧ Inv I2 J2 := by
  have hr := h.1.1
  obtain ⟨f, d1, d2, e, x⟩ := hc
  have m : Mid I J I1 J1 := Mid.fr f (fr.e e)
  refine ⟨m, fun r2 I2 J2 hm => ?_⟩
  obtain ⟨g, e2, y⟩ := hm
  rw [m.1 121 (by omega), m.1 122 (by omega), hr.2.1, hr.2.2] at y
  exact ⟨x.trans y.symm, h.c2 f (fr.e e) (cch_d h.2.2.2.2.1 d1 d2 (f.at 96 rfl) (f.at 97 rfl) (f.at 98 rfl) (f.at 99 rfl)) (bOk_c h.2.2.2.2.2.1 (f.at 100 rfl) (f.at 102 rfl)) g e2 (fun q _ => by rw [g.at 121 rfl])⟩
theorem o_primitive (h : Inv I J) (hc : Cp_primitive I J r I1 J1) : Mid I J I1 J1 ∧ ∀ r2 I2 J2, Mp_primitive I1 J1 r2 I2 J2 → r = r2 ∧ Inv I2 J2 := by
  have hr := h.1.1
  have F : fr [87, 88, 89, 91, 92, 93, 95, 96, 97, 98, 99] I I1 ∧ fr [90, 94] J J1 ∧ cch I1 J1 := by
    rcases hc with ⟨_, _, e1, e2⟩ | ⟨_, c, f, fj, _⟩
    · subst e1 e2
      exact ⟨fr.rf, fr.rf, h.2.2.2.2.1⟩
    · exact ⟨f, fj, c⟩
  have m : Mid I J I1 J1 := Mid.fr F.1 F.2.1
  refine ⟨m, fun r2 I2 J2 hm => ?_⟩
  obtain ⟨e2, g, fq, hm⟩ := hm
  rw [m.1 121 (by omega), m.1 122 (by omega), hr.2.1, hr.2.2] at hm
  refine ⟨?_, h.c2 F.1 F.2.1 F.2.2 (bOk_c h.2.2.2.2.2.1 (F.1.at 100 rfl) (F.1.at 102 rfl)) g e2 (fun q hq => fq q (qn hq) (qn hq) (qn hq))⟩
  rcases hc with ⟨a, x, _⟩ | ⟨a, _, _, _, al, le, ofl, fi, hp, x⟩ <;> rcases hm with ⟨b, y⟩ | ⟨b, al', le', ofl', fi', hp', y⟩
  · exact x.trans y.symm
  · omega
  · omega
  · have u1 := (PSp_u hp hp').1
    rw [x, y, u1]
    exact congrArg zb (propext (prim_e hr.1 hp'))
theorem o_parts {w : Int} (h : Inv I J) (hc : Cp_parts w I J r I1 J1) : Mid I J I1 J1 ∧ ∀ r2 I2 J2, Mp_parts w I1 J1 r2 I2 J2 → r = r2 ∧ Inv I2 J2 := by
  have hr := h.1.1
  have F : fr [87, 88, 89, 91, 92, 93, 95, 96, 97, 98, 99] I I1 ∧ fr [90, 94] J J1 ∧ cch I1 J1 := by
    rcases hc with ⟨_, _, e1, e2⟩ | ⟨_, _, _, e1, e2⟩ | ⟨_, _, c, f, fj, _⟩
    · subst e1 e2
      exact ⟨fr.rf, fr.rf, h.2.2.2.2.1⟩
    · subst e1 e2
      exact ⟨fr.rf, fr.rf, h.2.2.2.2.1⟩
    · exact ⟨f, fj, c⟩
  have m : Mid I J I1 J1 := Mid.fr F.1 F.2.1
  refine ⟨m, fun r2 I2 J2 hm => ?_⟩
  obtain ⟨e2, g, fq, hm⟩ := hm
  rw [m.1 121 (by omega), m.1 122 (by omega), hr.2.1, hr.2.2] at hm
  refine ⟨?_, h.c2 F.1 F.2.1 F.2.2 (bOk_c h.2.2.2.2.2.1 (F.1.at 100 rfl) (F.1.at 102 rfl)) g e2 (fun q hq => fq q (qn hq) (qn hq) (qn hq))⟩
  rcases hc with ⟨a, x, _⟩ | ⟨a, a2, x, _⟩ | ⟨a, a2, _, _, _, al, le, ofl, fi, hp, hc⟩ <;> rcases hm with ⟨b, y⟩ | ⟨b, b2, y⟩ | ⟨b, b2, al', le', ofl', fi', hp', hm⟩
  · exact x.trans y.symm
  · exact absurd b a
  · exact absurd b a
  · exact absurd a b
  · exact x.trans y.symm
  · omega
  · exact absurd a b
  · omega
  · obtain ⟨u1, u2, u3⟩ := PSp_u hp hp'
    subst u1 u2
    rcases hc with ⟨c1, x⟩ | ⟨c1, c2, x⟩ | ⟨c1, c2, x⟩ | ⟨c1, x⟩ <;> rcases hm with ⟨d1, y⟩ | ⟨d1, d2, y⟩ | ⟨d1, d2, y⟩ | ⟨d1, y⟩ <;> first | (exact x.trans y.symm) | (exfalso; omega) | (rw [x, y, (u3 c2).1])
theorem o_part {e : Int} (h : Inv I J) (hc : Cp_part e I J r I1 J1) : Mid I J I1 J1 ∧ ∀ r2 I2 J2, Mp_part e I1 J1 r2 I2 J2 → r = r2 ∧ Inv I2 J2 := by
  have hr := h.1.1
  have F : fr [87, 88, 89, 91, 92, 93, 95, 96, 97, 98, 99] I I1 ∧ fr [90, 94] J J1 ∧ cch I1 J1 := by
    rcases hc with ⟨_, _, e1, e2⟩ | ⟨_, _, _, e1, e2⟩ | ⟨_, _, c, f, fj, _⟩
    · subst e1 e2
      exact ⟨fr.rf, fr.rf, h.2.2.2.2.1⟩
    · subst e1 e2
      exact ⟨fr.rf, fr.rf, h.2.2.2.2.1⟩
    · exact ⟨f, fj, c⟩
  have m : Mid I J I1 J1 := Mid.fr F.1 F.2.1
  refine ⟨m, fun r2 I2 J2 hm => ?_⟩
  obtain ⟨e2, g, fq, hm⟩ := hm
  rw [m.1 121 (by omega), m.1 122 (by omega), hr.2.1, hr.2.2] at hm
  refine ⟨?_, h.c2 F.1 F.2.1 F.2.2 (bOk_c h.2.2.2.2.2.1 (F.1.at 100 rfl) (F.1.at 102 rfl)) g e2 (fun q hq => fq q (qn hq) (qn hq) (qn hq))⟩
  rcases hc with ⟨a, x, _⟩ | ⟨a, a2, x, _⟩ | ⟨a, a2, _, _, _, al, le, ofl, fi, hp, hc⟩ <;> rcases hm with ⟨b, y⟩ | ⟨b, b2, y⟩ | ⟨b, b2, al', le', ofl', fi', hp', hm⟩
  · exact x.trans y.symm
  · exact absurd b a
  · exact absurd b a
  · exact absurd a b
  · exact x.trans y.symm
  · omega
  · exact absurd a b
  · omega
  · obtain ⟨u1, u2, u3⟩ := PSp_u hp hp'
    subst u1 u2
    rcases hc with ⟨c1, x⟩ | ⟨c1, x⟩ <;> rcases hm with ⟨d1, y⟩ | ⟨d1, y⟩ <;> first | (exact x.trans y.symm) | (exfalso; omega) | (rw [x, y, (u3 c1).2])
theorem o_take (h : Inv I J) (hc : Cp_take I J r I1 J1) : Mid I J I1 J1 ∧ ∀ r2 I2 J2, Mp_take I1 J1 r2 I2 J2 → r = r2 ∧ Inv I2 J2 := by
  have hr := h.1.1
  have F : fr [3, 87, 88, 89, 91, 92, 93, 95, 96, 97, 98, 99] I I1 ∧ fr [90, 94] J J1 ∧ cch I1 J1 := by
    rcases hc with ⟨_, _, e1, e2⟩ | ⟨_, c, f, fj, _⟩
    · subst e1 e2
      exact ⟨fr.rf, fr.rf, h.2.2.2.2.1⟩
    · exact ⟨f, fj, c⟩
  have m : Mid I J I1 J1 := Mid.fr F.1 F.2.1
  refine ⟨m, fun r2 I2 J2 hm => ?_⟩
  obtain ⟨e2, g, fq, hm⟩ := hm
  rw [m.1 121 (by omega), m.1 122 (by omega), hr.2.1, hr.2.2] at hm
  subst e2
  have key : ∀ c, gR (I 2 0) c → I1 3 = c → I2 122 = c → Inv I2 J2 := fun c hg a b => by
    refine h.up (Q := [15, 16, 17]) (F.1.ap g) F.2.1 (fun q hq => (fq q (qn hq) (qn hq) (qn hq)).trans (by rw [F.1.at 121 rfl])) (hr := Or.inr (RowR.i hg ?_ ?_ ?_ b)) (hc := Or.inr ?_)
    · rw [(F.1.ap g).at 2 rfl]
    · rw [g.at 3 rfl, a]
    · rw [fq 0 (by omega) (by omega) (by omega), F.1.at 121 rfl, hr.2.1]
    · exact cch_c F.2.2 (g.at 87 rfl) (g.at 88 rfl) (g.at 96 rfl) (g.at 97 rfl) (g.at 98 rfl) (g.at 99 rfl) rfl
  rcases hc with ⟨a, x, e1, _⟩ | ⟨a, _, _, _, al, le, ofl, fi, hp, hc⟩ <;> rcases hm with ⟨b, y, d⟩ | ⟨b, al', le', ofl', fi', hp', hm⟩
  · exact ⟨x.trans y.symm, key _ hr.1 (by rw [e1]) d⟩
  · omega
  · omega
  · obtain ⟨u1, u2, u3⟩ := PSp_u hp hp'
    subst u1 u2
    rcases hc with ⟨c1, x, c2⟩ | ⟨c1, x, c2⟩ <;> rcases hm with ⟨d1, y, d2⟩ | ⟨d1, y, d2⟩
    · exact ⟨x.trans y.symm, key _ hr.1 c2 d2⟩
    · omega
    · omega
    · refine ⟨by rw [x, y, (u3 c1).1], key _ (gR_d hr.1 (hp.2.2 c1).2.2.1) c2 (by rw [d2, (u3 c1).2])⟩
theorem o_pieces (h : Inv I J) (hc : Cp_pieces I J r I1 J1) : Mid I J I1 J1 ∧ ∀ r2 I2 J2, Mp_pieces I1 J1 r2 I2 J2 → r = r2 ∧ Inv I2 J2 := by
  have hr := h.1.1
  have F : fr [87, 88, 89, 91, 92, 93, 95, 96, 97, 98, 99, 116, 117] I I1 ∧ fr [90, 94] J J1 ∧ cch I1 J1 := by
    rcases hc with ⟨_, _, e1, e2⟩ | ⟨_, c, f, fj, _⟩
    · subst e1 e2
      exact ⟨fr.rf, fr.rf, h.2.2.2.2.1⟩
    · exact ⟨f, fj, c⟩
  have m : Mid I J I1 J1 := Mid.fr F.1 F.2.1
  refine ⟨m, fun r2 I2 J2 hm => ?_⟩
  obtain ⟨e2, g, fq, hm⟩ := hm
  rw [m.1 121 (by omega), m.1 122 (by omega), hr.2.1, hr.2.2] at hm
  refine ⟨?_, h.c2 F.1 F.2.1 F.2.2 (bOk_c h.2.2.2.2.2.1 (F.1.at 100 rfl) (F.1.at 102 rfl)) g e2 (fun q hq => fq q (qn hq) (qn hq) (qn hq))⟩
  rcases hc with ⟨a, x, _⟩ | ⟨a, _, _, _, m1, x1, x, c1, c2⟩ <;> rcases hm with ⟨b, y⟩ | ⟨b, m2, y1, y, d1, d2⟩
  · exact x.trans y.symm
  · omega
  · omega
  · rw [x, y, rch_m c1 c2 d1 d2]
theorem o_layer {p j e : Int} (h : Inv I J) (hc : Cp_layer p j e I J r I1 J1) : Mid I J I1 J1 ∧ ∀ r2 I2 J2, Mp_layer p j e I1 J1 r2 I2 J2 → r = r2 ∧ Inv I2 J2 := by
  have hr := h.1.1
  obtain ⟨e1, e2, hc⟩ := hc
  replace e1 := e1.symm
  replace e2 := e2.symm
  subst e1 e2
  refine ⟨Mid.rf, fun r2 I2 J2 hm => ?_⟩
  obtain ⟨g, e2, hm⟩ := hm
  rw [hr.2.1, hr.2.2] at hm
  refine ⟨?_, h.up g (fr.e e2) g.q0⟩
  rcases hc with ⟨a, x⟩ | ⟨a, x⟩ <;> rcases hm with ⟨b, y⟩ | ⟨b, y⟩ <;> first | (exact x.trans y.symm) | (exact absurd a b) | (exact absurd b a)
theorem o_layers {p w : Int} (h : Inv I J) (hc : Cp_layers p w I J r I1 J1) : Mid I J I1 J1 ∧ ∀ r2 I2 J2, Mp_layers p w I1 J1 r2 I2 J2 → r = r2 ∧ Inv I2 J2 := by
  have hr := h.1.1
  obtain ⟨f, d1, d2, e, hc⟩ := hc
  have m : Mid I J I1 J1 := Mid.fr f (fr.e e)
  refine ⟨m, fun r2 I2 J2 hm => ?_⟩
  obtain ⟨g, e2, hm⟩ := hm
  rw [m.1 121 (by omega), m.1 122 (by omega), hr.2.1, hr.2.2] at hm
  refine ⟨?_, h.c2 f (fr.e e) (cch_d h.2.2.2.2.1 d1 d2 (f.at 96 rfl) (f.at 97 rfl) (f.at 98 rfl) (f.at 99 rfl)) (bOk_c h.2.2.2.2.2.1 (f.at 100 rfl) (f.at 102 rfl)) g e2 (fun q _ => by rw [g.at 121 rfl])⟩
  rcases hc with ⟨a, x⟩ | ⟨a, x⟩ | ⟨a, x⟩ <;> rcases hm with ⟨b, y⟩ | ⟨b, y⟩ | ⟨b, y⟩ <;> first | (exact x.trans y.symm) | (exact absurd ⟨a.1, by omega, by omega⟩ b) | (exact absurd ⟨b.1, by omega, by omega⟩ a) | (exfalso; omega)
theorem o_possible {w : Int} (h : Inv I J) (hc : Cp_possible w I J r I1 J1) : Mid I J I1 J1 ∧ ∀ r2 I2 J2, Mp_possible w I1 J1 r2 I2 J2 → r = r2 ∧ Inv I2 J2 := by
  have hr := h.1.1
  obtain ⟨f, e, hc⟩ := hc
  have m : Mid I J I1 J1 := Mid.fr f (fr.e e)
  refine ⟨m, fun r2 I2 J2 hm => ?_⟩
  obtain ⟨g, e2, hm⟩ := hm
  rw [m.1 121 (by omega), hr.2.1] at hm
  have f3 := f.ap g
  refine ⟨?_, h.up f3 (fr.e (e2.trans e)) f3.q0⟩
  rcases hc with ⟨a, x⟩ | ⟨a, x⟩ <;> rcases hm with ⟨b, y⟩ | ⟨b, y⟩ <;> first | (exact x.trans y.symm) | (exact absurd a b) | (exact absurd b a)
theorem o_ways {w : Int} (h : Inv I J) (hc : Cp_ways w I J r I1 J1) : Mid I J I1 J1 ∧ ∀ r2 I2 J2, Mp_ways w I1 J1 r2 I2 J2 → r = r2 ∧ Inv I2 J2 := by
  have hr := h.1.1
  obtain ⟨f, e, hc⟩ := hc
  have m : Mid I J I1 J1 := Mid.fr f (fr.e e)
  refine ⟨m, fun r2 I2 J2 hm => ?_⟩
  obtain ⟨g, e2, hm⟩ := hm
  rw [m.1 121 (by omega), hr.2.1] at hm
  have f3 := f.ap g
  refine ⟨?_, h.up f3 (fr.e (e2.trans e)) f3.q0⟩
  rcases hc with ⟨a, x⟩ | ⟨a, x⟩ <;> rcases hm with ⟨b, y⟩ | ⟨b, y⟩ <;> first | (exact x.trans y.symm) | (exact absurd a b) | (exact absurd b a)
theorem o_hole {k : Int} (h : Inv I J) (hc : Cp_hole k I J r I1 J1) : Mid I J I1 J1 ∧ ∀ r2 I2 J2, Mp_hole k I1 J1 r2 I2 J2 → r = r2 ∧ Inv I2 J2 := by
  have hr := h.1.1
  obtain ⟨f, e, hc⟩ := hc
  have m : Mid I J I1 J1 := Mid.fr f (fr.e e)
  refine ⟨m, fun r2 I2 J2 hm => ?_⟩
  obtain ⟨g, e2, hm⟩ := hm
  rw [m.1 121 (by omega), hr.2.1] at hm
  have f3 := f.ap g
  refine ⟨?_, h.up f3 (fr.e (e2.trans e)) f3.q0⟩
  rcases hc with ⟨a, x⟩ | ⟨a, x⟩ <;> rcases hm with ⟨b, y⟩ | ⟨b, y⟩ <;> first | (exact x.trans y.symm) | (exfalso; omega)
theorem o_listed {w k : Int} (h : Inv I J) (hc : Cp_listed w k I J r I1 J1) : Mid I J I1 J1 ∧ ∀ r2 I2 J2, Mp_listed w k I1 J1 r2 I2 J2 → r = r2 ∧ Inv I2 J2 := by
  have hr := h.1.1
  obtain ⟨hb, d1, d2, f, fj, hc⟩ := hc
  have m : Mid I J I1 J1 := Mid.fr f fj
  refine ⟨m, fun r2 I2 J2 hm => ?_⟩
  obtain ⟨e2, g, hm⟩ := hm
  rw [m.1 121 (by omega), hr.2.1] at hm
  refine ⟨?_, h.c2 f fj (cch_d h.2.2.2.2.1 d1 d2 (f.at 96 rfl) (f.at 97 rfl) (f.at 98 rfl) (f.at 99 rfl)) hb g e2 (fun q _ => by rw [g.at 121 rfl])⟩
  rcases hc with ⟨a, x⟩ | ⟨a, a2, x⟩ | ⟨a, a2, a3, x⟩ | ⟨a, a2, a3, x⟩ <;> rcases hm with ⟨b, y⟩ | ⟨b, b2, y⟩ | ⟨b, b2, y⟩ <;> first | (exact x.trans y.symm) | (exact absurd a b) | (exact absurd b a) | (exfalso; omega) | skip
  rw [x, y, fz_no (by have : (0 : Int) < 2 ^ (I 2 0).toNat := Int.pow_pos (by omega)
                      omega) (fun q a1 a4 z => by
    have := (su_zb (fun q => NB (I 2 0) q ∧ lsd (I 2 0) w q) (e := q) a1).1
    have := z.2
    omega), if_neg (by omega)]
theorem o_filled {s w : Int} (h : Inv I J) (hc : Cp_filled s w I J r I1 J1) : Mid I J I1 J1 ∧ ∀ r2 I2 J2, Mp_filled s w I1 J1 r2 I2 J2 → r = r2 ∧ Inv I2 J2 := by
  have hr := h.1.1
  obtain ⟨hb, d1, d2, f, fj, hc⟩ := hc
  have m : Mid I J I1 J1 := Mid.fr f fj
  refine ⟨m, fun r2 I2 J2 hm => ?_⟩
  obtain ⟨e2, g, hm⟩ := hm
  rw [m.1 121 (by omega), hr.2.1] at hm
  refine ⟨?_, h.c2 f fj (cch_d h.2.2.2.2.1 d1 d2 (f.at 96 rfl) (f.at 97 rfl) (f.at 98 rfl) (f.at 99 rfl)) hb g e2 (fun q _ => by rw [g.at 121 rfl])⟩
  rcases hc with ⟨a, x⟩ | ⟨a, a2, x⟩ | ⟨a, a2, a3, x⟩ | ⟨a, a2, x1, a3, hc⟩ <;> rcases hm with ⟨b, y⟩ | ⟨b, b2, y⟩ | ⟨b, b2, b3, y⟩ | ⟨b, b2, y1, b3, hm⟩ <;> first | (exact x.trans y.symm) | (exact absurd a2 b2) | (exact absurd b2 a2) | (exfalso; omega) | skip
  have hu := LW_u ⟨hr.1.1.1, a⟩ a3 b3
  subst hu
  rcases hc with ⟨a4, x⟩ | ⟨a4, x⟩ <;> rcases hm with ⟨b4, y⟩ | ⟨b4, y⟩ <;> first | (exact x.trans y.symm) | (exfalso; omega)
theorem o_spelled {i : Int} (h : Inv I J) (hc : Cp_spelled i I J r I1 J1) : Mid I J I1 J1 ∧ ∀ r2 I2 J2, Mp_spelled i I1 J1 r2 I2 J2 → r = r2 ∧ Inv I2 J2 := by
  have hr := h.1.1
  obtain ⟨f, e, hc⟩ := hc
  have m : Mid I J I1 J1 := Mid.fr f (fr.e e)
  refine ⟨m, fun r2 I2 J2 hm => ?_⟩
  obtain ⟨⟨g, fq⟩, e2, hm⟩ := hm
  rw [m.1 121 (by omega), m.1 122 (by omega), hr.2.1, hr.2.2] at hm
  refine ⟨?_, h.up (Q := [29]) (f.ap g) (fr.e (e2.trans e)) (fun q hq => (fq q (qn hq)).trans (by rw [f.at 121 rfl]))⟩
  rcases hc with ⟨a, x⟩ | ⟨a, x⟩ | ⟨a, x⟩ <;> rcases hm with ⟨b, y⟩ | ⟨b, y⟩ | ⟨b, y⟩ <;> first | (exact x.trans y.symm) | (exfalso; omega)
end
