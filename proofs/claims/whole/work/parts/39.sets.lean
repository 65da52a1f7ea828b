/-! the reference: sets of bits -/
theorem div_p (K t : Nat) : (K : Int) / (2 : Int) ^ t = ((K / 2 ^ t : Nat) : Int) := by
  rw [Int.natCast_ediv, Int.natCast_pow]; rfl
theorem dcv_bit : ∀ (m : Nat) (e : Int) (K : Nat) (j : Int), e ≤ j → j < e + m → dcv one1 m e (K : Int) j = ((K / 2 ^ (j - e).toNat % 2 : Nat) : Int)
  | 0, e, K, j, h0, h1 => by omega
  | m + 1, e, K, j, h0, h1 => by
    simp only [dcv]
    by_cases h : j = e
    · rw [if_pos h, h, Int.sub_self, show (0 : Int).toNat = 0 from rfl, Nat.pow_zero, Nat.div_one]; rfl
    · rw [if_neg h]
      have e1 : (K : Int) / (one1 e + 1) = ((K / 2 : Nat) : Int) := by
        rw [Int.natCast_ediv]; rfl
      rw [e1, dcv_bit m (e + 1) (K / 2) j (by omega) (by omega), show (j - e).toNat = (j - (e + 1)).toNat + 1 by omega, Nat.pow_succ, Nat.mul_comm, ← Nat.div_div_eq_div_mul]
theorem zand_1 (K t : Nat) : zand ((K : Int) / (2 : Int) ^ t) 1 = ((K / 2 ^ t % 2 : Nat) : Int) := by
  rw [div_p, zand, Int.toNat_natCast]
  show (((K / 2 ^ t) &&& 1 : Nat) : Int) = _
  rw [Nat.and_one_is_mod]
theorem sub_n : ∀ (k b p q : Nat), b ≤ k → p &&& b = p → q &&& b = q → q < p → q ≤ (p - 1) &&& b := by
  intro k
  induction k with
  | zero =>
    intro b p q hb hp hq h
    have : b = 0 := by omega
    subst this
    rw [Nat.and_zero] at hp; omega
  | succ k ih =>
    intro b p q hb hp hq h
    by_cases hb0 : b = 0
    · subst hb0; rw [Nat.and_zero] at hp; omega
    have p2 : p / 2 &&& b / 2 = p / 2 := by rw [← Nat.and_div_two, hp]
    have q2 : q / 2 &&& b / 2 = q / 2 := by rw [← Nat.and_div_two, hq]
    have pm : p % 2 = 1 → b % 2 = 1 := fun a => (Nat.and_mod_two_eq_one.mp (by rw [hp]; exact a)).2
    have qm : q % 2 = 1 → b % 2 = 1 := fun a => (Nat.and_mod_two_eq_one.mp (by rw [hq]; exact a)).2
    have r1 : ((p - 1) &&& b) / 2 = (p - 1) / 2 &&& b / 2 := Nat.and_div_two
    have r2 : ((p - 1) &&& b) % 2 = 1 ↔ (p - 1) % 2 = 1 ∧ b % 2 = 1 := Nat.and_mod_two_eq_one
    by_cases hpo : p % 2 = 1
    · have : (p - 1) / 2 = p / 2 := by omega
      rw [this, p2] at r1
      omega
    · have e1 : (p - 1) / 2 = p / 2 - 1 := by omega
      rw [e1] at r1
      by_cases hlt : q / 2 < p / 2
      · have := ih (b / 2) (p / 2) (q / 2) (by omega) p2 q2 hlt
        rw [← r1] at this
        have h5 : (p - 1) % 2 = 1 := by omega
        have h6 : q % 2 = 1 → ((p - 1) &&& b) % 2 = 1 := fun a => r2.mpr ⟨h5, qm a⟩
        omega
      · omega
theorem sub_z {b p q : Int} (hb : 0 ≤ b) (hp0 : 0 ≤ p) (hq0 : 0 ≤ q) (hp : zand p b = p) (hq : zand q b = q) (h : q < p) : q ≤ zand (p - 1) b := by
  obtain ⟨B, rfl⟩ := Int.eq_ofNat_of_zero_le hb
  obtain ⟨P, rfl⟩ := Int.eq_ofNat_of_zero_le hp0
  obtain ⟨Q, rfl⟩ := Int.eq_ofNat_of_zero_le hq0
  simp only [zand, Int.toNat_natCast] at *
  have := sub_n B B P Q (Nat.le_refl _) (by omega) (by omega) (by omega)
  rw [show ((P : Int) - 1).toNat = P - 1 by omega]
  omega
theorem zand_s {p b : Int} (hb : 0 ≤ b) : zand (zand p b) b = zand p b := by
  simp only [zand, Int.toNat_natCast]
  rw [Nat.and_assoc, Nat.and_self]
theorem zand_l {a b : Int} (ha : 0 ≤ a) : 0 ≤ zand a b ∧ zand a b ≤ a := by
  have := Nat.and_le_left (n := a.toNat) (m := b.toNat)
  simp only [zand]; omega
theorem nb0 {P : Prop} {a : Int} (h : a = zb P) (h0 : a = 0) : ¬ P := fun q => by rw [zb_t q] at h; omega
theorem nb1 {P : Prop} {a : Int} (h : a = zb P) (h0 : a ≠ 0) : P := Classical.byContradiction fun q => by rw [zb_f q] at h; omega
section
variable {l : Launch} {G : Gw} {I J : Mz}
theorem m_tellsSets (hn : 2 ≤ I 121 0 ∧ I 121 0 ≤ 12) (hT : mT I) : K_X12_tellsSets l G [zr G 121] I J (fun v I' J' => v = none ∧ (J' = J ∧ fr [128, 131, 140] I I' ∧ ∀ x, 0 ≤ x → x < 2 ^ (I 121 0).toNat → I' 140 x = zb (NB (I 121 0) x))) := by
  have hp2 := p2_b hn
  refine Cz.of rfl (Nat.le_of_ble_eq_true rfl) [some (zr G 121), none, none] rfl (fun E ok okr hE => ?_)
  refine Z_iconst (pc := 0) ok dX12_tellsSets_0 ?_
  refine Z_istore1 (pc := 1) ok (by decide) dX12_tellsSets_1 rfl ?_
  have H : ∀ x : Int, 0 ≤ x → x ≤ 2 ^ (I 121 0).toNat → ∀ T : Mz, fr [128, 131, 140] I T → (∀ y, 0 ≤ y → y < x → T 140 y = zb (NB (I 121 0) y)) → ∀ w, Xz E G T J 2 [some (zr G 121), some (zi x), w] [] := by
    refine zUp ?_ ?_
    · intro T tF tN w
      have t0 : T 121 0 = I 121 0 := by rw [tF.at 121 rfl]
      refine Z_iload1 (pc := 2) ok dX12_tellsSets_2 ?_
      refine Z_iconst (pc := 3) ok dX12_tellsSets_3 ?_
      refine Z_aload0 (pc := 4) ok dX12_tellsSets_4 ?_
      refine g_X12_n (pc := 5) ok dX12_tellsSets_5 kw905 rfl ?_
      refine Z_ishl (pc := 8) ok dX12_tellsSets_8 (by omega) ?_
      rw [t0, Int.one_mul]
      refine Z_icmp_ge (pc := 9) (tgt := 69) ok dX12_tellsSets_9 rfl (by first | omega | (simp [sz, uz] <;> omega)) (by first | omega | (simp [sz, uz] <;> omega)) (fun _ => ?_) (fun h => by exfalso; omega)
      refine Z_vret (pc := 69) ok okr dX12_tellsSets_69 ?_
      exact ⟨rfl, rfl, tF, tN⟩
    · intro x x0 x1 ih T tF tN w
      have t0 : T 121 0 = I 121 0 := by rw [tF.at 121 rfl]
      refine Z_iload1 (pc := 2) ok dX12_tellsSets_2 ?_
      refine Z_iconst (pc := 3) ok dX12_tellsSets_3 ?_
      refine Z_aload0 (pc := 4) ok dX12_tellsSets_4 ?_
      refine g_X12_n (pc := 5) ok dX12_tellsSets_5 kw905 rfl ?_
      refine Z_ishl (pc := 8) ok dX12_tellsSets_8 (by omega) ?_
      rw [t0, Int.one_mul]
      refine Z_icmp_ge (pc := 9) (tgt := 69) ok dX12_tellsSets_9 rfl (by first | omega | (simp [sz, uz] <;> omega)) (by first | omega | (simp [sz, uz] <;> omega)) (fun h => by exfalso; omega) (fun _ => ?_)
      refine Z_iconst (pc := 12) ok dX12_tellsSets_12 ?_
      refine Z_istore2 (pc := 13) ok (by decide) dX12_tellsSets_13 rfl ?_
      obtain ⟨X, rfl⟩ := Int.eq_ofNat_of_zero_le x0
      have H2 : ∀ i : Int, 0 ≤ i → i ≤ 30 → ∀ f : Int → Int, (∀ j, 0 ≤ j → j < i → f j = dcv one1 (I 121 0).toNat 0 (X : Int) j) → Xz E G (sz T 131 f) J 14 [some (zr G 121), some (zi (X : Int)), some (zi i)] [] := by
        refine zUp ?_ ?_
        · intro f f1
          refine Z_ext1 (g := dcv one1 (I 121 0).toNat 0 (X : Int)) (by decide) (fun j a b => f1 j a (by have : j < 30 := b; omega)) ?_
          have hc0 : ∀ e, 0 ≤ one1 e := fun _ => by show (0 : Int) ≤ 1; omega
          refine Z_iload2 (pc := 14) ok dX12_tellsSets_14 ?_
          refine Z_bipush (pc := 15) ok dX12_tellsSets_15 (by decide) ?_
          refine Z_icmp_ge (pc := 17) (tgt := 49) ok dX12_tellsSets_17 rfl (by first | omega | (simp [sz, uz] <;> omega)) (by first | omega | (simp [sz, uz] <;> omega)) (fun _ => ?_) (fun h => by exfalso; omega)
          refine Z_aload0 (pc := 49) ok dX12_tellsSets_49 ?_
          refine g_X12_isNought (pc := 50) (t := 140) ok dX12_tellsSets_50 kw928 rfl rfl ?_
          refine Z_iload1 (pc := 53) ok dX12_tellsSets_53 ?_
          refine Z_aload0 (pc := 54) ok dX12_tellsSets_54 ?_
          refine Z_aload0 (pc := 55) ok dX12_tellsSets_55 ?_
          refine g_X12_one (pc := 56) (t := 131) ok dX12_tellsSets_56 kw916 rfl rfl ?_
          refine Z_callVId (pc := 59) ok dX12_tellsSets_59 cw_X12_129 rfl rfl (by decide) (m_isNought (n := I 121 0) rfl rfl (by decide) (by rw [sz_ne _ _ (by decide)]; exact t0) ⟨hn.1, by omega⟩ (mT_c hT (by rw [sz_ne _ _ (by decide)]; exact tF.at 126 rfl) (by rw [sz_ne _ _ (by decide)]; exact tF.at 127 rfl)) (fun e he => by rw [sz_eq]; exact dcv_out _ _ _ _ _ (by omega)) (fun j => by rw [sz_eq]; have := dcv_b hc0 (I 121 0).toNat 0 (X : Int) j; have : one1 j = 1 := rfl; omega)) rfl rfl (by first | decide | omega) (Nat.le_of_ble_eq_true rfl) ?_
          refine Z_zast (pc := 62) (L := 4096) ok dX12_tellsSets_62 (by first | exact Or.inl rfl | exact Or.inr rfl | exact zb_01 _ | assumption | omega) rfl rfl (by first | omega | (simp [sz, uz] <;> omega)) ?_
          refine Z_iinc1 (pc := 63) ok (by decide) dX12_tellsSets_63 rfl ?_
          refine Z_goto (pc := 66) (tgt := 2) ok dX12_tellsSets_66 rfl ?_
          rw [sz_eq]
          refine ih _ (((tF.st rfl).st rfl).st rfl) (fun y a b => ?_) _
          rw [sz_eq]
          by_cases q : y = (X : Int)
          · rw [q, uz_eq]; rfl
          · rw [uz_ne _ _ q, sz_ne _ _ (by decide), sz_ne _ _ (by decide)]; exact tN y a (by omega)
        · intro i i0 i1 ih2 f f1
          have z0 : sz T 131 f 121 0 = I 121 0 := by rw [sz_ne _ _ (by decide)]; exact t0
          refine Z_iload2 (pc := 14) ok dX12_tellsSets_14 ?_
          refine Z_bipush (pc := 15) ok dX12_tellsSets_15 (by decide) ?_
          refine Z_icmp_ge (pc := 17) (tgt := 49) ok dX12_tellsSets_17 rfl (by first | omega | (simp [sz, uz] <;> omega)) (by first | omega | (simp [sz, uz] <;> omega)) (fun h => by exfalso; omega) (fun _ => ?_)
          refine Z_aload0 (pc := 20) ok dX12_tellsSets_20 ?_
          refine g_X12_one (pc := 21) (t := 131) ok dX12_tellsSets_21 kw916 rfl rfl ?_
          refine Z_iload2 (pc := 24) ok dX12_tellsSets_24 ?_
          refine Z_iload2 (pc := 25) ok dX12_tellsSets_25 ?_
          refine Z_aload0 (pc := 26) ok dX12_tellsSets_26 ?_
          refine g_X12_n (pc := 27) ok dX12_tellsSets_27 kw905 rfl ?_
          refine Z_icmp_ge (pc := 30) (tgt := 41) ok dX12_tellsSets_30 rfl (by first | omega | (simp [sz, uz] <;> omega)) (by first | omega | (simp [sz, uz] <;> omega)) (fun h => ?_) (fun h => ?_)
          · refine Z_iconst (pc := 41) ok dX12_tellsSets_41 ?_
            refine Z_iast (pc := 42) (L := 30) ok dX12_tellsSets_42 rfl rfl (by first | omega | (simp [sz, uz] <;> omega)) ?_
            refine Z_iinc2 (pc := 43) ok (by decide) dX12_tellsSets_43 rfl ?_
            refine Z_goto (pc := 46) (tgt := 14) ok dX12_tellsSets_46 rfl ?_
            rw [sz_sz, sz_eq]
            exact ih2 _ (upto_s (p := fun j v => v = dcv one1 (I 121 0).toNat 0 (X : Int) j) f1 (by rw [dcv_out _ _ _ _ _ (by omega)]))
          · refine Z_iload1 (pc := 33) ok dX12_tellsSets_33 ?_
            refine Z_iload2 (pc := 34) ok dX12_tellsSets_34 ?_
            refine Z_ishr (pc := 35) ok dX12_tellsSets_35 (by omega) (by omega) ?_
            refine Z_iconst (pc := 36) ok dX12_tellsSets_36 ?_
            refine Z_iandN (pc := 37) ok dX12_tellsSets_37 (Int.ediv_nonneg x0 (Int.le_of_lt (Int.pow_pos (by decide)))) (by omega) ?_
            refine Z_goto (pc := 38) (tgt := 42) ok dX12_tellsSets_38 rfl ?_
            refine Z_iast (pc := 42) (L := 30) ok dX12_tellsSets_42 rfl rfl (by first | omega | (simp [sz, uz] <;> omega)) ?_
            refine Z_iinc2 (pc := 43) ok (by decide) dX12_tellsSets_43 rfl ?_
            refine Z_goto (pc := 46) (tgt := 14) ok dX12_tellsSets_46 rfl ?_
            rw [sz_sz, sz_eq]
            exact ih2 _ (upto_s (p := fun j v => v = dcv one1 (I 121 0).toNat 0 (X : Int) j) f1 (by rw [zand_1, dcv_bit _ _ _ _ i0 (by omega), Int.sub_zero]))
      have h0 := H2 0 (by omega) (by omega) (T 131) (fun j a b => by omega)
      rw [sz_self] at h0
      exact h0
  exact H 0 (by omega) (by omega) I fr.rf (fun y a b => by omega) none
theorem m_isPrimitive {n b : Int} (hn : 2 ≤ n ∧ n ≤ 12) (hb : 0 ≤ b ∧ b < 2 ^ n.toNat) (hN : ∀ x, 0 ≤ x → x < 2 ^ n.toNat → I 140 x = zb (NB n x)) : K_X12_isPrimitive l G [zr G 121, zi b] I J (pR (some (zi (zb (b ≠ 0 ∧ NB n b ∧ ¬ spl n b)))) I J) := by
  have hp2 := p2_b hn
  refine Cz.of rfl (Nat.le_of_ble_eq_true rfl) [some (zr G 121), some (zi b), none] rfl (fun E ok okr hE => ?_)
  refine Z_iload1 (pc := 0) ok dX12_isPrimitive_0 ?_
  refine Z_if_eq (pc := 1) (tgt := 13) ok dX12_isPrimitive_1 rfl (by first | omega | (simp [sz, uz] <;> omega)) (fun h => ?_) (fun h => ?_)
  · refine Z_iconst (pc := 13) ok dX12_isPrimitive_13 ?_
    refine Z_bret (pc := 14) ok okr dX12_isPrimitive_14 (by first | exact Or.inl rfl | exact Or.inr rfl | exact zb_01 _ | assumption | omega) ?_
    exact ⟨by rw [zb_f (fun q => q.1 h)], rfl, rfl⟩
  · have hNb := hN b hb.1 hb.2
    have hzb := zb_01 (NB n b)
    have H : NB n b → ∀ (k : Nat) (p : Int), 0 ≤ p → p ≤ k → p < b → zand p b = p → (∀ q, 0 ≤ q → zand q b = q → p < q → q < b → ¬ NB n q) → Xz E G I J 21 [some (zr G 121), some (zi b), some (zi p)] [] := by
      intro h2 k
      have fin : ∀ p : Int, p = 0 → (∀ q, 0 ≤ q → zand q b = q → p < q → q < b → ¬ NB n q) → ¬ spl n b := by
        rintro p rfl h ⟨q, q1, q2, q3, q4, q5⟩
        have := (zand_b q b hb.1).2
        exact h q q1.1 q5 (by omega) (by omega) q2
      induction k with
      | zero =>
        intro p p0 pk pb ps pi
        refine Z_iload2 (pc := 21) ok dX12_isPrimitive_21 ?_
        refine Z_if_le (pc := 22) (tgt := 45) ok dX12_isPrimitive_22 rfl (by first | omega | (simp [sz, uz] <;> omega)) (fun _ => ?_) (fun h => by exfalso; omega)
        refine Z_iconst (pc := 45) ok dX12_isPrimitive_45 ?_
        refine Z_bret (pc := 46) ok okr dX12_isPrimitive_46 (by first | exact Or.inl rfl | exact Or.inr rfl | exact zb_01 _ | assumption | omega) ?_
        exact ⟨by rw [zb_t ⟨h, h2, fin p (by omega) pi⟩], rfl, rfl⟩
      | succ k ihk =>
        intro p p0 pk pb ps pi
        refine Z_iload2 (pc := 21) ok dX12_isPrimitive_21 ?_
        refine Z_if_le (pc := 22) (tgt := 45) ok dX12_isPrimitive_22 rfl (by first | omega | (simp [sz, uz] <;> omega)) (fun h3 => ?_) (fun h3 => ?_)
        · refine Z_iconst (pc := 45) ok dX12_isPrimitive_45 ?_
          refine Z_bret (pc := 46) ok okr dX12_isPrimitive_46 (by first | exact Or.inl rfl | exact Or.inr rfl | exact zb_01 _ | assumption | omega) ?_
          exact ⟨by rw [zb_t ⟨h, h2, fin p (by omega) pi⟩], rfl, rfl⟩
        · have hNp := hN p p0 (by omega)
          have hzp := zb_01 (NB n p)
          refine Z_aload0 (pc := 25) ok dX12_isPrimitive_25 ?_
          refine g_X12_isNought (pc := 26) (t := 140) ok dX12_isPrimitive_26 kw928 rfl rfl ?_
          refine Z_iload2 (pc := 29) ok dX12_isPrimitive_29 ?_
          refine Z_zald (pc := 30) (L := 4096) ok dX12_isPrimitive_30 rfl rfl (by first | omega | (simp [sz, uz] <;> omega)) ?_
          refine Z_if_eq (pc := 31) (tgt := 36) ok dX12_isPrimitive_31 rfl (by first | omega | (simp [sz, uz] <;> omega)) (fun h4 => ?_) (fun h4 => ?_)
          · have h4 := nb0 hNp h4
            have hl := zand_l (a := p - 1) (b := b) (by omega)
            have hx := ihk (zand (p - 1) b) hl.1 (by omega) (by omega) (zand_s hb.1) (fun q q0 qs ql qb => by
              by_cases a1 : p < q
              · exact pi q q0 qs a1 qb
              · by_cases a2 : q = p
                · rw [a2]; exact h4
                · have := sub_z hb.1 p0 q0 ps qs (by omega)
                  omega)
            refine Z_iload2 (pc := 36) ok dX12_isPrimitive_36 ?_
            refine Z_iconst (pc := 37) ok dX12_isPrimitive_37 ?_
            refine Z_isub (pc := 38) ok dX12_isPrimitive_38 ?_
            refine Z_iload1 (pc := 39) ok dX12_isPrimitive_39 ?_
            refine Z_iandN (pc := 40) ok dX12_isPrimitive_40 (by omega) hb.1 ?_
            refine Z_istore2 (pc := 41) ok (by decide) dX12_isPrimitive_41 rfl ?_
            refine Z_goto (pc := 42) (tgt := 21) ok dX12_isPrimitive_42 rfl ?_
            exact hx
          · have h4 := nb1 hNp h4
            refine Z_iconst (pc := 34) ok dX12_isPrimitive_34 ?_
            refine Z_bret (pc := 35) ok okr dX12_isPrimitive_35 (by first | exact Or.inl rfl | exact Or.inr rfl | exact zb_01 _ | assumption | omega) ?_
            exact ⟨by rw [zb_f (fun q => q.2.2 ⟨p, ⟨p0, by omega⟩, h4, by omega, by omega, ps⟩)], rfl, rfl⟩
    refine Z_aload0 (pc := 4) ok dX12_isPrimitive_4 ?_
    refine g_X12_isNought (pc := 5) (t := 140) ok dX12_isPrimitive_5 kw928 rfl rfl ?_
    refine Z_iload1 (pc := 8) ok dX12_isPrimitive_8 ?_
    refine Z_zald (pc := 9) (L := 4096) ok dX12_isPrimitive_9 rfl rfl (by first | omega | (simp [sz, uz] <;> omega)) ?_
    refine Z_if_ne (pc := 10) (tgt := 15) ok dX12_isPrimitive_10 rfl (by first | omega | (simp [sz, uz] <;> omega)) (fun h2 => ?_) (fun h2 => ?_)
    · have h2 := nb1 hNb h2
      have hl := zand_l (a := b - 1) (b := b) (by omega)
      have hx := H h2 b.toNat (zand (b - 1) b) hl.1 (by omega) (by omega) (zand_s hb.1) (fun q q0 qs ql qb => by
        have hbb : zand b b = b := by simp only [zand, Nat.and_self]; omega
        have := sub_z hb.1 hb.1 q0 hbb qs qb
        omega)
      refine Z_iload1 (pc := 15) ok dX12_isPrimitive_15 ?_
      refine Z_iconst (pc := 16) ok dX12_isPrimitive_16 ?_
      refine Z_isub (pc := 17) ok dX12_isPrimitive_17 ?_
      refine Z_iload1 (pc := 18) ok dX12_isPrimitive_18 ?_
      refine Z_iandN (pc := 19) ok dX12_isPrimitive_19 (by omega) hb.1 ?_
      refine Z_istore2 (pc := 20) ok (by decide) dX12_isPrimitive_20 rfl ?_
      exact hx
    · have h2 := nb0 hNb h2
      refine Z_iconst (pc := 13) ok dX12_isPrimitive_13 ?_
      refine Z_bret (pc := 14) ok okr dX12_isPrimitive_14 (by first | exact Or.inl rfl | exact Or.inr rfl | exact zb_01 _ | assumption | omega) ?_
      exact ⟨by rw [zb_f (fun q => h2 q.2.1)], rfl, rfl⟩
end
