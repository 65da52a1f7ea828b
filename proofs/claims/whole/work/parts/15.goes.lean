/-! Walk.begin, Walk.goesOn -/
section
variable {l : Launch} {G : Gw} {I J : Mz}
theorem c_begin {a : Nat} (ha : kd a = 13) (hla : ln a = 30) (hne : (a ≠ 88 ∧ a ≠ 89 ∧ a ≠ 92) ∧ a ≠ 93 ∧ a ≠ 95) {n : Int} (h2 : 2 ≤ n ∧ n ≤ 30) (hc : ∀ e, 0 ≤ I a e ∧ I a e ≤ 9) (hd : dOk I) (hp : pkOk I J) : K_X10_begin l G [zr G 91, zi n, zr G a] I J (fun v I' J' => v = none ∧ (WI I' J' n (I a) (fun _ => 0) ∧ (∀ q, (q ≠ 87 ∧ q ≠ 88 ∧ q ≠ 89) → (q ≠ 91 ∧ q ≠ 92) → (q ≠ 93 ∧ q ≠ 95) → I' q = I q) ∧ ∀ q, q ≠ 90 → q ≠ 94 → J' q = J q)) := by
  have n87 : a ≠ 87 := fun e => by rw [e] at ha; exact absurd ha (by decide)
  have n91 : a ≠ 91 := fun e => by rw [e] at ha; exact absurd ha (by decide)
  obtain ⟨⟨n88, n89, n92⟩, n93, n95⟩ := hne
  refine Cz.of rfl (Nat.le_of_ble_eq_true rfl) [some (zr G 91), some (zi n), some (zr G a), none] rfl (fun E ok okr hE => ?_)
  refine Z_aload0 (pc := 0) ok dX10_begin_0 ?_
  refine g_X10_division (pc := 1) (t := 87) ok dX10_begin_1 kw198 rfl rfl ?_
  refine Z_iload1 (pc := 4) ok dX10_begin_4 ?_
  refine Z_callVV (pc := 5) ok dX10_begin_5 cw_X10_29 rfl rfl (by decide) (c_prepare h2 hd) rfl rfl (by first | decide | omega) (Nat.le_of_ble_eq_true rfl) (fun I0 J0 q => ?_)
  obtain ⟨p1, p2, p3, rfl⟩ := q
  refine Z_aload0 (pc := 8) ok dX10_begin_8 ?_
  refine g_X10_division (pc := 9) (t := 87) ok dX10_begin_9 kw198 rfl rfl ?_
  refine Z_callVV (pc := 12) ok dX10_begin_12 cw_X10_35 rfl rfl (by decide) (c_preparePacked h2 p1 (by unfold pkOk at hp ⊢; rw [p2]; exact hp)) rfl rfl (by first | decide | omega) (Nat.le_of_ble_eq_true rfl) (fun I1 J1 q => ?_)
  obtain ⟨q1, q2, q3, q6, q5⟩ := q
  have q4 : ∀ a, a ≠ 87 → a ≠ 88 → a ≠ 89 → I1 a = I a := fun a a1 a2 a3 => by rw [q6 a a1 a3, p3 a a1 a2]
  refine Z_aload0 (pc := 15) ok dX10_begin_15 ?_
  refine Z_iconst (pc := 16) ok dX10_begin_16 ?_
  refine p_X10_size (pc := 17) ok dX10_begin_17 kw202 rfl ?_
  refine Z_aload0 (pc := 20) ok dX10_begin_20 ?_
  refine Z_iconst (pc := 21) ok dX10_begin_21 ?_
  refine p_X10_total (pc := 22) ok dX10_begin_22 kw205 rfl ?_
  refine Z_aload0 (pc := 25) ok dX10_begin_25 ?_
  refine g_X10_taken (pc := 26) (t := 95) ok dX10_begin_26 kw203 rfl rfl ?_
  refine Z_iconst (pc := 29) ok dX10_begin_29 ?_
  refine Z_callSVd (pc := 30) ok dX10_begin_30 cw_X10_45 (c_fill rfl rfl 0) rfl rfl (by first | decide | omega) (Nat.le_of_ble_eq_true rfl) ?_
  refine Z_aload0 (pc := 33) ok dX10_begin_33 ?_
  refine g_X10_sum (pc := 34) (t := 94) ok dX10_begin_34 kw201 rfl rfl ?_
  refine Z_lconst (pc := 37) (z := 0) ok dX10_begin_37 (by decide) ?_
  refine Z_callSVd (pc := 38) ok dX10_begin_38 cw_X10_51 (c_fillL rfl rfl 0) rfl rfl (by first | decide | omega) (Nat.le_of_ble_eq_true rfl) ?_
  refine Z_iconst (pc := 41) ok dX10_begin_41 ?_
  refine Z_istore3 (pc := 42) ok (by decide) dX10_begin_42 rfl ?_
  have H : ∀ e : Int, 0 ≤ e → e ≤ n → ∀ I2 : Mz, ((0 ≤ I2 91 4 ∧ I2 91 4 ≤ e) ∧ (∀ i, 0 ≤ i → i < I2 91 4 → (0 ≤ I2 92 i ∧ I2 92 i < e) ∧ 0 < I a (I2 92 i)) ∧ (∀ i j, 0 ≤ i → i < j → j < I2 91 4 → I2 92 i < I2 92 j) ∧ (∀ e', 0 ≤ e' → e' < e → 0 < I a e' → ∃ i, 0 ≤ i ∧ i < I2 91 4 ∧ I2 92 i = e') ∧ ∀ e', 0 ≤ e' → e' < e → I2 93 e' = I a e') → I2 91 6 = 0 → I2 95 = (fun _ => 0) → (∀ q, q ≠ 91 → q ≠ 92 → q ≠ 93 → q ≠ 95 → I2 q = I1 q) → Xz E G I2 (sz J1 94 (fun _ => 0)) 43 [some (zr G 91), some (zi n), some (zr G a), some (zi e)] [] := by
    refine zUp ?_ ?_
    · intro I2 hr h6 h95 hf
      refine Z_iload3 (pc := 43) ok dX10_begin_43 ?_
      refine Z_iload1 (pc := 44) ok dX10_begin_44 ?_
      refine Z_icmp_ge (pc := 45) (tgt := 89) ok dX10_begin_45 rfl (by first | omega | (simp [sz, uz] <;> omega)) (by first | omega | (simp [sz, uz] <;> omega)) (fun _ => ?_) (fun h => by exfalso; omega)
      refine Z_vret (pc := 89) ok okr dX10_begin_89 ?_
      refine ⟨rfl, ⟨dP_c q1 (hf 87 (by decide) (by decide) (by decide) (by decide)) (hf 88 (by decide) (by decide) (by decide) (by decide)), by rw [hf 87 (by decide) (by decide) (by decide) (by decide), q2], by rw [sz_ne _ _ (by decide)]; exact q3, hr, h95, ?_, ?_⟩, fun q a1 a2 a3 => ?_, fun q a1 a2 => ?_⟩
      · rw [h6]; exact (su_00 n).symm
      · rw [sz_eq]; funext w
        simp only [PS]
        rw [su_c (g := fun _ => 0) (fun j _ _ => Int.mul_zero _), su_00]
      · rw [hf q a2.1 a2.2 a3.1 a3.2]; exact q4 q a1.1 a1.2.1 a1.2.2
      · rw [sz_ne _ _ a2]; exact q5 q a1
    · intro e e0 e1 ih I2 hr h6 h95 hf
      have ea : I2 a = I a := by rw [hf a n91 n92 n93 n95]; exact q4 a n87 n88 n89
      have eae := congrFun ea e
      have hce := hc e
      obtain ⟨r1, r2, r3, r4, r5⟩ := hr
      refine Z_iload3 (pc := 43) ok dX10_begin_43 ?_
      refine Z_iload1 (pc := 44) ok dX10_begin_44 ?_
      refine Z_icmp_ge (pc := 45) (tgt := 89) ok dX10_begin_45 rfl (by first | omega | (simp [sz, uz] <;> omega)) (by first | omega | (simp [sz, uz] <;> omega)) (fun h => by exfalso; omega) (fun _ => ?_)
      refine Z_aload0 (pc := 48) ok dX10_begin_48 ?_
      refine g_X10_most (pc := 49) (t := 93) ok dX10_begin_49 kw200 rfl rfl ?_
      refine Z_iload3 (pc := 52) ok dX10_begin_52 ?_
      refine Z_aload2 (pc := 53) ok dX10_begin_53 ?_
      refine Z_iload3 (pc := 54) ok dX10_begin_54 ?_
      refine Z_iald (pc := 55) ok dX10_begin_55 ha hla (by first | omega | (simp [sz, uz] <;> omega)) ?_
      refine Z_iast (pc := 56) (L := 30) ok dX10_begin_56 rfl rfl (by first | omega | (simp [sz, uz] <;> omega)) ?_
      rw [ea]
      have ea2 : sz I2 93 (uz (I2 93) e (I a e)) a = I a := by rw [sz_ne _ _ n93, ea]
      have ea3 := congrFun ea2 e
      refine Z_aload2 (pc := 57) ok dX10_begin_57 ?_
      refine Z_iload3 (pc := 58) ok dX10_begin_58 ?_
      refine Z_iald (pc := 59) ok dX10_begin_59 ha hla (by first | omega | (simp [sz, uz] <;> omega)) ?_
      refine Z_if_le (pc := 60) (tgt := 83) ok dX10_begin_60 rfl (by first | omega | (simp [sz, uz] <;> omega)) (fun h => ?_) (fun h => ?_)
      · refine Z_iinc3 (pc := 83) ok (by decide) dX10_begin_83 rfl ?_
        refine Z_goto (pc := 86) (tgt := 43) ok dX10_begin_86 rfl ?_
        have h : I a e ≤ 0 := by rw [ea2] at h; exact h
        refine ih _ ⟨?_, ?_, ?_, ?_, ?_⟩ ?_ ?_ (fun q a1 a2 a3 a4 => ?_)
        · simp only [sz_ne _ _ (show (91 : Nat) ≠ 93 by decide)]; omega
        · intro i i0 i1
          simp only [sz_ne _ _ (show (91 : Nat) ≠ 93 by decide), sz_ne _ _ (show (92 : Nat) ≠ 93 by decide)] at i1 ⊢
          have := r2 i i0 i1
          omega
        · intro i j i0 i1 i2
          simp only [sz_ne _ _ (show (91 : Nat) ≠ 93 by decide), sz_ne _ _ (show (92 : Nat) ≠ 93 by decide)] at i2 ⊢
          exact r3 i j i0 i1 i2
        · intro e' b0 b1 b2
          simp only [sz_ne _ _ (show (91 : Nat) ≠ 93 by decide), sz_ne _ _ (show (92 : Nat) ≠ 93 by decide)]
          by_cases he : e' = e
          · subst he; omega
          · exact r4 e' b0 (by omega) b2
        · intro e' b0 b1
          rw [sz_eq]
          by_cases he : e' = e
          · subst he; rw [uz_eq]
          · rw [uz_ne _ _ he]; exact r5 e' b0 (by omega)
        · rw [sz_ne _ _ (by decide)]; exact h6
        · rw [sz_ne _ _ (by decide)]; exact h95
        · rw [sz_ne _ _ a3]; exact hf q a1 a2 a3 a4
      · have h : 0 < I a e := by rw [ea2] at h; exact h
        refine Z_aload0 (pc := 63) ok dX10_begin_63 ?_
        refine g_X10_roots (pc := 64) (t := 92) ok dX10_begin_64 kw199 rfl rfl ?_
        refine Z_aload0 (pc := 67) ok dX10_begin_67 ?_
        refine g_X10_size (pc := 68) ok dX10_begin_68 kw202 rfl ?_
        refine Z_iload3 (pc := 71) ok dX10_begin_71 ?_
        refine Z_iast (pc := 72) (L := 30) ok dX10_begin_72 rfl rfl (by first | omega | (simp [sz, uz] <;> omega)) ?_
        refine Z_aload0 (pc := 73) ok dX10_begin_73 ?_
        refine Z_dup (pc := 74) ok dX10_begin_74 rfl ?_
        refine g_X10_size (pc := 75) ok dX10_begin_75 kw202 rfl ?_
        refine Z_iconst (pc := 78) ok dX10_begin_78 ?_
        refine Z_iadd (pc := 79) ok dX10_begin_79 ?_
        refine p_X10_size (pc := 80) ok dX10_begin_80 kw202 rfl ?_
        refine Z_iinc3 (pc := 83) ok (by decide) dX10_begin_83 rfl ?_
        refine Z_goto (pc := 86) (tgt := 43) ok dX10_begin_86 rfl ?_
        have e91 : sz I2 93 (uz (I2 93) e (I a e)) 91 = I2 91 := sz_ne _ _ (by decide)
        have e92 : sz I2 93 (uz (I2 93) e (I a e)) 92 = I2 92 := sz_ne _ _ (by decide)
        have e93 : sz (sz I2 93 (uz (I2 93) e (I a e))) 92 (uz (I2 92) (I2 91 4) e) 91 = I2 91 := by rw [sz_ne _ _ (by decide)]; exact e91
        simp only [e91, e92, e93]
        refine ih _ ⟨?_, ?_, ?_, ?_, ?_⟩ ?_ ?_ (fun q a1 a2 a3 a4 => ?_)
        · rw [sz_eq, uz_eq]; omega
        · intro i i0 i1
          rw [sz_eq, uz_eq] at i1
          rw [sz_ne _ _ (show (92 : Nat) ≠ 91 by decide), sz_eq]
          by_cases hi : i = I2 91 4
          · rw [hi, uz_eq]; omega
          · rw [uz_ne _ _ hi]
            have := r2 i i0 (by omega)
            omega
        · intro i j i0 i1 i2
          rw [sz_eq, uz_eq] at i2
          rw [sz_ne _ _ (show (92 : Nat) ≠ 91 by decide), sz_eq, uz_ne _ _ (show i ≠ I2 91 4 by omega)]
          by_cases hj : j = I2 91 4
          · rw [hj, uz_eq]; have := r2 i i0 (by omega); omega
          · rw [uz_ne _ _ hj]; exact r3 i j i0 i1 (by omega)
        · intro e' b0 b1 b2
          rw [sz_eq, uz_eq, sz_ne _ _ (show (92 : Nat) ≠ 91 by decide), sz_eq]
          by_cases he : e' = e
          · subst he; exact ⟨I2 91 4, by omega, by omega, by rw [uz_eq]⟩
          · obtain ⟨i, i0, i1, i2⟩ := r4 e' b0 (by omega) b2
            exact ⟨i, i0, by omega, by rw [uz_ne _ _ (by omega)]; exact i2⟩
        · intro e' b0 b1
          rw [sz_ne _ _ (by decide), sz_ne _ _ (by decide), sz_eq]
          by_cases he : e' = e
          · subst he; rw [uz_eq]
          · rw [uz_ne _ _ he]; exact r5 e' b0 (by omega)
        · rw [sz_eq, uz_ne _ _ (by decide)]; exact h6
        · rw [sz_ne _ _ (by decide), sz_ne _ _ (by decide), sz_ne _ _ (by decide)]; exact h95
        · rw [sz_ne _ _ a1, sz_ne _ _ a2, sz_ne _ _ a3]; exact hf q a1 a2 a3 a4
  refine H 0 (by omega) (by omega) _ ⟨?_, ?_, ?_, ?_, ?_⟩ ?_ ?_ (fun q a1 a2 a3 a4 => ?_)
  · simp [sz, uz]
  · intro i i0 i1; simp [sz, uz] at i1; omega
  · intro i j i0 i1 i2; simp [sz, uz] at i2; omega
  · intro e' b0 b1; omega
  · intro e' b0 b1; omega
  · simp [sz, uz]
  · simp [sz]
  · simp [sz, a1, a4]
/-- the cells that a walk moves -/
def wFr (I I' J J' : Mz) : Prop := (∀ q, q ≠ 91 → q ≠ 95 → I' q = I q) ∧ ∀ q, q ≠ 94 → J' q = J q
theorem c_goesOn {n : Int} (h2 : 2 ≤ n ∧ n ≤ 30) {c t : Int → Int} (hc : ∀ e, c e ≤ 9) (ht : ∀ e, 0 ≤ t e ∧ t e ≤ c e) (ho : ∀ e, e < 0 ∨ n ≤ e → t e = 0) (hW : WI I J n c t) : K_X10_goesOn l G [zr G 91] I J (fun v I' J' => ∃ r, v = some (zi r) ∧ (wFr I I' J J' ∧ ((r = 1 ∧ ∃ e, (0 ≤ e ∧ e < n) ∧ (∀ j, 0 ≤ j → j < e → t j = c j) ∧ t e < c e ∧ WI I' J' n c (nx t e)) ∨ (r = 0 ∧ ∀ e, 0 ≤ e → e < n → t e = c e)))) := by
  obtain ⟨w1, w2, w3, ⟨r1, r2, r3, r4, r5⟩, w5, w6, w7⟩ := hW
  refine Cz.of rfl (Nat.le_of_ble_eq_true rfl) [some (zr G 91), none, none] rfl (fun E ok okr hE => ?_)
  refine Z_iconst (pc := 0) ok dX10_goesOn_0 ?_
  refine Z_istore1 (pc := 1) ok (by decide) dX10_goesOn_1 rfl ?_
  have H : ∀ i : Int, 0 ≤ i → i ≤ I 91 4 → ∀ (I1 J1 : Mz) (u : Int → Int), (∀ q, q ≠ 91 → q ≠ 95 → I1 q = I q) → (∀ q, q ≠ 94 → J1 q = J q) → (∀ q, q ≠ 6 → I1 91 q = I 91 q) → I1 95 = u → I1 91 6 = su u n → J1 94 = PS n u → (∀ j, 0 ≤ j → j < n → (∀ k, i ≤ k → k < I 91 4 → j < I 92 k) → u j = 0 ∧ t j = c j) → (∀ j, ((∃ k, i ≤ k ∧ k < I 91 4 ∧ I 92 k ≤ j) ∨ j < 0 ∨ n ≤ j) → u j = t j) → ∀ w, Xz E G I1 J1 2 [some (zr G 91), some (zi i), w] [] := by
    refine zUp ?_ ?_
    · intro I1 J1 u f1 f2 f3 u1 u2 u3 hA hB w
      have f34 := f3 4 (by decide)
      refine Z_iload1 (pc := 2) ok dX10_goesOn_2 ?_
      refine Z_aload0 (pc := 3) ok dX10_goesOn_3 ?_
      refine g_X10_size (pc := 4) ok dX10_goesOn_4 kw202 rfl ?_
      refine Z_icmp_ge (pc := 7) (tgt := 114) ok dX10_goesOn_7 rfl (by first | omega | (simp [sz, uz] <;> omega)) (by first | omega | (simp [sz, uz] <;> omega)) (fun _ => ?_) (fun h => by exfalso; omega)
      refine Z_iconst (pc := 114) ok dX10_goesOn_114 ?_
      refine Z_bret (pc := 115) ok okr dX10_goesOn_115 (by first | exact Or.inl rfl | exact Or.inr rfl | exact zb_01 _ | assumption | omega) ?_
      exact ⟨0, rfl, ⟨f1, f2⟩, Or.inr ⟨rfl, fun e e0 e1 => (hA e e0 e1 (fun k k0 k1 => by omega)).2⟩⟩
    · intro i i0 i1 ih I1 J1 u f1 f2 f3 u1 u2 u3 hA hB w
      have f34 := f3 4 (by decide)
      have f92 : I1 92 = I 92 := f1 92 (by decide) (by decide)
      have f93 : I1 93 = I 93 := f1 93 (by decide) (by decide)
      have f92i : I1 92 i = I 92 i := congrFun f92 i
      have hr := r2 i i0 i1
      generalize he : I 92 i = e at *
      have hce := hc e
      have hte := ht e
      have hue : u e = t e := hB e (Or.inl ⟨i, Int.le_refl _, i1, by omega⟩)
      have f95e : I1 95 e = u e := by rw [u1]
      have f93e : I1 93 e = c e := by rw [f93]; exact r5 e hr.1.1 hr.1.2
      have d1 : dP I1 n := dP_c w1 (f1 87 (by decide) (by decide)) (f1 88 (by decide) (by decide))
      have p1 : J1 90 = PK n := by rw [f2 90 (by decide)]; exact w3
      refine Z_iload1 (pc := 2) ok dX10_goesOn_2 ?_
      refine Z_aload0 (pc := 3) ok dX10_goesOn_3 ?_
      refine g_X10_size (pc := 4) ok dX10_goesOn_4 kw202 rfl ?_
      refine Z_icmp_ge (pc := 7) (tgt := 114) ok dX10_goesOn_7 rfl (by first | omega | (simp [sz, uz] <;> omega)) (by first | omega | (simp [sz, uz] <;> omega)) (fun h => by exfalso; omega) (fun _ => ?_)
      refine Z_aload0 (pc := 10) ok dX10_goesOn_10 ?_
      refine g_X10_roots (pc := 11) (t := 92) ok dX10_goesOn_11 kw199 rfl rfl ?_
      refine Z_iload1 (pc := 14) ok dX10_goesOn_14 ?_
      refine Z_iald (pc := 15) (L := 30) ok dX10_goesOn_15 rfl rfl (by first | omega | (simp [sz, uz] <;> omega)) ?_
      rw [f92i]
      refine Z_istore2 (pc := 16) ok (by decide) dX10_goesOn_16 rfl ?_
      refine Z_aload0 (pc := 17) ok dX10_goesOn_17 ?_
      refine g_X10_taken (pc := 18) (t := 95) ok dX10_goesOn_18 kw203 rfl rfl ?_
      refine Z_iload2 (pc := 21) ok dX10_goesOn_21 ?_
      refine Z_iald (pc := 22) (L := 30) ok dX10_goesOn_22 rfl rfl (by first | omega | (simp [sz, uz] <;> omega)) ?_
      refine Z_aload0 (pc := 23) ok dX10_goesOn_23 ?_
      refine g_X10_most (pc := 24) (t := 93) ok dX10_goesOn_24 kw200 rfl rfl ?_
      refine Z_iload2 (pc := 27) ok dX10_goesOn_27 ?_
      refine Z_iald (pc := 28) (L := 30) ok dX10_goesOn_28 rfl rfl (by first | omega | (simp [sz, uz] <;> omega)) ?_
      refine Z_icmp_ge (pc := 29) (tgt := 67) ok dX10_goesOn_29 rfl (by first | omega | (simp [sz, uz] <;> omega)) (by first | omega | (simp [sz, uz] <;> omega)) (fun h => ?_) (fun h => ?_)
      · have h : c e ≤ t e := by omega
        refine Z_aload0 (pc := 67) ok dX10_goesOn_67 ?_
        refine g_X10_division (pc := 68) (t := 87) ok dX10_goesOn_68 kw198 rfl rfl ?_
        refine Z_aload0 (pc := 71) ok dX10_goesOn_71 ?_
        refine g_X10_sum (pc := 72) (t := 94) ok dX10_goesOn_72 kw201 rfl rfl ?_
        refine Z_iload2 (pc := 75) ok dX10_goesOn_75 ?_
        refine Z_aload0 (pc := 76) ok dX10_goesOn_76 ?_
        refine g_X10_taken (pc := 77) (t := 95) ok dX10_goesOn_77 kw203 rfl rfl ?_
        refine Z_iload2 (pc := 80) ok dX10_goesOn_80 ?_
        refine Z_iald (pc := 81) (L := 30) ok dX10_goesOn_81 rfl rfl (by omega) ?_
        refine Z_ineg (pc := 82) ok dX10_goesOn_82 ?_
        rw [f95e]
        refine Z_callVVd (pc := 83) ok dX10_goesOn_83 cw_X10_54 rfl rfl (by decide) (c_addPacked h2 d1 p1 hr.1 (by omega)) rfl rfl (by first | decide | omega) (Nat.le_of_ble_eq_true rfl) ?_
        refine Z_aload0 (pc := 86) ok dX10_goesOn_86 ?_
        refine Z_dup (pc := 87) ok dX10_goesOn_87 rfl ?_
        refine g_X10_total (pc := 88) ok dX10_goesOn_88 kw205 rfl ?_
        refine Z_aload0 (pc := 91) ok dX10_goesOn_91 ?_
        refine g_X10_taken (pc := 92) (t := 95) ok dX10_goesOn_92 kw203 rfl rfl ?_
        refine Z_iload2 (pc := 95) ok dX10_goesOn_95 ?_
        refine Z_iald (pc := 96) (L := 30) ok dX10_goesOn_96 rfl rfl (by first | omega | (simp [sz, uz] <;> omega)) ?_
        refine Z_isub (pc := 97) ok dX10_goesOn_97 ?_
        refine p_X10_total (pc := 98) ok dX10_goesOn_98 kw205 rfl ?_
        refine Z_aload0 (pc := 101) ok dX10_goesOn_101 ?_
        refine g_X10_taken (pc := 102) (t := 95) ok dX10_goesOn_102 kw203 rfl rfl ?_
        refine Z_iload2 (pc := 105) ok dX10_goesOn_105 ?_
        refine Z_iconst (pc := 106) ok dX10_goesOn_106 ?_
        refine Z_iast (pc := 107) (L := 30) ok dX10_goesOn_107 rfl rfl (by first | omega | (simp [sz, uz] <;> omega)) ?_
        refine Z_iinc1 (pc := 108) ok (by decide) dX10_goesOn_108 rfl ?_
        refine Z_goto (pc := 111) (tgt := 2) ok dX10_goesOn_111 rfl ?_
        rw [f95e, u2]
        refine ih _ _ (uz u e 0) (fun q a1 a2 => ?_) (fun q a1 => ?_) (fun q a1 => ?_) ?_ ?_ ?_ (fun j j0 j1 hj => ?_) (fun j hj => ?_) _
        · rw [sz_ne _ _ a2, sz_ne _ _ a1]; exact f1 q a1 a2
        · rw [sz_ne _ _ a1]; exact f2 q a1
        · rw [sz_ne _ _ (by decide), sz_eq, uz_ne _ _ a1]; exact f3 q a1
        · rw [sz_eq, sz_ne _ _ (by decide), u1]
        · rw [sz_ne _ _ (by decide), sz_eq, uz_eq, su_uz _ hr.1.1 hr.1.2]; omega
        · rw [sz_eq, u3]; funext w
          rw [PS_uz _ hr.1.1 hr.1.2, show 0 - u e = -u e by omega]
        · by_cases hje : j = e
          · subst hje; rw [uz_eq]; exact ⟨rfl, by omega⟩
          · rw [uz_ne _ _ hje]
            by_cases hlt : j < e
            · refine hA j j0 j1 (fun k k0 k1 => ?_)
              by_cases hk : k = i
              · rw [hk, he]; exact hlt
              · have := r3 i k i0 (by omega) k1; omega
            · have hcj : ¬ 0 < c j := by
                intro hpos
                obtain ⟨k, k0, k1, k2⟩ := r4 j j0 j1 hpos
                rcases Int.lt_trichotomy k i with q | q | q
                · have := r3 k i k0 q i1; omega
                · rw [q] at k2; omega
                · have := hj k (by omega) k1; omega
              have htj := ht j
              have : u j = t j := hB j (Or.inl ⟨i, Int.le_refl _, i1, by omega⟩)
              omega
        · have hje : j ≠ e := by
            rintro rfl
            rcases hj with ⟨k, k0, k1, k2⟩ | hj
            · have := r3 i k i0 (by omega) k1; omega
            · omega
          rw [uz_ne _ _ hje]
          refine hB j ?_
          rcases hj with ⟨k, k0, k1, k2⟩ | hj
          · exact Or.inl ⟨k, by omega, k1, k2⟩
          · exact Or.inr hj
      · have h : t e < c e := by omega
        have e3 : sz I1 95 (uz u e (u e + 1)) 91 = I1 91 := sz_ne _ _ (by decide)
        refine Z_aload0 (pc := 32) ok dX10_goesOn_32 ?_
        refine g_X10_taken (pc := 33) (t := 95) ok dX10_goesOn_33 kw203 rfl rfl ?_
        refine Z_iload2 (pc := 36) ok dX10_goesOn_36 ?_
        refine Z_dup2 (pc := 37) ok dX10_goesOn_37 rfl rfl ?_
        refine Z_iald (pc := 38) (L := 30) ok dX10_goesOn_38 rfl rfl (by first | omega | (simp [sz, uz] <;> omega)) ?_
        refine Z_iconst (pc := 39) ok dX10_goesOn_39 ?_
        refine Z_iadd (pc := 40) ok dX10_goesOn_40 ?_
        refine Z_iast (pc := 41) (L := 30) ok dX10_goesOn_41 rfl rfl (by first | omega | (simp [sz, uz] <;> omega)) ?_
        rw [u1]
        refine Z_aload0 (pc := 42) ok dX10_goesOn_42 ?_
        refine Z_dup (pc := 43) ok dX10_goesOn_43 rfl ?_
        refine g_X10_total (pc := 44) ok dX10_goesOn_44 kw205 rfl ?_
        refine Z_iconst (pc := 47) ok dX10_goesOn_47 ?_
        refine Z_iadd (pc := 48) ok dX10_goesOn_48 ?_
        refine p_X10_total (pc := 49) ok dX10_goesOn_49 kw205 rfl ?_
        simp only [e3]
        refine Z_aload0 (pc := 52) ok dX10_goesOn_52 ?_
        refine g_X10_division (pc := 53) (t := 87) ok dX10_goesOn_53 kw198 rfl rfl ?_
        refine Z_aload0 (pc := 56) ok dX10_goesOn_56 ?_
        refine g_X10_sum (pc := 57) (t := 94) ok dX10_goesOn_57 kw201 rfl rfl ?_
        refine Z_iload2 (pc := 60) ok dX10_goesOn_60 ?_
        refine Z_iconst (pc := 61) ok dX10_goesOn_61 ?_
        refine Z_callVVd (pc := 62) ok dX10_goesOn_62 cw_X10_54 rfl rfl (by decide) (c_addPacked h2 (dP_c d1 (by rw [sz_ne _ _ (by decide), sz_ne _ _ (by decide)]) (by rw [sz_ne _ _ (by decide), sz_ne _ _ (by decide)])) p1 hr.1 (by omega)) rfl rfl (by first | decide | omega) (Nat.le_of_ble_eq_true rfl) ?_
        refine Z_iconst (pc := 65) ok dX10_goesOn_65 ?_
        refine Z_bret (pc := 66) ok okr dX10_goesOn_66 (by first | exact Or.inl rfl | exact Or.inr rfl | exact zb_01 _ | assumption | omega) ?_
        have enx : uz u e (u e + 1) = nx t e := by
          funext j
          simp only [nx]
          by_cases hje : j = e
          · subst hje; rw [uz_eq, if_neg (by omega), if_pos rfl, hue]
          · rw [uz_ne _ _ hje]
            by_cases hlt : j < e
            · rw [if_pos hlt]
              by_cases hj0 : 0 ≤ j
              · refine (hA j hj0 (by omega) (fun k k0 k1 => ?_)).1
                by_cases hk : k = i
                · rw [hk, he]; exact hlt
                · have := r3 i k i0 (by omega) k1; omega
              · rw [hB j (by omega), ho j (by omega)]
            · rw [if_neg hlt, if_neg hje]
              exact hB j (Or.inl ⟨i, Int.le_refl _, i1, by omega⟩)
        refine ⟨1, rfl, ⟨fun q a1 a2 => ?_, fun q a1 => ?_⟩, Or.inl ⟨rfl, e, hr.1, fun j j0 j1 => ?_, h, ?_⟩⟩
        · rw [sz_ne _ _ a1, sz_ne _ _ a2]; exact f1 q a1 a2
        · rw [sz_ne _ _ a1]; exact f2 q a1
        · refine (hA j j0 (by omega) (fun k k0 k1 => ?_)).2
          by_cases hk : k = i
          · rw [hk, he]; exact j1
          · have := r3 i k i0 (by omega) k1; omega
        · have g4 : ∀ q, q ≠ 6 → uz (I1 91) 6 (I1 91 6 + 1) q = I 91 q := fun q a1 => by rw [uz_ne _ _ a1]; exact f3 q a1
          refine ⟨dP_c d1 (by rw [sz_ne _ _ (by decide), sz_ne _ _ (by decide)]) (by rw [sz_ne _ _ (by decide), sz_ne _ _ (by decide)]), ?_, ?_, ?_, ?_, ?_, ?_⟩
          · rw [sz_ne _ _ (by decide), sz_ne _ _ (by decide), f1 87 (by decide) (by decide)]; exact w2
          · rw [sz_ne _ _ (by decide)]; exact p1
          · have g91 : sz (sz I1 95 (uz u e (u e + 1))) 91 (uz (I1 91) 6 (I1 91 6 + 1)) 91 4 = I 91 4 := by rw [sz_eq]; exact g4 4 (by decide)
            have g92 : sz (sz I1 95 (uz u e (u e + 1))) 91 (uz (I1 91) 6 (I1 91 6 + 1)) 92 = I 92 := by rw [sz_ne _ _ (by decide), sz_ne _ _ (by decide)]; exact f92
            have g93 : sz (sz I1 95 (uz u e (u e + 1))) 91 (uz (I1 91) 6 (I1 91 6 + 1)) 93 = I 93 := by rw [sz_ne _ _ (by decide), sz_ne _ _ (by decide)]; exact f93
            simp only [rtOk, g91, g92, g93]
            exact ⟨r1, r2, r3, r4, r5⟩
          · rw [sz_ne _ _ (by decide), sz_eq]; exact enx
          · rw [sz_eq, uz_eq, u2, ← enx, su_uz _ hr.1.1 hr.1.2]; omega
          · rw [sz_eq, u3, ← enx]; funext w
            rw [PS_uz _ hr.1.1 hr.1.2, show u e + 1 - u e = 1 by omega]
  refine H 0 (by omega) (by omega) I J t (fun _ _ _ => rfl) (fun _ _ => rfl) (fun _ _ => rfl) w5 w6 w7 (fun j j0 j1 hj => ?_) (fun _ _ => rfl) none
  have hcj : ¬ 0 < c j := by
    intro hpos
    obtain ⟨k, k0, k1, k2⟩ := r4 j j0 j1 hpos
    have := hj k k0 k1; omega
  have := ht j
  omega
end
