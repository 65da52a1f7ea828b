/-! Parts -/
def cOk (I : Mz) : Prop := gR (I 97 0) (I 98) ∧ (I 96 2 = 0 ∨ (I 96 2 = 1 ∧ PSp (I 97 0) (I 98) (I 96 4) (I 96 5) (I 96 6) (I 99)))
theorem su_k (a : Int) {n : Int} (h : 0 ≤ n) : su (fun _ => a) n = a * n := by
  obtain ⟨k, rfl⟩ := Int.eq_ofNat_of_zero_le h
  induction k with
  | zero => rw [show a * ((0 : Nat) : Int) = 0 by simp]; rfl
  | succ k ih =>
    rw [show ((k + 1 : Nat) : Int) = (k : Int) + 1 by omega, su_s _ (by omega), ih (by omega), Int.mul_add, Int.mul_one]
theorem dOk_c {I T : Mz} (h : dOk I) (h1 : T 87 = I 87) (h2 : T 88 = I 88) : dOk T := by
  unfold dOk dP at *; rw [h1, h2]; exact h
theorem Z_gen {E : Ev} {G : Gw} {I J : Mz} {pc : Nat} {lo : List (Option Value)} {st : List Value} (k : ∀ T : Mz, T = I → Xz E G T J pc lo st) : Xz E G I J pc lo st := k I rfl
section
variable {l : Launch} {G : Gw} {I J : Mz}
theorem c_becomeFirst : K_X3_becomeFirst l G [zr G 96] I J (pR none (sz I 99 (I 95)) J) := by
  refine Cz.of rfl (Nat.le_of_ble_eq_true rfl) [some (zr G 96)] rfl (fun E ok okr hE => ?_)
  refine Z_aload0 (pc := 0) ok dX3_becomeFirst_0 ?_
  refine g_X3_walk (pc := 1) (t := 91) ok dX3_becomeFirst_1 kw230 rfl rfl ?_
  refine g_X10_taken (pc := 4) (t := 95) ok dX3_becomeFirst_4 kw204 rfl rfl ?_
  refine Z_iconst (pc := 7) ok dX3_becomeFirst_7 ?_
  refine Z_aload0 (pc := 8) ok dX3_becomeFirst_8 ?_
  refine g_X3_first (pc := 9) (t := 99) ok dX3_becomeFirst_9 kw233 rfl rfl ?_
  refine Z_iconst (pc := 12) ok dX3_becomeFirst_12 ?_
  refine Z_bipush (pc := 13) ok dX3_becomeFirst_13 (by decide) ?_
  refine Z_copy (pc := 15) (N := 30) ok dX3_becomeFirst_15 kw533 kw457 kw456 kw71 rfl rfl rfl rfl (by decide) (by decide) (Nat.le_of_ble_eq_true rfl) ?_
  refine Z_vret (pc := 18) ok okr dX3_becomeFirst_18 ?_
  exact ⟨rfl, rfl, rfl⟩
theorem c_isAheadOfFirst {n : Int} (hn : 2 ≤ n ∧ n ≤ 30) (h97 : I 97 0 = n) (hr : ∀ e, 0 ≤ I 95 e ∧ I 95 e ≤ 9) (hr2 : ∀ e, 0 ≤ I 99 e ∧ I 99 e ≤ 9) : K_X3_isAheadOfFirst l G [zr G 96] I J (pR (some (zi (zb (lgt n (I 95) (I 99))))) I J) := by
  refine Cz.of rfl (Nat.le_of_ble_eq_true rfl) [some (zr G 96), none] rfl (fun E ok okr hE => ?_)
  refine Z_iconst (pc := 0) ok dX3_isAheadOfFirst_0 ?_
  refine Z_istore1 (pc := 1) ok (by decide) dX3_isAheadOfFirst_1 rfl ?_
  have H : ∀ e : Int, 0 ≤ e → e ≤ n → (∀ j, 0 ≤ j → j < e → I 95 j = I 99 j) → Xz E G I J 2 [some (zr G 96), some (zi e)] [] := by
    refine zUp ?_ ?_
    · intro hj
      refine Z_iload1 (pc := 2) ok dX3_isAheadOfFirst_2 ?_
      refine Z_aload0 (pc := 3) ok dX3_isAheadOfFirst_3 ?_
      refine g_X3_known (pc := 4) (t := 97) ok dX3_isAheadOfFirst_4 kw231 rfl rfl ?_
      refine g_X5_n (pc := 7) ok dX3_isAheadOfFirst_7 kw97 rfl ?_
      refine Z_icmp_ge (pc := 10) (tgt := 61) ok dX3_isAheadOfFirst_10 rfl (by first | omega | (simp [sz, uz]; omega)) (by first | omega | (simp [sz, uz]; omega)) (fun _ => ?_) (fun h => by exfalso; omega)
      refine Z_iconst (pc := 61) ok dX3_isAheadOfFirst_61 ?_
      refine Z_bret (pc := 62) ok okr dX3_isAheadOfFirst_62 (by first | exact Or.inl rfl | exact Or.inr rfl | exact zb_01 _ | assumption | omega) ?_
      exact ⟨by rw [zb_f (fun ⟨e, e0, e1, e2, e3⟩ => by have := hj e e0 e1; omega)], rfl, rfl⟩
    · intro e e0 e1 ih hj
      have b1 := hr e
      have b2 := hr2 e
      refine Z_iload1 (pc := 2) ok dX3_isAheadOfFirst_2 ?_
      refine Z_aload0 (pc := 3) ok dX3_isAheadOfFirst_3 ?_
      refine g_X3_known (pc := 4) (t := 97) ok dX3_isAheadOfFirst_4 kw231 rfl rfl ?_
      refine g_X5_n (pc := 7) ok dX3_isAheadOfFirst_7 kw97 rfl ?_
      refine Z_icmp_ge (pc := 10) (tgt := 61) ok dX3_isAheadOfFirst_10 rfl (by first | omega | (simp [sz, uz]; omega)) (by first | omega | (simp [sz, uz]; omega)) (fun h => by exfalso; omega) (fun _ => ?_)
      refine Z_aload0 (pc := 13) ok dX3_isAheadOfFirst_13 ?_
      refine g_X3_walk (pc := 14) (t := 91) ok dX3_isAheadOfFirst_14 kw230 rfl rfl ?_
      refine g_X10_taken (pc := 17) (t := 95) ok dX3_isAheadOfFirst_17 kw204 rfl rfl ?_
      refine Z_iload1 (pc := 20) ok dX3_isAheadOfFirst_20 ?_
      refine Z_iald (pc := 21) (L := 30) ok dX3_isAheadOfFirst_21 rfl rfl (by first | omega | (simp [sz, uz]; omega)) ?_
      refine Z_aload0 (pc := 22) ok dX3_isAheadOfFirst_22 ?_
      refine g_X3_first (pc := 23) (t := 99) ok dX3_isAheadOfFirst_23 kw233 rfl rfl ?_
      refine Z_iload1 (pc := 26) ok dX3_isAheadOfFirst_26 ?_
      refine Z_iald (pc := 27) (L := 30) ok dX3_isAheadOfFirst_27 rfl rfl (by first | omega | (simp [sz, uz]; omega)) ?_
      refine Z_icmp_eq (pc := 28) (tgt := 55) ok dX3_isAheadOfFirst_28 rfl (by first | omega | (simp [sz, uz]; omega)) (by first | omega | (simp [sz, uz]; omega)) (fun h => ?_) (fun h => ?_)
      · refine Z_iinc1 (pc := 55) ok (by decide) dX3_isAheadOfFirst_55 rfl ?_
        refine Z_goto (pc := 58) (tgt := 2) ok dX3_isAheadOfFirst_58 rfl ?_
        exact ih (fun j h3 h4 => by by_cases h5 : j = e; subst h5; exact h; exact hj j h3 (by omega))
      · refine Z_aload0 (pc := 31) ok dX3_isAheadOfFirst_31 ?_
        refine g_X3_walk (pc := 32) (t := 91) ok dX3_isAheadOfFirst_32 kw230 rfl rfl ?_
        refine g_X10_taken (pc := 35) (t := 95) ok dX3_isAheadOfFirst_35 kw204 rfl rfl ?_
        refine Z_iload1 (pc := 38) ok dX3_isAheadOfFirst_38 ?_
        refine Z_iald (pc := 39) (L := 30) ok dX3_isAheadOfFirst_39 rfl rfl (by first | omega | (simp [sz, uz]; omega)) ?_
        refine Z_aload0 (pc := 40) ok dX3_isAheadOfFirst_40 ?_
        refine g_X3_first (pc := 41) (t := 99) ok dX3_isAheadOfFirst_41 kw233 rfl rfl ?_
        refine Z_iload1 (pc := 44) ok dX3_isAheadOfFirst_44 ?_
        refine Z_iald (pc := 45) (L := 30) ok dX3_isAheadOfFirst_45 rfl rfl (by first | omega | (simp [sz, uz]; omega)) ?_
        refine Z_icmp_le (pc := 46) (tgt := 53) ok dX3_isAheadOfFirst_46 rfl (by first | omega | (simp [sz, uz]; omega)) (by first | omega | (simp [sz, uz]; omega)) (fun h3 => ?_) (fun h3 => ?_)
        · refine Z_iconst (pc := 53) ok dX3_isAheadOfFirst_53 ?_
          refine Z_bret (pc := 54) ok okr dX3_isAheadOfFirst_54 (by first | exact Or.inl rfl | exact Or.inr rfl | exact zb_01 _ | assumption | omega) ?_
          refine ⟨by rw [zb_f (fun ⟨f, f0, f1, f2, f3⟩ => ?_)], rfl, rfl⟩
          rcases Int.lt_trichotomy e f with q | q | q
          · exact h (f2 e e0 q)
          · subst q; omega
          · have := hj f f0 q; omega
        · refine Z_iconst (pc := 49) ok dX3_isAheadOfFirst_49 ?_
          refine Z_goto (pc := 50) (tgt := 54) ok dX3_isAheadOfFirst_50 rfl ?_
          refine Z_bret (pc := 54) ok okr dX3_isAheadOfFirst_54 (by first | exact Or.inl rfl | exact Or.inr rfl | exact zb_01 _ | assumption | omega) ?_
          exact ⟨by rw [zb_t ⟨e, e0, e1, hj, h3⟩], rfl, rfl⟩
  exact H 0 (by omega) (by omega) (fun j h3 h4 => by omega)
theorem c_note {n : Int} (hn : 2 ≤ n ∧ n ≤ 30) (h97 : I 97 0 = n) (hr : ∀ e, 0 ≤ I 95 e ∧ I 95 e ≤ 9) (hr2 : 0 < I 96 4 → ∀ e, 0 ≤ I 99 e ∧ I 99 e ≤ 9) (ha : 0 ≤ I 96 4 ∧ I 96 4 ≤ 20000) (hl : 0 < I 96 4 → 0 ≤ I 96 5 ∧ I 96 5 ≤ 1000) (ht : 0 ≤ I 91 6 ∧ I 91 6 ≤ 1000) : K_X3_note l G [zr G 96] I J (fun v I' J' => v = none ∧ ((∀ q, q ≠ 96 → q ≠ 99 → I' q = I q) ∧ J' = J ∧ I' 96 2 = I 96 2 ∧ I' 96 4 = I 96 4 + 1 ∧ (((I 96 4 = 0 ∨ I 91 6 < I 96 5) ∧ I' 96 5 = I 91 6 ∧ I' 96 6 = 1 ∧ I' 99 = I 95) ∨ (0 < I 96 4 ∧ I 91 6 = I 96 5 ∧ I' 96 5 = I 96 5 ∧ I' 96 6 = I 96 6 + 1 ∧ ((lgt n (I 95) (I 99) ∧ I' 99 = I 95) ∨ (¬ lgt n (I 95) (I 99) ∧ I' 99 = I 99))) ∨ (0 < I 96 4 ∧ I 96 5 < I 91 6 ∧ I' 96 5 = I 96 5 ∧ I' 96 6 = I 96 6 ∧ I' 99 = I 99)))) := by
  refine Cz.of rfl (Nat.le_of_ble_eq_true rfl) [some (zr G 96)] rfl (fun E ok okr hE => ?_)
  refine Z_aload0 (pc := 0) ok dX3_note_0 ?_
  refine Z_dup (pc := 1) ok dX3_note_1 rfl ?_
  refine g_X3_all (pc := 2) ok dX3_note_2 kw235 rfl ?_
  refine Z_iconst (pc := 5) ok dX3_note_5 ?_
  refine Z_iadd (pc := 6) ok dX3_note_6 ?_
  refine p_X3_all (pc := 7) ok dX3_note_7 kw235 rfl ?_
  refine Z_aload0 (pc := 10) ok dX3_note_10 ?_
  refine g_X3_all (pc := 11) ok dX3_note_11 kw235 rfl ?_
  refine Z_iconst (pc := 14) ok dX3_note_14 ?_
  refine Z_icmp_eq (pc := 15) (tgt := 32) ok dX3_note_15 rfl (by first | omega | (simp [sz, uz]; omega)) (by first | omega | (simp [sz, uz]; omega)) (fun h => ?_) (fun h => ?_)
  · simp [sz, uz] at h
    refine Z_aload0 (pc := 32) ok dX3_note_32 ?_
    refine Z_aload0 (pc := 33) ok dX3_note_33 ?_
    refine g_X3_walk (pc := 34) (t := 91) ok dX3_note_34 kw230 rfl rfl ?_
    refine g_X10_total (pc := 37) ok dX3_note_37 kw206 rfl ?_
    refine p_X3_least (pc := 40) ok dX3_note_40 kw237 rfl ?_
    refine Z_aload0 (pc := 43) ok dX3_note_43 ?_
    refine Z_iconst (pc := 44) ok dX3_note_44 ?_
    refine p_X3_ofLeast (pc := 45) ok dX3_note_45 kw239 rfl ?_
    refine Z_aload0 (pc := 48) ok dX3_note_48 ?_
    refine Z_callVVd (pc := 49) ok dX3_note_49 cw_X3_73 rfl rfl (by decide) (c_becomeFirst) rfl rfl (by decide) (Nat.le_of_ble_eq_true rfl) ?_
    refine Z_goto (pc := 52) (tgt := 90) ok dX3_note_52 rfl ?_
    refine Z_vret (pc := 90) ok okr dX3_note_90 ?_
    refine ⟨rfl, fun q a1 a2 => ?_, rfl, ?_, ?_, Or.inl ⟨Or.inl (by omega), ?_, ?_, ?_⟩⟩
    · simp [sz, a1, a2]
    all_goals simp [sz, uz]
  · simp [sz, uz] at h
    have hl := hl (by omega)
    refine Z_aload0 (pc := 18) ok dX3_note_18 ?_
    refine g_X3_walk (pc := 19) (t := 91) ok dX3_note_19 kw230 rfl rfl ?_
    refine g_X10_total (pc := 22) ok dX3_note_22 kw206 rfl ?_
    refine Z_aload0 (pc := 25) ok dX3_note_25 ?_
    refine g_X3_least (pc := 26) ok dX3_note_26 kw237 rfl ?_
    refine Z_icmp_ge (pc := 29) (tgt := 55) ok dX3_note_29 rfl (by first | omega | (simp [sz, uz]; omega)) (by first | omega | (simp [sz, uz]; omega)) (fun h2 => ?_) (fun h2 => ?_)
    · simp [sz, uz] at h2
      refine Z_aload0 (pc := 55) ok dX3_note_55 ?_
      refine g_X3_walk (pc := 56) (t := 91) ok dX3_note_56 kw230 rfl rfl ?_
      refine g_X10_total (pc := 59) ok dX3_note_59 kw206 rfl ?_
      refine Z_aload0 (pc := 62) ok dX3_note_62 ?_
      refine g_X3_least (pc := 63) ok dX3_note_63 kw237 rfl ?_
      refine Z_icmp_ne (pc := 66) (tgt := 90) ok dX3_note_66 rfl (by first | omega | (simp [sz, uz]; omega)) (by first | omega | (simp [sz, uz]; omega)) (fun h3 => ?_) (fun h3 => ?_)
      · simp [sz, uz] at h3
        refine Z_vret (pc := 90) ok okr dX3_note_90 ?_
        refine ⟨rfl, fun q a1 a2 => ?_, rfl, ?_, ?_, Or.inr (Or.inr ⟨by omega, by omega, ?_, ?_, ?_⟩)⟩
        · simp [sz, a1]
        all_goals simp [sz, uz]
      · simp [sz, uz] at h3
        refine Z_aload0 (pc := 69) ok dX3_note_69 ?_
        refine Z_dup (pc := 70) ok dX3_note_70 rfl ?_
        refine g_X3_ofLeast (pc := 71) ok dX3_note_71 kw239 rfl ?_
        refine Z_iconst (pc := 74) ok dX3_note_74 ?_
        refine Z_iadd (pc := 75) ok dX3_note_75 ?_
        refine p_X3_ofLeast (pc := 76) ok dX3_note_76 kw239 rfl ?_
        refine Z_aload0 (pc := 79) ok dX3_note_79 ?_
        refine Z_callVId (pc := 80) ok dX3_note_80 cw_X3_76 rfl rfl (by decide) (c_isAheadOfFirst hn (by simp [sz]; exact h97) (by simp [sz]; exact hr) (by simp [sz]; exact hr2 (by omega))) rfl rfl (by decide) (Nat.le_of_ble_eq_true rfl) ?_
        refine Z_if_eqB (pc := 83) (tgt := 90) ok dX3_note_83 rfl (fun h4 => ?_) (fun h4 => ?_)
        · refine Z_vret (pc := 90) ok okr dX3_note_90 ?_
          refine ⟨rfl, fun q a1 a2 => ?_, rfl, ?_, ?_, Or.inr (Or.inl ⟨by omega, h3, ?_, ?_, Or.inr ⟨?_, ?_⟩⟩)⟩
          · simp [sz, a1]
          · simp [sz, uz]
          · simp [sz, uz]
          · simp [sz, uz]
          · simp [sz, uz]
          · simpa [sz] using h4
          · simp [sz]
        · refine Z_aload0 (pc := 86) ok dX3_note_86 ?_
          refine Z_callVVd (pc := 87) ok dX3_note_87 cw_X3_73 rfl rfl (by decide) (c_becomeFirst) rfl rfl (by decide) (Nat.le_of_ble_eq_true rfl) ?_
          refine Z_vret (pc := 90) ok okr dX3_note_90 ?_
          refine ⟨rfl, fun q a1 a2 => ?_, rfl, ?_, ?_, Or.inr (Or.inl ⟨by omega, h3, ?_, ?_, Or.inl ⟨?_, ?_⟩⟩)⟩
          · simp [sz, a1, a2]
          · simp [sz, uz]
          · simp [sz, uz]
          · simp [sz, uz]
          · simp [sz, uz]
          · simpa [sz] using h4
          · simp [sz]
    · simp [sz, uz] at h2
      refine Z_aload0 (pc := 32) ok dX3_note_32 ?_
      refine Z_aload0 (pc := 33) ok dX3_note_33 ?_
      refine g_X3_walk (pc := 34) (t := 91) ok dX3_note_34 kw230 rfl rfl ?_
      refine g_X10_total (pc := 37) ok dX3_note_37 kw206 rfl ?_
      refine p_X3_least (pc := 40) ok dX3_note_40 kw237 rfl ?_
      refine Z_aload0 (pc := 43) ok dX3_note_43 ?_
      refine Z_iconst (pc := 44) ok dX3_note_44 ?_
      refine p_X3_ofLeast (pc := 45) ok dX3_note_45 kw239 rfl ?_
      refine Z_aload0 (pc := 48) ok dX3_note_48 ?_
      refine Z_callVVd (pc := 49) ok dX3_note_49 cw_X3_73 rfl rfl (by decide) (c_becomeFirst) rfl rfl (by decide) (Nat.le_of_ble_eq_true rfl) ?_
      refine Z_goto (pc := 52) (tgt := 90) ok dX3_note_52 rfl ?_
      refine Z_vret (pc := 90) ok okr dX3_note_90 ?_
      refine ⟨rfl, fun q a1 a2 => ?_, rfl, ?_, ?_, Or.inl ⟨Or.inr (by omega), ?_, ?_, ?_⟩⟩
      · simp [sz, a1, a2]
      all_goals simp [sz, uz]
theorem c_lookThrough {k : Nat} (hk : kd k = 5) (hkn : k = 2 ∨ k = 116) (h1 : gR (I k 0) (I (k + 1))) (hpr : pr (I (k + 1)) (I k 0) ≤ 20000) (hd : dOk I) (hp : pkOk I J) (hco : cOk I) : K_X3_lookThrough l G [zr G 96, zr G k] I J (fun v I' J' => v = none ∧ (PSp (I k 0) (I (k + 1)) (I' 96 4) (I' 96 5) (I' 96 6) (I' 99) ∧ cOk I' ∧ dOk I' ∧ pkOk I' J' ∧ (∀ q, (q ≠ 87 ∧ q ≠ 88 ∧ q ≠ 89) → (q ≠ 91 ∧ q ≠ 92) → (q ≠ 93 ∧ q ≠ 95) → (q ≠ 96 ∧ q ≠ 97) → (q ≠ 98 ∧ q ≠ 99) → I' q = I q) ∧ ∀ q, q ≠ 90 → q ≠ 94 → J' q = J q)) := by
  obtain ⟨g97, hco⟩ := hco
  have hn := h1.1
  have hc0 : ∀ e, 0 ≤ I (k + 1) e := fun e => (h1.2.1 e).1
  have hr2 : 0 ≤ I 96 2 ∧ I 96 2 ≤ 1 := by rcases hco with h | h <;> omega
  have k1 : k ≠ 96 ∧ k ≠ 97 ∧ k ≠ 98 ∧ k ≠ 99 := by omega
  have k2 : k + 1 ≠ 96 ∧ k + 1 ≠ 97 ∧ k + 1 ≠ 98 ∧ k + 1 ≠ 99 := by omega
  -- behind the first lines
  have main : ∀ E : Ev, Ok E G yX3_lookThrough.cls cX3_lookThrough 3 5 → Oz E G none (fun v I' J' => v = none ∧ (PSp (I k 0) (I (k + 1)) (I' 96 4) (I' 96 5) (I' 96 6) (I' 99) ∧ cOk I' ∧ dOk I' ∧ pkOk I' J' ∧ (∀ q, (q ≠ 87 ∧ q ≠ 88 ∧ q ≠ 89) → (q ≠ 91 ∧ q ≠ 92) → (q ≠ 93 ∧ q ≠ 95) → (q ≠ 96 ∧ q ≠ 97) → (q ≠ 98 ∧ q ≠ 99) → I' q = I q) ∧ ∀ q, q ≠ 90 → q ≠ 94 → J' q = J q)) → Xz E G I J 19 [some (zr G 96), some (zr G k), none] [] := by
    intro E ok okr
    have dummy :  Xz E G I J 19 [some (zr G 96), some (zr G k), none] [] := by
      refine Z_aload0 (pc := 19) ok dX3_lookThrough_19 ?_
      refine Z_iconst (pc := 20) ok dX3_lookThrough_20 ?_
      refine p_X3_hasLooked (pc := 21) ok dX3_lookThrough_21 kw232 rfl (by first | exact Or.inl rfl | exact Or.inr rfl | exact zb_01 _ | assumption | omega) ?_
      refine Z_aload0 (pc := 24) ok dX3_lookThrough_24 ?_
      refine g_X3_known (pc := 25) (t := 97) ok dX3_lookThrough_25 kw231 rfl rfl ?_
      refine Z_aload1 (pc := 28) ok dX3_lookThrough_28 ?_
      refine Z_callVVd (pc := 29) ok dX3_lookThrough_29 cw_X3_34 rfl rfl (by decide) (c_Row_become rfl hk) rfl rfl (by decide) (Nat.le_of_ble_eq_true rfl) ?_
      refine Z_aload0 (pc := 32) ok dX3_lookThrough_32 ?_
      refine Z_iconst (pc := 33) ok dX3_lookThrough_33 ?_
      refine p_X3_all (pc := 34) ok dX3_lookThrough_34 kw235 rfl ?_
      refine Z_aload0 (pc := 37) ok dX3_lookThrough_37 ?_
      refine Z_iconst (pc := 38) ok dX3_lookThrough_38 ?_
      refine p_X3_least (pc := 39) ok dX3_lookThrough_39 kw237 rfl ?_
      refine Z_aload0 (pc := 42) ok dX3_lookThrough_42 ?_
      refine Z_iconst (pc := 43) ok dX3_lookThrough_43 ?_
      refine p_X3_ofLeast (pc := 44) ok dX3_lookThrough_44 kw239 rfl ?_
      refine Z_gen (fun T hT => ?_)
      have fT : ∀ q, q ≠ 96 → q ≠ 97 → q ≠ 98 → T q = I q := fun q a b c => by rw [hT]; simp [sz, a, b, c]
      have t2 : T 96 2 = 1 := by rw [hT]; simp [sz, uz]
      have t4 : T 96 4 = 0 := by rw [hT]; simp [sz, uz]
      have t6 : T 96 6 = 0 := by rw [hT]; simp [sz, uz]
      have t97 : T 97 0 = I k 0 := by rw [hT]; simp [sz, uz, k1]
      have t98 : T 98 = I (k + 1) := by rw [hT]; simp [sz, k2]
      clear hT
      have tk : T k = I k := fT k (by omega) (by omega) (by omega)
      have tk0 : T k 0 = I k 0 := by rw [tk]
      have tk1 : T (k + 1) = I (k + 1) := fT (k + 1) (by omega) (by omega) (by omega)
      have t87 : T 87 = I 87 := fT 87 (by omega) (by omega) (by omega)
      have t88 : T 88 = I 88 := fT 88 (by omega) (by omega) (by omega)
      refine Z_aload0 (pc := 47) ok dX3_lookThrough_47 ?_
      refine g_X3_walk (pc := 48) (t := 91) ok dX3_lookThrough_48 kw230 rfl rfl ?_
      refine Z_aload1 (pc := 51) ok dX3_lookThrough_51 ?_
      refine g_X5_n (pc := 52) ok dX3_lookThrough_52 kw97 hk ?_
      refine Z_aload1 (pc := 55) ok dX3_lookThrough_55 ?_
      refine g_X5_counts (pc := 56) (t := (k + 1)) ok dX3_lookThrough_56 kw100 hk (rw_rf hk) ?_
      rw [tk0]
      refine Z_callVV (pc := 59) ok dX3_lookThrough_59 cw_X3_54 rfl rfl (by decide) (c_begin (rw_kd hk) (rw_ln hk) (by omega) hn (by rw [tk1]; exact h1.2.1) (dOk_c hd t87 t88) (by simp only [pkOk, t87]; exact hp)) rfl rfl (by decide) (Nat.le_of_ble_eq_true rfl) (fun I1 J1 q => ?_)
      refine Z_iconst (pc := 62) ok dX3_lookThrough_62 ?_
      refine Z_istore2 (pc := 63) ok (by decide) dX3_lookThrough_63 rfl ?_
      obtain ⟨q1, q2, q3⟩ := q
      rw [tk1] at q1
      generalize I (k + 1) = c at *
      generalize I k 0 = n at *
      have hP := pr_R c n
      have hPp := prR_pos hc0 n.toNat 0
      have hn0 : 0 ≤ n := by omega
      have H : ∀ i : Int, 0 ≤ i → i ≤ prR c n.toNat 0 - 1 → ∀ I2 J2 : Mz, WI I2 J2 n c (dcv c n.toNat 0 i) → PIn n c i (I2 96 4) (I2 96 5) (I2 96 6) (I2 99) → I2 96 2 = 1 → I2 97 0 = n → I2 98 = c → (∀ q, (q ≠ 87 ∧ q ≠ 88 ∧ q ≠ 89) → (q ≠ 91 ∧ q ≠ 92) → (q ≠ 93 ∧ q ≠ 95) → (q ≠ 96 ∧ q ≠ 97) → (q ≠ 98 ∧ q ≠ 99) → I2 q = I q) → (∀ q, q ≠ 90 → q ≠ 94 → J2 q = J q) → Xz E G I2 J2 64 [some (zr G 96), some (zr G k), some (zi i)] [] := by
        refine zUp ?_ ?_
        · intro I2 J2 hW hPI y2 y97 y98 fr frJ
          refine Z_iload2 (pc := 64) ok dX3_lookThrough_64 ?_
          refine Z_sipush (pc := 65) ok dX3_lookThrough_65 (by decide) ?_
          refine Z_icmp_ge (pc := 68) (tgt := 101) ok dX3_lookThrough_68 rfl (by first | omega | (simp [sz, uz]; omega)) (by first | omega | (simp [sz, uz]; omega)) (fun h => by exfalso; omega) (fun _ => ?_)
          refine Z_aload0 (pc := 71) ok dX3_lookThrough_71 ?_
          refine g_X3_walk (pc := 72) (t := 91) ok dX3_lookThrough_72 kw230 rfl rfl ?_
          refine Z_callVI (pc := 75) ok dX3_lookThrough_75 cw_X3_60 rfl rfl (by decide) (c_goesOn hn (fun e => (h1.2.1 e).2) (dcv_b hc0 _ _ _) (dcv_v hn0 hc0 _).2 hW) rfl rfl (by decide) (Nat.le_of_ble_eq_true rfl) (fun r I3 J3 hq => ?_)
          obtain ⟨⟨fi, fj⟩, hq⟩ := hq
          have hmax : ∀ j, 0 ≤ j → j < n → dcv c n.toNat 0 (prR c n.toNat 0 - 1) j = c j := by
            rcases dcv_nx hc0 n.toNat 0 (prR c n.toNat 0 - 1) (by omega) (by omega) with ⟨e', a1, a2, a3, a4, a5⟩ | ⟨a1, a2⟩
            · omega
            · exact fun j j0 j1 => a1 j j0 (by omega)
          have hr : r = 0 := by
            rcases hq with ⟨b1, e, b2, b3, b4, b5⟩ | ⟨b1, b2⟩
            · have := hmax e b2.1 b2.2; omega
            · exact b1
          subst hr
          obtain ⟨w1, w2, w3, w4, w5, w6, w7⟩ := hW
          have e96 : I3 96 = I2 96 := fi 96 (by decide) (by decide)
          have e97 : I3 97 = I2 97 := fi 97 (by decide) (by decide)
          have e98 : I3 98 = I2 98 := fi 98 (by decide) (by decide)
          have e99 : I3 99 = I2 99 := fi 99 (by decide) (by decide)
          have e87 : I3 87 = I2 87 := fi 87 (by decide) (by decide)
          have e88 : I3 88 = I2 88 := fi 88 (by decide) (by decide)
          have e90 : J3 90 = J2 90 := fj 90 (by decide)
          have hS := PIn_end hn0 hc0 (by omega) hPI
          refine Z_if_eq (pc := 78) (tgt := 101) ok dX3_lookThrough_78 rfl (by first | omega | (simp [sz, uz]; omega)) (fun _ => ?_) (fun h => by exfalso; omega)
          refine Z_vret (pc := 101) ok okr dX3_lookThrough_101 ?_
          refine ⟨rfl, by rw [e96, e99]; exact hS, ⟨by rw [e97, e98, y97, y98]; exact h1, Or.inr ⟨by rw [e96]; exact y2, by rw [e96, e97, e98, e99, y97, y98]; exact hS⟩⟩, ?_, ?_, fun q a1 a2 a3 a4 a5 => ?_, fun q a1 a2 => ?_⟩
          · have d0 := w1.1
            refine Or.inr ?_
            rw [e87, d0]
            exact ⟨hn, dP_c w1 e87 e88⟩
          · refine Or.inr ?_
            rw [e87, e90, w2]
            exact ⟨hn, w3⟩
          · rw [fi q a2.1 a3.2]; exact fr q a1 a2 a3 a4 a5
          · rw [fj q a2]; exact frJ q a1 a2
        · intro i i0 i1 ih I2 J2 hW hPI y2 y97 y98 fr frJ
          refine Z_iload2 (pc := 64) ok dX3_lookThrough_64 ?_
          refine Z_sipush (pc := 65) ok dX3_lookThrough_65 (by decide) ?_
          refine Z_icmp_ge (pc := 68) (tgt := 101) ok dX3_lookThrough_68 rfl (by first | omega | (simp [sz, uz]; omega)) (by first | omega | (simp [sz, uz]; omega)) (fun h => by exfalso; omega) (fun _ => ?_)
          refine Z_aload0 (pc := 71) ok dX3_lookThrough_71 ?_
          refine g_X3_walk (pc := 72) (t := 91) ok dX3_lookThrough_72 kw230 rfl rfl ?_
          refine Z_callVI (pc := 75) ok dX3_lookThrough_75 cw_X3_60 rfl rfl (by decide) (c_goesOn hn (fun e => (h1.2.1 e).2) (dcv_b hc0 _ _ _) (dcv_v hn0 hc0 _).2 hW) rfl rfl (by decide) (Nat.le_of_ble_eq_true rfl) (fun r I3 J3 hq => ?_)
          obtain ⟨⟨fi, fj⟩, hq⟩ := hq
          obtain ⟨e', a1, a2, a3, a4, a5⟩ : ∃ e' : Int, (0 ≤ e' ∧ e' < 0 + n.toNat) ∧ (∀ j, 0 ≤ j → j < e' → dcv c n.toNat 0 i j = c j) ∧ dcv c n.toNat 0 i e' < c e' ∧ i + 1 < prR c n.toNat 0 ∧ dcv c n.toNat 0 (i + 1) = nx (dcv c n.toNat 0 i) e' := by
            rcases dcv_nx hc0 n.toNat 0 i i0 (by omega) with h | ⟨a1, a2⟩
            · exact h
            · omega
          rcases hq with ⟨rfl, e, b2, b3, b4, b5⟩ | ⟨rfl, b2⟩
          · have hee : e = e' := by
              rcases Int.lt_trichotomy e e' with q | q | q
              · have := a2 e b2.1 q; omega
              · exact q
              · have := b3 e' a1.1 q; omega
            subst hee
            rw [← a5] at b5
            have e96 : I3 96 = I2 96 := fi 96 (by decide) (by decide)
            have e97 : I3 97 = I2 97 := fi 97 (by decide) (by decide)
            have e98 : I3 98 = I2 98 := fi 98 (by decide) (by decide)
            have e99 : I3 99 = I2 99 := fi 99 (by decide) (by decide)
            have hb := dcv_b hc0 n.toNat 0 (i + 1)
            have hb9 : ∀ e, 0 ≤ dcv c n.toNat 0 (i + 1) e ∧ dcv c n.toNat 0 (i + 1) e ≤ 9 := fun e => by have := hb e; have := (h1.2.1 e).2; omega
            have hpos : 0 < su (dcv c n.toNat 0 (i + 1)) n := by
              have h3 := su_le (f := fun j => if j = e then 1 else 0) (g := dcv c n.toNat 0 (i + 1)) (e := n) (fun j j0 j1 => by
                show (if j = e then 1 else 0) ≤ dcv c n.toNat 0 (i + 1) j
                split
                · next q =>
                  rw [q, a5]; simp only [nx, if_true]
                  rw [if_neg (by omega)]
                  have := (dcv_b hc0 n.toNat 0 i e).1; omega
                · exact (hb j).1)
              rw [su_one b2.1 b2.2 (fun j _ _ hj => if_neg hj), if_pos rfl] at h3
              omega
            rw [← e96, ← e99] at hPI
            obtain ⟨w1, w2, w3, w4, w5, w6, w7⟩ := id b5
            have hu := su_le (f := dcv c n.toNat 0 (i + 1)) (g := fun _ => 9) (e := n) (fun j _ _ => (hb9 j).2)
            rw [su_k _ hn0] at hu
            have frq : ∀ q, (q ≠ 87 ∧ q ≠ 88 ∧ q ≠ 89) → (q ≠ 91 ∧ q ≠ 92) → (q ≠ 93 ∧ q ≠ 95) → (q ≠ 96 ∧ q ≠ 97) → (q ≠ 98 ∧ q ≠ 99) → I3 q = I q := fun q a1 a2 a3 a4 a5 => by rw [fi q a2.1 a3.2]; exact fr q a1 a2 a3 a4 a5
            have frJq : ∀ q, q ≠ 90 → q ≠ 94 → J3 q = J q := fun q a1 a2 => by rw [fj q a2]; exact frJ q a1 a2
            refine Z_if_eq (pc := 78) (tgt := 101) ok dX3_lookThrough_78 rfl (by first | omega | (simp [sz, uz]; omega)) (fun h => by exfalso; omega) (fun _ => ?_)
            refine Z_aload0 (pc := 81) ok dX3_lookThrough_81 ?_
            refine g_X3_walk (pc := 82) (t := 91) ok dX3_lookThrough_82 kw230 rfl rfl ?_
            refine Z_callVId (pc := 85) ok dX3_lookThrough_85 cw_X3_64 rfl rfl (by decide) (c_isAtNought hn hb9 w7) rfl rfl (by decide) (Nat.le_of_ble_eq_true rfl) ?_
            refine Z_if_eqB (pc := 88) (tgt := 95) ok dX3_lookThrough_88 rfl (fun hnou => ?_) (fun hnou => ?_)
            · refine Z_iinc2 (pc := 95) ok (by decide) dX3_lookThrough_95 rfl ?_
              refine Z_goto (pc := 98) (tgt := 64) ok dX3_lookThrough_98 rfl ?_
              refine ih I3 J3 b5 (PIn_no i0 hPI (fun q => hnou q.2)) (by rw [e96]; exact y2) (by rw [e97]; exact y97) (by rw [e98]; exact y98) frq frJq
            · have hg : good n (dcv c n.toNat 0 (i + 1)) := ⟨hpos, hnou⟩
              have hz := su_zb (fun k => good n (dcv c n.toNat 0 k)) (e := i + 1) (by omega)
              have hal := hPI.1
              have hv : 0 < I3 96 4 → (∀ e, 0 ≤ I3 99 e ∧ I3 99 e ≤ 9) ∧ 0 ≤ I3 96 5 ∧ I3 96 5 ≤ 1000 := by
                intro h0
                obtain ⟨x1, x2, x3, x4, x5⟩ := hPI.2.2 h0
                have hx : ∀ e, 0 ≤ I3 99 e ∧ I3 99 e ≤ 9 := fun e => by have := x3.1 e; have := (h1.2.1 e).2; omega
                have hu2 := su_le (f := I3 99) (g := fun _ => 9) (e := n) (fun j _ _ => (hx j).2)
                rw [su_k _ hn0] at hu2
                have hu3 := su_nn (f := I3 99) (e := n) (fun j _ _ => (hx j).1)
                exact ⟨hx, by omega, by omega⟩
              refine Z_aload0 (pc := 91) ok dX3_lookThrough_91 ?_
              refine Z_callVV (pc := 92) ok dX3_lookThrough_92 cw_X3_67 rfl rfl (by decide) (c_note hn (by rw [e97]; exact y97) (by rw [w5]; exact hb9) (fun h0 => (hv h0).1) (by omega) (fun h0 => (hv h0).2) (by rw [w6]; omega)) rfl rfl (by decide) (Nat.le_of_ble_eq_true rfl) (fun I4 J4 hq => ?_)
              refine Z_iinc2 (pc := 95) ok (by decide) dX3_lookThrough_95 rfl ?_
              refine Z_goto (pc := 98) (tgt := 64) ok dX3_lookThrough_98 rfl ?_
              obtain ⟨z1, rfl, z2, z3, z4⟩ := hq
              have hI4 : PIn n c (i + 1) (I4 96 4) (I4 96 5) (I4 96 6) (I4 99) := by
                rw [z3]
                rw [w5, w6] at z4
                rcases z4 with ⟨y1, y3, y4, y5⟩ | ⟨y1, y3, y4, y5, y6⟩ | ⟨y1, y3, y4, y5, y6⟩
                · rw [y3, y4, y5]; exact PIn_least hn0 hc0 i0 hPI hg y1
                · rw [y4, y5]; exact PIn_same hn0 hc0 i0 hPI y1 hg y3 y6
                · rw [y4, y5, y6]; exact PIn_more i0 hPI y1 hg y3
              refine ih I4 J4 ?_ hI4 (by rw [z2, e96]; exact y2) (by rw [z1 97 (by decide) (by decide), e97]; exact y97) (by rw [z1 98 (by decide) (by decide), e98]; exact y98) (fun q a1 a2 a3 a4 a5 => by rw [z1 q a4.1 a5.2]; exact frq q a1 a2 a3 a4 a5) frJq
              refine ⟨dP_c w1 (z1 87 (by decide) (by decide)) (z1 88 (by decide) (by decide)), by rw [z1 87 (by decide) (by decide)]; exact w2, w3, ?_, by rw [z1 95 (by decide) (by decide)]; exact w5, by rw [z1 91 (by decide) (by decide)]; exact w6, w7⟩
              simp only [rtOk, z1 91 (by decide) (by decide), z1 92 (by decide) (by decide), z1 93 (by decide) (by decide)]
              exact w4
          · have := b2 e' a1.1 (by omega); omega
      have e96 : I1 96 = T 96 := q2 96 (by decide) (by decide) (by decide)
      have e97 : I1 97 = T 97 := q2 97 (by decide) (by decide) (by decide)
      have e98 : I1 98 = T 98 := q2 98 (by decide) (by decide) (by decide)
      have hz0 : dcv c n.toNat 0 0 = fun _ => 0 := dcv_0 c _ _
      have hng : ¬ good n (fun _ => 0) := fun q => by have := q.1; rw [su_00] at this; omega
      refine H 0 (by omega) (by omega) I1 J1 (by rw [hz0]; exact q1) ⟨?_, ?_, ?_⟩ (by rw [e96]; exact t2) (by rw [e97]; exact t97) (by rw [e98]; exact t98) (fun q a1 a2 a3 a4 a5 => ?_) q3
      · rw [e96, t4, su_s _ (Int.le_refl 0), su_0, hz0, zb_f hng]; rfl
      · intro _; rw [e96]; exact t6
      · intro q; rw [e96, t4] at q; omega
      · rw [q2 q a1 a2 a3]; exact fT q a4.1 a4.2 a5.1
    exact dummy
  refine Cz.of rfl (Nat.le_of_ble_eq_true rfl) [some (zr G 96), some (zr G k), none] rfl (fun E ok okr hE => ?_)
  refine Z_aload0 (pc := 0) ok dX3_lookThrough_0 ?_
  refine g_X3_hasLooked (pc := 1) ok dX3_lookThrough_1 kw232 rfl ?_
  refine Z_if_eq (pc := 4) (tgt := 19) ok dX3_lookThrough_4 rfl (by first | omega | (simp [sz, uz]; omega)) (fun h => ?_) (fun h => ?_)
  · exact main E ok okr
  · have h96 : I 96 2 = 1 := by omega
    have hS : PSp (I 97 0) (I 98) (I 96 4) (I 96 5) (I 96 6) (I 99) := by
      rcases hco with q | q
      · omega
      · exact q.2
    refine Z_aload0 (pc := 7) ok dX3_lookThrough_7 ?_
    refine g_X3_known (pc := 8) (t := 97) ok dX3_lookThrough_8 kw231 rfl rfl ?_
    refine Z_aload1 (pc := 11) ok dX3_lookThrough_11 ?_
    refine Z_callVId (pc := 12) ok dX3_lookThrough_12 cw_X3_30 rfl rfl (by decide) (c_Row_isSame rfl hk g97 h1) rfl rfl (by decide) (Nat.le_of_ble_eq_true rfl) ?_
    refine Z_if_eqB (pc := 15) (tgt := 19) ok dX3_lookThrough_15 rfl (fun h2 => ?_) (fun h2 => ?_)
    · exact main E ok okr
    · refine Z_vret (pc := 18) ok okr dX3_lookThrough_18 ?_
      refine ⟨rfl, by rw [← h2.1, ← h2.2]; exact hS, ⟨g97, Or.inr ⟨h96, hS⟩⟩, hd, hp, fun _ _ _ _ _ _ => rfl, fun _ _ _ => rfl⟩
end
