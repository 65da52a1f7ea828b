/-! the reference: rows, division -/
/-- its tables -/
def mT (I : Mz) : Prop := (∀ m i, 2 ≤ m → m ≤ 30 → 0 ≤ i → i ≤ DG m → I 126 (31 * m + i) = PH m i) ∧ ∀ m, 2 ≤ m → m ≤ 30 → I 127 m = DG m
section
variable {l : Launch} {G : Gw} {I J : Mz}
theorem m_in {v a b : Int} (hv : -9223372036854775808 ≤ v ∧ v ≤ 9223372036854775807) (ha : -9223372036854775808 ≤ a ∧ a ≤ 9223372036854775807) (hb : -9223372036854775808 ≤ b ∧ b ≤ 9223372036854775807) : K_X12_in l G [zl v, zl a, zl b] I J (pR (some (zi (zb (a ≤ v ∧ v ≤ b)))) I J) := by
  refine Cz.of rfl (Nat.le_of_ble_eq_true rfl) [some (zl v), none, some (zl a), none, some (zl b), none] rfl (fun E ok okr hE => ?_)
  refine Z_lload0 (pc := 0) ok dX12_in_0 ?_
  refine Z_lload2 (pc := 1) ok dX12_in_1 ?_
  refine Z_lcmp (pc := 2) ok dX12_in_2 (by first | omega | (simp [sz, uz] <;> omega)) (by first | omega | (simp [sz, uz] <;> omega)) ?_
  refine Z_if_ltC (pc := 3) (tgt := 17) ok dX12_in_3 rfl (fun h3 => ?_) (fun h3 => ?_)
  · refine Z_iconst (pc := 17) ok dX12_in_17 ?_
    refine Z_bret (pc := 18) ok okr dX12_in_18 (by first | exact Or.inl rfl | exact Or.inr rfl | exact zb_01 _ | assumption | omega) ?_
    first | (exfalso; omega) | exact ⟨rfl, rfl, rfl⟩ | exact ⟨by rw [zb_t (by omega)], rfl, rfl⟩ | exact ⟨by rw [zb_f (by omega)], rfl, rfl⟩
  · refine Z_lload0 (pc := 6) ok dX12_in_6 ?_
    refine Z_lload4 (pc := 7) ok dX12_in_7 ?_
    refine Z_lcmp (pc := 9) ok dX12_in_9 (by first | omega | (simp [sz, uz] <;> omega)) (by first | omega | (simp [sz, uz] <;> omega)) ?_
    refine Z_if_gtC (pc := 10) (tgt := 17) ok dX12_in_10 rfl (fun h10 => ?_) (fun h10 => ?_)
    · refine Z_iconst (pc := 17) ok dX12_in_17 ?_
      refine Z_bret (pc := 18) ok okr dX12_in_18 (by first | exact Or.inl rfl | exact Or.inr rfl | exact zb_01 _ | assumption | omega) ?_
      first | (exfalso; omega) | exact ⟨rfl, rfl, rfl⟩ | exact ⟨by rw [zb_t (by omega)], rfl, rfl⟩ | exact ⟨by rw [zb_f (by omega)], rfl, rfl⟩
    · refine Z_iconst (pc := 13) ok dX12_in_13 ?_
      refine Z_goto (pc := 14) (tgt := 18) ok dX12_in_14 rfl ?_
      refine Z_bret (pc := 18) ok okr dX12_in_18 (by first | exact Or.inl rfl | exact Or.inr rfl | exact zb_01 _ | assumption | omega) ?_
      first | (exfalso; omega) | exact ⟨rfl, rfl, rfl⟩ | exact ⟨by rw [zb_t (by omega)], rfl, rfl⟩ | exact ⟨by rw [zb_f (by omega)], rfl, rfl⟩
theorem m_isRoot {e : Int} (he : -2147483648 ≤ e ∧ e ≤ 2147483647) (hn : 2 ≤ I 121 0 ∧ I 121 0 ≤ 30) : K_X12_isRoot l G [zr G 121, zi e] I J (pR (some (zi (zb (0 ≤ e ∧ e ≤ I 121 0 - 1)))) I J) := by
  refine Cz.of rfl (Nat.le_of_ble_eq_true rfl) [some (zr G 121), some (zi e)] rfl (fun E ok okr hE => ?_)
  refine Z_iload1 (pc := 0) ok dX12_isRoot_0 ?_
  refine Z_i2l (pc := 1) ok dX12_isRoot_1 (by first | omega | (simp [sz, uz] <;> omega)) ?_
  refine Z_lconst (pc := 2) (z := 0) ok dX12_isRoot_2 (by decide) ?_
  refine Z_aload0 (pc := 3) ok dX12_isRoot_3 ?_
  refine g_X12_n (pc := 4) ok dX12_isRoot_4 kw905 rfl ?_
  refine Z_iconst (pc := 7) ok dX12_isRoot_7 ?_
  refine Z_isub (pc := 8) ok dX12_isRoot_8 ?_
  refine Z_i2l (pc := 9) ok dX12_isRoot_9 (by first | omega | (simp [sz, uz] <;> omega)) ?_
  refine Z_callSId (pc := 10) ok dX12_isRoot_10 cw_X12_97 (m_in (by omega) (by omega) (by omega)) rfl rfl (by first | decide | omega) (Nat.le_of_ble_eq_true rfl) ?_
  refine Z_bret (pc := 13) ok okr dX12_isRoot_13 (by first | exact Or.inl rfl | exact Or.inr rfl | exact zb_01 _ | assumption | omega) ?_
  exact ⟨rfl, rfl, rfl⟩
theorem m_weightOf {a L : Nat} (ha : kd a = 13) (hL : ln a = L) {f m : Int} (hf : 0 ≤ f) (hm : 0 ≤ m) (hfm : f + m ≤ L) : K_X12_weightOf l G [zr G a, zi f, zi m] I J (pR (some (zi (su (fun e => I a (f + e)) m))) I J) := by
  have hs := ln_small a
  refine Cz.of rfl (Nat.le_of_ble_eq_true rfl) [some (zr G a), some (zi f), some (zi m), none, none] rfl (fun E ok okr hE => ?_)
  refine Z_iconst (pc := 0) ok dX12_weightOf_0 ?_
  refine Z_istore3 (pc := 1) ok (by decide) dX12_weightOf_1 rfl ?_
  refine Z_iconst (pc := 2) ok dX12_weightOf_2 ?_
  refine Z_istore4 (pc := 3) ok (by decide) dX12_weightOf_3 rfl ?_
  have H : ∀ e : Int, 0 ≤ e → e ≤ m → Xz E G I J 5 [some (zr G a), some (zi f), some (zi m), some (zi (su (fun e => I a (f + e)) e)), some (zi e)] [] := by
    refine zUp ?_ ?_
    · refine Z_iload4 (pc := 5) ok dX12_weightOf_5 ?_
      refine Z_iload2 (pc := 7) ok dX12_weightOf_7 ?_
      refine Z_icmp_ge (pc := 8) (tgt := 26) ok dX12_weightOf_8 rfl (by first | omega | (simp [sz, uz] <;> omega)) (by first | omega | (simp [sz, uz] <;> omega)) (fun _ => ?_) (fun h => by exfalso; omega)
      refine Z_iload3 (pc := 26) ok dX12_weightOf_26 ?_
      refine Z_iret (pc := 27) ok okr dX12_weightOf_27 ?_
      exact ⟨rfl, rfl, rfl⟩
    · intro e e0 e1 ih
      rw [su_s _ e0] at ih
      refine Z_iload4 (pc := 5) ok dX12_weightOf_5 ?_
      refine Z_iload2 (pc := 7) ok dX12_weightOf_7 ?_
      refine Z_icmp_ge (pc := 8) (tgt := 26) ok dX12_weightOf_8 rfl (by first | omega | (simp [sz, uz] <;> omega)) (by first | omega | (simp [sz, uz] <;> omega)) (fun h => by exfalso; omega) (fun _ => ?_)
      refine Z_iload3 (pc := 11) ok dX12_weightOf_11 ?_
      refine Z_aload0 (pc := 12) ok dX12_weightOf_12 ?_
      refine Z_iload1 (pc := 13) ok dX12_weightOf_13 ?_
      refine Z_iload4 (pc := 14) ok dX12_weightOf_14 ?_
      refine Z_iadd (pc := 16) ok dX12_weightOf_16 ?_
      refine Z_iald (pc := 17) ok dX12_weightOf_17 ha hL (by first | omega | (simp [sz, uz] <;> omega)) ?_
      refine Z_iadd (pc := 18) ok dX12_weightOf_18 ?_
      refine Z_istore3 (pc := 19) ok (by decide) dX12_weightOf_19 rfl ?_
      refine Z_iinc4 (pc := 20) ok (by decide) dX12_weightOf_20 rfl ?_
      refine Z_goto (pc := 23) (tgt := 5) ok dX12_weightOf_23 rfl ?_
      exact ih
  exact H 0 (by omega) (by omega)
theorem m_weight (hn : 2 ≤ I 121 0 ∧ I 121 0 ≤ 30) : K_X12_weight l G [zr G 121] I J (pR (some (zi (su (I 122) (I 121 0)))) I J) := by
  refine Cz.of rfl (Nat.le_of_ble_eq_true rfl) [some (zr G 121)] rfl (fun E ok okr hE => ?_)
  refine Z_aload0 (pc := 0) ok dX12_weight_0 ?_
  refine g_X12_row (pc := 1) (t := 122) ok dX12_weight_1 kw906 rfl rfl ?_
  refine Z_iconst (pc := 4) ok dX12_weight_4 ?_
  refine Z_aload0 (pc := 5) ok dX12_weight_5 ?_
  refine g_X12_n (pc := 6) ok dX12_weight_6 kw905 rfl ?_
  refine Z_callSId (pc := 9) ok dX12_weight_9 cw_X12_111 (m_weightOf (L := 30) rfl rfl (by omega) (by omega) (by omega)) rfl rfl (by first | decide | omega) (Nat.le_of_ble_eq_true rfl) ?_
  refine Z_iret (pc := 12) ok okr dX12_weight_12 ?_
  refine ⟨?_, rfl, rfl⟩
  congr 2
  exact su_c (fun j _ _ => by rw [Int.zero_add])
theorem m_base {a : Int} (ha : -2147483648 ≤ a ∧ a ≤ 2147483647) : K_X12_base l G [zr G 121, zi a] I J (fun v I' J' => ∃ r, v = some (zi r) ∧ (((2 ≤ a ∧ a ≤ 30) ∧ r = I 121 0 ∧ I' = sz (sz I 121 (uz (I 121) 0 a)) 122 (fun _ => 0) ∧ J' = J) ∨ (¬ (2 ≤ a ∧ a ≤ 30) ∧ r = -2 ∧ I' = I ∧ J' = J))) := by
  refine Cz.of rfl (Nat.le_of_ble_eq_true rfl) [some (zr G 121), some (zi a), none, none] rfl (fun E ok okr hE => ?_)
  refine Z_iload1 (pc := 0) ok dX12_base_0 ?_
  refine Z_i2l (pc := 1) ok dX12_base_1 (by first | omega | (simp [sz, uz] <;> omega)) ?_
  refine Z_ldc2 (pc := 2) (z := 2) ok dX12_base_2 kw1022 (by decide) ?_
  refine Z_ldc2 (pc := 5) (z := 30) ok dX12_base_5 kw1023 (by decide) ?_
  refine Z_callSId (pc := 8) ok dX12_base_8 cw_X12_97 (m_in (by omega) (by omega) (by omega)) rfl rfl (by first | decide | omega) (Nat.le_of_ble_eq_true rfl) ?_
  refine Z_if_neB (pc := 11) (tgt := 17) ok dX12_base_11 rfl (fun h => ?_) (fun h => ?_)
  · refine Z_aload0 (pc := 17) ok dX12_base_17 ?_
    refine g_X12_n (pc := 18) ok dX12_base_18 kw905 rfl ?_
    refine Z_istore2 (pc := 21) ok (by decide) dX12_base_21 rfl ?_
    refine Z_aload0 (pc := 22) ok dX12_base_22 ?_
    refine Z_iload1 (pc := 23) ok dX12_base_23 ?_
    refine p_X12_n (pc := 24) ok dX12_base_24 kw905 rfl ?_
    refine Z_iconst (pc := 27) ok dX12_base_27 ?_
    refine Z_istore3 (pc := 28) ok (by decide) dX12_base_28 rfl ?_
    have H : ∀ e : Int, 0 ≤ e → e ≤ 30 → ∀ f : Int → Int, (∀ j, 0 ≤ j → j < e → f j = 0) → Xz E G (sz (sz I 121 (uz (I 121) 0 a)) 122 f) J 29 [some (zr G 121), some (zi a), some (zi (I 121 0)), some (zi e)] [] := by
      refine zUp ?_ ?_
      · intro f hf
        refine Z_ext1 (g := fun _ => 0) (by decide) (fun j h0 h1 => hf j h0 (by have : j < 30 := h1; omega)) ?_
        refine Z_iload3 (pc := 29) ok dX12_base_29 ?_
        refine Z_bipush (pc := 30) ok dX12_base_30 (by decide) ?_
        refine Z_icmp_ge (pc := 32) (tgt := 48) ok dX12_base_32 rfl (by first | omega | (simp [sz, uz] <;> omega)) (by first | omega | (simp [sz, uz] <;> omega)) (fun _ => ?_) (fun h => by exfalso; omega)
        refine Z_iload2 (pc := 48) ok dX12_base_48 ?_
        refine Z_iret (pc := 49) ok okr dX12_base_49 ?_
        exact ⟨_, rfl, Or.inl ⟨h, rfl, rfl, rfl⟩⟩
      · intro e e0 e1 ih f hf
        refine Z_iload3 (pc := 29) ok dX12_base_29 ?_
        refine Z_bipush (pc := 30) ok dX12_base_30 (by decide) ?_
        refine Z_icmp_ge (pc := 32) (tgt := 48) ok dX12_base_32 rfl (by first | omega | (simp [sz, uz] <;> omega)) (by first | omega | (simp [sz, uz] <;> omega)) (fun h => by exfalso; omega) (fun _ => ?_)
        refine Z_aload0 (pc := 35) ok dX12_base_35 ?_
        refine g_X12_row (pc := 36) (t := 122) ok dX12_base_36 kw906 rfl rfl ?_
        refine Z_iload3 (pc := 39) ok dX12_base_39 ?_
        refine Z_iconst (pc := 40) ok dX12_base_40 ?_
        refine Z_iast (pc := 41) (L := 30) ok dX12_base_41 rfl rfl (by first | omega | (simp [sz, uz] <;> omega)) ?_
        refine Z_iinc3 (pc := 42) ok (by decide) dX12_base_42 rfl ?_
        refine Z_goto (pc := 45) (tgt := 29) ok dX12_base_45 rfl ?_
        rw [sz_sz, sz_eq]
        exact ih _ (upto_s (p := fun _ x => x = 0) hf rfl)
    have h0 := H 0 (by omega) (by omega) (I 122) (fun j j0 j1 => by omega)
    have e1 : sz (sz I 121 (uz (I 121) 0 a)) 122 (I 122) = sz I 121 (uz (I 121) 0 a) := by
      have := sz_self (sz I 121 (uz (I 121) 0 a)) 122
      rwa [sz_ne _ _ (show (122 : Nat) ≠ 121 by decide)] at this
    rw [e1] at h0
    exact h0
  · refine Z_bipush (pc := 14) ok dX12_base_14 (by decide) ?_
    refine Z_iret (pc := 16) ok okr dX12_base_16 ?_
    exact ⟨_, rfl, Or.inr ⟨h, rfl, rfl, rfl⟩⟩
theorem m_set {e c : Int} (he : -2147483648 ≤ e ∧ e ≤ 2147483647) (hc : -2147483648 ≤ c ∧ c ≤ 2147483647) (h1 : gR (I 121 0) (I 122)) : K_X12_set l G [zr G 121, zi e, zi c] I J (fun v I' J' => ∃ r, v = some (zi r) ∧ ((¬ (0 ≤ e ∧ e < I 121 0) ∧ r = -1 ∧ I' = I ∧ J' = J) ∨ ((0 ≤ e ∧ e < I 121 0) ∧ ¬ (0 ≤ c ∧ c ≤ 9) ∧ r = -2 ∧ I' = I ∧ J' = J) ∨ ((0 ≤ e ∧ e < I 121 0) ∧ (0 ≤ c ∧ c ≤ 9) ∧ r = I 122 e ∧ I' = sz I 122 (uz (I 122) e c) ∧ J' = J))) := by
  have hn := h1.1
  refine Cz.of rfl (Nat.le_of_ble_eq_true rfl) [some (zr G 121), some (zi e), some (zi c), none] rfl (fun E ok okr hE => ?_)
  refine Z_aload0 (pc := 0) ok dX12_set_0 ?_
  refine Z_iload1 (pc := 1) ok dX12_set_1 ?_
  refine Z_callVId (pc := 2) ok dX12_set_2 cw_X12_105 rfl rfl (by decide) (m_isRoot he hn) rfl rfl (by first | decide | omega) (Nat.le_of_ble_eq_true rfl) ?_
  refine Z_if_neB (pc := 5) (tgt := 10) ok dX12_set_5 rfl (fun h => ?_) (fun h => ?_)
  · refine Z_iload2 (pc := 10) ok dX12_set_10 ?_
    refine Z_i2l (pc := 11) ok dX12_set_11 (by first | omega | (simp [sz, uz] <;> omega)) ?_
    refine Z_lconst (pc := 12) (z := 0) ok dX12_set_12 (by decide) ?_
    refine Z_ldc2 (pc := 13) (z := 9) ok dX12_set_13 kw1035 (by decide) ?_
    refine Z_callSId (pc := 16) ok dX12_set_16 cw_X12_97 (m_in (by omega) (by omega) (by omega)) rfl rfl (by first | decide | omega) (Nat.le_of_ble_eq_true rfl) ?_
    refine Z_if_neB (pc := 19) (tgt := 25) ok dX12_set_19 rfl (fun h2 => ?_) (fun h2 => ?_)
    · refine Z_aload0 (pc := 25) ok dX12_set_25 ?_
      refine g_X12_row (pc := 26) (t := 122) ok dX12_set_26 kw906 rfl rfl ?_
      refine Z_iload1 (pc := 29) ok dX12_set_29 ?_
      refine Z_iald (pc := 30) (L := 30) ok dX12_set_30 rfl rfl (by first | omega | (simp [sz, uz] <;> omega)) ?_
      refine Z_istore3 (pc := 31) ok (by decide) dX12_set_31 rfl ?_
      refine Z_aload0 (pc := 32) ok dX12_set_32 ?_
      refine g_X12_row (pc := 33) (t := 122) ok dX12_set_33 kw906 rfl rfl ?_
      refine Z_iload1 (pc := 36) ok dX12_set_36 ?_
      refine Z_iload2 (pc := 37) ok dX12_set_37 ?_
      refine Z_iast (pc := 38) (L := 30) ok dX12_set_38 rfl rfl (by first | omega | (simp [sz, uz] <;> omega)) ?_
      refine Z_iload3 (pc := 39) ok dX12_set_39 ?_
      refine Z_iret (pc := 40) ok okr dX12_set_40 ?_
      exact ⟨_, rfl, Or.inr (Or.inr ⟨by omega, h2, rfl, rfl, rfl⟩)⟩
    · refine Z_bipush (pc := 22) ok dX12_set_22 (by decide) ?_
      refine Z_iret (pc := 24) ok okr dX12_set_24 ?_
      exact ⟨_, rfl, Or.inr (Or.inl ⟨by omega, h2, rfl, rfl, rfl⟩)⟩
  · refine Z_iconst (pc := 8) ok dX12_set_8 ?_
    refine Z_iret (pc := 9) ok okr dX12_set_9 ?_
    exact ⟨_, rfl, Or.inl ⟨by omega, rfl, rfl, rfl⟩⟩
theorem m_add {e : Int} (he : -2147483648 ≤ e ∧ e ≤ 2147483647) (h1 : gR (I 121 0) (I 122)) : K_X12_add l G [zr G 121, zi e] I J (fun v I' J' => ∃ r, v = some (zi r) ∧ ((¬ (0 ≤ e ∧ e < I 121 0) ∧ r = -1 ∧ I' = I ∧ J' = J) ∨ ((0 ≤ e ∧ e < I 121 0) ∧ I 122 e = 9 ∧ r = -4 ∧ I' = I ∧ J' = J) ∨ ((0 ≤ e ∧ e < I 121 0) ∧ I 122 e < 9 ∧ r = I 122 e + 1 ∧ I' = sz I 122 (uz (I 122) e (I 122 e + 1)) ∧ J' = J))) := by
  have hn := h1.1
  have hc := h1.2.1 e
  refine Cz.of rfl (Nat.le_of_ble_eq_true rfl) [some (zr G 121), some (zi e)] rfl (fun E ok okr hE => ?_)
  refine Z_aload0 (pc := 0) ok dX12_add_0 ?_
  refine Z_iload1 (pc := 1) ok dX12_add_1 ?_
  refine Z_callVId (pc := 2) ok dX12_add_2 cw_X12_105 rfl rfl (by decide) (m_isRoot he hn) rfl rfl (by first | decide | omega) (Nat.le_of_ble_eq_true rfl) ?_
  refine Z_if_neB (pc := 5) (tgt := 10) ok dX12_add_5 rfl (fun h => ?_) (fun h => ?_)
  · refine Z_aload0 (pc := 10) ok dX12_add_10 ?_
    refine g_X12_row (pc := 11) (t := 122) ok dX12_add_11 kw906 rfl rfl ?_
    refine Z_iload1 (pc := 14) ok dX12_add_14 ?_
    refine Z_iald (pc := 15) (L := 30) ok dX12_add_15 rfl rfl (by first | omega | (simp [sz, uz] <;> omega)) ?_
    refine Z_bipush (pc := 16) ok dX12_add_16 (by decide) ?_
    refine Z_icmp_ne (pc := 18) (tgt := 24) ok dX12_add_18 rfl (by first | omega | (simp [sz, uz] <;> omega)) (by first | omega | (simp [sz, uz] <;> omega)) (fun h2 => ?_) (fun h2 => ?_)
    · refine Z_aload0 (pc := 24) ok dX12_add_24 ?_
      refine g_X12_row (pc := 25) (t := 122) ok dX12_add_25 kw906 rfl rfl ?_
      refine Z_iload1 (pc := 28) ok dX12_add_28 ?_
      refine Z_dup2 (pc := 29) ok dX12_add_29 rfl rfl ?_
      refine Z_iald (pc := 30) (L := 30) ok dX12_add_30 rfl rfl (by first | omega | (simp [sz, uz] <;> omega)) ?_
      refine Z_iconst (pc := 31) ok dX12_add_31 ?_
      refine Z_iadd (pc := 32) ok dX12_add_32 ?_
      refine Z_iast (pc := 33) (L := 30) ok dX12_add_33 rfl rfl (by first | omega | (simp [sz, uz] <;> omega)) ?_
      refine Z_aload0 (pc := 34) ok dX12_add_34 ?_
      refine g_X12_row (pc := 35) (t := 122) ok dX12_add_35 kw906 rfl rfl ?_
      refine Z_iload1 (pc := 38) ok dX12_add_38 ?_
      refine Z_iald (pc := 39) (L := 30) ok dX12_add_39 rfl rfl (by first | omega | (simp [sz, uz] <;> omega)) ?_
      refine Z_iret (pc := 40) ok okr dX12_add_40 ?_
      exact ⟨_, rfl, Or.inr (Or.inr ⟨by omega, by omega, by rw [sz_eq, uz_eq], rfl, rfl⟩)⟩
    · refine Z_bipush (pc := 21) ok dX12_add_21 (by decide) ?_
      refine Z_iret (pc := 23) ok okr dX12_add_23 ?_
      exact ⟨_, rfl, Or.inr (Or.inl ⟨by omega, h2, rfl, rfl, rfl⟩)⟩
  · refine Z_iconst (pc := 8) ok dX12_add_8 ?_
    refine Z_iret (pc := 9) ok okr dX12_add_9 ?_
    exact ⟨_, rfl, Or.inl ⟨by omega, rfl, rfl, rfl⟩⟩
theorem m_of {e : Int} (he : -2147483648 ≤ e ∧ e ≤ 2147483647) (h1 : gR (I 121 0) (I 122)) : K_X12_of l G [zr G 121, zi e] I J (fun v I' J' => ∃ r, v = some (zi r) ∧ ((¬ (0 ≤ e ∧ e < I 121 0) ∧ r = -1 ∧ I' = I ∧ J' = J) ∨ ((0 ≤ e ∧ e < I 121 0) ∧ r = I 122 e ∧ I' = I ∧ J' = J))) := by
  have hn := h1.1
  refine Cz.of rfl (Nat.le_of_ble_eq_true rfl) [some (zr G 121), some (zi e)] rfl (fun E ok okr hE => ?_)
  refine Z_aload0 (pc := 0) ok dX12_of_0 ?_
  refine Z_iload1 (pc := 1) ok dX12_of_1 ?_
  refine Z_callVId (pc := 2) ok dX12_of_2 cw_X12_105 rfl rfl (by decide) (m_isRoot he hn) rfl rfl (by first | decide | omega) (Nat.le_of_ble_eq_true rfl) ?_
  refine Z_if_eqB (pc := 5) (tgt := 17) ok dX12_of_5 rfl (fun h => ?_) (fun h => ?_)
  · refine Z_iconst (pc := 17) ok dX12_of_17 ?_
    refine Z_iret (pc := 18) ok okr dX12_of_18 ?_
    exact ⟨_, rfl, Or.inl ⟨by omega, rfl, rfl, rfl⟩⟩
  · refine Z_aload0 (pc := 8) ok dX12_of_8 ?_
    refine g_X12_row (pc := 9) (t := 122) ok dX12_of_9 kw906 rfl rfl ?_
    refine Z_iload1 (pc := 12) ok dX12_of_12 ?_
    refine Z_iald (pc := 13) (L := 30) ok dX12_of_13 rfl rfl (by first | omega | (simp [sz, uz] <;> omega)) ?_
    refine Z_goto (pc := 14) (tgt := 18) ok dX12_of_14 rfl ?_
    refine Z_iret (pc := 18) ok okr dX12_of_18 ?_
    exact ⟨_, rfl, Or.inr ⟨by omega, rfl, rfl, rfl⟩⟩
theorem m_clear (h1 : gR (I 121 0) (I 122)) : K_X12_clear l G [zr G 121] I J (pR (some (zi (su (I 122) (I 121 0)))) (sz I 122 (fun _ => 0)) J) := by
  have hn := h1.1
  refine Cz.of rfl (Nat.le_of_ble_eq_true rfl) [some (zr G 121), none, none] rfl (fun E ok okr hE => ?_)
  refine Z_aload0 (pc := 0) ok dX12_clear_0 ?_
  refine Z_callVId (pc := 1) ok dX12_clear_1 cw_X12_115 rfl rfl (by decide) (m_weight hn) rfl rfl (by first | decide | omega) (Nat.le_of_ble_eq_true rfl) ?_
  refine Z_istore1 (pc := 4) ok (by decide) dX12_clear_4 rfl ?_
  refine Z_iconst (pc := 5) ok dX12_clear_5 ?_
  refine Z_istore2 (pc := 6) ok (by decide) dX12_clear_6 rfl ?_
  have H : ∀ e : Int, 0 ≤ e → e ≤ I 121 0 → ∀ f : Int → Int, (∀ j, 0 ≤ j → j < e → f j = 0) → (∀ j, e ≤ j → f j = I 122 j) → Xz E G (sz I 122 f) J 7 [some (zr G 121), some (zi (su (I 122) (I 121 0))), some (zi e)] [] := by
    refine zUp ?_ ?_
    · intro f hf hg
      have e0 : sz I 122 f 121 0 = I 121 0 := by rw [sz_ne _ _ (by decide)]
      refine Z_ext1 (g := fun _ => 0) (by decide) (fun j h0 _ => ?_) ?_
      · by_cases q : j < I 121 0
        · exact hf j h0 q
        · rw [hg j (by omega), h1.2.2 j (by omega)]
      · have e0 : sz I 122 (fun _ => 0) 121 0 = I 121 0 := by rw [sz_ne _ _ (by decide)]
        refine Z_iload2 (pc := 7) ok dX12_clear_7 ?_
        refine Z_aload0 (pc := 8) ok dX12_clear_8 ?_
        refine g_X12_n (pc := 9) ok dX12_clear_9 kw905 rfl ?_
        refine Z_icmp_ge (pc := 12) (tgt := 28) ok dX12_clear_12 rfl (by first | omega | (simp [sz, uz] <;> omega)) (by first | omega | (simp [sz, uz] <;> omega)) (fun _ => ?_) (fun h => by exfalso; omega)
        refine Z_iload1 (pc := 28) ok dX12_clear_28 ?_
        refine Z_iret (pc := 29) ok okr dX12_clear_29 ?_
        exact ⟨rfl, rfl, rfl⟩
    · intro e e0 e1 ih f hf hg
      have e2 : sz I 122 f 121 0 = I 121 0 := by rw [sz_ne _ _ (by decide)]
      refine Z_iload2 (pc := 7) ok dX12_clear_7 ?_
      refine Z_aload0 (pc := 8) ok dX12_clear_8 ?_
      refine g_X12_n (pc := 9) ok dX12_clear_9 kw905 rfl ?_
      refine Z_icmp_ge (pc := 12) (tgt := 28) ok dX12_clear_12 rfl (by first | omega | (simp [sz, uz] <;> omega)) (by first | omega | (simp [sz, uz] <;> omega)) (fun h => by exfalso; omega) (fun _ => ?_)
      refine Z_aload0 (pc := 15) ok dX12_clear_15 ?_
      refine g_X12_row (pc := 16) (t := 122) ok dX12_clear_16 kw906 rfl rfl ?_
      refine Z_iload2 (pc := 19) ok dX12_clear_19 ?_
      refine Z_iconst (pc := 20) ok dX12_clear_20 ?_
      refine Z_iast (pc := 21) (L := 30) ok dX12_clear_21 rfl rfl (by first | omega | (simp [sz, uz] <;> omega)) ?_
      refine Z_iinc2 (pc := 22) ok (by decide) dX12_clear_22 rfl ?_
      refine Z_goto (pc := 25) (tgt := 7) ok dX12_clear_25 rfl ?_
      rw [sz_sz, sz_eq]
      exact ih _ (upto_s (p := fun _ x => x = 0) hf rfl) (fun j hj => by rw [uz_ne _ _ (by omega)]; exact hg j (by omega))
  have h0 := H 0 (by omega) (by omega) (I 122) (fun j j0 j1 => by omega) (fun _ _ => rfl)
  rw [sz_self] at h0
  exact h0
theorem m_phi {i : Int} (hi : -2147483648 ≤ i ∧ i ≤ 2147483647) (hn : 2 ≤ I 121 0 ∧ I 121 0 ≤ 30) (hT : mT I) : K_X12_phi l G [zr G 121, zi i] I J (fun v I' J' => ∃ r, v = some (zl r) ∧ (I' = I ∧ J' = J ∧ ((i = -1 ∧ r = DG (I 121 0)) ∨ ((i < -1 ∨ DG (I 121 0) < i) ∧ r = -9223372036854775808) ∨ ((0 ≤ i ∧ i ≤ DG (I 121 0)) ∧ r = PH (I 121 0) i)))) := by
  have hdg := dg_b hn
  have ed := hT.2 (I 121 0) hn.1 hn.2
  refine Cz.of rfl (Nat.le_of_ble_eq_true rfl) [some (zr G 121), some (zi i)] rfl (fun E ok okr hE => ?_)
  refine Z_iload1 (pc := 0) ok dX12_phi_0 ?_
  refine Z_iconst (pc := 1) ok dX12_phi_1 ?_
  refine Z_icmp_ne (pc := 2) (tgt := 18) ok dX12_phi_2 rfl (by first | omega | (simp [sz, uz] <;> omega)) (by first | omega | (simp [sz, uz] <;> omega)) (fun h => ?_) (fun h => ?_)
  · refine Z_iload1 (pc := 18) ok dX12_phi_18 ?_
    refine Z_i2l (pc := 19) ok dX12_phi_19 (by first | omega | (simp [sz, uz] <;> omega)) ?_
    refine Z_lconst (pc := 20) (z := 0) ok dX12_phi_20 (by decide) ?_
    refine Z_aload0 (pc := 21) ok dX12_phi_21 ?_
    refine g_X12_degrees (pc := 22) (t := 127) ok dX12_phi_22 kw912 rfl rfl ?_
    refine Z_aload0 (pc := 25) ok dX12_phi_25 ?_
    refine g_X12_n (pc := 26) ok dX12_phi_26 kw905 rfl ?_
    refine Z_iald (pc := 29) (L := 31) ok dX12_phi_29 rfl rfl (by first | omega | (simp [sz, uz] <;> omega)) ?_
    refine Z_i2l (pc := 30) ok dX12_phi_30 (by first | omega | (simp [sz, uz] <;> omega)) ?_
    refine Z_callSId (pc := 31) ok dX12_phi_31 cw_X12_97 (m_in (by omega) (by omega) (by omega)) rfl rfl (by first | decide | omega) (Nat.le_of_ble_eq_true rfl) ?_
    refine Z_if_eqB (pc := 34) (tgt := 55) ok dX12_phi_34 rfl (fun h2 => ?_) (fun h2 => ?_)
    · refine Z_ldc2 (pc := 55) (z := -9223372036854775808) ok dX12_phi_55 kw1060 (by decide) ?_
      refine Z_lret (pc := 58) ok okr dX12_phi_58 ?_
      exact ⟨_, rfl, rfl, rfl, Or.inr (Or.inl ⟨by omega, rfl⟩)⟩
    · have ep := hT.1 (I 121 0) i hn.1 hn.2 h2.1 (by omega)
      have hb := ph_1 hn i
      refine Z_aload0 (pc := 37) ok dX12_phi_37 ?_
      refine g_X12_phis (pc := 38) (t := 126) ok dX12_phi_38 kw911 rfl rfl ?_
      refine Z_bipush (pc := 41) ok dX12_phi_41 (by decide) ?_
      refine Z_aload0 (pc := 43) ok dX12_phi_43 ?_
      refine g_X12_n (pc := 44) ok dX12_phi_44 kw905 rfl ?_
      refine Z_imul (pc := 47) ok dX12_phi_47 ?_
      refine Z_iload1 (pc := 48) ok dX12_phi_48 ?_
      refine Z_iadd (pc := 49) ok dX12_phi_49 ?_
      refine Z_iald (pc := 50) (L := 961) ok dX12_phi_50 rfl rfl (by first | omega | (simp [sz, uz] <;> omega)) ?_
      refine Z_i2l (pc := 51) ok dX12_phi_51 (by first | omega | (simp [sz, uz] <;> omega)) ?_
      refine Z_goto (pc := 52) (tgt := 58) ok dX12_phi_52 rfl ?_
      refine Z_lret (pc := 58) ok okr dX12_phi_58 ?_
      exact ⟨_, rfl, rfl, rfl, Or.inr (Or.inr ⟨by omega, ep⟩)⟩
  · refine Z_aload0 (pc := 5) ok dX12_phi_5 ?_
    refine g_X12_degrees (pc := 6) (t := 127) ok dX12_phi_6 kw912 rfl rfl ?_
    refine Z_aload0 (pc := 9) ok dX12_phi_9 ?_
    refine g_X12_n (pc := 10) ok dX12_phi_10 kw905 rfl ?_
    refine Z_iald (pc := 13) (L := 31) ok dX12_phi_13 rfl rfl (by first | omega | (simp [sz, uz] <;> omega)) ?_
    refine Z_i2l (pc := 14) ok dX12_phi_14 (by first | omega | (simp [sz, uz] <;> omega)) ?_
    refine Z_goto (pc := 15) (tgt := 58) ok dX12_phi_15 rfl ?_
    refine Z_lret (pc := 58) ok okr dX12_phi_58 ?_
    exact ⟨_, rfl, rfl, rfl, Or.inl ⟨h, ed⟩⟩
theorem m_divided {a : Nat} (ha : kd a = 13) (hL : ln a = 30) (hna : a ≠ 128 ∧ a ≠ 126 ∧ a ≠ 127) {n : Int} (h121 : I 121 0 = n) (hn : 2 ≤ n ∧ n ≤ 30) (hT : mT I) (hz : ∀ e, e < 0 ∨ n ≤ e → I a e = 0) : K_X12_divided l G [zr G 121, zr G a] I J (pR none (sz I 128 (rd n (I a))) J) := by
  have hdg := dg_b hn
  have ed := hT.2 n hn.1 hn.2
  have e0 : ∀ f : Int → Int, sz I 128 f 121 0 = n := fun f => by rw [sz_ne _ _ (by decide)]; exact h121
  have e26 : ∀ f : Int → Int, sz I 128 f 126 = I 126 := fun f => sz_ne _ _ (by decide)
  have ea : ∀ f : Int → Int, sz I 128 f a = I a := fun f => sz_ne _ _ hna.1
  refine Cz.of rfl (Nat.le_of_ble_eq_true rfl) [some (zr G 121), some (zr G a), none, none, none] rfl (fun E ok okr hE => ?_)
  refine Z_aload0 (pc := 0) ok dX12_divided_0 ?_
  refine g_X12_degrees (pc := 1) (t := 127) ok dX12_divided_1 kw912 rfl rfl ?_
  refine Z_aload0 (pc := 4) ok dX12_divided_4 ?_
  refine g_X12_n (pc := 5) ok dX12_divided_5 kw905 rfl ?_
  refine Z_iald (pc := 8) (L := 31) ok dX12_divided_8 rfl rfl (by first | omega | (simp [sz, uz] <;> omega)) ?_
  rw [h121, ed]
  refine Z_istore2 (pc := 9) ok (by decide) dX12_divided_9 rfl ?_
  refine Z_iconst (pc := 10) ok dX12_divided_10 ?_
  refine Z_istore3 (pc := 11) ok (by decide) dX12_divided_11 rfl ?_
  have H2 : ∀ t : Int, DG n - 1 ≤ t → t ≤ n - 1 → ∀ w4, Xz E G (sz I 128 (rdN n (I a) (n - 1 - t).toNat)) J 52 [some (zr G 121), some (zr G a), some (zi (DG n)), some (zi t), w4] [] := by
    refine zDown ?_ ?_
    · intro _ w4
      refine Z_iload3 (pc := 52) ok dX12_divided_52 ?_
      refine Z_iload2 (pc := 53) ok dX12_divided_53 ?_
      refine Z_icmp_lt (pc := 54) (tgt := 121) ok dX12_divided_54 rfl (by first | omega | (simp [sz, uz] <;> omega)) (by first | omega | (simp [sz, uz] <;> omega)) (fun _ => ?_) (fun h => by exfalso; omega)
      refine Z_vret (pc := 121) ok okr dX12_divided_121 ?_
      rw [show n - 1 - (DG n - 1) = n - DG n by omega]
      exact ⟨rfl, rfl, rfl⟩
    · intro t t0 ih t1 w4
      have x1 : (n - 1 - (t - 1)).toNat = (n - 1 - t).toNat + 1 := by omega
      have x2 : n - 1 - (((n - 1 - t).toNat : Nat) : Int) = t := by omega
      have ih := ih (by omega)
      rw [x1, rdN, x2] at ih
      generalize rdN n (I a) (n - 1 - t).toNat = F at *
      refine Z_iload3 (pc := 52) ok dX12_divided_52 ?_
      refine Z_iload2 (pc := 53) ok dX12_divided_53 ?_
      refine Z_icmp_lt (pc := 54) (tgt := 121) ok dX12_divided_54 rfl (by first | omega | (simp [sz, uz] <;> omega)) (by first | omega | (simp [sz, uz] <;> omega)) (fun h => by exfalso; omega) (fun _ => ?_)
      refine Z_iconst (pc := 57) ok dX12_divided_57 ?_
      refine Z_istore4 (pc := 58) ok (by decide) dX12_divided_58 rfl ?_
      have H3 : ∀ i : Int, 0 ≤ i → i ≤ DG n → ∀ g : Int → Int, (∀ j, t - DG n ≤ j → j < t - DG n + i → g j = F j - F t * PH n (j - t + DG n)) → (∀ j, j < t - DG n ∨ t - DG n + i ≤ j → g j = F j) → Xz E G (sz I 128 g) J 60 [some (zr G 121), some (zr G a), some (zi (DG n)), some (zi t), some (zi i)] [] := by
        refine zUp ?_ ?_
        · intro g g1 g2
          refine Z_iload4 (pc := 60) ok dX12_divided_60 ?_
          refine Z_iload2 (pc := 62) ok dX12_divided_62 ?_
          refine Z_icmp_ge (pc := 63) (tgt := 108) ok dX12_divided_63 rfl (by first | omega | (simp [sz, uz] <;> omega)) (by first | omega | (simp [sz, uz] <;> omega)) (fun _ => ?_) (fun h => by exfalso; omega)
          refine Z_aload0 (pc := 108) ok dX12_divided_108 ?_
          refine g_X12_left (pc := 109) (t := 128) ok dX12_divided_109 kw913 rfl rfl ?_
          refine Z_iload3 (pc := 112) ok dX12_divided_112 ?_
          refine Z_iconst (pc := 113) ok dX12_divided_113 ?_
          refine Z_iast (pc := 114) (L := 62) ok dX12_divided_114 rfl rfl (by first | omega | (simp [sz, uz] <;> omega)) ?_
          refine Z_iinc3 (pc := 115) ok (by decide) dX12_divided_115 rfl ?_
          refine Z_goto (pc := 118) (tgt := 52) ok dX12_divided_118 rfl ?_
          rw [sz_sz, sz_eq]
          have x3 : uz g t 0 = stR n t F := by
            funext j
            by_cases q : j = t
            · rw [q, uz_eq, stR, show t - t + DG n = DG n by omega, ph_top hn]; omega
            · rw [uz_ne _ _ q]
              by_cases hj : t - DG n ≤ j ∧ j < t - DG n + DG n
              · exact g1 j hj.1 hj.2
              · rw [g2 j (by omega), stR, ph_0 hn (by omega)]; omega
          rw [x3]
          exact ih _
        · intro i i0 i1 ih2 g g1 g2
          have ep := hT.1 n i hn.1 hn.2 i0 (by omega)
          have q0 := e0 g
          refine Z_iload4 (pc := 60) ok dX12_divided_60 ?_
          refine Z_iload2 (pc := 62) ok dX12_divided_62 ?_
          refine Z_icmp_ge (pc := 63) (tgt := 108) ok dX12_divided_63 rfl (by first | omega | (simp [sz, uz] <;> omega)) (by first | omega | (simp [sz, uz] <;> omega)) (fun h => by exfalso; omega) (fun _ => ?_)
          refine Z_aload0 (pc := 66) ok dX12_divided_66 ?_
          refine g_X12_left (pc := 67) (t := 128) ok dX12_divided_67 kw913 rfl rfl ?_
          refine Z_iload3 (pc := 70) ok dX12_divided_70 ?_
          refine Z_iload2 (pc := 71) ok dX12_divided_71 ?_
          refine Z_isub (pc := 72) ok dX12_divided_72 ?_
          refine Z_iload4 (pc := 73) ok dX12_divided_73 ?_
          refine Z_iadd (pc := 75) ok dX12_divided_75 ?_
          refine Z_dup2 (pc := 76) ok dX12_divided_76 rfl rfl ?_
          refine Z_iald (pc := 77) (L := 62) ok dX12_divided_77 rfl rfl (by first | omega | (simp [sz, uz] <;> omega)) ?_
          refine Z_aload0 (pc := 78) ok dX12_divided_78 ?_
          refine g_X12_left (pc := 79) (t := 128) ok dX12_divided_79 kw913 rfl rfl ?_
          refine Z_iload3 (pc := 82) ok dX12_divided_82 ?_
          refine Z_iald (pc := 83) (L := 62) ok dX12_divided_83 rfl rfl (by first | omega | (simp [sz, uz] <;> omega)) ?_
          refine Z_aload0 (pc := 84) ok dX12_divided_84 ?_
          refine g_X12_phis (pc := 85) (t := 126) ok dX12_divided_85 kw911 rfl rfl ?_
          refine Z_bipush (pc := 88) ok dX12_divided_88 (by decide) ?_
          refine Z_aload0 (pc := 90) ok dX12_divided_90 ?_
          refine g_X12_n (pc := 91) ok dX12_divided_91 kw905 rfl ?_
          refine Z_imul (pc := 94) ok dX12_divided_94 ?_
          refine Z_iload4 (pc := 95) ok dX12_divided_95 ?_
          refine Z_iadd (pc := 97) ok dX12_divided_97 ?_
          refine Z_iald (pc := 98) (L := 961) ok dX12_divided_98 rfl rfl (by first | omega | (simp [sz, uz] <;> omega)) ?_
          refine Z_imul (pc := 99) ok dX12_divided_99 ?_
          refine Z_isub (pc := 100) ok dX12_divided_100 ?_
          refine Z_iast (pc := 101) (L := 62) ok dX12_divided_101 rfl rfl (by first | omega | (simp [sz, uz] <;> omega)) ?_
          refine Z_iinc4 (pc := 102) ok (by decide) dX12_divided_102 rfl ?_
          refine Z_goto (pc := 105) (tgt := 60) ok dX12_divided_105 rfl ?_
          rw [q0, e26, ep, sz_sz, sz_eq]
          refine ih2 _ (fun j j0 j1 => ?_) (fun j hj => ?_)
          · by_cases hji : j = t - DG n + i
            · rw [hji, uz_eq, g2 _ (by omega), g2 t (by omega), show t - DG n + i - t + DG n = i by omega]
            · rw [uz_ne _ _ hji]; exact g1 j j0 (by omega)
          · rw [uz_ne _ _ (by omega)]; exact g2 j (by omega)
      exact H3 0 (by omega) (by omega) F (fun j j0 j1 => by omega) (fun _ _ => rfl)
  have H : ∀ k : Int, 0 ≤ k → k ≤ 62 → ∀ f : Int → Int, (∀ j, 0 ≤ j → j < k → f j = I a j) → Xz E G (sz I 128 f) J 12 [some (zr G 121), some (zr G a), some (zi (DG n)), some (zi k), none] [] := by
    refine zUp ?_ ?_
    · intro f hf
      refine Z_ext1 (g := I a) (by decide) (fun j h0 h1 => hf j h0 (by have : j < 62 := h1; omega)) ?_
      have q0 := e0 (I a)
      refine Z_iload3 (pc := 12) ok dX12_divided_12 ?_
      refine Z_bipush (pc := 13) ok dX12_divided_13 (by decide) ?_
      refine Z_icmp_ge (pc := 15) (tgt := 45) ok dX12_divided_15 rfl (by first | omega | (simp [sz, uz] <;> omega)) (by first | omega | (simp [sz, uz] <;> omega)) (fun _ => ?_) (fun h => by exfalso; omega)
      refine Z_aload0 (pc := 45) ok dX12_divided_45 ?_
      refine g_X12_n (pc := 46) ok dX12_divided_46 kw905 rfl ?_
      refine Z_iconst (pc := 49) ok dX12_divided_49 ?_
      refine Z_isub (pc := 50) ok dX12_divided_50 ?_
      rw [q0]
      refine Z_istore3 (pc := 51) ok (by decide) dX12_divided_51 rfl ?_
      have h0 := H2 (n - 1) (by omega) (by omega) none
      rw [Int.sub_self] at h0
      exact h0
    · intro k k0 k1 ih f hf
      have q0 := e0 f
      refine Z_iload3 (pc := 12) ok dX12_divided_12 ?_
      refine Z_bipush (pc := 13) ok dX12_divided_13 (by decide) ?_
      refine Z_icmp_ge (pc := 15) (tgt := 45) ok dX12_divided_15 rfl (by first | omega | (simp [sz, uz] <;> omega)) (by first | omega | (simp [sz, uz] <;> omega)) (fun h => by exfalso; omega) (fun _ => ?_)
      refine Z_aload0 (pc := 18) ok dX12_divided_18 ?_
      refine g_X12_left (pc := 19) (t := 128) ok dX12_divided_19 kw913 rfl rfl ?_
      refine Z_iload3 (pc := 22) ok dX12_divided_22 ?_
      refine Z_iload3 (pc := 23) ok dX12_divided_23 ?_
      refine Z_aload0 (pc := 24) ok dX12_divided_24 ?_
      refine g_X12_n (pc := 25) ok dX12_divided_25 kw905 rfl ?_
      refine Z_icmp_ge (pc := 28) (tgt := 37) ok dX12_divided_28 rfl (by first | omega | (simp [sz, uz] <;> omega)) (by first | omega | (simp [sz, uz] <;> omega)) (fun h => ?_) (fun h => ?_)
      · refine Z_iconst (pc := 37) ok dX12_divided_37 ?_
        refine Z_iast (pc := 38) (L := 62) ok dX12_divided_38 rfl rfl (by first | omega | (simp [sz, uz] <;> omega)) ?_
        refine Z_iinc3 (pc := 39) ok (by decide) dX12_divided_39 rfl ?_
        refine Z_goto (pc := 42) (tgt := 12) ok dX12_divided_42 rfl ?_
        rw [sz_sz, sz_eq]
        exact ih _ (upto_s (p := fun j x => x = I a j) hf (hz k (by omega)).symm)
      · refine Z_aload1 (pc := 31) ok dX12_divided_31 ?_
        refine Z_iload3 (pc := 32) ok dX12_divided_32 ?_
        refine Z_iald (pc := 33) ok dX12_divided_33 ha hL (by first | omega | (simp [sz, uz] <;> omega)) ?_
        refine Z_goto (pc := 34) (tgt := 38) ok dX12_divided_34 rfl ?_
        refine Z_iast (pc := 38) (L := 62) ok dX12_divided_38 rfl rfl (by first | omega | (simp [sz, uz] <;> omega)) ?_
        refine Z_iinc3 (pc := 39) ok (by decide) dX12_divided_39 rfl ?_
        refine Z_goto (pc := 42) (tgt := 12) ok dX12_divided_42 rfl ?_
        rw [sz_sz, sz_eq, ea]
        exact ih _ (upto_s (p := fun j x => x = I a j) hf rfl)
  have h0 := H 0 (by omega) (by omega) (I 128) (fun j j0 j1 => by omega)
  rw [sz_self] at h0
  exact h0
theorem m_rest {i : Int} (hi : -2147483648 ≤ i ∧ i ≤ 2147483647) (h1 : gR (I 121 0) (I 122)) (hT : mT I) : K_X12_rest l G [zr G 121, zi i] I J (fun v I' J' => ∃ r, v = some (zl r) ∧ (fr [128] I I' ∧ J' = J ∧ ((¬ (0 ≤ i ∧ i < DG (I 121 0)) ∧ r = -9223372036854775808) ∨ ((0 ≤ i ∧ i < DG (I 121 0)) ∧ r = rd (I 121 0) (I 122) i)))) := by
  have hn := h1.1
  have hdg := dg_b hn
  have ed := hT.2 (I 121 0) hn.1 hn.2
  have h9 : ∀ j, -9 ≤ I 122 j ∧ I 122 j ≤ 9 := fun j => by have := h1.2.1 j; omega
  refine Cz.of rfl (Nat.le_of_ble_eq_true rfl) [some (zr G 121), some (zi i)] rfl (fun E ok okr hE => ?_)
  refine Z_iload1 (pc := 0) ok dX12_rest_0 ?_
  refine Z_i2l (pc := 1) ok dX12_rest_1 (by first | omega | (simp [sz, uz] <;> omega)) ?_
  refine Z_lconst (pc := 2) (z := 0) ok dX12_rest_2 (by decide) ?_
  refine Z_aload0 (pc := 3) ok dX12_rest_3 ?_
  refine g_X12_degrees (pc := 4) (t := 127) ok dX12_rest_4 kw912 rfl rfl ?_
  refine Z_aload0 (pc := 7) ok dX12_rest_7 ?_
  refine g_X12_n (pc := 8) ok dX12_rest_8 kw905 rfl ?_
  refine Z_iald (pc := 11) (L := 31) ok dX12_rest_11 rfl rfl (by first | omega | (simp [sz, uz] <;> omega)) ?_
  refine Z_iconst (pc := 12) ok dX12_rest_12 ?_
  refine Z_isub (pc := 13) ok dX12_rest_13 ?_
  refine Z_i2l (pc := 14) ok dX12_rest_14 (by first | omega | (simp [sz, uz] <;> omega)) ?_
  refine Z_callSId (pc := 15) ok dX12_rest_15 cw_X12_97 (m_in (by omega) (by omega) (by omega)) rfl rfl (by first | decide | omega) (Nat.le_of_ble_eq_true rfl) ?_
  refine Z_if_neB (pc := 18) (tgt := 25) ok dX12_rest_18 rfl (fun h => ?_) (fun h => ?_)
  · have hb := rd_c hn h9 i
    have e4 : sz I 128 (rd (I 121 0) (I 122)) 128 i = rd (I 121 0) (I 122) i := by rw [sz_eq]
    refine Z_aload0 (pc := 25) ok dX12_rest_25 ?_
    refine Z_aload0 (pc := 26) ok dX12_rest_26 ?_
    refine g_X12_row (pc := 27) (t := 122) ok dX12_rest_27 kw906 rfl rfl ?_
    refine Z_callVVd (pc := 30) ok dX12_rest_30 cw_X12_121 rfl rfl (by decide) (m_divided rfl rfl (by decide) rfl hn hT h1.2.2) rfl rfl (by first | decide | omega) (Nat.le_of_ble_eq_true rfl) ?_
    refine Z_aload0 (pc := 33) ok dX12_rest_33 ?_
    refine g_X12_left (pc := 34) (t := 128) ok dX12_rest_34 kw913 rfl rfl ?_
    refine Z_iload1 (pc := 37) ok dX12_rest_37 ?_
    refine Z_iald (pc := 38) (L := 62) ok dX12_rest_38 rfl rfl (by first | omega | (simp [sz, uz] <;> omega)) ?_
    refine Z_i2l (pc := 39) ok dX12_rest_39 (by first | omega | (simp [sz, uz] <;> omega)) ?_
    refine Z_lret (pc := 40) ok okr dX12_rest_40 ?_
    exact ⟨_, rfl, fr.rf.st rfl, rfl, Or.inr ⟨by omega, e4⟩⟩
  · refine Z_ldc2 (pc := 21) (z := -9223372036854775808) ok dX12_rest_21 kw1060 (by decide) ?_
    refine Z_lret (pc := 24) ok okr dX12_rest_24 ?_
    exact ⟨_, rfl, fr.rf, rfl, Or.inl ⟨by omega, rfl⟩⟩
theorem m_isNothing {n : Int} (h121 : I 121 0 = n) (hn : 2 ≤ n ∧ n ≤ 30) (hT : mT I) (hf : ∀ j, -40000000 ≤ I 128 j ∧ I 128 j ≤ 40000000) : K_X12_isNothing l G [zr G 121] I J (pR (some (zi (zb (∀ i, 0 ≤ i → i < DG n → I 128 i = 0)))) I J) := by
  have hdg := dg_b hn
  have ed := hT.2 n hn.1 hn.2
  rw [← h121] at ed
  refine Cz.of rfl (Nat.le_of_ble_eq_true rfl) [some (zr G 121), none, none] rfl (fun E ok okr hE => ?_)
  refine Z_iconst (pc := 0) ok dX12_isNothing_0 ?_
  refine Z_istore1 (pc := 1) ok (by decide) dX12_isNothing_1 rfl ?_
  refine Z_iconst (pc := 2) ok dX12_isNothing_2 ?_
  refine Z_istore2 (pc := 3) ok (by decide) dX12_isNothing_3 rfl ?_
  have H : ∀ i : Int, 0 ≤ i → i ≤ DG n → Xz E G I J 4 [some (zr G 121), some (zi (zb (∀ j, 0 ≤ j → j < i → I 128 j = 0))), some (zi i)] [] := by
    refine zUp ?_ ?_
    · refine Z_iload2 (pc := 4) ok dX12_isNothing_4 ?_
      refine Z_aload0 (pc := 5) ok dX12_isNothing_5 ?_
      refine g_X12_degrees (pc := 6) (t := 127) ok dX12_isNothing_6 kw912 rfl rfl ?_
      refine Z_aload0 (pc := 9) ok dX12_isNothing_9 ?_
      refine g_X12_n (pc := 10) ok dX12_isNothing_10 kw905 rfl ?_
      refine Z_iald (pc := 13) (L := 31) ok dX12_isNothing_13 rfl rfl (by first | omega | (simp [sz, uz] <;> omega)) ?_
      refine Z_icmp_ge (pc := 14) (tgt := 40) ok dX12_isNothing_14 rfl (by omega) (by rw [ed, h121]; omega) (fun h => ?_) (fun h => absurd h ((by rw [ed, h121]; omega)))
      refine Z_iload1 (pc := 40) ok dX12_isNothing_40 ?_
      refine Z_bret (pc := 41) ok okr dX12_isNothing_41 (by first | exact Or.inl rfl | exact Or.inr rfl | exact zb_01 _ | assumption | omega) ?_
      exact ⟨rfl, rfl, rfl⟩
    · intro i i0 i1 ih
      have := hf i
      refine Z_iload2 (pc := 4) ok dX12_isNothing_4 ?_
      refine Z_aload0 (pc := 5) ok dX12_isNothing_5 ?_
      refine g_X12_degrees (pc := 6) (t := 127) ok dX12_isNothing_6 kw912 rfl rfl ?_
      refine Z_aload0 (pc := 9) ok dX12_isNothing_9 ?_
      refine g_X12_n (pc := 10) ok dX12_isNothing_10 kw905 rfl ?_
      refine Z_iald (pc := 13) (L := 31) ok dX12_isNothing_13 rfl rfl (by first | omega | (simp [sz, uz] <;> omega)) ?_
      refine Z_icmp_ge (pc := 14) (tgt := 40) ok dX12_isNothing_14 rfl (by omega) (by rw [ed, h121]; omega) (fun h => absurd h ((by rw [ed, h121]; omega))) (fun h => ?_)
      refine Z_iload1 (pc := 17) ok dX12_isNothing_17 ?_
      refine Z_aload0 (pc := 18) ok dX12_isNothing_18 ?_
      refine g_X12_left (pc := 19) (t := 128) ok dX12_isNothing_19 kw913 rfl rfl ?_
      refine Z_iload2 (pc := 22) ok dX12_isNothing_22 ?_
      refine Z_iald (pc := 23) (L := 62) ok dX12_isNothing_23 rfl rfl (by first | omega | (simp [sz, uz] <;> omega)) ?_
      refine Z_if_ne (pc := 24) (tgt := 31) ok dX12_isNothing_24 rfl (by first | omega | (simp [sz, uz] <;> omega)) (fun h => ?_) (fun h => ?_)
      · rw [zb_f (fun q => h (q i i0 (by omega)))] at ih
        refine Z_iconst (pc := 31) ok dX12_isNothing_31 ?_
        refine Z_iand0 (pc := 32) ok dX12_isNothing_32 (zb_01 _) ?_
        refine Z_istore1 (pc := 33) ok (by decide) dX12_isNothing_33 rfl ?_
        refine Z_iinc2 (pc := 34) ok (by decide) dX12_isNothing_34 rfl ?_
        refine Z_goto (pc := 37) (tgt := 4) ok dX12_isNothing_37 rfl ?_
        exact ih
      · have e : (∀ j, 0 ≤ j → j < i + 1 → I 128 j = 0) = (∀ j, 0 ≤ j → j < i → I 128 j = 0) := propext ⟨fun q j j0 j1 => q j j0 (by omega), fun q j j0 j1 => by by_cases x : j = i; rw [x]; exact h; exact q j j0 (by omega)⟩
        rw [e] at ih
        refine Z_iconst (pc := 27) ok dX12_isNothing_27 ?_
        refine Z_goto (pc := 28) (tgt := 32) ok dX12_isNothing_28 rfl ?_
        refine Z_iand1 (pc := 32) ok dX12_isNothing_32 (zb_01 _) ?_
        refine Z_istore1 (pc := 33) ok (by decide) dX12_isNothing_33 rfl ?_
        refine Z_iinc2 (pc := 34) ok (by decide) dX12_isNothing_34 rfl ?_
        refine Z_goto (pc := 37) (tgt := 4) ok dX12_isNothing_37 rfl ?_
        exact ih
  have h0 := H 0 (by omega) (by omega)
  rw [zb_t (fun j j0 j1 => by omega)] at h0
  exact h0
theorem m_isNought {a : Nat} (ha : kd a = 13) (hL : ln a = 30) (hna : a ≠ 128 ∧ a ≠ 126 ∧ a ≠ 127) {n : Int} (h121 : I 121 0 = n) (hn : 2 ≤ n ∧ n ≤ 30) (hT : mT I) (hz : ∀ e, e < 0 ∨ n ≤ e → I a e = 0) (h9 : ∀ j, -9 ≤ I a j ∧ I a j ≤ 9) : K_X12_isNought l G [zr G 121, zr G a] I J (pR (some (zi (zb (nou n (I a))))) (sz I 128 (rd n (I a))) J) := by
  refine Cz.of rfl (Nat.le_of_ble_eq_true rfl) [some (zr G 121), some (zr G a)] rfl (fun E ok okr hE => ?_)
  refine Z_aload0 (pc := 0) ok dX12_isNought_0 ?_
  refine Z_aload1 (pc := 1) ok dX12_isNought_1 ?_
  refine Z_callVVd (pc := 2) ok dX12_isNought_2 cw_X12_121 rfl rfl (by decide) (m_divided ha hL hna h121 hn hT hz) rfl rfl (by first | decide | omega) (Nat.le_of_ble_eq_true rfl) ?_
  refine Z_aload0 (pc := 5) ok dX12_isNought_5 ?_
  refine Z_callVId (pc := 6) ok dX12_isNought_6 cw_X12_125 rfl rfl (by decide) (m_isNothing (by rw [sz_ne _ _ (by decide)]; exact h121) hn (by unfold mT; simp only [sz_ne _ _ (show (126 : Nat) ≠ 128 by decide), sz_ne _ _ (show (127 : Nat) ≠ 128 by decide)]; exact hT) (by rw [sz_eq]; exact rd_c hn h9)) rfl rfl (by first | decide | omega) (Nat.le_of_ble_eq_true rfl) ?_
  refine Z_bret (pc := 9) ok okr dX12_isNought_9 (by first | exact Or.inl rfl | exact Or.inr rfl | exact zb_01 _ | assumption | omega) ?_
  refine ⟨?_, rfl, rfl⟩
  rw [sz_eq]
  congr 3
  refine propext ⟨fun q i i0 i1 => ?_, fun q i i0 i1 => ?_⟩
  · rw [← rd_rst hn hz]; exact q i i0 i1
  · rw [rd_rst hn hz]; exact q i i0 i1
theorem m_nought (h1 : gR (I 121 0) (I 122)) (hT : mT I) : K_X12_nought l G [zr G 121] I J (fun v I' J' => ∃ r, v = some (zi r) ∧ (fr [128] I I' ∧ J' = J ∧ r = zb (nou (I 121 0) (I 122)))) := by
  have hn := h1.1
  have h9 : ∀ j, -9 ≤ I 122 j ∧ I 122 j ≤ 9 := fun j => by have := h1.2.1 j; omega
  refine Cz.of rfl (Nat.le_of_ble_eq_true rfl) [some (zr G 121)] rfl (fun E ok okr hE => ?_)
  refine Z_aload0 (pc := 0) ok dX12_nought_0 ?_
  refine Z_aload0 (pc := 1) ok dX12_nought_1 ?_
  refine g_X12_row (pc := 2) (t := 122) ok dX12_nought_2 kw906 rfl rfl ?_
  refine Z_callVId (pc := 5) ok dX12_nought_5 cw_X12_129 rfl rfl (by decide) (m_isNought rfl rfl (by decide) rfl hn hT h1.2.2 h9) rfl rfl (by first | decide | omega) (Nat.le_of_ble_eq_true rfl) ?_
  refine Z_if_eqB (pc := 8) (tgt := 15) ok dX12_nought_8 rfl (fun h => ?_) (fun h => ?_)
  · refine Z_iconst (pc := 15) ok dX12_nought_15 ?_
    refine Z_iret (pc := 16) ok okr dX12_nought_16 ?_
    exact ⟨_, rfl, fr.rf.st rfl, rfl, by rw [zb_f h]⟩
  · refine Z_iconst (pc := 11) ok dX12_nought_11 ?_
    refine Z_goto (pc := 12) (tgt := 16) ok dX12_nought_12 rfl ?_
    refine Z_iret (pc := 16) ok okr dX12_nought_16 ?_
    exact ⟨_, rfl, fr.rf.st rfl, rfl, by rw [zb_t h]⟩
theorem m_isDear (h1 : gR (I 121 0) (I 122)) : K_X12_isDear l G [zr G 121] I J (pR (some (zi (zb (20000 < pr (I 122) (I 121 0))))) I J) := by
  have hn := h1.1
  have hf : ∀ e, 0 ≤ I 122 e := fun e => (h1.2.1 e).1
  refine Cz.of rfl (Nat.le_of_ble_eq_true rfl) [some (zr G 121), none, none, none] rfl (fun E ok okr hE => ?_)
  refine Z_lconst (pc := 0) (z := 1) ok dX12_isDear_0 (by decide) ?_
  refine Z_lstore1 (pc := 1) ok (by decide) dX12_isDear_1 rfl ?_
  refine Z_iconst (pc := 2) ok dX12_isDear_2 ?_
  refine Z_istore3 (pc := 3) ok (by decide) dX12_isDear_3 rfl ?_
  have H : ∀ e : Int, 0 ≤ e → e ≤ I 121 0 → ∀ x : Int, (1 ≤ x ∧ x ≤ 200000) → ((x ≤ 20000 ∧ x = pr (I 122) e) ∨ (20000 < x ∧ x ≤ pr (I 122) e)) → Xz E G I J 4 [some (zr G 121), some (zl x), none, some (zi e)] [] := by
    refine zUp ?_ ?_
    · intro x x0 x1
      refine Z_iload3 (pc := 4) ok dX12_isDear_4 ?_
      refine Z_aload0 (pc := 5) ok dX12_isDear_5 ?_
      refine g_X12_n (pc := 6) ok dX12_isDear_6 kw905 rfl ?_
      refine Z_icmp_ge (pc := 9) (tgt := 42) ok dX12_isDear_9 rfl (by first | omega | (simp [sz, uz] <;> omega)) (by first | omega | (simp [sz, uz] <;> omega)) (fun _ => ?_) (fun h => by exfalso; omega)
      refine Z_lload1 (pc := 42) ok dX12_isDear_42 ?_
      refine Z_ldc2 (pc := 43) (z := 20000) ok dX12_isDear_43 kw1089 (by decide) ?_
      refine Z_lcmp (pc := 46) ok dX12_isDear_46 (by first | omega | (simp [sz, uz] <;> omega)) (by first | omega | (simp [sz, uz] <;> omega)) ?_
      refine Z_if_leC (pc := 47) (tgt := 54) ok dX12_isDear_47 rfl (fun h => ?_) (fun h => ?_)
      · refine Z_iconst (pc := 54) ok dX12_isDear_54 ?_
        refine Z_bret (pc := 55) ok okr dX12_isDear_55 (by first | exact Or.inl rfl | exact Or.inr rfl | exact zb_01 _ | assumption | omega) ?_
        exact ⟨by rw [zb_f (by omega)], rfl, rfl⟩
      · refine Z_iconst (pc := 50) ok dX12_isDear_50 ?_
        refine Z_goto (pc := 51) (tgt := 55) ok dX12_isDear_51 rfl ?_
        refine Z_bret (pc := 55) ok okr dX12_isDear_55 (by first | exact Or.inl rfl | exact Or.inr rfl | exact zb_01 _ | assumption | omega) ?_
        exact ⟨by rw [zb_t (by omega)], rfl, rfl⟩
    · intro e e0 e1 ih x x0 x1
      have b1 := h1.2.1 e
      have hp := pr_pos hf e
      rw [pr_s _ e0] at ih
      refine Z_iload3 (pc := 4) ok dX12_isDear_4 ?_
      refine Z_aload0 (pc := 5) ok dX12_isDear_5 ?_
      refine g_X12_n (pc := 6) ok dX12_isDear_6 kw905 rfl ?_
      refine Z_icmp_ge (pc := 9) (tgt := 42) ok dX12_isDear_9 rfl (by first | omega | (simp [sz, uz] <;> omega)) (by first | omega | (simp [sz, uz] <;> omega)) (fun h => by exfalso; omega) (fun _ => ?_)
      refine Z_lload1 (pc := 12) ok dX12_isDear_12 ?_
      refine Z_ldc2 (pc := 13) (z := 20000) ok dX12_isDear_13 kw1089 (by decide) ?_
      refine Z_lcmp (pc := 16) ok dX12_isDear_16 (by first | omega | (simp [sz, uz] <;> omega)) (by first | omega | (simp [sz, uz] <;> omega)) ?_
      refine Z_if_leC (pc := 17) (tgt := 24) ok dX12_isDear_17 rfl (fun h => ?_) (fun h => ?_)
      · refine Z_lload1 (pc := 24) ok dX12_isDear_24 ?_
        refine Z_aload0 (pc := 25) ok dX12_isDear_25 ?_
        refine g_X12_row (pc := 26) (t := 122) ok dX12_isDear_26 kw906 rfl rfl ?_
        refine Z_iload3 (pc := 29) ok dX12_isDear_29 ?_
        refine Z_iald (pc := 30) (L := 30) ok dX12_isDear_30 rfl rfl (by first | omega | (simp [sz, uz] <;> omega)) ?_
        refine Z_iconst (pc := 31) ok dX12_isDear_31 ?_
        refine Z_iadd (pc := 32) ok dX12_isDear_32 ?_
        refine Z_i2l (pc := 33) ok dX12_isDear_33 (by first | omega | (simp [sz, uz] <;> omega)) ?_
        refine Z_lmul (pc := 34) ok dX12_isDear_34 ?_
        refine Z_lstore1 (pc := 35) ok (by decide) dX12_isDear_35 rfl ?_
        refine Z_iinc3 (pc := 36) ok (by decide) dX12_isDear_36 rfl ?_
        refine Z_goto (pc := 39) (tgt := 4) ok dX12_isDear_39 rfl ?_
        have hx : x = pr (I 122) e := by omega
        have hb : x * (I 122 e + 1) ≤ 20000 * 10 := Int.mul_le_mul h (by omega) (by omega) (by omega)
        have hb1 : 1 * 1 ≤ x * (I 122 e + 1) := Int.mul_le_mul (by omega) (by omega) (by omega) (by omega)
        refine ih _ (by omega) ?_
        rw [← hx]
        omega
      · refine Z_lload1 (pc := 20) ok dX12_isDear_20 ?_
        refine Z_goto (pc := 21) (tgt := 35) ok dX12_isDear_21 rfl ?_
        refine Z_lstore1 (pc := 35) ok (by decide) dX12_isDear_35 rfl ?_
        refine Z_iinc3 (pc := 36) ok (by decide) dX12_isDear_36 rfl ?_
        refine Z_goto (pc := 39) (tgt := 4) ok dX12_isDear_39 rfl ?_
        refine ih x x0 (Or.inr ⟨h, ?_⟩)
        have : pr (I 122) e * 1 ≤ pr (I 122) e * (I 122 e + 1) := Int.mul_le_mul_of_nonneg_left (by omega) (by omega)
        omega
  exact H 0 (by omega) (by omega) 1 (by omega) (Or.inl ⟨by omega, rfl⟩)
end
