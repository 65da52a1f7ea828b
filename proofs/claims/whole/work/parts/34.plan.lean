/-! the reference: plans, shelves -/
def kR (f : Int → Int) (s k : Int) : Int → Int := fun e => if 0 ≤ e ∧ e < 30 then f (31 * (8 * s + k) + 1 + e) else 0
def mK (I : Mz) : Prop := ∀ s, 0 ≤ s → s < 2 → (0 ≤ I 124 s ∧ I 124 s ≤ 8) ∧ ∀ k, 0 ≤ k → k < I 124 s → gR (I 125 (31 * (8 * s + k))) (kR (I 125) s k)
def mPl (I : Mz) : Prop := (0 ≤ I 121 3 ∧ I 121 3 ≤ 8) ∧ ∀ i, 0 ≤ i → i < I 121 3 → (0 ≤ I 123 (2 * i) ∧ I 123 (2 * i) ≤ 3) ∧ (-2147483648 ≤ I 123 (2 * i + 1) ∧ I 123 (2 * i + 1) ≤ 2147483647)
def cpN (f : Int → Int) (a b i : Int) : Int → Int := fun x => if b ≤ x ∧ x < b + i then f (x - b + a) else f x
theorem cpN_s {f : Int → Int} {a b i : Int} (hi : 0 ≤ i ∧ i < 31) (h : a + 31 ≤ b ∨ b + 31 ≤ a) : uz (cpN f a b i) (b + i) (cpN f a b i (a + i)) = cpN f a b (i + 1) := by
  funext x
  have e1 : cpN f a b i (a + i) = f (a + i) := by rw [cpN, if_neg (by omega)]
  rw [e1]
  by_cases q : x = b + i
  · rw [q, uz_eq, cpN, if_pos (by omega)]; congr 1; omega
  · rw [uz_ne _ _ q, cpN, cpN]
    by_cases q2 : b ≤ x ∧ x < b + i
    · rw [if_pos q2, if_pos (by omega)]
    · rw [if_neg q2, if_neg (by omega)]
theorem cpN_0 (f : Int → Int) (a b : Int) : cpN f a b 0 = f := by
  funext x
  rw [cpN, if_neg (by omega)]
theorem kR_su {f : Int → Int} {s k : Int} : su (fun e => f (31 * (8 * s + k) + 1 + e)) 30 = su (kR f s k) 30 := su_c (fun j a b => by rw [kR, if_pos ⟨a, b⟩])
theorem gR_30 {n : Int} {c : Int → Int} (h : gR n c) : su c 30 = su c n := by
  have hn := h.1
  rw [show (30 : Int) = n + (30 - n) by omega, su_split _ (by omega) (by omega), su_c (f := fun j => c (n + j)) (g := fun _ => 0) (fun j a b => h.2.2 (n + j) (by omega)), su_00, Int.add_zero]
section
variable {l : Launch} {G : Gw} {I J : Mz}
theorem m_plan {a v : Int} (ha : -2147483648 ≤ a ∧ a ≤ 2147483647) (hp : mPl I) : K_X12_plan l G [zr G 121, zi a, zi v] I J (fun w I' J' => ∃ r, w = some (zi r) ∧ (J' = J ∧ ((¬ (0 ≤ a ∧ a ≤ 3) ∧ r = -1 ∧ I' = I) ∨ ((0 ≤ a ∧ a ≤ 3) ∧ I 121 3 = 8 ∧ r = -4 ∧ I' = I) ∨ ((0 ≤ a ∧ a ≤ 3) ∧ I 121 3 < 8 ∧ r = I 121 3 + 1 ∧ I' = sz (sz I 123 (uz (uz (I 123) (2 * I 121 3) a) (2 * I 121 3 + 1) v)) 121 (uz (I 121) 3 (I 121 3 + 1)))))) := by
  have h0 := hp.1
  refine Cz.of rfl (Nat.le_of_ble_eq_true rfl) [some (zr G 121), some (zi a), some (zi v)] rfl (fun E ok okr hE => ?_)
  refine Z_iload1 (pc := 0) ok dX12_plan_0 ?_
  refine Z_i2l (pc := 1) ok dX12_plan_1 (by first | omega | (simp [sz, uz] <;> omega)) ?_
  refine Z_lconst (pc := 2) (z := 0) ok dX12_plan_2 (by decide) ?_
  refine Z_ldc2 (pc := 3) (z := 3) ok dX12_plan_3 kw1256 (by decide) ?_
  refine Z_callSId (pc := 6) ok dX12_plan_6 cw_X12_97 (m_in (by omega) (by omega) (by omega)) rfl rfl (by first | decide | omega) (Nat.le_of_ble_eq_true rfl) ?_
  refine Z_if_neB (pc := 9) (tgt := 14) ok dX12_plan_9 rfl (fun h => ?_) (fun h => ?_)
  · refine Z_aload0 (pc := 14) ok dX12_plan_14 ?_
    refine g_X12_planned (pc := 15) ok dX12_plan_15 kw908 rfl ?_
    refine Z_bipush (pc := 18) ok dX12_plan_18 (by decide) ?_
    refine Z_icmp_ne (pc := 20) (tgt := 26) ok dX12_plan_20 rfl (by first | omega | (simp [sz, uz] <;> omega)) (by first | omega | (simp [sz, uz] <;> omega)) (fun h2 => ?_) (fun h2 => ?_)
    · have z : ∀ f : Int → Int, sz I 123 f 121 = I 121 := fun f => sz_ne _ _ (by decide)
      refine Z_aload0 (pc := 26) ok dX12_plan_26 ?_
      refine g_X12_plan (pc := 27) (t := 123) ok dX12_plan_27 kw907 rfl rfl ?_
      refine Z_iconst (pc := 30) ok dX12_plan_30 ?_
      refine Z_aload0 (pc := 31) ok dX12_plan_31 ?_
      refine g_X12_planned (pc := 32) ok dX12_plan_32 kw908 rfl ?_
      refine Z_imul (pc := 35) ok dX12_plan_35 ?_
      refine Z_iload1 (pc := 36) ok dX12_plan_36 ?_
      refine Z_iast (pc := 37) (L := 16) ok dX12_plan_37 rfl rfl (by first | omega | (simp [sz, uz] <;> omega)) ?_
      refine Z_aload0 (pc := 38) ok dX12_plan_38 ?_
      refine g_X12_plan (pc := 39) (t := 123) ok dX12_plan_39 kw907 rfl rfl ?_
      refine Z_iconst (pc := 42) ok dX12_plan_42 ?_
      refine Z_aload0 (pc := 43) ok dX12_plan_43 ?_
      refine g_X12_planned (pc := 44) ok dX12_plan_44 kw908 rfl ?_
      rw [z]
      refine Z_imul (pc := 47) ok dX12_plan_47 ?_
      refine Z_iconst (pc := 48) ok dX12_plan_48 ?_
      refine Z_iadd (pc := 49) ok dX12_plan_49 ?_
      refine Z_iload2 (pc := 50) ok dX12_plan_50 ?_
      refine Z_iast (pc := 51) (L := 16) ok dX12_plan_51 rfl rfl (by first | omega | (simp [sz, uz] <;> omega)) ?_
      refine Z_aload0 (pc := 52) ok dX12_plan_52 ?_
      refine Z_dup (pc := 53) ok dX12_plan_53 rfl ?_
      refine g_X12_planned (pc := 54) ok dX12_plan_54 kw908 rfl ?_
      refine Z_iconst (pc := 57) ok dX12_plan_57 ?_
      refine Z_iadd (pc := 58) ok dX12_plan_58 ?_
      refine p_X12_planned (pc := 59) ok dX12_plan_59 kw908 rfl ?_
      rw [sz_sz, sz_eq, z]
      refine Z_aload0 (pc := 62) ok dX12_plan_62 ?_
      refine g_X12_planned (pc := 63) ok dX12_plan_63 kw908 rfl ?_
      refine Z_iret (pc := 66) ok okr dX12_plan_66 ?_
      exact ⟨_, rfl, rfl, Or.inr (Or.inr ⟨h, by omega, by rw [sz_eq, uz_eq], rfl⟩)⟩
    · refine Z_bipush (pc := 23) ok dX12_plan_23 (by decide) ?_
      refine Z_iret (pc := 25) ok okr dX12_plan_25 ?_
      exact ⟨_, rfl, rfl, Or.inr (Or.inl ⟨h, h2, rfl, rfl⟩)⟩
  · refine Z_iconst (pc := 12) ok dX12_plan_12 ?_
    refine Z_iret (pc := 13) ok okr dX12_plan_13 ?_
    exact ⟨_, rfl, rfl, Or.inl ⟨h, rfl, rfl⟩⟩
theorem m_unplan : K_X12_unplan l G [zr G 121] I J (pR (some (zi (I 121 3))) (sz I 121 (uz (I 121) 3 0)) J) := by
  refine Cz.of rfl (Nat.le_of_ble_eq_true rfl) [some (zr G 121), none] rfl (fun E ok okr hE => ?_)
  refine Z_aload0 (pc := 0) ok dX12_unplan_0 ?_
  refine g_X12_planned (pc := 1) ok dX12_unplan_1 kw908 rfl ?_
  refine Z_istore1 (pc := 4) ok (by decide) dX12_unplan_4 rfl ?_
  refine Z_aload0 (pc := 5) ok dX12_unplan_5 ?_
  refine Z_iconst (pc := 6) ok dX12_unplan_6 ?_
  refine p_X12_planned (pc := 7) ok dX12_unplan_7 kw908 rfl ?_
  refine Z_iload1 (pc := 10) ok dX12_unplan_10 ?_
  refine Z_iret (pc := 11) ok okr dX12_unplan_11 ?_
  exact ⟨rfl, rfl, rfl⟩
theorem m_where {e : Int} (he : -2147483648 ≤ e ∧ e ≤ 2147483647) (h1 : gR (I 121 0) (I 122)) (hp : mPl I) : K_X12_where l G [zr G 121, zi e] I J (fun w I' J' => ∃ r, w = some (zi r) ∧ (I' = I ∧ J' = J ∧ ((¬ (0 ≤ e ∧ e < I 121 0) ∧ r = -1) ∨ ((0 ≤ e ∧ e < I 121 0) ∧ r = whF (fun k => I 123 (2 * k)) (fun k => I 123 (2 * k + 1)) (I 121 0) e (I 121 3).toNat)))) := by
  have hn := h1.1
  have h0 := hp.1
  refine Cz.of rfl (Nat.le_of_ble_eq_true rfl) [some (zr G 121), some (zi e), none, none] rfl (fun E ok okr hE => ?_)
  refine Z_aload0 (pc := 0) ok dX12_where_0 ?_
  refine Z_iload1 (pc := 1) ok dX12_where_1 ?_
  refine Z_callVId (pc := 2) ok dX12_where_2 cw_X12_105 rfl rfl (by decide) (m_isRoot he hn) rfl rfl (by first | decide | omega) (Nat.le_of_ble_eq_true rfl) ?_
  refine Z_if_neB (pc := 5) (tgt := 10) ok dX12_where_5 rfl (fun h => ?_) (fun h => ?_)
  · refine Z_iload1 (pc := 10) ok dX12_where_10 ?_
    refine Z_istore2 (pc := 11) ok (by decide) dX12_where_11 rfl ?_
    refine Z_iconst (pc := 12) ok dX12_where_12 ?_
    refine Z_istore3 (pc := 13) ok (by decide) dX12_where_13 rfl ?_
    have H : ∀ i : Int, 0 ≤ i → i ≤ I 121 3 → (0 ≤ whF (fun k => I 123 (2 * k)) (fun k => I 123 (2 * k + 1)) (I 121 0) e i.toNat ∧ whF (fun k => I 123 (2 * k)) (fun k => I 123 (2 * k + 1)) (I 121 0) e i.toNat < I 121 0) → Xz E G I J 14 [some (zr G 121), some (zi e), some (zi (whF (fun k => I 123 (2 * k)) (fun k => I 123 (2 * k + 1)) (I 121 0) e i.toNat)), some (zi i)] [] := by
      refine zUp ?_ ?_
      · intro hb
        refine Z_iload3 (pc := 14) ok dX12_where_14 ?_
        refine Z_aload0 (pc := 15) ok dX12_where_15 ?_
        refine g_X12_planned (pc := 16) ok dX12_where_16 kw908 rfl ?_
        refine Z_icmp_ge (pc := 19) (tgt := 81) ok dX12_where_19 rfl (by first | omega | (simp [sz, uz] <;> omega)) (by first | omega | (simp [sz, uz] <;> omega)) (fun _ => ?_) (fun h => by exfalso; omega)
        refine Z_iload2 (pc := 81) ok dX12_where_81 ?_
        refine Z_iret (pc := 82) ok okr dX12_where_82 ?_
        exact ⟨_, rfl, rfl, rfl, Or.inr ⟨by omega, rfl⟩⟩
      · intro i i0 i1 ih hb
        obtain ⟨k1, k2⟩ := hp.2 i i0 i1
        rw [show (i + 1).toNat = i.toNat + 1 by omega, whF, show ((i.toNat : Nat) : Int) = i by omega] at ih
        refine Z_iload3 (pc := 14) ok dX12_where_14 ?_
        refine Z_aload0 (pc := 15) ok dX12_where_15 ?_
        refine g_X12_planned (pc := 16) ok dX12_where_16 kw908 rfl ?_
        refine Z_icmp_ge (pc := 19) (tgt := 81) ok dX12_where_19 rfl (by first | omega | (simp [sz, uz] <;> omega)) (by first | omega | (simp [sz, uz] <;> omega)) (fun h => by exfalso; omega) (fun _ => ?_)
        refine Z_aload0 (pc := 22) ok dX12_where_22 ?_
        refine Z_aload0 (pc := 23) ok dX12_where_23 ?_
        refine g_X12_plan (pc := 24) (t := 123) ok dX12_where_24 kw907 rfl rfl ?_
        refine Z_iconst (pc := 27) ok dX12_where_27 ?_
        refine Z_iload3 (pc := 28) ok dX12_where_28 ?_
        refine Z_imul (pc := 29) ok dX12_where_29 ?_
        refine Z_iald (pc := 30) (L := 16) ok dX12_where_30 rfl rfl (by first | omega | (simp [sz, uz] <;> omega)) ?_
        refine Z_aload0 (pc := 31) ok dX12_where_31 ?_
        refine g_X12_plan (pc := 32) (t := 123) ok dX12_where_32 kw907 rfl rfl ?_
        refine Z_iconst (pc := 35) ok dX12_where_35 ?_
        refine Z_iload3 (pc := 36) ok dX12_where_36 ?_
        refine Z_imul (pc := 37) ok dX12_where_37 ?_
        refine Z_iconst (pc := 38) ok dX12_where_38 ?_
        refine Z_iadd (pc := 39) ok dX12_where_39 ?_
        refine Z_iald (pc := 40) (L := 16) ok dX12_where_40 rfl rfl (by first | omega | (simp [sz, uz] <;> omega)) ?_
        refine Z_callVId (pc := 41) ok dX12_where_41 cw_X12_181 rfl rfl (by decide) (m_can k1 k2 hn) rfl rfl (by first | decide | omega) (Nat.le_of_ble_eq_true rfl) ?_
        refine Z_if_eqB (pc := 44) (tgt := 73) ok dX12_where_44 rfl (fun h2 => ?_) (fun h2 => ?_)
        · refine Z_iload2 (pc := 73) ok dX12_where_73 ?_
          refine Z_istore2 (pc := 74) ok (by decide) dX12_where_74 rfl ?_
          refine Z_iinc3 (pc := 75) ok (by decide) dX12_where_75 rfl ?_
          refine Z_goto (pc := 78) (tgt := 14) ok dX12_where_78 rfl ?_
          rw [if_neg h2] at ih
          exact ih hb
        · rw [if_pos h2] at ih
          have hv2 : I 123 (2 * i) = 1 ∨ I 123 (2 * i) = 3 → 0 ≤ I 123 (2 * i + 1) ∧ I 123 (2 * i + 1) ≤ 99 := by
            rintro (q | q)
            · have := (h2.1 q).1; omega
            · have := (h2.2 q).1; have := (h2.2 q).2.1; omega
          refine Z_aload0 (pc := 47) ok dX12_where_47 ?_
          refine Z_aload0 (pc := 48) ok dX12_where_48 ?_
          refine g_X12_plan (pc := 49) (t := 123) ok dX12_where_49 kw907 rfl rfl ?_
          refine Z_iconst (pc := 52) ok dX12_where_52 ?_
          refine Z_iload3 (pc := 53) ok dX12_where_53 ?_
          refine Z_imul (pc := 54) ok dX12_where_54 ?_
          refine Z_iald (pc := 55) (L := 16) ok dX12_where_55 rfl rfl (by first | omega | (simp [sz, uz] <;> omega)) ?_
          refine Z_aload0 (pc := 56) ok dX12_where_56 ?_
          refine g_X12_plan (pc := 57) (t := 123) ok dX12_where_57 kw907 rfl rfl ?_
          refine Z_iconst (pc := 60) ok dX12_where_60 ?_
          refine Z_iload3 (pc := 61) ok dX12_where_61 ?_
          refine Z_imul (pc := 62) ok dX12_where_62 ?_
          refine Z_iconst (pc := 63) ok dX12_where_63 ?_
          refine Z_iadd (pc := 64) ok dX12_where_64 ?_
          refine Z_iald (pc := 65) (L := 16) ok dX12_where_65 rfl rfl (by first | omega | (simp [sz, uz] <;> omega)) ?_
          refine Z_iload2 (pc := 66) ok dX12_where_66 ?_
          refine Z_callVId (pc := 67) ok dX12_where_67 cw_X12_173 rfl rfl (by decide) (m_comesTo k1 k2 hv2 hn hb) rfl rfl (by first | decide | omega) (Nat.le_of_ble_eq_true rfl) ?_
          refine Z_goto (pc := 70) (tgt := 74) ok dX12_where_70 rfl ?_
          refine Z_istore2 (pc := 74) ok (by decide) dX12_where_74 rfl ?_
          refine Z_iinc3 (pc := 75) ok (by decide) dX12_where_75 rfl ?_
          refine Z_goto (pc := 78) (tgt := 14) ok dX12_where_78 rfl ?_
          exact ih (mv_b _ _ _ (by omega))
    exact H 0 (by omega) (by omega) (by show 0 ≤ e ∧ e < I 121 0; omega)
  · refine Z_iconst (pc := 8) ok dX12_where_8 ?_
    refine Z_iret (pc := 9) ok okr dX12_where_9 ?_
    exact ⟨_, rfl, rfl, rfl, Or.inl ⟨by omega, rfl⟩⟩
theorem m_run (h1 : gR (I 121 0) (I 122)) (hp : mPl I) : K_X12_run l G [zr G 121] I J (fun w I' J' => ∃ r, w = some (zi r) ∧ (fr [122, 135] I I' ∧ J' = J ∧ I' 122 = rnR (fun k => I 123 (2 * k)) (fun k => I 123 (2 * k + 1)) (I 121 0) (I 122) (I 121 3).toNat ∧ r = su (fun k => zb (rnP (I 123 (2 * k)) (I 123 (2 * k + 1)) (I 121 0) (rnR (fun k => I 123 (2 * k)) (fun k => I 123 (2 * k + 1)) (I 121 0) (I 122) k.toNat))) (I 121 3))) := by
  have h0 := hp.1
  refine Cz.of rfl (Nat.le_of_ble_eq_true rfl) [some (zr G 121), none, none] rfl (fun E ok okr hE => ?_)
  refine Z_iconst (pc := 0) ok dX12_run_0 ?_
  refine Z_istore1 (pc := 1) ok (by decide) dX12_run_1 rfl ?_
  refine Z_iconst (pc := 2) ok dX12_run_2 ?_
  refine Z_istore2 (pc := 3) ok (by decide) dX12_run_3 rfl ?_
  have H : ∀ i : Int, 0 ≤ i → i ≤ I 121 3 → ∀ I1 : Mz, fr [122, 135] I I1 → I1 122 = rnR (fun k => I 123 (2 * k)) (fun k => I 123 (2 * k + 1)) (I 121 0) (I 122) i.toNat → Xz E G I1 J 4 [some (zr G 121), some (zi (su (fun k => zb (rnP (I 123 (2 * k)) (I 123 (2 * k + 1)) (I 121 0) (rnR (fun k => I 123 (2 * k)) (fun k => I 123 (2 * k + 1)) (I 121 0) (I 122) k.toNat))) i)), some (zi i)] [] := by
    refine zUp ?_ ?_
    · intro I1 f1 f3
      have e4 : I1 121 3 = I 121 3 := by rw [f1.at 121 rfl]
      refine Z_iload2 (pc := 4) ok dX12_run_4 ?_
      refine Z_aload0 (pc := 5) ok dX12_run_5 ?_
      refine g_X12_planned (pc := 6) ok dX12_run_6 kw908 rfl ?_
      refine Z_icmp_ge (pc := 9) (tgt := 76) ok dX12_run_9 rfl (by first | omega | (simp [sz, uz] <;> omega)) (by first | omega | (simp [sz, uz] <;> omega)) (fun _ => ?_) (fun h => by exfalso; omega)
      refine Z_iload1 (pc := 76) ok dX12_run_76 ?_
      refine Z_iret (pc := 77) ok okr dX12_run_77 ?_
      exact ⟨_, rfl, f1, rfl, f3, rfl⟩
    · intro i i0 i1 ih I1 f1 f3
      obtain ⟨k1, k2⟩ := hp.2 i i0 i1
      have e4 : I1 121 3 = I 121 3 := by rw [f1.at 121 rfl]
      have e5 : I1 123 = I 123 := f1.at 123 rfl
      have e2 : I1 121 0 = I 121 0 := by rw [f1.at 121 rfl]
      rw [← e5] at k1 k2
      have hg := rnR_g (K := fun k => I 123 (2 * k)) (V := fun k => I 123 (2 * k + 1)) h1 i.toNat
      rw [su_s _ i0, show (i + 1).toNat = i.toNat + 1 by omega, rnR, show ((i.toNat : Nat) : Int) = i by omega] at ih
      refine Z_iload2 (pc := 4) ok dX12_run_4 ?_
      refine Z_aload0 (pc := 5) ok dX12_run_5 ?_
      refine g_X12_planned (pc := 6) ok dX12_run_6 kw908 rfl ?_
      refine Z_icmp_ge (pc := 9) (tgt := 76) ok dX12_run_9 rfl (by first | omega | (simp [sz, uz] <;> omega)) (by first | omega | (simp [sz, uz] <;> omega)) (fun h => by exfalso; omega) (fun _ => ?_)
      refine Z_iload1 (pc := 12) ok dX12_run_12 ?_
      refine Z_aload0 (pc := 13) ok dX12_run_13 ?_
      refine Z_aload0 (pc := 14) ok dX12_run_14 ?_
      refine g_X12_plan (pc := 15) (t := 123) ok dX12_run_15 kw907 rfl rfl ?_
      refine Z_iconst (pc := 18) ok dX12_run_18 ?_
      refine Z_iload2 (pc := 19) ok dX12_run_19 ?_
      refine Z_imul (pc := 20) ok dX12_run_20 ?_
      refine Z_iald (pc := 21) (L := 16) ok dX12_run_21 rfl rfl (by first | omega | (simp [sz, uz] <;> omega)) ?_
      refine Z_aload0 (pc := 22) ok dX12_run_22 ?_
      refine g_X12_plan (pc := 23) (t := 123) ok dX12_run_23 kw907 rfl rfl ?_
      refine Z_iconst (pc := 26) ok dX12_run_26 ?_
      refine Z_iload2 (pc := 27) ok dX12_run_27 ?_
      refine Z_imul (pc := 28) ok dX12_run_28 ?_
      refine Z_iconst (pc := 29) ok dX12_run_29 ?_
      refine Z_iadd (pc := 30) ok dX12_run_30 ?_
      refine Z_iald (pc := 31) (L := 16) ok dX12_run_31 rfl rfl (by first | omega | (simp [sz, uz] <;> omega)) ?_
      refine Z_callVId (pc := 32) ok dX12_run_32 cw_X12_181 rfl rfl (by decide) (m_can k1 k2 (by rw [e2]; exact h1.1)) rfl rfl (by first | decide | omega) (Nat.le_of_ble_eq_true rfl) ?_
      refine Z_if_eqB (pc := 35) (tgt := 67) ok dX12_run_35 rfl (fun h => ?_) (fun h => ?_)
      · rw [e2, e5] at h
        have a1 : ¬ rnP (I 123 (2 * i)) (I 123 (2 * i + 1)) (I 121 0) (rnR (fun k => I 123 (2 * k)) (fun k => I 123 (2 * k + 1)) (I 121 0) (I 122) i.toNat) := fun q => h q.1
        rw [zb_f a1, if_neg a1] at ih
        refine Z_iconst (pc := 67) ok dX12_run_67 ?_
        refine Z_iadd (pc := 68) ok dX12_run_68 ?_
        refine Z_istore1 (pc := 69) ok (by decide) dX12_run_69 rfl ?_
        refine Z_iinc2 (pc := 70) ok (by decide) dX12_run_70 rfl ?_
        refine Z_goto (pc := 73) (tgt := 4) ok dX12_run_73 rfl ?_
        exact ih I1 f1 f3
      · have hv2 : I1 123 (2 * i) = 1 ∨ I1 123 (2 * i) = 3 → 0 ≤ I1 123 (2 * i + 1) ∧ I1 123 (2 * i + 1) ≤ 99 := by
          have := h1.1
          rintro (q | q)
          · have := (h.1 q).1; omega
          · have := (h.2 q).1; have := (h.2 q).2.1; omega
        refine Z_aload0 (pc := 38) ok dX12_run_38 ?_
        refine Z_aload0 (pc := 39) ok dX12_run_39 ?_
        refine g_X12_plan (pc := 40) (t := 123) ok dX12_run_40 kw907 rfl rfl ?_
        refine Z_iconst (pc := 43) ok dX12_run_43 ?_
        refine Z_iload2 (pc := 44) ok dX12_run_44 ?_
        refine Z_imul (pc := 45) ok dX12_run_45 ?_
        refine Z_iald (pc := 46) (L := 16) ok dX12_run_46 rfl rfl (by first | omega | (simp [sz, uz] <;> omega)) ?_
        refine Z_aload0 (pc := 47) ok dX12_run_47 ?_
        refine g_X12_plan (pc := 48) (t := 123) ok dX12_run_48 kw907 rfl rfl ?_
        refine Z_iconst (pc := 51) ok dX12_run_51 ?_
        refine Z_iload2 (pc := 52) ok dX12_run_52 ?_
        refine Z_imul (pc := 53) ok dX12_run_53 ?_
        refine Z_iconst (pc := 54) ok dX12_run_54 ?_
        refine Z_iadd (pc := 55) ok dX12_run_55 ?_
        refine Z_iald (pc := 56) (L := 16) ok dX12_run_56 rfl rfl (by first | omega | (simp [sz, uz] <;> omega)) ?_
        refine Z_callVI (pc := 57) ok dX12_run_57 cw_X12_177 rfl rfl (by decide) (m_changes k1 k2 hv2 (by rw [e2, f3]; exact hg)) rfl rfl (by first | decide | omega) (Nat.le_of_ble_eq_true rfl) (fun r I2 J2 q => ?_)
        obtain ⟨q1, rfl, q3⟩ := q
        rw [e2, f3, e5] at q3
        rw [e2, e5] at h
        rcases q3 with ⟨rfl, a1, a2⟩ | ⟨rfl, a1, a2⟩
        · rw [zb_t ⟨h, a1⟩, if_pos ⟨h, a1⟩] at ih
          refine Z_if_eq (pc := 60) (tgt := 67) ok dX12_run_60 rfl (by first | omega | (simp [sz, uz] <;> omega)) (fun h => by exfalso; omega) (fun _ => ?_)
          refine Z_iconst (pc := 63) ok dX12_run_63 ?_
          refine Z_goto (pc := 64) (tgt := 68) ok dX12_run_64 rfl ?_
          refine Z_iadd (pc := 68) ok dX12_run_68 ?_
          refine Z_istore1 (pc := 69) ok (by decide) dX12_run_69 rfl ?_
          refine Z_iinc2 (pc := 70) ok (by decide) dX12_run_70 rfl ?_
          refine Z_goto (pc := 73) (tgt := 4) ok dX12_run_73 rfl ?_
          exact ih I2 (f1.tr q1) a2
        · have a1 : ¬ rnP (I 123 (2 * i)) (I 123 (2 * i + 1)) (I 121 0) (rnR (fun k => I 123 (2 * k)) (fun k => I 123 (2 * k + 1)) (I 121 0) (I 122) i.toNat) := fun q => a1 q.2
          rw [zb_f a1, if_neg a1] at ih
          refine Z_if_eq (pc := 60) (tgt := 67) ok dX12_run_60 rfl (by first | omega | (simp [sz, uz] <;> omega)) (fun _ => ?_) (fun h => by exfalso; omega)
          refine Z_iconst (pc := 67) ok dX12_run_67 ?_
          refine Z_iadd (pc := 68) ok dX12_run_68 ?_
          refine Z_istore1 (pc := 69) ok (by decide) dX12_run_69 rfl ?_
          refine Z_iinc2 (pc := 70) ok (by decide) dX12_run_70 rfl ?_
          refine Z_goto (pc := 73) (tgt := 4) ok dX12_run_73 rfl ?_
          exact ih I2 (f1.tr q1) a2
  exact H 0 (by omega) (by omega) I fr.rf rfl
theorem m_isShelf {a : Int} (ha : -2147483648 ≤ a ∧ a ≤ 2147483647) : K_X12_isShelf l G [zi a] I J (pR (some (zi (zb (0 ≤ a ∧ a ≤ 1)))) I J) := by
  refine Cz.of rfl (Nat.le_of_ble_eq_true rfl) [some (zi a)] rfl (fun E ok okr hE => ?_)
  refine Z_iload0 (pc := 0) ok dX12_isShelf_0 ?_
  refine Z_i2l (pc := 1) ok dX12_isShelf_1 (by first | omega | (simp [sz, uz] <;> omega)) ?_
  refine Z_lconst (pc := 2) (z := 0) ok dX12_isShelf_2 (by decide) ?_
  refine Z_lconst (pc := 3) (z := 1) ok dX12_isShelf_3 (by decide) ?_
  refine Z_callSId (pc := 4) ok dX12_isShelf_4 cw_X12_97 (m_in (by omega) (by omega) (by omega)) rfl rfl (by first | decide | omega) (Nat.le_of_ble_eq_true rfl) ?_
  refine Z_bret (pc := 7) ok okr dX12_isShelf_7 (by first | exact Or.inl rfl | exact Or.inr rfl | exact zb_01 _ | assumption | omega) ?_
  exact ⟨rfl, rfl, rfl⟩
theorem m_isKept {s k : Int} (hs : -2147483648 ≤ s ∧ s ≤ 2147483647) (hk : -2147483648 ≤ k ∧ k ≤ 2147483647) (hh : mK I) : K_X12_isKept l G [zr G 121, zi s, zi k] I J (pR (some (zi (zb ((0 ≤ s ∧ s < 2) ∧ (0 ≤ k ∧ k < I 124 s))))) I J) := by
  refine Cz.of rfl (Nat.le_of_ble_eq_true rfl) [some (zr G 121), some (zi s), some (zi k)] rfl (fun E ok okr hE => ?_)
  refine Z_iload1 (pc := 0) ok dX12_isKept_0 ?_
  refine Z_callSId (pc := 1) ok dX12_isKept_1 cw_X12_230 (m_isShelf hs) rfl rfl (by first | decide | omega) (Nat.le_of_ble_eq_true rfl) ?_
  refine Z_if_eqB (pc := 4) (tgt := 29) ok dX12_isKept_4 rfl (fun h => ?_) (fun h => ?_)
  · refine Z_iconst (pc := 29) ok dX12_isKept_29 ?_
    refine Z_bret (pc := 30) ok okr dX12_isKept_30 (by first | exact Or.inl rfl | exact Or.inr rfl | exact zb_01 _ | assumption | omega) ?_
    exact ⟨by rw [zb_f (fun q => h (by omega))], rfl, rfl⟩
  · have hb := (hh s (by omega) (by omega)).1
    refine Z_iload2 (pc := 7) ok dX12_isKept_7 ?_
    refine Z_i2l (pc := 8) ok dX12_isKept_8 (by first | omega | (simp [sz, uz] <;> omega)) ?_
    refine Z_lconst (pc := 9) (z := 0) ok dX12_isKept_9 (by decide) ?_
    refine Z_aload0 (pc := 10) ok dX12_isKept_10 ?_
    refine g_X12_keptMany (pc := 11) (t := 124) ok dX12_isKept_11 kw909 rfl rfl ?_
    refine Z_iload1 (pc := 14) ok dX12_isKept_14 ?_
    refine Z_iald (pc := 15) (L := 2) ok dX12_isKept_15 rfl rfl (by first | omega | (simp [sz, uz] <;> omega)) ?_
    refine Z_iconst (pc := 16) ok dX12_isKept_16 ?_
    refine Z_isub (pc := 17) ok dX12_isKept_17 ?_
    refine Z_i2l (pc := 18) ok dX12_isKept_18 (by first | omega | (simp [sz, uz] <;> omega)) ?_
    refine Z_callSId (pc := 19) ok dX12_isKept_19 cw_X12_97 (m_in (by omega) (by omega) (by omega)) rfl rfl (by first | decide | omega) (Nat.le_of_ble_eq_true rfl) ?_
    refine Z_if_eqB (pc := 22) (tgt := 29) ok dX12_isKept_22 rfl (fun h2 => ?_) (fun h2 => ?_)
    · refine Z_iconst (pc := 29) ok dX12_isKept_29 ?_
      refine Z_bret (pc := 30) ok okr dX12_isKept_30 (by first | exact Or.inl rfl | exact Or.inr rfl | exact zb_01 _ | assumption | omega) ?_
      exact ⟨by rw [zb_f (fun q => h2 (by omega))], rfl, rfl⟩
    · refine Z_iconst (pc := 25) ok dX12_isKept_25 ?_
      refine Z_goto (pc := 26) (tgt := 30) ok dX12_isKept_26 rfl ?_
      refine Z_bret (pc := 30) ok okr dX12_isKept_30 (by first | exact Or.inl rfl | exact Or.inr rfl | exact zb_01 _ | assumption | omega) ?_
      exact ⟨by rw [zb_t ⟨by omega, by omega⟩], rfl, rfl⟩
theorem m_place {s k : Int} : K_X12_place l G [zi s, zi k] I J (pR (some (zi (31 * (8 * s + k)))) I J) := by
  refine Cz.of rfl (Nat.le_of_ble_eq_true rfl) [some (zi s), some (zi k)] rfl (fun E ok okr hE => ?_)
  refine Z_bipush (pc := 0) ok dX12_place_0 (by decide) ?_
  refine Z_bipush (pc := 2) ok dX12_place_2 (by decide) ?_
  refine Z_iload0 (pc := 4) ok dX12_place_4 ?_
  refine Z_imul (pc := 5) ok dX12_place_5 ?_
  refine Z_iload1 (pc := 6) ok dX12_place_6 ?_
  refine Z_iadd (pc := 7) ok dX12_place_7 ?_
  refine Z_imul (pc := 8) ok dX12_place_8 ?_
  refine Z_iret (pc := 9) ok okr dX12_place_9 ?_
  exact ⟨rfl, rfl, rfl⟩
theorem m_copies {a b : Int} (ha : 0 ≤ a ∧ a + 31 ≤ 496) (hb : 0 ≤ b ∧ b + 31 ≤ 496) (hab : a + 31 ≤ b ∨ b + 31 ≤ a) : K_X12_copies l G [zr G 121, zi a, zi b] I J (pR none (sz I 125 (cpN (I 125) a b 31)) J) := by
  refine Cz.of rfl (Nat.le_of_ble_eq_true rfl) [some (zr G 121), some (zi a), some (zi b), none] rfl (fun E ok okr hE => ?_)
  refine Z_iconst (pc := 0) ok dX12_copies_0 ?_
  refine Z_istore3 (pc := 1) ok (by decide) dX12_copies_1 rfl ?_
  have H : ∀ i : Int, 0 ≤ i → i ≤ 31 → Xz E G (sz I 125 (cpN (I 125) a b i)) J 2 [some (zr G 121), some (zi a), some (zi b), some (zi i)] [] := by
    refine zUp ?_ ?_
    · refine Z_iload3 (pc := 2) ok dX12_copies_2 ?_
      refine Z_bipush (pc := 3) ok dX12_copies_3 (by decide) ?_
      refine Z_icmp_ge (pc := 5) (tgt := 30) ok dX12_copies_5 rfl (by first | omega | (simp [sz, uz] <;> omega)) (by first | omega | (simp [sz, uz] <;> omega)) (fun _ => ?_) (fun h => by exfalso; omega)
      refine Z_vret (pc := 30) ok okr dX12_copies_30 ?_
      exact ⟨rfl, rfl, rfl⟩
    · intro i i0 i1 ih
      refine Z_iload3 (pc := 2) ok dX12_copies_2 ?_
      refine Z_bipush (pc := 3) ok dX12_copies_3 (by decide) ?_
      refine Z_icmp_ge (pc := 5) (tgt := 30) ok dX12_copies_5 rfl (by first | omega | (simp [sz, uz] <;> omega)) (by first | omega | (simp [sz, uz] <;> omega)) (fun h => by exfalso; omega) (fun _ => ?_)
      refine Z_aload0 (pc := 8) ok dX12_copies_8 ?_
      refine g_X12_kept (pc := 9) (t := 125) ok dX12_copies_9 kw910 rfl rfl ?_
      refine Z_iload2 (pc := 12) ok dX12_copies_12 ?_
      refine Z_iload3 (pc := 13) ok dX12_copies_13 ?_
      refine Z_iadd (pc := 14) ok dX12_copies_14 ?_
      refine Z_aload0 (pc := 15) ok dX12_copies_15 ?_
      refine g_X12_kept (pc := 16) (t := 125) ok dX12_copies_16 kw910 rfl rfl ?_
      refine Z_iload1 (pc := 19) ok dX12_copies_19 ?_
      refine Z_iload3 (pc := 20) ok dX12_copies_20 ?_
      refine Z_iadd (pc := 21) ok dX12_copies_21 ?_
      refine Z_iald (pc := 22) (L := 496) ok dX12_copies_22 rfl rfl (by first | omega | (simp [sz, uz] <;> omega)) ?_
      refine Z_iast (pc := 23) (L := 496) ok dX12_copies_23 rfl rfl (by first | omega | (simp [sz, uz] <;> omega)) ?_
      refine Z_iinc3 (pc := 24) ok (by decide) dX12_copies_24 rfl ?_
      refine Z_goto (pc := 27) (tgt := 2) ok dX12_copies_27 rfl ?_
      rw [sz_sz, sz_eq, cpN_s ⟨i0, i1⟩ hab]
      exact ih
  have h0 := H 0 (by omega) (by omega)
  rw [cpN_0, sz_self] at h0
  exact h0
theorem m_keep {s : Int} (hs : -2147483648 ≤ s ∧ s ≤ 2147483647) (h1 : gR (I 121 0) (I 122)) (hh : mK I) : K_X12_keep l G [zr G 121, zi s] I J (fun w I' J' => ∃ r, w = some (zi r) ∧ (J' = J ∧ ((¬ (0 ≤ s ∧ s < 2) ∧ r = -1 ∧ I' = I) ∨ ((0 ≤ s ∧ s < 2) ∧ I 124 s = 8 ∧ r = -4 ∧ I' = I) ∨ ((0 ≤ s ∧ s < 2) ∧ I 124 s < 8 ∧ r = I 124 s ∧ fr [124, 125] I I' ∧ I' 124 = uz (I 124) s (I 124 s + 1) ∧ I' 125 (31 * (8 * s + I 124 s)) = I 121 0 ∧ (∀ e, 0 ≤ e → e < 30 → I' 125 (31 * (8 * s + I 124 s) + 1 + e) = I 122 e) ∧ (∀ x, x < 31 * (8 * s + I 124 s) ∨ 31 * (8 * s + I 124 s) + 31 ≤ x → I' 125 x = I 125 x))))) := by
  have hn := h1.1
  refine Cz.of rfl (Nat.le_of_ble_eq_true rfl) [some (zr G 121), some (zi s), none, none] rfl (fun E ok okr hE => ?_)
  refine Z_iload1 (pc := 0) ok dX12_keep_0 ?_
  refine Z_callSId (pc := 1) ok dX12_keep_1 cw_X12_230 (m_isShelf hs) rfl rfl (by first | decide | omega) (Nat.le_of_ble_eq_true rfl) ?_
  refine Z_if_neB (pc := 4) (tgt := 9) ok dX12_keep_4 rfl (fun h => ?_) (fun h => ?_)
  · have hb := (hh s (by omega) (by omega)).1
    refine Z_aload0 (pc := 9) ok dX12_keep_9 ?_
    refine g_X12_keptMany (pc := 10) (t := 124) ok dX12_keep_10 kw909 rfl rfl ?_
    refine Z_iload1 (pc := 13) ok dX12_keep_13 ?_
    refine Z_iald (pc := 14) (L := 2) ok dX12_keep_14 rfl rfl (by first | omega | (simp [sz, uz] <;> omega)) ?_
    refine Z_bipush (pc := 15) ok dX12_keep_15 (by decide) ?_
    refine Z_icmp_ne (pc := 17) (tgt := 23) ok dX12_keep_17 rfl (by first | omega | (simp [sz, uz] <;> omega)) (by first | omega | (simp [sz, uz] <;> omega)) (fun h2 => ?_) (fun h2 => ?_)
    · refine Z_iload1 (pc := 23) ok dX12_keep_23 ?_
      refine Z_aload0 (pc := 24) ok dX12_keep_24 ?_
      refine g_X12_keptMany (pc := 25) (t := 124) ok dX12_keep_25 kw909 rfl rfl ?_
      refine Z_iload1 (pc := 28) ok dX12_keep_28 ?_
      refine Z_iald (pc := 29) (L := 2) ok dX12_keep_29 rfl rfl (by first | omega | (simp [sz, uz] <;> omega)) ?_
      refine Z_callSId (pc := 30) ok dX12_keep_30 cw_X12_233 (m_place) rfl rfl (by first | decide | omega) (Nat.le_of_ble_eq_true rfl) ?_
      refine Z_istore2 (pc := 33) ok (by decide) dX12_keep_33 rfl ?_
      refine Z_aload0 (pc := 34) ok dX12_keep_34 ?_
      refine g_X12_kept (pc := 35) (t := 125) ok dX12_keep_35 kw910 rfl rfl ?_
      refine Z_iload2 (pc := 38) ok dX12_keep_38 ?_
      refine Z_aload0 (pc := 39) ok dX12_keep_39 ?_
      refine g_X12_n (pc := 40) ok dX12_keep_40 kw905 rfl ?_
      refine Z_iast (pc := 43) (L := 496) ok dX12_keep_43 rfl rfl (by first | omega | (simp [sz, uz] <;> omega)) ?_
      refine Z_iconst (pc := 44) ok dX12_keep_44 ?_
      refine Z_istore3 (pc := 45) ok (by decide) dX12_keep_45 rfl ?_
      have H : ∀ e : Int, 0 ≤ e → e ≤ 30 → ∀ f : Int → Int, f (31 * (8 * s + I 124 s)) = I 121 0 → (∀ j, 0 ≤ j → j < e → f (31 * (8 * s + I 124 s) + 1 + j) = I 122 j) → (∀ x, x < 31 * (8 * s + I 124 s) ∨ 31 * (8 * s + I 124 s) + 31 ≤ x → f x = I 125 x) → Xz E G (sz I 125 f) J 46 [some (zr G 121), some (zi s), some (zi (31 * (8 * s + I 124 s))), some (zi e)] [] := by
        refine zUp ?_ ?_
        · intro f f0 f1 f2
          have z : sz I 125 f 124 = I 124 := sz_ne _ _ (by decide)
          refine Z_iload3 (pc := 46) ok dX12_keep_46 ?_
          refine Z_bipush (pc := 47) ok dX12_keep_47 (by decide) ?_
          refine Z_icmp_ge (pc := 49) (tgt := 86) ok dX12_keep_49 rfl (by first | omega | (simp [sz, uz] <;> omega)) (by first | omega | (simp [sz, uz] <;> omega)) (fun _ => ?_) (fun h => by exfalso; omega)
          refine Z_aload0 (pc := 86) ok dX12_keep_86 ?_
          refine g_X12_keptMany (pc := 87) (t := 124) ok dX12_keep_87 kw909 rfl rfl ?_
          refine Z_iload1 (pc := 90) ok dX12_keep_90 ?_
          refine Z_dup2 (pc := 91) ok dX12_keep_91 rfl rfl ?_
          refine Z_iald (pc := 92) (L := 2) ok dX12_keep_92 rfl rfl (by first | omega | (simp [sz, uz] <;> omega)) ?_
          refine Z_iconst (pc := 93) ok dX12_keep_93 ?_
          refine Z_iadd (pc := 94) ok dX12_keep_94 ?_
          refine Z_iast (pc := 95) (L := 2) ok dX12_keep_95 rfl rfl (by first | omega | (simp [sz, uz] <;> omega)) ?_
          refine Z_aload0 (pc := 96) ok dX12_keep_96 ?_
          refine g_X12_keptMany (pc := 97) (t := 124) ok dX12_keep_97 kw909 rfl rfl ?_
          refine Z_iload1 (pc := 100) ok dX12_keep_100 ?_
          rw [z]
          refine Z_iald (pc := 101) (L := 2) ok dX12_keep_101 rfl rfl (by first | omega | (simp [sz, uz] <;> omega)) ?_
          rw [sz_eq, uz_eq]
          refine Z_iconst (pc := 102) ok dX12_keep_102 ?_
          refine Z_isub (pc := 103) ok dX12_keep_103 ?_
          refine Z_iret (pc := 104) ok okr dX12_keep_104 ?_
          refine ⟨_, rfl, rfl, Or.inr (Or.inr ⟨by omega, by omega, by omega, (fr.rf.st rfl).st rfl, ?_, ?_, ?_, ?_⟩)⟩
          · rw [sz_eq]
          · rw [sz_ne _ _ (by decide), sz_eq]; exact f0
          · rw [sz_ne _ _ (by decide), sz_eq]; exact f1
          · rw [sz_ne _ _ (by decide), sz_eq]; exact f2
        · intro e e0 e1 ih f f0 f1 f2
          have z : sz I 125 f 122 = I 122 := sz_ne _ _ (by decide)
          have z0 : sz I 125 f 121 0 = I 121 0 := by rw [sz_ne _ _ (by decide)]
          have nx : ∀ v, v = I 122 e → ∀ j, 0 ≤ j → j < e + 1 → uz f (31 * (8 * s + I 124 s) + 1 + e) v (31 * (8 * s + I 124 s) + 1 + j) = I 122 j := fun v hv j a b => by
            by_cases q : j = e
            · rw [q, uz_eq, hv]
            · rw [uz_ne _ _ (by omega)]; exact f1 j a (by omega)
          refine Z_iload3 (pc := 46) ok dX12_keep_46 ?_
          refine Z_bipush (pc := 47) ok dX12_keep_47 (by decide) ?_
          refine Z_icmp_ge (pc := 49) (tgt := 86) ok dX12_keep_49 rfl (by first | omega | (simp [sz, uz] <;> omega)) (by first | omega | (simp [sz, uz] <;> omega)) (fun h => by exfalso; omega) (fun _ => ?_)
          refine Z_aload0 (pc := 52) ok dX12_keep_52 ?_
          refine g_X12_kept (pc := 53) (t := 125) ok dX12_keep_53 kw910 rfl rfl ?_
          refine Z_iload2 (pc := 56) ok dX12_keep_56 ?_
          refine Z_iconst (pc := 57) ok dX12_keep_57 ?_
          refine Z_iadd (pc := 58) ok dX12_keep_58 ?_
          refine Z_iload3 (pc := 59) ok dX12_keep_59 ?_
          refine Z_iadd (pc := 60) ok dX12_keep_60 ?_
          refine Z_iload3 (pc := 61) ok dX12_keep_61 ?_
          refine Z_aload0 (pc := 62) ok dX12_keep_62 ?_
          refine g_X12_n (pc := 63) ok dX12_keep_63 kw905 rfl ?_
          refine Z_icmp_ge (pc := 66) (tgt := 78) ok dX12_keep_66 rfl (by first | omega | (simp [sz, uz] <;> omega)) (by first | omega | (simp [sz, uz] <;> omega)) (fun h3 => ?_) (fun h3 => ?_)
          · refine Z_iconst (pc := 78) ok dX12_keep_78 ?_
            refine Z_iast (pc := 79) (L := 496) ok dX12_keep_79 rfl rfl (by first | omega | (simp [sz, uz] <;> omega)) ?_
            refine Z_iinc3 (pc := 80) ok (by decide) dX12_keep_80 rfl ?_
            refine Z_goto (pc := 83) (tgt := 46) ok dX12_keep_83 rfl ?_
            rw [sz_sz, sz_eq]
            exact ih _ (by rw [uz_ne _ _ (by omega)]; exact f0) (nx _ (by rw [h1.2.2 e (by omega)])) (fun x hx => by rw [uz_ne _ _ (by omega)]; exact f2 x hx)
          · refine Z_aload0 (pc := 69) ok dX12_keep_69 ?_
            refine g_X12_row (pc := 70) (t := 122) ok dX12_keep_70 kw906 rfl rfl ?_
            refine Z_iload3 (pc := 73) ok dX12_keep_73 ?_
            refine Z_iald (pc := 74) (L := 30) ok dX12_keep_74 rfl rfl (by first | omega | (simp [sz, uz] <;> omega)) ?_
            refine Z_goto (pc := 75) (tgt := 79) ok dX12_keep_75 rfl ?_
            refine Z_iast (pc := 79) (L := 496) ok dX12_keep_79 rfl rfl (by first | omega | (simp [sz, uz] <;> omega)) ?_
            refine Z_iinc3 (pc := 80) ok (by decide) dX12_keep_80 rfl ?_
            refine Z_goto (pc := 83) (tgt := 46) ok dX12_keep_83 rfl ?_
            rw [sz_sz, sz_eq, z]
            exact ih _ (by rw [uz_ne _ _ (by omega)]; exact f0) (nx _ rfl) (fun x hx => by rw [uz_ne _ _ (by omega)]; exact f2 x hx)
      exact H 0 (by omega) (by omega) _ (uz_eq _ _ _) (fun j a b => by omega) (fun x hx => uz_ne _ _ (by omega))
    · refine Z_bipush (pc := 20) ok dX12_keep_20 (by decide) ?_
      refine Z_iret (pc := 22) ok okr dX12_keep_22 ?_
      exact ⟨_, rfl, rfl, Or.inr (Or.inl ⟨by omega, h2, rfl, rfl⟩)⟩
  · refine Z_iconst (pc := 7) ok dX12_keep_7 ?_
    refine Z_iret (pc := 8) ok okr dX12_keep_8 ?_
    exact ⟨_, rfl, rfl, Or.inl ⟨by omega, rfl, rfl⟩⟩
theorem m_lay {s k : Int} (hs : -2147483648 ≤ s ∧ s ≤ 2147483647) (hk : -2147483648 ≤ k ∧ k ≤ 2147483647) (hh : mK I) : K_X12_lay l G [zr G 121, zi s, zi k] I J (fun w I' J' => ∃ r, w = some (zi r) ∧ (J' = J ∧ ((¬ ((0 ≤ s ∧ s < 2) ∧ (0 ≤ k ∧ k < I 124 s)) ∧ r = -1 ∧ I' = I) ∨ (((0 ≤ s ∧ s < 2) ∧ (0 ≤ k ∧ k < I 124 s)) ∧ r = su (kR (I 125) s k) (I 125 (31 * (8 * s + k))) ∧ I' = sz (sz I 121 (uz (I 121) 0 (I 125 (31 * (8 * s + k))))) 122 (kR (I 125) s k))))) := by
  refine Cz.of rfl (Nat.le_of_ble_eq_true rfl) [some (zr G 121), some (zi s), some (zi k), none, none] rfl (fun E ok okr hE => ?_)
  refine Z_aload0 (pc := 0) ok dX12_lay_0 ?_
  refine Z_iload1 (pc := 1) ok dX12_lay_1 ?_
  refine Z_iload2 (pc := 2) ok dX12_lay_2 ?_
  refine Z_callVId (pc := 3) ok dX12_lay_3 cw_X12_236 rfl rfl (by decide) (m_isKept hs hk hh) rfl rfl (by first | decide | omega) (Nat.le_of_ble_eq_true rfl) ?_
  refine Z_if_neB (pc := 6) (tgt := 11) ok dX12_lay_6 rfl (fun h => ?_) (fun h => ?_)
  · have hb := hh s h.1.1 h.1.2
    have hg := hb.2 k h.2.1 h.2.2
    have hn := hg.1
    refine Z_iload1 (pc := 11) ok dX12_lay_11 ?_
    refine Z_iload2 (pc := 12) ok dX12_lay_12 ?_
    refine Z_callSId (pc := 13) ok dX12_lay_13 cw_X12_233 (m_place) rfl rfl (by first | decide | omega) (Nat.le_of_ble_eq_true rfl) ?_
    refine Z_istore3 (pc := 16) ok (by decide) dX12_lay_16 rfl ?_
    refine Z_aload0 (pc := 17) ok dX12_lay_17 ?_
    refine Z_aload0 (pc := 18) ok dX12_lay_18 ?_
    refine g_X12_kept (pc := 19) (t := 125) ok dX12_lay_19 kw910 rfl rfl ?_
    refine Z_iload3 (pc := 22) ok dX12_lay_22 ?_
    refine Z_iald (pc := 23) (L := 496) ok dX12_lay_23 rfl rfl (by first | omega | (simp [sz, uz] <;> omega)) ?_
    refine p_X12_n (pc := 24) ok dX12_lay_24 kw905 rfl ?_
    refine Z_iconst (pc := 27) ok dX12_lay_27 ?_
    refine Z_istore4 (pc := 28) ok (by decide) dX12_lay_28 rfl ?_
    have H : ∀ e : Int, 0 ≤ e → e ≤ 30 → ∀ f : Int → Int, (∀ j, 0 ≤ j → j < e → f j = kR (I 125) s k j) → Xz E G (sz (sz I 121 (uz (I 121) 0 (I 125 (31 * (8 * s + k))))) 122 f) J 30 [some (zr G 121), some (zi s), some (zi k), some (zi (31 * (8 * s + k))), some (zi e)] [] := by
      refine zUp ?_ ?_
      · intro f f1
        refine Z_ext1 (g := kR (I 125) s k) (by decide) (fun j h0 h1 => f1 j h0 (by have : j < 30 := h1; omega)) ?_
        have z0 : sz (sz I 121 (uz (I 121) 0 (I 125 (31 * (8 * s + k))))) 122 (kR (I 125) s k) 121 0 = I 125 (31 * (8 * s + k)) := by rw [sz_ne _ _ (by decide), sz_eq, uz_eq]
        refine Z_iload4 (pc := 30) ok dX12_lay_30 ?_
        refine Z_bipush (pc := 32) ok dX12_lay_32 (by decide) ?_
        refine Z_icmp_ge (pc := 34) (tgt := 61) ok dX12_lay_34 rfl (by first | omega | (simp [sz, uz] <;> omega)) (by first | omega | (simp [sz, uz] <;> omega)) (fun _ => ?_) (fun h => by exfalso; omega)
        refine Z_aload0 (pc := 61) ok dX12_lay_61 ?_
        refine Z_callVId (pc := 62) ok dX12_lay_62 cw_X12_115 rfl rfl (by decide) (m_weight (by rw [z0]; exact hn)) rfl rfl (by first | decide | omega) (Nat.le_of_ble_eq_true rfl) ?_
        refine Z_iret (pc := 65) ok okr dX12_lay_65 ?_
        refine ⟨_, rfl, rfl, Or.inr ⟨h, ?_, rfl⟩⟩
        rw [sz_eq, z0]
      · intro e e0 e1 ih f f1
        have z : sz (sz I 121 (uz (I 121) 0 (I 125 (31 * (8 * s + k))))) 122 f 125 = I 125 := by rw [sz_ne _ _ (by decide), sz_ne _ _ (by decide)]
        refine Z_iload4 (pc := 30) ok dX12_lay_30 ?_
        refine Z_bipush (pc := 32) ok dX12_lay_32 (by decide) ?_
        refine Z_icmp_ge (pc := 34) (tgt := 61) ok dX12_lay_34 rfl (by first | omega | (simp [sz, uz] <;> omega)) (by first | omega | (simp [sz, uz] <;> omega)) (fun h => by exfalso; omega) (fun _ => ?_)
        refine Z_aload0 (pc := 37) ok dX12_lay_37 ?_
        refine g_X12_row (pc := 38) (t := 122) ok dX12_lay_38 kw906 rfl rfl ?_
        refine Z_iload4 (pc := 41) ok dX12_lay_41 ?_
        refine Z_aload0 (pc := 43) ok dX12_lay_43 ?_
        refine g_X12_kept (pc := 44) (t := 125) ok dX12_lay_44 kw910 rfl rfl ?_
        refine Z_iload3 (pc := 47) ok dX12_lay_47 ?_
        refine Z_iconst (pc := 48) ok dX12_lay_48 ?_
        refine Z_iadd (pc := 49) ok dX12_lay_49 ?_
        refine Z_iload4 (pc := 50) ok dX12_lay_50 ?_
        refine Z_iadd (pc := 52) ok dX12_lay_52 ?_
        refine Z_iald (pc := 53) (L := 496) ok dX12_lay_53 rfl rfl (by first | omega | (simp [sz, uz] <;> omega)) ?_
        refine Z_iast (pc := 54) (L := 30) ok dX12_lay_54 rfl rfl (by first | omega | (simp [sz, uz] <;> omega)) ?_
        refine Z_iinc4 (pc := 55) ok (by decide) dX12_lay_55 rfl ?_
        refine Z_goto (pc := 58) (tgt := 30) ok dX12_lay_58 rfl ?_
        rw [sz_sz, sz_eq, z]
        exact ih _ (upto_s (p := fun j x => x = kR (I 125) s k j) f1 (by rw [kR, if_pos ⟨e0, e1⟩]))
    have h0 := H 0 (by omega) (by omega) (I 122) (fun j a b => by omega)
    have ez : sz (sz I 121 (uz (I 121) 0 (I 125 (31 * (8 * s + k))))) 122 (I 122) = sz I 121 (uz (I 121) 0 (I 125 (31 * (8 * s + k)))) := by
      have := sz_self (sz I 121 (uz (I 121) 0 (I 125 (31 * (8 * s + k))))) 122
      rwa [sz_ne _ _ (show (122 : Nat) ≠ 121 by decide)] at this
    rw [ez] at h0
    exact h0
  · refine Z_iconst (pc := 9) ok dX12_lay_9 ?_
    refine Z_iret (pc := 10) ok okr dX12_lay_10 ?_
    exact ⟨_, rfl, rfl, Or.inl ⟨h, rfl, rfl⟩⟩
theorem m_drop {s k : Int} (hs : -2147483648 ≤ s ∧ s ≤ 2147483647) (hk : -2147483648 ≤ k ∧ k ≤ 2147483647) (hh : mK I) : K_X12_drop l G [zr G 121, zi s, zi k] I J (fun w I' J' => ∃ r, w = some (zi r) ∧ (J' = J ∧ ((¬ ((0 ≤ s ∧ s < 2) ∧ (0 ≤ k ∧ k < I 124 s)) ∧ r = -1 ∧ I' = I) ∨ (((0 ≤ s ∧ s < 2) ∧ (0 ≤ k ∧ k < I 124 s)) ∧ r = I 124 s - 1 ∧ I' = sz (sz I 124 (uz (I 124) s (I 124 s - 1))) 125 (cpN (I 125) (31 * (8 * s + k) + 31) (31 * (8 * s + k)) (31 * (I 124 s - 1 - k))))))) := by
  refine Cz.of rfl (Nat.le_of_ble_eq_true rfl) [some (zr G 121), some (zi s), some (zi k), none] rfl (fun E ok okr hE => ?_)
  refine Z_aload0 (pc := 0) ok dX12_drop_0 ?_
  refine Z_iload1 (pc := 1) ok dX12_drop_1 ?_
  refine Z_iload2 (pc := 2) ok dX12_drop_2 ?_
  refine Z_callVId (pc := 3) ok dX12_drop_3 cw_X12_236 rfl rfl (by decide) (m_isKept hs hk hh) rfl rfl (by first | decide | omega) (Nat.le_of_ble_eq_true rfl) ?_
  refine Z_if_neB (pc := 6) (tgt := 11) ok dX12_drop_6 rfl (fun h => ?_) (fun h => ?_)
  · have hb := (hh s h.1.1 h.1.2).1
    refine Z_aload0 (pc := 11) ok dX12_drop_11 ?_
    refine g_X12_keptMany (pc := 12) (t := 124) ok dX12_drop_12 kw909 rfl rfl ?_
    refine Z_iload1 (pc := 15) ok dX12_drop_15 ?_
    refine Z_dup2 (pc := 16) ok dX12_drop_16 rfl rfl ?_
    refine Z_iald (pc := 17) (L := 2) ok dX12_drop_17 rfl rfl (by first | omega | (simp [sz, uz] <;> omega)) ?_
    refine Z_iconst (pc := 18) ok dX12_drop_18 ?_
    refine Z_isub (pc := 19) ok dX12_drop_19 ?_
    refine Z_iast (pc := 20) (L := 2) ok dX12_drop_20 rfl rfl (by first | omega | (simp [sz, uz] <;> omega)) ?_
    refine Z_iload2 (pc := 21) ok dX12_drop_21 ?_
    refine Z_istore3 (pc := 22) ok (by decide) dX12_drop_22 rfl ?_
    have H : ∀ i : Int, k ≤ i → i ≤ I 124 s - 1 → Xz E G (sz (sz I 124 (uz (I 124) s (I 124 s - 1))) 125 (cpN (I 125) (31 * (8 * s + k) + 31) (31 * (8 * s + k)) (31 * (i - k)))) J 23 [some (zr G 121), some (zi s), some (zi k), some (zi i)] [] := by
      refine zUp ?_ ?_
      · have z : sz (sz I 124 (uz (I 124) s (I 124 s - 1))) 125 (cpN (I 125) (31 * (8 * s + k) + 31) (31 * (8 * s + k)) (31 * (I 124 s - 1 - k))) 124 s = I 124 s - 1 := by rw [sz_ne _ _ (by decide), sz_eq, uz_eq]
        refine Z_iload3 (pc := 23) ok dX12_drop_23 ?_
        refine Z_aload0 (pc := 24) ok dX12_drop_24 ?_
        refine g_X12_keptMany (pc := 25) (t := 124) ok dX12_drop_25 kw909 rfl rfl ?_
        refine Z_iload1 (pc := 28) ok dX12_drop_28 ?_
        refine Z_iald (pc := 29) (L := 2) ok dX12_drop_29 rfl rfl (by first | omega | (simp [sz, uz] <;> omega)) ?_
        refine Z_icmp_ge (pc := 30) (tgt := 55) ok dX12_drop_30 rfl (by first | omega | (simp [sz, uz] <;> omega)) (by first | omega | (simp [sz, uz] <;> omega)) (fun _ => ?_) (fun h => by exfalso; omega)
        refine Z_aload0 (pc := 55) ok dX12_drop_55 ?_
        refine g_X12_keptMany (pc := 56) (t := 124) ok dX12_drop_56 kw909 rfl rfl ?_
        refine Z_iload1 (pc := 59) ok dX12_drop_59 ?_
        refine Z_iald (pc := 60) (L := 2) ok dX12_drop_60 rfl rfl (by first | omega | (simp [sz, uz] <;> omega)) ?_
        refine Z_iret (pc := 61) ok okr dX12_drop_61 ?_
        exact ⟨_, rfl, rfl, Or.inr ⟨h, z, rfl⟩⟩
      · intro i i0 i1 ih
        have z : sz (sz I 124 (uz (I 124) s (I 124 s - 1))) 125 (cpN (I 125) (31 * (8 * s + k) + 31) (31 * (8 * s + k)) (31 * (i - k))) 124 s = I 124 s - 1 := by rw [sz_ne _ _ (by decide), sz_eq, uz_eq]
        refine Z_iload3 (pc := 23) ok dX12_drop_23 ?_
        refine Z_aload0 (pc := 24) ok dX12_drop_24 ?_
        refine g_X12_keptMany (pc := 25) (t := 124) ok dX12_drop_25 kw909 rfl rfl ?_
        refine Z_iload1 (pc := 28) ok dX12_drop_28 ?_
        refine Z_iald (pc := 29) (L := 2) ok dX12_drop_29 rfl rfl (by first | omega | (simp [sz, uz] <;> omega)) ?_
        refine Z_icmp_ge (pc := 30) (tgt := 55) ok dX12_drop_30 rfl (by first | omega | (simp [sz, uz] <;> omega)) (by first | omega | (simp [sz, uz] <;> omega)) (fun h => by exfalso; omega) (fun _ => ?_)
        refine Z_aload0 (pc := 33) ok dX12_drop_33 ?_
        refine Z_iload1 (pc := 34) ok dX12_drop_34 ?_
        refine Z_iload3 (pc := 35) ok dX12_drop_35 ?_
        refine Z_iconst (pc := 36) ok dX12_drop_36 ?_
        refine Z_iadd (pc := 37) ok dX12_drop_37 ?_
        refine Z_callSId (pc := 38) ok dX12_drop_38 cw_X12_233 (m_place) rfl rfl (by first | decide | omega) (Nat.le_of_ble_eq_true rfl) ?_
        refine Z_iload1 (pc := 41) ok dX12_drop_41 ?_
        refine Z_iload3 (pc := 42) ok dX12_drop_42 ?_
        refine Z_callSId (pc := 43) ok dX12_drop_43 cw_X12_233 (m_place) rfl rfl (by first | decide | omega) (Nat.le_of_ble_eq_true rfl) ?_
        refine Z_callVVd (pc := 46) ok dX12_drop_46 cw_X12_239 rfl rfl (by decide) (m_copies (by omega) (by omega) (by omega)) rfl rfl (by first | decide | omega) (Nat.le_of_ble_eq_true rfl) ?_
        refine Z_iinc3 (pc := 49) ok (by decide) dX12_drop_49 rfl ?_
        refine Z_goto (pc := 52) (tgt := 23) ok dX12_drop_52 rfl ?_
        rw [sz_sz, sz_eq]
        have e : cpN (cpN (I 125) (31 * (8 * s + k) + 31) (31 * (8 * s + k)) (31 * (i - k))) (31 * (8 * s + (i + 1))) (31 * (8 * s + i)) 31 = cpN (I 125) (31 * (8 * s + k) + 31) (31 * (8 * s + k)) (31 * (i + 1 - k)) := by
          funext x
          simp only [cpN]
          by_cases q1 : 31 * (8 * s + i) ≤ x ∧ x < 31 * (8 * s + i) + 31
          · rw [if_pos q1, if_neg (by omega), if_pos (by omega)]; congr 1; omega
          · rw [if_neg q1]
            by_cases q2 : 31 * (8 * s + k) ≤ x ∧ x < 31 * (8 * s + k) + 31 * (i - k)
            · rw [if_pos q2, if_pos (by omega)]
            · rw [if_neg q2, if_neg (by omega)]
        rw [e]
        exact ih
    have h0 := H k (by omega) (by omega)
    have ez : sz (sz I 124 (uz (I 124) s (I 124 s - 1))) 125 (I 125) = sz I 124 (uz (I 124) s (I 124 s - 1)) := by
      have := sz_self (sz I 124 (uz (I 124) s (I 124 s - 1))) 125
      rwa [sz_ne _ _ (show (125 : Nat) ≠ 124 by decide)] at this
    rw [Int.sub_self, Int.mul_zero, cpN_0, ez] at h0
    exact h0
  · refine Z_iconst (pc := 9) ok dX12_drop_9 ?_
    refine Z_iret (pc := 10) ok okr dX12_drop_10 ?_
    exact ⟨_, rfl, rfl, Or.inl ⟨h, rfl, rfl⟩⟩
theorem m_weightAt {s k : Int} (hs : 0 ≤ s ∧ s < 2) (hk : 0 ≤ k ∧ k < 8) : K_X12_weightAt l G [zr G 121, zi s, zi k] I J (pR (some (zi (su (kR (I 125) s k) 30))) I J) := by
  refine Cz.of rfl (Nat.le_of_ble_eq_true rfl) [some (zr G 121), some (zi s), some (zi k)] rfl (fun E ok okr hE => ?_)
  refine Z_aload0 (pc := 0) ok dX12_weightAt_0 ?_
  refine g_X12_kept (pc := 1) (t := 125) ok dX12_weightAt_1 kw910 rfl rfl ?_
  refine Z_iload1 (pc := 4) ok dX12_weightAt_4 ?_
  refine Z_iload2 (pc := 5) ok dX12_weightAt_5 ?_
  refine Z_callSId (pc := 6) ok dX12_weightAt_6 cw_X12_233 (m_place) rfl rfl (by first | decide | omega) (Nat.le_of_ble_eq_true rfl) ?_
  refine Z_iconst (pc := 9) ok dX12_weightAt_9 ?_
  refine Z_iadd (pc := 10) ok dX12_weightAt_10 ?_
  refine Z_bipush (pc := 11) ok dX12_weightAt_11 (by decide) ?_
  refine Z_callSId (pc := 13) ok dX12_weightAt_13 cw_X12_111 (m_weightOf (L := 496) rfl rfl (by omega) (by omega) (by omega)) rfl rfl (by first | decide | omega) (Nat.le_of_ble_eq_true rfl) ?_
  refine Z_iret (pc := 16) ok okr dX12_weightAt_16 ?_
  exact ⟨by rw [kR_su], rfl, rfl⟩
theorem m_lightest {s : Int} (hs : -2147483648 ≤ s ∧ s ≤ 2147483647) (hh : mK I) : K_X12_lightest l G [zr G 121, zi s] I J (fun w I' J' => ∃ r, w = some (zi r) ∧ (I' = I ∧ J' = J ∧ ((¬ (0 ≤ s ∧ s < 2) ∧ r = -1) ∨ ((0 ≤ s ∧ s < 2) ∧ I 124 s = 0 ∧ r = -5) ∨ ((0 ≤ s ∧ s < 2) ∧ 0 < I 124 s ∧ r = lgF (fun m => su (kR (I 125) s m) 30) (I 124 s - 1).toNat)))) := by
  refine Cz.of rfl (Nat.le_of_ble_eq_true rfl) [some (zr G 121), some (zi s), none, none] rfl (fun E ok okr hE => ?_)
  refine Z_iload1 (pc := 0) ok dX12_lightest_0 ?_
  refine Z_callSId (pc := 1) ok dX12_lightest_1 cw_X12_230 (m_isShelf hs) rfl rfl (by first | decide | omega) (Nat.le_of_ble_eq_true rfl) ?_
  refine Z_if_neB (pc := 4) (tgt := 9) ok dX12_lightest_4 rfl (fun h => ?_) (fun h => ?_)
  · have hh := hh s (by omega) (by omega)
    have hb := hh.1
    have hw : ∀ m, 0 ≤ m → m < I 124 s → 0 ≤ su (kR (I 125) s m) 30 ∧ su (kR (I 125) s m) 30 ≤ 270 := fun m a b => by
      rw [gR_30 (hh.2 m a b)]; exact gR_su (hh.2 m a b)
    refine Z_bipush (pc := 9) ok dX12_lightest_9 (by decide) ?_
    refine Z_istore2 (pc := 11) ok (by decide) dX12_lightest_11 rfl ?_
    refine Z_iconst (pc := 12) ok dX12_lightest_12 ?_
    refine Z_istore3 (pc := 13) ok (by decide) dX12_lightest_13 rfl ?_
    have H : 0 < I 124 s → ∀ i : Int, 1 ≤ i → i ≤ I 124 s → Xz E G I J 14 [some (zr G 121), some (zi s), some (zi (lgF (fun m => su (kR (I 125) s m) 30) (i - 1).toNat)), some (zi i)] [] := by
      intro h0
      refine zUp ?_ ?_
      · refine Z_iload3 (pc := 14) ok dX12_lightest_14 ?_
        refine Z_aload0 (pc := 15) ok dX12_lightest_15 ?_
        refine g_X12_keptMany (pc := 16) (t := 124) ok dX12_lightest_16 kw909 rfl rfl ?_
        refine Z_iload1 (pc := 19) ok dX12_lightest_19 ?_
        refine Z_iald (pc := 20) (L := 2) ok dX12_lightest_20 rfl rfl (by first | omega | (simp [sz, uz] <;> omega)) ?_
        refine Z_icmp_ge (pc := 21) (tgt := 57) ok dX12_lightest_21 rfl (by first | omega | (simp [sz, uz] <;> omega)) (by first | omega | (simp [sz, uz] <;> omega)) (fun _ => ?_) (fun h => by exfalso; omega)
        refine Z_iload2 (pc := 57) ok dX12_lightest_57 ?_
        refine Z_iret (pc := 58) ok okr dX12_lightest_58 ?_
        exact ⟨_, rfl, rfl, rfl, Or.inr (Or.inr ⟨by omega, h0, rfl⟩)⟩
      · intro i i0 i1 ih
        have hl := lgF_b (fun m => su (kR (I 125) s m) 30) (i - 1).toNat
        rw [show (i + 1 - 1).toNat = (i - 1).toNat + 1 by omega, lgF, show (((i - 1).toNat : Nat) : Int) + 1 = i by omega] at ih
        have w1 := hw i (by omega) i1
        have w2 := hw (lgF (fun m => su (kR (I 125) s m) 30) (i - 1).toNat) (by omega) (by omega)
        refine Z_iload3 (pc := 14) ok dX12_lightest_14 ?_
        refine Z_aload0 (pc := 15) ok dX12_lightest_15 ?_
        refine g_X12_keptMany (pc := 16) (t := 124) ok dX12_lightest_16 kw909 rfl rfl ?_
        refine Z_iload1 (pc := 19) ok dX12_lightest_19 ?_
        refine Z_iald (pc := 20) (L := 2) ok dX12_lightest_20 rfl rfl (by first | omega | (simp [sz, uz] <;> omega)) ?_
        refine Z_icmp_ge (pc := 21) (tgt := 57) ok dX12_lightest_21 rfl (by first | omega | (simp [sz, uz] <;> omega)) (by first | omega | (simp [sz, uz] <;> omega)) (fun h => by exfalso; omega) (fun _ => ?_)
        refine Z_iload2 (pc := 24) ok dX12_lightest_24 ?_
        refine Z_bipush (pc := 25) ok dX12_lightest_25 (by decide) ?_
        refine Z_icmp_eq (pc := 27) (tgt := 45) ok dX12_lightest_27 rfl (by first | omega | (simp [sz, uz] <;> omega)) (by first | omega | (simp [sz, uz] <;> omega)) (fun h => by exfalso; omega) (fun _ => ?_)
        refine Z_aload0 (pc := 30) ok dX12_lightest_30 ?_
        refine Z_iload1 (pc := 31) ok dX12_lightest_31 ?_
        refine Z_iload3 (pc := 32) ok dX12_lightest_32 ?_
        refine Z_callVId (pc := 33) ok dX12_lightest_33 cw_X12_242 rfl rfl (by decide) (m_weightAt (by omega) (by omega)) rfl rfl (by first | decide | omega) (Nat.le_of_ble_eq_true rfl) ?_
        refine Z_aload0 (pc := 36) ok dX12_lightest_36 ?_
        refine Z_iload1 (pc := 37) ok dX12_lightest_37 ?_
        refine Z_iload2 (pc := 38) ok dX12_lightest_38 ?_
        refine Z_callVId (pc := 39) ok dX12_lightest_39 cw_X12_242 rfl rfl (by decide) (m_weightAt (by omega) (by omega)) rfl rfl (by first | decide | omega) (Nat.le_of_ble_eq_true rfl) ?_
        refine Z_icmp_ge (pc := 42) (tgt := 49) ok dX12_lightest_42 rfl (by first | omega | (simp [sz, uz] <;> omega)) (by first | omega | (simp [sz, uz] <;> omega)) (fun h3 => ?_) (fun h3 => ?_)
        · refine Z_iload2 (pc := 49) ok dX12_lightest_49 ?_
          refine Z_istore2 (pc := 50) ok (by decide) dX12_lightest_50 rfl ?_
          refine Z_iinc3 (pc := 51) ok (by decide) dX12_lightest_51 rfl ?_
          refine Z_goto (pc := 54) (tgt := 14) ok dX12_lightest_54 rfl ?_
          rw [if_neg (by omega)] at ih
          exact ih
        · refine Z_iload3 (pc := 45) ok dX12_lightest_45 ?_
          refine Z_goto (pc := 46) (tgt := 50) ok dX12_lightest_46 rfl ?_
          refine Z_istore2 (pc := 50) ok (by decide) dX12_lightest_50 rfl ?_
          refine Z_iinc3 (pc := 51) ok (by decide) dX12_lightest_51 rfl ?_
          refine Z_goto (pc := 54) (tgt := 14) ok dX12_lightest_54 rfl ?_
          rw [if_pos (by omega)] at ih
          exact ih
    have H0 :  Xz E G I J 14 [some (zr G 121), some (zi s), some (zi (-5)), some (zi 0)] [] := by
      refine Z_iload3 (pc := 14) ok dX12_lightest_14 ?_
      refine Z_aload0 (pc := 15) ok dX12_lightest_15 ?_
      refine g_X12_keptMany (pc := 16) (t := 124) ok dX12_lightest_16 kw909 rfl rfl ?_
      refine Z_iload1 (pc := 19) ok dX12_lightest_19 ?_
      refine Z_iald (pc := 20) (L := 2) ok dX12_lightest_20 rfl rfl (by first | omega | (simp [sz, uz] <;> omega)) ?_
      refine Z_icmp_ge (pc := 21) (tgt := 57) ok dX12_lightest_21 rfl (by first | omega | (simp [sz, uz] <;> omega)) (by first | omega | (simp [sz, uz] <;> omega)) (fun h0 => ?_) (fun h0 => ?_)
      · refine Z_iload2 (pc := 57) ok dX12_lightest_57 ?_
        refine Z_iret (pc := 58) ok okr dX12_lightest_58 ?_
        exact ⟨_, rfl, rfl, rfl, Or.inr (Or.inl ⟨by omega, by omega, rfl⟩)⟩
      · refine Z_iload2 (pc := 24) ok dX12_lightest_24 ?_
        refine Z_bipush (pc := 25) ok dX12_lightest_25 (by decide) ?_
        refine Z_icmp_eq (pc := 27) (tgt := 45) ok dX12_lightest_27 rfl (by first | omega | (simp [sz, uz] <;> omega)) (by first | omega | (simp [sz, uz] <;> omega)) (fun _ => ?_) (fun h => by exfalso; omega)
        refine Z_iload3 (pc := 45) ok dX12_lightest_45 ?_
        refine Z_goto (pc := 46) (tgt := 50) ok dX12_lightest_46 rfl ?_
        refine Z_istore2 (pc := 50) ok (by decide) dX12_lightest_50 rfl ?_
        refine Z_iinc3 (pc := 51) ok (by decide) dX12_lightest_51 rfl ?_
        refine Z_goto (pc := 54) (tgt := 14) ok dX12_lightest_54 rfl ?_
        exact H h0 1 (by omega) (by omega)
    exact H0
  · refine Z_iconst (pc := 7) ok dX12_lightest_7 ?_
    refine Z_iret (pc := 8) ok okr dX12_lightest_8 ?_
    exact ⟨_, rfl, rfl, rfl, Or.inl ⟨by omega, rfl⟩⟩
end
