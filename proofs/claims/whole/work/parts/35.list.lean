/-! the reference: pour, held, lists, tape, image, count -/
def mLs (I J : Mz) : Prop := (∀ i, 0 ≤ i → i < 3 → -1 ≤ I 136 i ∧ I 136 i ≤ 30) ∧ ∀ j, -9223372036854775808 ≤ J 137 j ∧ J 137 j ≤ 9223372036854775807
section
variable {l : Launch} {G : Gw} {I J : Mz}
theorem m_pour {s o : Int} (hs : -2147483648 ≤ s ∧ s ≤ 2147483647) (ho : -2147483648 ≤ o ∧ o ≤ 2147483647) (hh : mK I) : K_X12_pour l G [zr G 121, zi s, zi o] I J (fun w I' J' => ∃ r, w = some (zi r) ∧ (J' = J ∧ ((¬ ((0 ≤ s ∧ s < 2) ∧ (0 ≤ o ∧ o < 2)) ∧ r = -1 ∧ I' = I) ∨ (((0 ≤ s ∧ s < 2) ∧ (0 ≤ o ∧ o < 2)) ∧ s = o ∧ r = -3 ∧ I' = I) ∨ (((0 ≤ s ∧ s < 2) ∧ (0 ≤ o ∧ o < 2)) ∧ s ≠ o ∧ 8 < I 124 s + I 124 o ∧ r = -4 ∧ I' = I) ∨ (((0 ≤ s ∧ s < 2) ∧ (0 ≤ o ∧ o < 2)) ∧ s ≠ o ∧ I 124 s + I 124 o ≤ 8 ∧ r = I 124 o + I 124 s ∧ I' = sz (sz I 125 (cpN (I 125) (31 * (8 * s)) (31 * (8 * o + I 124 o)) (31 * I 124 s))) 124 (uz (uz (I 124) o (I 124 o + I 124 s)) s 0))))) := by
  refine Cz.of rfl (Nat.le_of_ble_eq_true rfl) [some (zr G 121), some (zi s), some (zi o), none] rfl (fun E ok okr hE => ?_)
  refine Z_iload1 (pc := 0) ok dX12_pour_0 ?_
  refine Z_callSId (pc := 1) ok dX12_pour_1 cw_X12_230 (m_isShelf hs) rfl rfl (by first | decide | omega) (Nat.le_of_ble_eq_true rfl) ?_
  refine Z_if_eqB (pc := 4) (tgt := 14) ok dX12_pour_4 rfl (fun h => ?_) (fun h => ?_)
  · refine Z_iconst (pc := 14) ok dX12_pour_14 ?_
    refine Z_iret (pc := 15) ok okr dX12_pour_15 ?_
    exact ⟨_, rfl, rfl, Or.inl ⟨fun q => h (by omega), rfl, rfl⟩⟩
  · refine Z_iload2 (pc := 7) ok dX12_pour_7 ?_
    refine Z_callSId (pc := 8) ok dX12_pour_8 cw_X12_230 (m_isShelf ho) rfl rfl (by first | decide | omega) (Nat.le_of_ble_eq_true rfl) ?_
    refine Z_if_neB (pc := 11) (tgt := 16) ok dX12_pour_11 rfl (fun h2 => ?_) (fun h2 => ?_)
    · have b1 := (hh s (by omega) (by omega)).1
      have b2 := (hh o (by omega) (by omega)).1
      refine Z_iload1 (pc := 16) ok dX12_pour_16 ?_
      refine Z_iload2 (pc := 17) ok dX12_pour_17 ?_
      refine Z_icmp_ne (pc := 18) (tgt := 24) ok dX12_pour_18 rfl (by first | omega | (simp [sz, uz] <;> omega)) (by first | omega | (simp [sz, uz] <;> omega)) (fun h3 => ?_) (fun h3 => ?_)
      · refine Z_aload0 (pc := 24) ok dX12_pour_24 ?_
        refine g_X12_keptMany (pc := 25) (t := 124) ok dX12_pour_25 kw909 rfl rfl ?_
        refine Z_iload1 (pc := 28) ok dX12_pour_28 ?_
        refine Z_iald (pc := 29) (L := 2) ok dX12_pour_29 rfl rfl (by first | omega | (simp [sz, uz] <;> omega)) ?_
        refine Z_aload0 (pc := 30) ok dX12_pour_30 ?_
        refine g_X12_keptMany (pc := 31) (t := 124) ok dX12_pour_31 kw909 rfl rfl ?_
        refine Z_iload2 (pc := 34) ok dX12_pour_34 ?_
        refine Z_iald (pc := 35) (L := 2) ok dX12_pour_35 rfl rfl (by first | omega | (simp [sz, uz] <;> omega)) ?_
        refine Z_iadd (pc := 36) ok dX12_pour_36 ?_
        refine Z_bipush (pc := 37) ok dX12_pour_37 (by decide) ?_
        refine Z_icmp_le (pc := 39) (tgt := 45) ok dX12_pour_39 rfl (by first | omega | (simp [sz, uz] <;> omega)) (by first | omega | (simp [sz, uz] <;> omega)) (fun h4 => ?_) (fun h4 => ?_)
        · refine Z_iconst (pc := 45) ok dX12_pour_45 ?_
          refine Z_istore3 (pc := 46) ok (by decide) dX12_pour_46 rfl ?_
          have z : ∀ f : Int → Int, sz I 125 f 124 = I 124 := fun f => sz_ne _ _ (by decide)
          have H : ∀ i : Int, 0 ≤ i → i ≤ I 124 s → Xz E G (sz I 125 (cpN (I 125) (31 * (8 * s)) (31 * (8 * o + I 124 o)) (31 * i))) J 47 [some (zr G 121), some (zi s), some (zi o), some (zi i)] [] := by
            refine zUp ?_ ?_
            · have zz := z (cpN (I 125) (31 * (8 * s)) (31 * (8 * o + I 124 o)) (31 * I 124 s))
              have z1 := congrFun zz s
              refine Z_iload3 (pc := 47) ok dX12_pour_47 ?_
              refine Z_aload0 (pc := 48) ok dX12_pour_48 ?_
              refine g_X12_keptMany (pc := 49) (t := 124) ok dX12_pour_49 kw909 rfl rfl ?_
              refine Z_iload1 (pc := 52) ok dX12_pour_52 ?_
              refine Z_iald (pc := 53) (L := 2) ok dX12_pour_53 rfl rfl (by first | omega | (simp [sz, uz] <;> omega)) ?_
              refine Z_icmp_ge (pc := 54) (tgt := 84) ok dX12_pour_54 rfl (by first | omega | (simp [sz, uz] <;> omega)) (by first | omega | (simp [sz, uz] <;> omega)) (fun _ => ?_) (fun h => by exfalso; omega)
              refine Z_aload0 (pc := 84) ok dX12_pour_84 ?_
              refine g_X12_keptMany (pc := 85) (t := 124) ok dX12_pour_85 kw909 rfl rfl ?_
              refine Z_iload2 (pc := 88) ok dX12_pour_88 ?_
              refine Z_dup2 (pc := 89) ok dX12_pour_89 rfl rfl ?_
              refine Z_iald (pc := 90) (L := 2) ok dX12_pour_90 rfl rfl (by first | omega | (simp [sz, uz] <;> omega)) ?_
              refine Z_aload0 (pc := 91) ok dX12_pour_91 ?_
              refine g_X12_keptMany (pc := 92) (t := 124) ok dX12_pour_92 kw909 rfl rfl ?_
              refine Z_iload1 (pc := 95) ok dX12_pour_95 ?_
              refine Z_iald (pc := 96) (L := 2) ok dX12_pour_96 rfl rfl (by first | omega | (simp [sz, uz] <;> omega)) ?_
              refine Z_iadd (pc := 97) ok dX12_pour_97 ?_
              refine Z_iast (pc := 98) (L := 2) ok dX12_pour_98 rfl rfl (by first | omega | (simp [sz, uz] <;> omega)) ?_
              refine Z_aload0 (pc := 99) ok dX12_pour_99 ?_
              refine g_X12_keptMany (pc := 100) (t := 124) ok dX12_pour_100 kw909 rfl rfl ?_
              refine Z_iload1 (pc := 103) ok dX12_pour_103 ?_
              refine Z_iconst (pc := 104) ok dX12_pour_104 ?_
              refine Z_iast (pc := 105) (L := 2) ok dX12_pour_105 rfl rfl (by first | omega | (simp [sz, uz] <;> omega)) ?_
              rw [sz_sz, sz_eq, zz]
              refine Z_aload0 (pc := 106) ok dX12_pour_106 ?_
              refine g_X12_keptMany (pc := 107) (t := 124) ok dX12_pour_107 kw909 rfl rfl ?_
              refine Z_iload2 (pc := 110) ok dX12_pour_110 ?_
              refine Z_iald (pc := 111) (L := 2) ok dX12_pour_111 rfl rfl (by first | omega | (simp [sz, uz] <;> omega)) ?_
              rw [sz_eq, uz_ne _ _ (Ne.symm h3), uz_eq]
              refine Z_iret (pc := 112) ok okr dX12_pour_112 ?_
              exact ⟨_, rfl, rfl, Or.inr (Or.inr (Or.inr ⟨⟨by omega, by omega⟩, h3, by omega, rfl, rfl⟩))⟩
            · intro i i0 i1 ih
              have zz := z (cpN (I 125) (31 * (8 * s)) (31 * (8 * o + I 124 o)) (31 * i))
              have z1 := congrFun zz s
              have z2 := congrFun zz o
              refine Z_iload3 (pc := 47) ok dX12_pour_47 ?_
              refine Z_aload0 (pc := 48) ok dX12_pour_48 ?_
              refine g_X12_keptMany (pc := 49) (t := 124) ok dX12_pour_49 kw909 rfl rfl ?_
              refine Z_iload1 (pc := 52) ok dX12_pour_52 ?_
              refine Z_iald (pc := 53) (L := 2) ok dX12_pour_53 rfl rfl (by first | omega | (simp [sz, uz] <;> omega)) ?_
              refine Z_icmp_ge (pc := 54) (tgt := 84) ok dX12_pour_54 rfl (by first | omega | (simp [sz, uz] <;> omega)) (by first | omega | (simp [sz, uz] <;> omega)) (fun h => by exfalso; omega) (fun _ => ?_)
              refine Z_aload0 (pc := 57) ok dX12_pour_57 ?_
              refine Z_iload1 (pc := 58) ok dX12_pour_58 ?_
              refine Z_iload3 (pc := 59) ok dX12_pour_59 ?_
              refine Z_callSId (pc := 60) ok dX12_pour_60 cw_X12_233 (m_place) rfl rfl (by first | decide | omega) (Nat.le_of_ble_eq_true rfl) ?_
              refine Z_iload2 (pc := 63) ok dX12_pour_63 ?_
              refine Z_aload0 (pc := 64) ok dX12_pour_64 ?_
              refine g_X12_keptMany (pc := 65) (t := 124) ok dX12_pour_65 kw909 rfl rfl ?_
              refine Z_iload2 (pc := 68) ok dX12_pour_68 ?_
              refine Z_iald (pc := 69) (L := 2) ok dX12_pour_69 rfl rfl (by first | omega | (simp [sz, uz] <;> omega)) ?_
              rw [z2]
              refine Z_iload3 (pc := 70) ok dX12_pour_70 ?_
              refine Z_iadd (pc := 71) ok dX12_pour_71 ?_
              refine Z_callSId (pc := 72) ok dX12_pour_72 cw_X12_233 (m_place) rfl rfl (by first | decide | omega) (Nat.le_of_ble_eq_true rfl) ?_
              refine Z_callVVd (pc := 75) ok dX12_pour_75 cw_X12_239 rfl rfl (by decide) (m_copies (by omega) (by omega) (by omega)) rfl rfl (by first | decide | omega) (Nat.le_of_ble_eq_true rfl) ?_
              refine Z_iinc3 (pc := 78) ok (by decide) dX12_pour_78 rfl ?_
              refine Z_goto (pc := 81) (tgt := 47) ok dX12_pour_81 rfl ?_
              rw [sz_sz, sz_eq]
              have e : cpN (cpN (I 125) (31 * (8 * s)) (31 * (8 * o + I 124 o)) (31 * i)) (31 * (8 * s + i)) (31 * (8 * o + (I 124 o + i))) 31 = cpN (I 125) (31 * (8 * s)) (31 * (8 * o + I 124 o)) (31 * (i + 1)) := by
                funext x
                simp only [cpN]
                by_cases q1 : 31 * (8 * o + (I 124 o + i)) ≤ x ∧ x < 31 * (8 * o + (I 124 o + i)) + 31
                · rw [if_pos q1, if_neg (by omega), if_pos (by omega)]; congr 1; omega
                · rw [if_neg q1]
                  by_cases q2 : 31 * (8 * o + I 124 o) ≤ x ∧ x < 31 * (8 * o + I 124 o) + 31 * i
                  · rw [if_pos q2, if_pos (by omega)]
                  · rw [if_neg q2, if_neg (by omega)]
              rw [e]
              exact ih
          have h0 := H 0 (by omega) (by omega)
          rw [Int.mul_zero, cpN_0, sz_self] at h0
          exact h0
        · refine Z_bipush (pc := 42) ok dX12_pour_42 (by decide) ?_
          refine Z_iret (pc := 44) ok okr dX12_pour_44 ?_
          exact ⟨_, rfl, rfl, Or.inr (Or.inr (Or.inl ⟨⟨by omega, by omega⟩, h3, h4, rfl, rfl⟩))⟩
      · refine Z_bipush (pc := 21) ok dX12_pour_21 (by decide) ?_
        refine Z_iret (pc := 23) ok okr dX12_pour_23 ?_
        exact ⟨_, rfl, rfl, Or.inr (Or.inl ⟨⟨by omega, by omega⟩, h3, rfl, rfl⟩)⟩
    · refine Z_iconst (pc := 14) ok dX12_pour_14 ?_
      refine Z_iret (pc := 15) ok okr dX12_pour_15 ?_
      exact ⟨_, rfl, rfl, Or.inl ⟨fun q => h2 (by omega), rfl, rfl⟩⟩
theorem m_held {s k : Int} (hs : -2147483648 ≤ s ∧ s ≤ 2147483647) (hk : -2147483648 ≤ k ∧ k ≤ 2147483647) (hh : mK I) : K_X12_held l G [zr G 121, zi s, zi k] I J (fun w I' J' => ∃ r, w = some (zi r) ∧ (I' = I ∧ J' = J ∧ ((¬ (0 ≤ s ∧ s < 2) ∧ r = -1) ∨ ((0 ≤ s ∧ s < 2) ∧ k = -1 ∧ r = I 124 s) ∨ ((0 ≤ s ∧ s < 2) ∧ k ≠ -1 ∧ ¬ (0 ≤ k ∧ k < I 124 s) ∧ r = -1) ∨ ((0 ≤ s ∧ s < 2) ∧ (0 ≤ k ∧ k < I 124 s) ∧ r = su (kR (I 125) s k) 30)))) := by
  refine Cz.of rfl (Nat.le_of_ble_eq_true rfl) [some (zr G 121), some (zi s), some (zi k)] rfl (fun E ok okr hE => ?_)
  refine Z_iload1 (pc := 0) ok dX12_held_0 ?_
  refine Z_callSId (pc := 1) ok dX12_held_1 cw_X12_230 (m_isShelf hs) rfl rfl (by first | decide | omega) (Nat.le_of_ble_eq_true rfl) ?_
  refine Z_if_neB (pc := 4) (tgt := 9) ok dX12_held_4 rfl (fun h => ?_) (fun h => ?_)
  · have b1 := (hh s (by omega) (by omega)).1
    refine Z_iload2 (pc := 9) ok dX12_held_9 ?_
    refine Z_iconst (pc := 10) ok dX12_held_10 ?_
    refine Z_icmp_ne (pc := 11) (tgt := 23) ok dX12_held_11 rfl (by first | omega | (simp [sz, uz] <;> omega)) (by first | omega | (simp [sz, uz] <;> omega)) (fun h2 => ?_) (fun h2 => ?_)
    · refine Z_aload0 (pc := 23) ok dX12_held_23 ?_
      refine Z_iload1 (pc := 24) ok dX12_held_24 ?_
      refine Z_iload2 (pc := 25) ok dX12_held_25 ?_
      refine Z_callVId (pc := 26) ok dX12_held_26 cw_X12_236 rfl rfl (by decide) (m_isKept hs hk hh) rfl rfl (by first | decide | omega) (Nat.le_of_ble_eq_true rfl) ?_
      refine Z_if_eqB (pc := 29) (tgt := 41) ok dX12_held_29 rfl (fun h3 => ?_) (fun h3 => ?_)
      · refine Z_iconst (pc := 41) ok dX12_held_41 ?_
        refine Z_iret (pc := 42) ok okr dX12_held_42 ?_
        exact ⟨_, rfl, rfl, rfl, Or.inr (Or.inr (Or.inl ⟨by omega, h2, fun q => h3 ⟨by omega, q⟩, rfl⟩))⟩
      · refine Z_aload0 (pc := 32) ok dX12_held_32 ?_
        refine Z_iload1 (pc := 33) ok dX12_held_33 ?_
        refine Z_iload2 (pc := 34) ok dX12_held_34 ?_
        refine Z_callVId (pc := 35) ok dX12_held_35 cw_X12_242 rfl rfl (by decide) (m_weightAt h3.1 (by omega)) rfl rfl (by first | decide | omega) (Nat.le_of_ble_eq_true rfl) ?_
        refine Z_goto (pc := 38) (tgt := 42) ok dX12_held_38 rfl ?_
        refine Z_iret (pc := 42) ok okr dX12_held_42 ?_
        exact ⟨_, rfl, rfl, rfl, Or.inr (Or.inr (Or.inr ⟨h3.1, h3.2, rfl⟩))⟩
    · refine Z_aload0 (pc := 14) ok dX12_held_14 ?_
      refine g_X12_keptMany (pc := 15) (t := 124) ok dX12_held_15 kw909 rfl rfl ?_
      refine Z_iload1 (pc := 18) ok dX12_held_18 ?_
      refine Z_iald (pc := 19) (L := 2) ok dX12_held_19 rfl rfl (by first | omega | (simp [sz, uz] <;> omega)) ?_
      refine Z_goto (pc := 20) (tgt := 42) ok dX12_held_20 rfl ?_
      refine Z_iret (pc := 42) ok okr dX12_held_42 ?_
      exact ⟨_, rfl, rfl, rfl, Or.inr (Or.inl ⟨by omega, h2, rfl⟩)⟩
  · refine Z_iconst (pc := 7) ok dX12_held_7 ?_
    refine Z_iret (pc := 8) ok okr dX12_held_8 ?_
    exact ⟨_, rfl, rfl, rfl, Or.inl ⟨by omega, rfl⟩⟩
theorem m_list {i n : Int} (hi : -2147483648 ≤ i ∧ i ≤ 2147483647) (hn : -2147483648 ≤ n ∧ n ≤ 2147483647) : K_X12_list l G [zr G 121, zi i, zi n] I J (fun w I' J' => ∃ r, w = some (zi r) ∧ ((¬ (0 ≤ i ∧ i < 3) ∧ r = -1 ∧ I' = I ∧ J' = J) ∨ ((0 ≤ i ∧ i < 3) ∧ 30 < n ∧ r = -2 ∧ I' = I ∧ J' = J) ∨ ((0 ≤ i ∧ i < 3) ∧ n < -1 ∧ r = -14 ∧ I' = I ∧ J' = J) ∨ ((0 ≤ i ∧ i < 3) ∧ (-1 ≤ n ∧ n ≤ 30) ∧ r = 1 ∧ I' = sz I 136 (uz (I 136) i n) ∧ fr [137] J J' ∧ (∀ x, 30 * i ≤ x → x < 30 * i + 30 → J' 137 x = 0) ∧ (∀ x, x < 30 * i ∨ 30 * i + 30 ≤ x → J' 137 x = J 137 x)))) := by
  refine Cz.of rfl (Nat.le_of_ble_eq_true rfl) [some (zr G 121), some (zi i), some (zi n), none] rfl (fun E ok okr hE => ?_)
  refine Z_iload1 (pc := 0) ok dX12_list_0 ?_
  refine Z_callSId (pc := 1) ok dX12_list_1 cw_X12_194 (m_isList hi) rfl rfl (by first | decide | omega) (Nat.le_of_ble_eq_true rfl) ?_
  refine Z_if_neB (pc := 4) (tgt := 9) ok dX12_list_4 rfl (fun h => ?_) (fun h => ?_)
  · refine Z_iload2 (pc := 9) ok dX12_list_9 ?_
    refine Z_bipush (pc := 10) ok dX12_list_10 (by decide) ?_
    refine Z_icmp_le (pc := 12) (tgt := 18) ok dX12_list_12 rfl (by first | omega | (simp [sz, uz] <;> omega)) (by first | omega | (simp [sz, uz] <;> omega)) (fun h2 => ?_) (fun h2 => ?_)
    · refine Z_iload2 (pc := 18) ok dX12_list_18 ?_
      refine Z_iconst (pc := 19) ok dX12_list_19 ?_
      refine Z_icmp_ge (pc := 20) (tgt := 26) ok dX12_list_20 rfl (by first | omega | (simp [sz, uz] <;> omega)) (by first | omega | (simp [sz, uz] <;> omega)) (fun h3 => ?_) (fun h3 => ?_)
      · refine Z_aload0 (pc := 26) ok dX12_list_26 ?_
        refine g_X12_sizes (pc := 27) (t := 136) ok dX12_list_27 kw924 rfl rfl ?_
        refine Z_iload1 (pc := 30) ok dX12_list_30 ?_
        refine Z_iload2 (pc := 31) ok dX12_list_31 ?_
        refine Z_iast (pc := 32) (L := 3) ok dX12_list_32 rfl rfl (by first | omega | (simp [sz, uz] <;> omega)) ?_
        refine Z_iconst (pc := 33) ok dX12_list_33 ?_
        refine Z_istore3 (pc := 34) ok (by decide) dX12_list_34 rfl ?_
        have H : ∀ e : Int, 0 ≤ e → e ≤ 30 → ∀ f : Int → Int, (∀ x, 30 * i ≤ x → x < 30 * i + e → f x = 0) → (∀ x, x < 30 * i ∨ 30 * i + 30 ≤ x → f x = J 137 x) → Xz E G (sz I 136 (uz (I 136) i n)) (sz J 137 f) 35 [some (zr G 121), some (zi i), some (zi n), some (zi e)] [] := by
          refine zUp ?_ ?_
          · intro f f1 f2
            refine Z_iload3 (pc := 35) ok dX12_list_35 ?_
            refine Z_bipush (pc := 36) ok dX12_list_36 (by decide) ?_
            refine Z_icmp_ge (pc := 38) (tgt := 59) ok dX12_list_38 rfl (by first | omega | (simp [sz, uz] <;> omega)) (by first | omega | (simp [sz, uz] <;> omega)) (fun _ => ?_) (fun h => by exfalso; omega)
            refine Z_iconst (pc := 59) ok dX12_list_59 ?_
            refine Z_iret (pc := 60) ok okr dX12_list_60 ?_
            exact ⟨_, rfl, Or.inr (Or.inr (Or.inr ⟨by omega, by omega, rfl, rfl, fr.rf.st rfl, fun x a b => by rw [sz_eq]; exact f1 x a b, fun x hx => by rw [sz_eq]; exact f2 x hx⟩))⟩
          · intro e e0 e1 ih f f1 f2
            refine Z_iload3 (pc := 35) ok dX12_list_35 ?_
            refine Z_bipush (pc := 36) ok dX12_list_36 (by decide) ?_
            refine Z_icmp_ge (pc := 38) (tgt := 59) ok dX12_list_38 rfl (by first | omega | (simp [sz, uz] <;> omega)) (by first | omega | (simp [sz, uz] <;> omega)) (fun h => by exfalso; omega) (fun _ => ?_)
            refine Z_aload0 (pc := 41) ok dX12_list_41 ?_
            refine g_X12_items (pc := 42) (t := 137) ok dX12_list_42 kw925 rfl rfl ?_
            refine Z_bipush (pc := 45) ok dX12_list_45 (by decide) ?_
            refine Z_iload1 (pc := 47) ok dX12_list_47 ?_
            refine Z_imul (pc := 48) ok dX12_list_48 ?_
            refine Z_iload3 (pc := 49) ok dX12_list_49 ?_
            refine Z_iadd (pc := 50) ok dX12_list_50 ?_
            refine Z_lconst (pc := 51) (z := 0) ok dX12_list_51 (by decide) ?_
            refine Z_last (pc := 52) (L := 90) ok dX12_list_52 rfl rfl (by first | omega | (simp [sz, uz] <;> omega)) ?_
            refine Z_iinc3 (pc := 53) ok (by decide) dX12_list_53 rfl ?_
            refine Z_goto (pc := 56) (tgt := 35) ok dX12_list_56 rfl ?_
            rw [sz_sz, sz_eq]
            refine ih _ (fun x a b => ?_) (fun x hx => by rw [uz_ne _ _ (by omega)]; exact f2 x hx)
            by_cases q : x = 30 * i + e
            · rw [q, uz_eq]
            · rw [uz_ne _ _ q]; exact f1 x a (by omega)
        have h0 := H 0 (by omega) (by omega) (J 137) (fun x a b => by omega) (fun _ _ => rfl)
        rw [sz_self] at h0
        exact h0
      · refine Z_bipush (pc := 23) ok dX12_list_23 (by decide) ?_
        refine Z_iret (pc := 25) ok okr dX12_list_25 ?_
        exact ⟨_, rfl, Or.inr (Or.inr (Or.inl ⟨by omega, by omega, rfl, rfl, rfl⟩))⟩
    · refine Z_bipush (pc := 15) ok dX12_list_15 (by decide) ?_
      refine Z_iret (pc := 17) ok okr dX12_list_17 ?_
      exact ⟨_, rfl, Or.inr (Or.inl ⟨by omega, by omega, rfl, rfl, rfl⟩)⟩
  · refine Z_iconst (pc := 7) ok dX12_list_7 ?_
    refine Z_iret (pc := 8) ok okr dX12_list_8 ?_
    exact ⟨_, rfl, Or.inl ⟨by omega, rfl, rfl, rfl⟩⟩
theorem m_put {i j v : Int} (hi : -2147483648 ≤ i ∧ i ≤ 2147483647) (hj : -2147483648 ≤ j ∧ j ≤ 2147483647) (hl : mLs I J) : K_X12_put l G [zr G 121, zi i, zi j, zl v] I J (fun w I' J' => ∃ r, w = some (zi r) ∧ (I' = I ∧ ((¬ (0 ≤ i ∧ i < 3) ∧ r = -1 ∧ J' = J) ∨ ((0 ≤ i ∧ i < 3) ∧ I 136 i < 0 ∧ r = -11 ∧ J' = J) ∨ ((0 ≤ i ∧ i < 3) ∧ 0 ≤ I 136 i ∧ ¬ (0 ≤ j ∧ j < I 136 i) ∧ r = -13 ∧ J' = J) ∨ ((0 ≤ i ∧ i < 3) ∧ (0 ≤ j ∧ j < I 136 i) ∧ r = 1 ∧ J' = sz J 137 (uz (J 137) (30 * i + j) v))))) := by
  refine Cz.of rfl (Nat.le_of_ble_eq_true rfl) [some (zr G 121), some (zi i), some (zi j), some (zl v), none] rfl (fun E ok okr hE => ?_)
  refine Z_iload1 (pc := 0) ok dX12_put_0 ?_
  refine Z_callSId (pc := 1) ok dX12_put_1 cw_X12_194 (m_isList hi) rfl rfl (by first | decide | omega) (Nat.le_of_ble_eq_true rfl) ?_
  refine Z_if_neB (pc := 4) (tgt := 9) ok dX12_put_4 rfl (fun h => ?_) (fun h => ?_)
  · have hb := hl.1 i (by omega) (by omega)
    refine Z_aload0 (pc := 9) ok dX12_put_9 ?_
    refine g_X12_sizes (pc := 10) (t := 136) ok dX12_put_10 kw924 rfl rfl ?_
    refine Z_iload1 (pc := 13) ok dX12_put_13 ?_
    refine Z_iald (pc := 14) (L := 3) ok dX12_put_14 rfl rfl (by first | omega | (simp [sz, uz] <;> omega)) ?_
    refine Z_if_ge (pc := 15) (tgt := 21) ok dX12_put_15 rfl (by first | omega | (simp [sz, uz] <;> omega)) (fun h2 => ?_) (fun h2 => ?_)
    · refine Z_iload2 (pc := 21) ok dX12_put_21 ?_
      refine Z_i2l (pc := 22) ok dX12_put_22 (by first | omega | (simp [sz, uz] <;> omega)) ?_
      refine Z_lconst (pc := 23) (z := 0) ok dX12_put_23 (by decide) ?_
      refine Z_aload0 (pc := 24) ok dX12_put_24 ?_
      refine g_X12_sizes (pc := 25) (t := 136) ok dX12_put_25 kw924 rfl rfl ?_
      refine Z_iload1 (pc := 28) ok dX12_put_28 ?_
      refine Z_iald (pc := 29) (L := 3) ok dX12_put_29 rfl rfl (by first | omega | (simp [sz, uz] <;> omega)) ?_
      refine Z_iconst (pc := 30) ok dX12_put_30 ?_
      refine Z_isub (pc := 31) ok dX12_put_31 ?_
      refine Z_i2l (pc := 32) ok dX12_put_32 (by first | omega | (simp [sz, uz] <;> omega)) ?_
      refine Z_callSId (pc := 33) ok dX12_put_33 cw_X12_97 (m_in (by omega) (by omega) (by omega)) rfl rfl (by first | decide | omega) (Nat.le_of_ble_eq_true rfl) ?_
      refine Z_if_neB (pc := 36) (tgt := 42) ok dX12_put_36 rfl (fun h3 => ?_) (fun h3 => ?_)
      · refine Z_aload0 (pc := 42) ok dX12_put_42 ?_
        refine g_X12_items (pc := 43) (t := 137) ok dX12_put_43 kw925 rfl rfl ?_
        refine Z_bipush (pc := 46) ok dX12_put_46 (by decide) ?_
        refine Z_iload1 (pc := 48) ok dX12_put_48 ?_
        refine Z_imul (pc := 49) ok dX12_put_49 ?_
        refine Z_iload2 (pc := 50) ok dX12_put_50 ?_
        refine Z_iadd (pc := 51) ok dX12_put_51 ?_
        refine Z_lload3 (pc := 52) ok dX12_put_52 ?_
        refine Z_last (pc := 53) (L := 90) ok dX12_put_53 rfl rfl (by first | omega | (simp [sz, uz] <;> omega)) ?_
        refine Z_iconst (pc := 54) ok dX12_put_54 ?_
        refine Z_iret (pc := 55) ok okr dX12_put_55 ?_
        exact ⟨_, rfl, rfl, Or.inr (Or.inr (Or.inr ⟨by omega, by omega, rfl, rfl⟩))⟩
      · refine Z_bipush (pc := 39) ok dX12_put_39 (by decide) ?_
        refine Z_iret (pc := 41) ok okr dX12_put_41 ?_
        exact ⟨_, rfl, rfl, Or.inr (Or.inr (Or.inl ⟨by omega, by omega, by omega, rfl, rfl⟩))⟩
    · refine Z_bipush (pc := 18) ok dX12_put_18 (by decide) ?_
      refine Z_iret (pc := 20) ok okr dX12_put_20 ?_
      exact ⟨_, rfl, rfl, Or.inr (Or.inl ⟨by omega, h2, rfl, rfl⟩)⟩
  · refine Z_iconst (pc := 7) ok dX12_put_7 ?_
    refine Z_iret (pc := 8) ok okr dX12_put_8 ?_
    exact ⟨_, rfl, rfl, Or.inl ⟨by omega, rfl, rfl⟩⟩
theorem m_get {i j : Int} (hi : -2147483648 ≤ i ∧ i ≤ 2147483647) (hj : -2147483648 ≤ j ∧ j ≤ 2147483647) (hl : mLs I J) : K_X12_get l G [zr G 121, zi i, zi j] I J (fun w I' J' => ∃ r, w = some (zl r) ∧ (I' = I ∧ J' = J ∧ ((¬ ((0 ≤ i ∧ i < 3) ∧ (0 ≤ j ∧ j < I 136 i)) ∧ r = -9223372036854775808) ∨ (((0 ≤ i ∧ i < 3) ∧ (0 ≤ j ∧ j < I 136 i)) ∧ r = J 137 (30 * i + j))))) := by
  refine Cz.of rfl (Nat.le_of_ble_eq_true rfl) [some (zr G 121), some (zi i), some (zi j)] rfl (fun E ok okr hE => ?_)
  refine Z_iload1 (pc := 0) ok dX12_get_0 ?_
  refine Z_callSId (pc := 1) ok dX12_get_1 cw_X12_194 (m_isList hi) rfl rfl (by first | decide | omega) (Nat.le_of_ble_eq_true rfl) ?_
  refine Z_if_eqB (pc := 4) (tgt := 39) ok dX12_get_4 rfl (fun h => ?_) (fun h => ?_)
  · refine Z_ldc2 (pc := 39) (z := -9223372036854775808) ok dX12_get_39 kw1060 (by decide) ?_
    refine Z_lret (pc := 42) ok okr dX12_get_42 ?_
    exact ⟨_, rfl, rfl, rfl, Or.inl ⟨fun q => h (by omega), rfl⟩⟩
  · have hb := hl.1 i (by omega) (by omega)
    refine Z_iload2 (pc := 7) ok dX12_get_7 ?_
    refine Z_i2l (pc := 8) ok dX12_get_8 (by first | omega | (simp [sz, uz] <;> omega)) ?_
    refine Z_lconst (pc := 9) (z := 0) ok dX12_get_9 (by decide) ?_
    refine Z_aload0 (pc := 10) ok dX12_get_10 ?_
    refine g_X12_sizes (pc := 11) (t := 136) ok dX12_get_11 kw924 rfl rfl ?_
    refine Z_iload1 (pc := 14) ok dX12_get_14 ?_
    refine Z_iald (pc := 15) (L := 3) ok dX12_get_15 rfl rfl (by first | omega | (simp [sz, uz] <;> omega)) ?_
    refine Z_iconst (pc := 16) ok dX12_get_16 ?_
    refine Z_isub (pc := 17) ok dX12_get_17 ?_
    refine Z_i2l (pc := 18) ok dX12_get_18 (by first | omega | (simp [sz, uz] <;> omega)) ?_
    refine Z_callSId (pc := 19) ok dX12_get_19 cw_X12_97 (m_in (by omega) (by omega) (by omega)) rfl rfl (by first | decide | omega) (Nat.le_of_ble_eq_true rfl) ?_
    refine Z_if_eqB (pc := 22) (tgt := 39) ok dX12_get_22 rfl (fun h2 => ?_) (fun h2 => ?_)
    · refine Z_ldc2 (pc := 39) (z := -9223372036854775808) ok dX12_get_39 kw1060 (by decide) ?_
      refine Z_lret (pc := 42) ok okr dX12_get_42 ?_
      exact ⟨_, rfl, rfl, rfl, Or.inl ⟨fun q => h2 (by omega), rfl⟩⟩
    · refine Z_aload0 (pc := 25) ok dX12_get_25 ?_
      refine g_X12_items (pc := 26) (t := 137) ok dX12_get_26 kw925 rfl rfl ?_
      refine Z_bipush (pc := 29) ok dX12_get_29 (by decide) ?_
      refine Z_iload1 (pc := 31) ok dX12_get_31 ?_
      refine Z_imul (pc := 32) ok dX12_get_32 ?_
      refine Z_iload2 (pc := 33) ok dX12_get_33 ?_
      refine Z_iadd (pc := 34) ok dX12_get_34 ?_
      refine Z_lald (pc := 35) (L := 90) ok dX12_get_35 rfl rfl (by first | omega | (simp [sz, uz] <;> omega)) ?_
      refine Z_goto (pc := 36) (tgt := 42) ok dX12_get_36 rfl ?_
      refine Z_lret (pc := 42) ok okr dX12_get_42 ?_
      exact ⟨_, rfl, rfl, rfl, Or.inr ⟨⟨by omega, by omega⟩, rfl⟩⟩
theorem m_film {i : Int} (hi : -2147483648 ≤ i ∧ i ≤ 2147483647) (h1 : gR (I 121 0) (I 122)) : K_X12_film l G [zr G 121, zi i] I J (fun w I' J' => ∃ r, w = some (zi r) ∧ ((¬ (0 ≤ i ∧ i < 3) ∧ r = -1 ∧ I' = I ∧ J' = J) ∨ ((0 ≤ i ∧ i < 3) ∧ r = I 121 0 ∧ I' = sz I 136 (uz (I 136) i (I 121 0)) ∧ fr [137] J J' ∧ (∀ e, 0 ≤ e → e < 30 → J' 137 (30 * i + e) = I 122 e) ∧ (∀ x, x < 30 * i ∨ 30 * i + 30 ≤ x → J' 137 x = J 137 x)))) := by
  have hn := h1.1
  refine Cz.of rfl (Nat.le_of_ble_eq_true rfl) [some (zr G 121), some (zi i), none] rfl (fun E ok okr hE => ?_)
  refine Z_iload1 (pc := 0) ok dX12_film_0 ?_
  refine Z_callSId (pc := 1) ok dX12_film_1 cw_X12_194 (m_isList hi) rfl rfl (by first | decide | omega) (Nat.le_of_ble_eq_true rfl) ?_
  refine Z_if_neB (pc := 4) (tgt := 9) ok dX12_film_4 rfl (fun h => ?_) (fun h => ?_)
  · have z0 : sz I 136 (uz (I 136) i (I 121 0)) 121 0 = I 121 0 := by rw [sz_ne _ _ (by decide)]
    have z22 : sz I 136 (uz (I 136) i (I 121 0)) 122 = I 122 := sz_ne _ _ (by decide)
    refine Z_aload0 (pc := 9) ok dX12_film_9 ?_
    refine g_X12_sizes (pc := 10) (t := 136) ok dX12_film_10 kw924 rfl rfl ?_
    refine Z_iload1 (pc := 13) ok dX12_film_13 ?_
    refine Z_aload0 (pc := 14) ok dX12_film_14 ?_
    refine g_X12_n (pc := 15) ok dX12_film_15 kw905 rfl ?_
    refine Z_iast (pc := 18) (L := 3) ok dX12_film_18 rfl rfl (by first | omega | (simp [sz, uz] <;> omega)) ?_
    refine Z_iconst (pc := 19) ok dX12_film_19 ?_
    refine Z_istore2 (pc := 20) ok (by decide) dX12_film_20 rfl ?_
    have H : ∀ e : Int, 0 ≤ e → e ≤ 30 → ∀ f : Int → Int, (∀ j, 0 ≤ j → j < e → f (30 * i + j) = I 122 j) → (∀ x, x < 30 * i ∨ 30 * i + 30 ≤ x → f x = J 137 x) → Xz E G (sz I 136 (uz (I 136) i (I 121 0))) (sz J 137 f) 21 [some (zr G 121), some (zi i), some (zi e)] [] := by
      refine zUp ?_ ?_
      · intro f f1 f2
        refine Z_iload2 (pc := 21) ok dX12_film_21 ?_
        refine Z_bipush (pc := 22) ok dX12_film_22 (by decide) ?_
        refine Z_icmp_ge (pc := 24) (tgt := 63) ok dX12_film_24 rfl (by first | omega | (simp [sz, uz] <;> omega)) (by first | omega | (simp [sz, uz] <;> omega)) (fun _ => ?_) (fun h => by exfalso; omega)
        refine Z_aload0 (pc := 63) ok dX12_film_63 ?_
        refine g_X12_n (pc := 64) ok dX12_film_64 kw905 rfl ?_
        refine Z_iret (pc := 67) ok okr dX12_film_67 ?_
        exact ⟨_, rfl, Or.inr ⟨by omega, z0, rfl, fr.rf.st rfl, fun x a b => by rw [sz_eq]; exact f1 x a b, fun x hx => by rw [sz_eq]; exact f2 x hx⟩⟩
      · intro e e0 e1 ih f f1 f2
        have hc := h1.2.1 e
        have z2e := congrFun z22 e
        have nx : ∀ v, v = I 122 e → ∀ j, 0 ≤ j → j < e + 1 → uz f (30 * i + e) v (30 * i + j) = I 122 j := fun v hv j a b => by
          by_cases q : j = e
          · rw [q, uz_eq, hv]
          · rw [uz_ne _ _ (by omega)]; exact f1 j a (by omega)
        refine Z_iload2 (pc := 21) ok dX12_film_21 ?_
        refine Z_bipush (pc := 22) ok dX12_film_22 (by decide) ?_
        refine Z_icmp_ge (pc := 24) (tgt := 63) ok dX12_film_24 rfl (by first | omega | (simp [sz, uz] <;> omega)) (by first | omega | (simp [sz, uz] <;> omega)) (fun h => by exfalso; omega) (fun _ => ?_)
        refine Z_aload0 (pc := 27) ok dX12_film_27 ?_
        refine g_X12_items (pc := 28) (t := 137) ok dX12_film_28 kw925 rfl rfl ?_
        refine Z_bipush (pc := 31) ok dX12_film_31 (by decide) ?_
        refine Z_iload1 (pc := 33) ok dX12_film_33 ?_
        refine Z_imul (pc := 34) ok dX12_film_34 ?_
        refine Z_iload2 (pc := 35) ok dX12_film_35 ?_
        refine Z_iadd (pc := 36) ok dX12_film_36 ?_
        refine Z_iload2 (pc := 37) ok dX12_film_37 ?_
        refine Z_aload0 (pc := 38) ok dX12_film_38 ?_
        refine g_X12_n (pc := 39) ok dX12_film_39 kw905 rfl ?_
        refine Z_icmp_ge (pc := 42) (tgt := 55) ok dX12_film_42 rfl (by first | omega | (simp [sz, uz] <;> omega)) (by first | omega | (simp [sz, uz] <;> omega)) (fun h3 => ?_) (fun h3 => ?_)
        · refine Z_lconst (pc := 55) (z := 0) ok dX12_film_55 (by decide) ?_
          refine Z_last (pc := 56) (L := 90) ok dX12_film_56 rfl rfl (by first | omega | (simp [sz, uz] <;> omega)) ?_
          refine Z_iinc2 (pc := 57) ok (by decide) dX12_film_57 rfl ?_
          refine Z_goto (pc := 60) (tgt := 21) ok dX12_film_60 rfl ?_
          rw [sz_sz, sz_eq]
          exact ih _ (nx _ (by rw [h1.2.2 e (by omega)])) (fun x hx => by rw [uz_ne _ _ (by omega)]; exact f2 x hx)
        · refine Z_aload0 (pc := 45) ok dX12_film_45 ?_
          refine g_X12_row (pc := 46) (t := 122) ok dX12_film_46 kw906 rfl rfl ?_
          refine Z_iload2 (pc := 49) ok dX12_film_49 ?_
          refine Z_iald (pc := 50) (L := 30) ok dX12_film_50 rfl rfl (by first | omega | (simp [sz, uz] <;> omega)) ?_
          refine Z_i2l (pc := 51) ok dX12_film_51 (by first | omega | (simp [sz, uz] <;> omega)) ?_
          refine Z_goto (pc := 52) (tgt := 56) ok dX12_film_52 rfl ?_
          refine Z_last (pc := 56) (L := 90) ok dX12_film_56 rfl rfl (by first | omega | (simp [sz, uz] <;> omega)) ?_
          refine Z_iinc2 (pc := 57) ok (by decide) dX12_film_57 rfl ?_
          refine Z_goto (pc := 60) (tgt := 21) ok dX12_film_60 rfl ?_
          rw [sz_sz, sz_eq]
          exact ih _ (nx _ z2e) (fun x hx => by rw [uz_ne _ _ (by omega)]; exact f2 x hx)
    have h0 := H 0 (by omega) (by omega) (J 137) (fun x a b => by omega) (fun _ _ => rfl)
    rw [sz_self] at h0
    exact h0
  · refine Z_iconst (pc := 7) ok dX12_film_7 ?_
    refine Z_iret (pc := 8) ok okr dX12_film_8 ?_
    exact ⟨_, rfl, Or.inl ⟨by omega, rfl, rfl, rfl⟩⟩
theorem m_feed {a : Int} (ha : -2147483648 ≤ a ∧ a ≤ 2147483647) (hs : 0 ≤ I 121 25 ∧ I 121 25 ≤ 100) : K_X12_feed l G [zr G 121, zi a] I J (fun w I' J' => ∃ r, w = some (zi r) ∧ (J' = J ∧ ((¬ (32 ≤ a ∧ a ≤ 126) ∧ r = -2 ∧ I' = I) ∨ ((32 ≤ a ∧ a ≤ 126) ∧ I 121 25 = 100 ∧ r = -4 ∧ I' = I) ∨ ((32 ≤ a ∧ a ≤ 126) ∧ I 121 25 < 100 ∧ r = I 121 25 + 1 ∧ I' = sz (sz I 141 (uz (I 141) (I 121 25) a)) 121 (uz (I 121) 25 (I 121 25 + 1)))))) := by
  refine Cz.of rfl (Nat.le_of_ble_eq_true rfl) [some (zr G 121), some (zi a)] rfl (fun E ok okr hE => ?_)
  refine Z_iload1 (pc := 0) ok dX12_feed_0 ?_
  refine Z_i2l (pc := 1) ok dX12_feed_1 (by first | omega | (simp [sz, uz] <;> omega)) ?_
  refine Z_ldc2 (pc := 2) (z := 32) ok dX12_feed_2 kw1331 (by decide) ?_
  refine Z_ldc2 (pc := 5) (z := 126) ok dX12_feed_5 kw1332 (by decide) ?_
  refine Z_callSId (pc := 8) ok dX12_feed_8 cw_X12_97 (m_in (by omega) (by omega) (by omega)) rfl rfl (by first | decide | omega) (Nat.le_of_ble_eq_true rfl) ?_
  refine Z_if_neB (pc := 11) (tgt := 17) ok dX12_feed_11 rfl (fun h => ?_) (fun h => ?_)
  · refine Z_aload0 (pc := 17) ok dX12_feed_17 ?_
    refine g_X12_taped (pc := 18) ok dX12_feed_18 kw930 rfl ?_
    refine Z_bipush (pc := 21) ok dX12_feed_21 (by decide) ?_
    refine Z_icmp_ne (pc := 23) (tgt := 29) ok dX12_feed_23 rfl (by first | omega | (simp [sz, uz] <;> omega)) (by first | omega | (simp [sz, uz] <;> omega)) (fun h2 => ?_) (fun h2 => ?_)
    · refine Z_aload0 (pc := 29) ok dX12_feed_29 ?_
      refine g_X12_tape (pc := 30) (t := 141) ok dX12_feed_30 kw929 rfl rfl ?_
      refine Z_aload0 (pc := 33) ok dX12_feed_33 ?_
      refine g_X12_taped (pc := 34) ok dX12_feed_34 kw930 rfl ?_
      refine Z_iload1 (pc := 37) ok dX12_feed_37 ?_
      refine Z_iast (pc := 38) (L := 100) ok dX12_feed_38 rfl rfl (by first | omega | (simp [sz, uz] <;> omega)) ?_
      refine Z_aload0 (pc := 39) ok dX12_feed_39 ?_
      refine Z_dup (pc := 40) ok dX12_feed_40 rfl ?_
      refine g_X12_taped (pc := 41) ok dX12_feed_41 kw930 rfl ?_
      refine Z_iconst (pc := 44) ok dX12_feed_44 ?_
      refine Z_iadd (pc := 45) ok dX12_feed_45 ?_
      refine p_X12_taped (pc := 46) ok dX12_feed_46 kw930 rfl ?_
      rw [sz_ne _ _ (show (121 : Nat) ≠ 141 by decide)]
      refine Z_aload0 (pc := 49) ok dX12_feed_49 ?_
      refine g_X12_taped (pc := 50) ok dX12_feed_50 kw930 rfl ?_
      refine Z_iret (pc := 53) ok okr dX12_feed_53 ?_
      exact ⟨_, rfl, rfl, Or.inr (Or.inr ⟨h, by omega, by rw [sz_eq, uz_eq], rfl⟩)⟩
    · refine Z_bipush (pc := 26) ok dX12_feed_26 (by decide) ?_
      refine Z_iret (pc := 28) ok okr dX12_feed_28 ?_
      exact ⟨_, rfl, rfl, Or.inr (Or.inl ⟨h, h2, rfl, rfl⟩)⟩
  · refine Z_bipush (pc := 14) ok dX12_feed_14 (by decide) ?_
    refine Z_iret (pc := 16) ok okr dX12_feed_16 ?_
    exact ⟨_, rfl, rfl, Or.inl ⟨h, rfl, rfl⟩⟩
theorem m_wipe : K_X12_wipe l G [zr G 121] I J (pR (some (zi (I 121 25))) (sz I 121 (uz (I 121) 25 0)) J) := by
  refine Cz.of rfl (Nat.le_of_ble_eq_true rfl) [some (zr G 121), none] rfl (fun E ok okr hE => ?_)
  refine Z_aload0 (pc := 0) ok dX12_wipe_0 ?_
  refine g_X12_taped (pc := 1) ok dX12_wipe_1 kw930 rfl ?_
  refine Z_istore1 (pc := 4) ok (by decide) dX12_wipe_4 rfl ?_
  refine Z_aload0 (pc := 5) ok dX12_wipe_5 ?_
  refine Z_iconst (pc := 6) ok dX12_wipe_6 ?_
  refine p_X12_taped (pc := 7) ok dX12_wipe_7 kw930 rfl ?_
  refine Z_iload1 (pc := 10) ok dX12_wipe_10 ?_
  refine Z_iret (pc := 11) ok okr dX12_wipe_11 ?_
  exact ⟨rfl, rfl, rfl⟩
theorem m_lays {a b L : Nat} (ha : kd a = 13) (hb : kd b = 13) (hL : ln a = L) (hM : ln b = L) (hab : a ≠ b) : K_X12_lays l G [zr G a, zr G b] I J (pR none (sz I b (I a)) J) := by
  have hs := ln_small a
  refine Cz.of rfl (Nat.le_of_ble_eq_true rfl) [some (zr G a), some (zr G b), none] rfl (fun E ok okr hE => ?_)
  refine Z_iconst (pc := 0) ok dX12_lays_0 ?_
  refine Z_istore2 (pc := 1) ok (by decide) dX12_lays_1 rfl ?_
  have H : ∀ i : Int, 0 ≤ i → i ≤ L → ∀ f : Int → Int, (∀ j, 0 ≤ j → j < i → f j = I a j) → Xz E G (sz I b f) J 2 [some (zr G a), some (zr G b), some (zi i)] [] := by
    refine zUp ?_ ?_
    · intro f f1
      refine Z_ext1 (g := I a) (by omega) (fun j h0 h1 => f1 j h0 (by omega)) ?_
      refine Z_iload2 (pc := 2) ok dX12_lays_2 ?_
      refine Z_aload0 (pc := 3) ok dX12_lays_3 ?_
      refine Z_alen (pc := 4) ok dX12_lays_4 (t := 0) ha rfl hL ?_
      refine Z_icmp_ge (pc := 5) (tgt := 20) ok dX12_lays_5 rfl (by first | omega | (simp [sz, uz] <;> omega)) (by first | omega | (simp [sz, uz] <;> omega)) (fun _ => ?_) (fun h => by exfalso; omega)
      refine Z_vret (pc := 20) ok okr dX12_lays_20 ?_
      exact ⟨rfl, rfl, rfl⟩
    · intro i i0 i1 ih f f1
      have z : sz I b f a = I a := sz_ne _ _ hab
      refine Z_iload2 (pc := 2) ok dX12_lays_2 ?_
      refine Z_aload0 (pc := 3) ok dX12_lays_3 ?_
      refine Z_alen (pc := 4) ok dX12_lays_4 (t := 0) ha rfl hL ?_
      refine Z_icmp_ge (pc := 5) (tgt := 20) ok dX12_lays_5 rfl (by first | omega | (simp [sz, uz] <;> omega)) (by first | omega | (simp [sz, uz] <;> omega)) (fun h => by exfalso; omega) (fun _ => ?_)
      refine Z_aload1 (pc := 8) ok dX12_lays_8 ?_
      refine Z_iload2 (pc := 9) ok dX12_lays_9 ?_
      refine Z_aload0 (pc := 10) ok dX12_lays_10 ?_
      refine Z_iload2 (pc := 11) ok dX12_lays_11 ?_
      refine Z_iald (pc := 12) ok dX12_lays_12 ha hL (by first | omega | (simp [sz, uz] <;> omega)) ?_
      refine Z_iast (pc := 13) ok dX12_lays_13 hb hM (by first | omega | (simp [sz, uz] <;> omega)) ?_
      refine Z_iinc2 (pc := 14) ok (by decide) dX12_lays_14 rfl ?_
      refine Z_goto (pc := 17) (tgt := 2) ok dX12_lays_17 rfl ?_
      rw [sz_sz, sz_eq, z]
      exact ih _ (upto_s (p := fun j x => x = I a j) f1 rfl)
  have h0 := H 0 (by omega) (by omega) (I b) (fun j x y => by omega)
  rw [sz_self] at h0
  exact h0
theorem m_image (hn : 2 ≤ I 121 0 ∧ I 121 0 ≤ 30) : K_X12_image l G [zr G 121] I J (pR (some (zi (su (I 122) (I 121 0)))) (sz (sz (sz (sz (sz I 121 (uz (uz (uz (I 121) 30 1) 31 (I 121 0)) 32 (I 121 3))) 143 (I 122)) 144 (I 123)) 145 (I 124)) 146 (I 125)) J) := by
  refine Cz.of rfl (Nat.le_of_ble_eq_true rfl) [some (zr G 121)] rfl (fun E ok okr hE => ?_)
  refine Z_aload0 (pc := 0) ok dX12_image_0 ?_
  refine Z_iconst (pc := 1) ok dX12_image_1 ?_
  refine p_X12_hasImage (pc := 2) ok dX12_image_2 kw935 rfl (by first | exact Or.inl rfl | exact Or.inr rfl | exact zb_01 _ | assumption | omega) ?_
  refine Z_aload0 (pc := 5) ok dX12_image_5 ?_
  refine Z_aload0 (pc := 6) ok dX12_image_6 ?_
  refine g_X12_n (pc := 7) ok dX12_image_7 kw905 rfl ?_
  refine p_X12_imageN (pc := 10) ok dX12_image_10 kw936 rfl ?_
  refine Z_aload0 (pc := 13) ok dX12_image_13 ?_
  refine Z_aload0 (pc := 14) ok dX12_image_14 ?_
  refine g_X12_planned (pc := 15) ok dX12_image_15 kw908 rfl ?_
  refine p_X12_imagePlanned (pc := 18) ok dX12_image_18 kw937 rfl ?_
  rw [sz_eq, sz_eq, sz_sz, sz_sz, uz_ne _ _ (show (0 : Int) ≠ 30 by decide), uz_ne _ _ (show (3 : Int) ≠ 31 by decide), uz_ne _ _ (show (3 : Int) ≠ 30 by decide)]
  refine Z_aload0 (pc := 21) ok dX12_image_21 ?_
  refine g_X12_row (pc := 22) (t := 122) ok dX12_image_22 kw906 rfl rfl ?_
  refine Z_aload0 (pc := 25) ok dX12_image_25 ?_
  refine g_X12_imageRow (pc := 26) (t := 143) ok dX12_image_26 kw938 rfl rfl ?_
  refine Z_callSVd (pc := 29) ok dX12_image_29 cw_X12_293 (m_lays (L := 30) rfl rfl rfl rfl (by decide)) rfl rfl (by first | decide | omega) (Nat.le_of_ble_eq_true rfl) ?_
  refine Z_aload0 (pc := 32) ok dX12_image_32 ?_
  refine g_X12_plan (pc := 33) (t := 123) ok dX12_image_33 kw907 rfl rfl ?_
  refine Z_aload0 (pc := 36) ok dX12_image_36 ?_
  refine g_X12_imagePlan (pc := 37) (t := 144) ok dX12_image_37 kw939 rfl rfl ?_
  refine Z_callSVd (pc := 40) ok dX12_image_40 cw_X12_293 (m_lays (L := 16) rfl rfl rfl rfl (by decide)) rfl rfl (by first | decide | omega) (Nat.le_of_ble_eq_true rfl) ?_
  refine Z_aload0 (pc := 43) ok dX12_image_43 ?_
  refine g_X12_keptMany (pc := 44) (t := 124) ok dX12_image_44 kw909 rfl rfl ?_
  refine Z_aload0 (pc := 47) ok dX12_image_47 ?_
  refine g_X12_imageMany (pc := 48) (t := 145) ok dX12_image_48 kw940 rfl rfl ?_
  refine Z_callSVd (pc := 51) ok dX12_image_51 cw_X12_293 (m_lays (L := 2) rfl rfl rfl rfl (by decide)) rfl rfl (by first | decide | omega) (Nat.le_of_ble_eq_true rfl) ?_
  refine Z_aload0 (pc := 54) ok dX12_image_54 ?_
  refine g_X12_kept (pc := 55) (t := 125) ok dX12_image_55 kw910 rfl rfl ?_
  refine Z_aload0 (pc := 58) ok dX12_image_58 ?_
  refine g_X12_imageKept (pc := 59) (t := 146) ok dX12_image_59 kw941 rfl rfl ?_
  refine Z_callSVd (pc := 62) ok dX12_image_62 cw_X12_293 (m_lays (L := 496) rfl rfl rfl rfl (by decide)) rfl rfl (by first | decide | omega) (Nat.le_of_ble_eq_true rfl) ?_
  simp only [sz_ne _ _ (show (122 : Nat) ≠ 121 by decide), sz_ne _ _ (show (123 : Nat) ≠ 121 by decide), sz_ne _ _ (show (123 : Nat) ≠ 143 by decide), sz_ne _ _ (show (124 : Nat) ≠ 121 by decide), sz_ne _ _ (show (124 : Nat) ≠ 143 by decide), sz_ne _ _ (show (124 : Nat) ≠ 144 by decide), sz_ne _ _ (show (125 : Nat) ≠ 121 by decide), sz_ne _ _ (show (125 : Nat) ≠ 143 by decide), sz_ne _ _ (show (125 : Nat) ≠ 144 by decide), sz_ne _ _ (show (125 : Nat) ≠ 145 by decide)]
  refine Z_gen (fun T hT => ?_)
  have e0 : T 121 0 = I 121 0 := by rw [hT]; simp [sz, uz]
  have e2 : T 122 = I 122 := by rw [hT]; simp [sz]
  refine Z_aload0 (pc := 65) ok dX12_image_65 ?_
  refine Z_callVId (pc := 66) ok dX12_image_66 cw_X12_115 rfl rfl (by decide) (m_weight (by rw [e0]; exact hn)) rfl rfl (by first | decide | omega) (Nat.le_of_ble_eq_true rfl) ?_
  refine Z_iret (pc := 69) ok okr dX12_image_69 ?_
  rw [e0, e2, hT]
  exact ⟨rfl, rfl, rfl⟩
theorem m_undo (hi : I 121 30 = 0 ∨ I 121 30 = 1) (hn : I 121 30 = 1 → 2 ≤ I 121 31 ∧ I 121 31 ≤ 30) : K_X12_undo l G [zr G 121] I J (fun v I' J' => ∃ r, v = some (zi r) ∧ (J' = J ∧ ((I 121 30 = 0 ∧ r = -3 ∧ I' = I) ∨ (I 121 30 = 1 ∧ r = su (I 143) (I 121 31) ∧ I' = sz (sz (sz (sz (sz I 121 (uz (uz (I 121) 0 (I 121 31)) 3 (I 121 32))) 122 (I 143)) 123 (I 144)) 124 (I 145)) 125 (I 146))))) := by
  refine Cz.of rfl (Nat.le_of_ble_eq_true rfl) [some (zr G 121)] rfl (fun E ok okr hE => ?_)
  refine Z_aload0 (pc := 0) ok dX12_undo_0 ?_
  refine g_X12_hasImage (pc := 1) ok dX12_undo_1 kw935 rfl ?_
  refine Z_if_ne (pc := 4) (tgt := 10) ok dX12_undo_4 rfl (by first | omega | (simp [sz, uz] <;> omega)) (fun h => ?_) (fun h => ?_)
  · refine Z_aload0 (pc := 10) ok dX12_undo_10 ?_
    refine Z_aload0 (pc := 11) ok dX12_undo_11 ?_
    refine g_X12_imageN (pc := 12) ok dX12_undo_12 kw936 rfl ?_
    refine p_X12_n (pc := 15) ok dX12_undo_15 kw905 rfl ?_
    refine Z_aload0 (pc := 18) ok dX12_undo_18 ?_
    refine Z_aload0 (pc := 19) ok dX12_undo_19 ?_
    refine g_X12_imagePlanned (pc := 20) ok dX12_undo_20 kw937 rfl ?_
    refine p_X12_planned (pc := 23) ok dX12_undo_23 kw908 rfl ?_
    rw [sz_eq, sz_sz, uz_ne _ _ (show (32 : Int) ≠ 0 by decide)]
    refine Z_aload0 (pc := 26) ok dX12_undo_26 ?_
    refine g_X12_imageRow (pc := 27) (t := 143) ok dX12_undo_27 kw938 rfl rfl ?_
    refine Z_aload0 (pc := 30) ok dX12_undo_30 ?_
    refine g_X12_row (pc := 31) (t := 122) ok dX12_undo_31 kw906 rfl rfl ?_
    refine Z_callSVd (pc := 34) ok dX12_undo_34 cw_X12_293 (m_lays (L := 30) rfl rfl rfl rfl (by decide)) rfl rfl (by first | decide | omega) (Nat.le_of_ble_eq_true rfl) ?_
    refine Z_aload0 (pc := 37) ok dX12_undo_37 ?_
    refine g_X12_imagePlan (pc := 38) (t := 144) ok dX12_undo_38 kw939 rfl rfl ?_
    refine Z_aload0 (pc := 41) ok dX12_undo_41 ?_
    refine g_X12_plan (pc := 42) (t := 123) ok dX12_undo_42 kw907 rfl rfl ?_
    refine Z_callSVd (pc := 45) ok dX12_undo_45 cw_X12_293 (m_lays (L := 16) rfl rfl rfl rfl (by decide)) rfl rfl (by first | decide | omega) (Nat.le_of_ble_eq_true rfl) ?_
    refine Z_aload0 (pc := 48) ok dX12_undo_48 ?_
    refine g_X12_imageMany (pc := 49) (t := 145) ok dX12_undo_49 kw940 rfl rfl ?_
    refine Z_aload0 (pc := 52) ok dX12_undo_52 ?_
    refine g_X12_keptMany (pc := 53) (t := 124) ok dX12_undo_53 kw909 rfl rfl ?_
    refine Z_callSVd (pc := 56) ok dX12_undo_56 cw_X12_293 (m_lays (L := 2) rfl rfl rfl rfl (by decide)) rfl rfl (by first | decide | omega) (Nat.le_of_ble_eq_true rfl) ?_
    refine Z_aload0 (pc := 59) ok dX12_undo_59 ?_
    refine g_X12_imageKept (pc := 60) (t := 146) ok dX12_undo_60 kw941 rfl rfl ?_
    refine Z_aload0 (pc := 63) ok dX12_undo_63 ?_
    refine g_X12_kept (pc := 64) (t := 125) ok dX12_undo_64 kw910 rfl rfl ?_
    refine Z_callSVd (pc := 67) ok dX12_undo_67 cw_X12_293 (m_lays (L := 496) rfl rfl rfl rfl (by decide)) rfl rfl (by first | decide | omega) (Nat.le_of_ble_eq_true rfl) ?_
    simp only [sz_ne _ _ (show (143 : Nat) ≠ 121 by decide), sz_ne _ _ (show (144 : Nat) ≠ 121 by decide), sz_ne _ _ (show (144 : Nat) ≠ 122 by decide), sz_ne _ _ (show (145 : Nat) ≠ 121 by decide), sz_ne _ _ (show (145 : Nat) ≠ 122 by decide), sz_ne _ _ (show (145 : Nat) ≠ 123 by decide), sz_ne _ _ (show (146 : Nat) ≠ 121 by decide), sz_ne _ _ (show (146 : Nat) ≠ 122 by decide), sz_ne _ _ (show (146 : Nat) ≠ 123 by decide), sz_ne _ _ (show (146 : Nat) ≠ 124 by decide)]
    refine Z_gen (fun T hT => ?_)
    have e0 : T 121 0 = I 121 31 := by rw [hT]; simp [sz, uz]
    have e2 : T 122 = I 143 := by rw [hT]; simp [sz]
    refine Z_aload0 (pc := 70) ok dX12_undo_70 ?_
    refine Z_callVId (pc := 71) ok dX12_undo_71 cw_X12_115 rfl rfl (by decide) (m_weight (by rw [e0]; exact hn (by omega))) rfl rfl (by first | decide | omega) (Nat.le_of_ble_eq_true rfl) ?_
    refine Z_iret (pc := 74) ok okr dX12_undo_74 ?_
    rw [e0, e2]
    exact ⟨_, rfl, rfl, Or.inr ⟨by omega, rfl, hT⟩⟩
  · refine Z_bipush (pc := 7) ok dX12_undo_7 (by decide) ?_
    refine Z_iret (pc := 9) ok okr dX12_undo_9 ?_
    exact ⟨_, rfl, rfl, Or.inl ⟨h, rfl, rfl⟩⟩
theorem m_taken (h1 : gR (I 121 0) (I 122)) : K_X12_taken l G [zr G 121] I J (pR (some (zi (su (fun j => zb (0 < I 122 j)) (I 121 0)))) I J) := by
  have hn := h1.1
  refine Cz.of rfl (Nat.le_of_ble_eq_true rfl) [some (zr G 121), none, none] rfl (fun E ok okr hE => ?_)
  refine Z_iconst (pc := 0) ok dX12_taken_0 ?_
  refine Z_istore1 (pc := 1) ok (by decide) dX12_taken_1 rfl ?_
  refine Z_iconst (pc := 2) ok dX12_taken_2 ?_
  refine Z_istore2 (pc := 3) ok (by decide) dX12_taken_3 rfl ?_
  have H : ∀ e : Int, 0 ≤ e → e ≤ I 121 0 → Xz E G I J 4 [some (zr G 121), some (zi (su (fun j => zb (0 < I 122 j)) e)), some (zi e)] [] := by
    refine zUp ?_ ?_
    · refine Z_iload2 (pc := 4) ok dX12_taken_4 ?_
      refine Z_aload0 (pc := 5) ok dX12_taken_5 ?_
      refine g_X12_n (pc := 6) ok dX12_taken_6 kw905 rfl ?_
      refine Z_icmp_ge (pc := 9) (tgt := 35) ok dX12_taken_9 rfl (by first | omega | (simp [sz, uz] <;> omega)) (by first | omega | (simp [sz, uz] <;> omega)) (fun _ => ?_) (fun h => by exfalso; omega)
      refine Z_iload1 (pc := 35) ok dX12_taken_35 ?_
      refine Z_iret (pc := 36) ok okr dX12_taken_36 ?_
      exact ⟨rfl, rfl, rfl⟩
    · intro e e0 e1 ih
      have hc := h1.2.1 e
      rw [su_s _ e0] at ih
      refine Z_iload2 (pc := 4) ok dX12_taken_4 ?_
      refine Z_aload0 (pc := 5) ok dX12_taken_5 ?_
      refine g_X12_n (pc := 6) ok dX12_taken_6 kw905 rfl ?_
      refine Z_icmp_ge (pc := 9) (tgt := 35) ok dX12_taken_9 rfl (by first | omega | (simp [sz, uz] <;> omega)) (by first | omega | (simp [sz, uz] <;> omega)) (fun h => by exfalso; omega) (fun _ => ?_)
      refine Z_iload1 (pc := 12) ok dX12_taken_12 ?_
      refine Z_aload0 (pc := 13) ok dX12_taken_13 ?_
      refine g_X12_row (pc := 14) (t := 122) ok dX12_taken_14 kw906 rfl rfl ?_
      refine Z_iload2 (pc := 17) ok dX12_taken_17 ?_
      refine Z_iald (pc := 18) (L := 30) ok dX12_taken_18 rfl rfl (by first | omega | (simp [sz, uz] <;> omega)) ?_
      refine Z_if_le (pc := 19) (tgt := 26) ok dX12_taken_19 rfl (by first | omega | (simp [sz, uz] <;> omega)) (fun h => ?_) (fun h => ?_)
      · refine Z_iconst (pc := 26) ok dX12_taken_26 ?_
        refine Z_iadd (pc := 27) ok dX12_taken_27 ?_
        refine Z_istore1 (pc := 28) ok (by decide) dX12_taken_28 rfl ?_
        refine Z_iinc2 (pc := 29) ok (by decide) dX12_taken_29 rfl ?_
        refine Z_goto (pc := 32) (tgt := 4) ok dX12_taken_32 rfl ?_
        rw [zb_f (by omega)] at ih
        exact ih
      · refine Z_iconst (pc := 22) ok dX12_taken_22 ?_
        refine Z_goto (pc := 23) (tgt := 27) ok dX12_taken_23 rfl ?_
        refine Z_iadd (pc := 27) ok dX12_taken_27 ?_
        refine Z_istore1 (pc := 28) ok (by decide) dX12_taken_28 rfl ?_
        refine Z_iinc2 (pc := 29) ok (by decide) dX12_taken_29 rfl ?_
        refine Z_goto (pc := 32) (tgt := 4) ok dX12_taken_32 rfl ?_
        rw [zb_t h] at ih
        exact ih
  exact H 0 (by omega) (by omega)
theorem m_count {w : Int} (hw : -2147483648 ≤ w ∧ w ≤ 2147483647) (h1 : gR (I 121 0) (I 122)) (hl : mLs I J) : K_X12_count l G [zr G 121, zi w] I J (fun v I' J' => ∃ r, v = some (zi r) ∧ (I' = I ∧ J' = J ∧ ((w = 0 ∧ r = I 121 0) ∨ (w = 1 ∧ r = su (fun j => zb (0 < I 122 j)) (I 121 0)) ∨ (w = 2 ∧ r = I 121 3) ∨ (w = 3 ∧ r = I 121 25) ∨ (w = 4 ∧ r = I 124 0 + I 124 1) ∨ (w = 5 ∧ r = su (fun i => zb (0 ≤ I 136 i)) 3) ∨ (¬ (0 ≤ w ∧ w ≤ 5) ∧ r = -1)))) := by
  by_cases hc : 0 ≤ w ∧ w ≤ 5
  · have : w = 0 ∨ w = 1 ∨ w = 2 ∨ w = 3 ∨ w = 4 ∨ w = 5 := by omega
    rcases this with rfl | rfl | rfl | rfl | rfl | rfl
    · refine Cz.of rfl (Nat.le_of_ble_eq_true rfl) [some (zr G 121), some (zi 0)] rfl (fun E ok okr hE => ?_)
      refine Z_iload1 (pc := 0) ok dX12_count_0 ?_
      refine Z_tabI (pc := 1) (off := 39) (tgt := 40) ok dX12_count_1 (by decide) (by decide) (by decide) rfl rfl ?_
      refine Z_aload0 (pc := 40) ok dX12_count_40 ?_
      refine g_X12_n (pc := 41) ok dX12_count_41 kw905 rfl ?_
      refine Z_iret (pc := 44) ok okr dX12_count_44 ?_
      exact ⟨_, rfl, rfl, rfl, Or.inl ⟨rfl, rfl⟩⟩
    · refine Cz.of rfl (Nat.le_of_ble_eq_true rfl) [some (zr G 121), some (zi 1)] rfl (fun E ok okr hE => ?_)
      refine Z_iload1 (pc := 0) ok dX12_count_0 ?_
      refine Z_tabI (pc := 1) (off := 44) (tgt := 45) ok dX12_count_1 (by decide) (by decide) (by decide) rfl rfl ?_
      refine Z_aload0 (pc := 45) ok dX12_count_45 ?_
      refine Z_callVId (pc := 46) ok dX12_count_46 cw_X12_297 rfl rfl (by decide) (m_taken h1) rfl rfl (by first | decide | omega) (Nat.le_of_ble_eq_true rfl) ?_
      refine Z_iret (pc := 49) ok okr dX12_count_49 ?_
      exact ⟨_, rfl, rfl, rfl, Or.inr (Or.inl ⟨rfl, rfl⟩)⟩
    · refine Cz.of rfl (Nat.le_of_ble_eq_true rfl) [some (zr G 121), some (zi 2)] rfl (fun E ok okr hE => ?_)
      refine Z_iload1 (pc := 0) ok dX12_count_0 ?_
      refine Z_tabI (pc := 1) (off := 49) (tgt := 50) ok dX12_count_1 (by decide) (by decide) (by decide) rfl rfl ?_
      refine Z_aload0 (pc := 50) ok dX12_count_50 ?_
      refine g_X12_planned (pc := 51) ok dX12_count_51 kw908 rfl ?_
      refine Z_iret (pc := 54) ok okr dX12_count_54 ?_
      exact ⟨_, rfl, rfl, rfl, Or.inr (Or.inr (Or.inl ⟨rfl, rfl⟩))⟩
    · refine Cz.of rfl (Nat.le_of_ble_eq_true rfl) [some (zr G 121), some (zi 3)] rfl (fun E ok okr hE => ?_)
      refine Z_iload1 (pc := 0) ok dX12_count_0 ?_
      refine Z_tabI (pc := 1) (off := 54) (tgt := 55) ok dX12_count_1 (by decide) (by decide) (by decide) rfl rfl ?_
      refine Z_aload0 (pc := 55) ok dX12_count_55 ?_
      refine g_X12_taped (pc := 56) ok dX12_count_56 kw930 rfl ?_
      refine Z_iret (pc := 59) ok okr dX12_count_59 ?_
      exact ⟨_, rfl, rfl, rfl, Or.inr (Or.inr (Or.inr (Or.inl ⟨rfl, rfl⟩)))⟩
    · refine Cz.of rfl (Nat.le_of_ble_eq_true rfl) [some (zr G 121), some (zi 4)] rfl (fun E ok okr hE => ?_)
      refine Z_iload1 (pc := 0) ok dX12_count_0 ?_
      refine Z_tabI (pc := 1) (off := 59) (tgt := 60) ok dX12_count_1 (by decide) (by decide) (by decide) rfl rfl ?_
      refine Z_aload0 (pc := 60) ok dX12_count_60 ?_
      refine g_X12_keptMany (pc := 61) (t := 124) ok dX12_count_61 kw909 rfl rfl ?_
      refine Z_iconst (pc := 64) ok dX12_count_64 ?_
      refine Z_iald (pc := 65) (L := 2) ok dX12_count_65 rfl rfl (by first | omega | (simp [sz, uz] <;> omega)) ?_
      refine Z_aload0 (pc := 66) ok dX12_count_66 ?_
      refine g_X12_keptMany (pc := 67) (t := 124) ok dX12_count_67 kw909 rfl rfl ?_
      refine Z_iconst (pc := 70) ok dX12_count_70 ?_
      refine Z_iald (pc := 71) (L := 2) ok dX12_count_71 rfl rfl (by first | omega | (simp [sz, uz] <;> omega)) ?_
      refine Z_iadd (pc := 72) ok dX12_count_72 ?_
      refine Z_iret (pc := 73) ok okr dX12_count_73 ?_
      exact ⟨_, rfl, rfl, rfl, Or.inr (Or.inr (Or.inr (Or.inr (Or.inl ⟨rfl, rfl⟩))))⟩
    · have s0 := hl.1 0 (by omega) (by omega)
      have s1 := hl.1 1 (by omega) (by omega)
      have s2 := hl.1 2 (by omega) (by omega)
      have e3 : su (fun i => zb (0 ≤ I 136 i)) 3 = zb (0 ≤ I 136 0) + zb (0 ≤ I 136 1) + zb (0 ≤ I 136 2) := by
        rw [show (3 : Int) = 0 + 1 + 1 + 1 from rfl, su_s _ (by omega), su_s _ (by omega), su_s _ (by omega), su_0, Int.zero_add]; rfl
      refine Cz.of rfl (Nat.le_of_ble_eq_true rfl) [some (zr G 121), some (zi 5)] rfl (fun E ok okr hE => ?_)
      refine Z_iload1 (pc := 0) ok dX12_count_0 ?_
      refine Z_tabI (pc := 1) (off := 73) (tgt := 74) ok dX12_count_1 (by decide) (by decide) (by decide) rfl rfl ?_
      refine Z_aload0 (pc := 74) ok dX12_count_74 ?_
      refine g_X12_sizes (pc := 75) (t := 136) ok dX12_count_75 kw924 rfl rfl ?_
      refine Z_iconst (pc := 78) ok dX12_count_78 ?_
      refine Z_iald (pc := 79) (L := 3) ok dX12_count_79 rfl rfl (by first | omega | (simp [sz, uz] <;> omega)) ?_
      refine Z_if_ge (pc := 80) (tgt := 87) ok dX12_count_80 rfl (by first | omega | (simp [sz, uz] <;> omega)) (fun a0 => ?_) (fun a0 => ?_)
      · refine Z_iconst (pc := 87) ok dX12_count_87 ?_
        refine Z_aload0 (pc := 88) ok dX12_count_88 ?_
        refine g_X12_sizes (pc := 89) (t := 136) ok dX12_count_89 kw924 rfl rfl ?_
        refine Z_iconst (pc := 92) ok dX12_count_92 ?_
        refine Z_iald (pc := 93) (L := 3) ok dX12_count_93 rfl rfl (by first | omega | (simp [sz, uz] <;> omega)) ?_
        refine Z_if_ge (pc := 94) (tgt := 101) ok dX12_count_94 rfl (by first | omega | (simp [sz, uz] <;> omega)) (fun a1 => ?_) (fun a1 => ?_)
        · refine Z_iconst (pc := 101) ok dX12_count_101 ?_
          refine Z_iadd (pc := 102) ok dX12_count_102 ?_
          refine Z_aload0 (pc := 103) ok dX12_count_103 ?_
          refine g_X12_sizes (pc := 104) (t := 136) ok dX12_count_104 kw924 rfl rfl ?_
          refine Z_iconst (pc := 107) ok dX12_count_107 ?_
          refine Z_iald (pc := 108) (L := 3) ok dX12_count_108 rfl rfl (by first | omega | (simp [sz, uz] <;> omega)) ?_
          refine Z_if_ge (pc := 109) (tgt := 116) ok dX12_count_109 rfl (by first | omega | (simp [sz, uz] <;> omega)) (fun a2 => ?_) (fun a2 => ?_)
          · refine Z_iconst (pc := 116) ok dX12_count_116 ?_
            refine Z_iadd (pc := 117) ok dX12_count_117 ?_
            refine Z_iret (pc := 118) ok okr dX12_count_118 ?_
            exact ⟨_, rfl, rfl, rfl, Or.inr (Or.inr (Or.inr (Or.inr (Or.inr (Or.inl ⟨rfl, by rw [e3, zb_t (show 0 ≤ I 136 0 by omega), zb_t (show 0 ≤ I 136 1 by omega), zb_t (show 0 ≤ I 136 2 by omega)]⟩)))))⟩
          · refine Z_iconst (pc := 112) ok dX12_count_112 ?_
            refine Z_goto (pc := 113) (tgt := 117) ok dX12_count_113 rfl ?_
            refine Z_iadd (pc := 117) ok dX12_count_117 ?_
            refine Z_iret (pc := 118) ok okr dX12_count_118 ?_
            exact ⟨_, rfl, rfl, rfl, Or.inr (Or.inr (Or.inr (Or.inr (Or.inr (Or.inl ⟨rfl, by rw [e3, zb_t (show 0 ≤ I 136 0 by omega), zb_t (show 0 ≤ I 136 1 by omega), zb_f (show ¬ 0 ≤ I 136 2 by omega)]⟩)))))⟩
        · refine Z_iconst (pc := 97) ok dX12_count_97 ?_
          refine Z_goto (pc := 98) (tgt := 102) ok dX12_count_98 rfl ?_
          refine Z_iadd (pc := 102) ok dX12_count_102 ?_
          refine Z_aload0 (pc := 103) ok dX12_count_103 ?_
          refine g_X12_sizes (pc := 104) (t := 136) ok dX12_count_104 kw924 rfl rfl ?_
          refine Z_iconst (pc := 107) ok dX12_count_107 ?_
          refine Z_iald (pc := 108) (L := 3) ok dX12_count_108 rfl rfl (by first | omega | (simp [sz, uz] <;> omega)) ?_
          refine Z_if_ge (pc := 109) (tgt := 116) ok dX12_count_109 rfl (by first | omega | (simp [sz, uz] <;> omega)) (fun a2 => ?_) (fun a2 => ?_)
          · refine Z_iconst (pc := 116) ok dX12_count_116 ?_
            refine Z_iadd (pc := 117) ok dX12_count_117 ?_
            refine Z_iret (pc := 118) ok okr dX12_count_118 ?_
            exact ⟨_, rfl, rfl, rfl, Or.inr (Or.inr (Or.inr (Or.inr (Or.inr (Or.inl ⟨rfl, by rw [e3, zb_t (show 0 ≤ I 136 0 by omega), zb_f (show ¬ 0 ≤ I 136 1 by omega), zb_t (show 0 ≤ I 136 2 by omega)]⟩)))))⟩
          · refine Z_iconst (pc := 112) ok dX12_count_112 ?_
            refine Z_goto (pc := 113) (tgt := 117) ok dX12_count_113 rfl ?_
            refine Z_iadd (pc := 117) ok dX12_count_117 ?_
            refine Z_iret (pc := 118) ok okr dX12_count_118 ?_
            exact ⟨_, rfl, rfl, rfl, Or.inr (Or.inr (Or.inr (Or.inr (Or.inr (Or.inl ⟨rfl, by rw [e3, zb_t (show 0 ≤ I 136 0 by omega), zb_f (show ¬ 0 ≤ I 136 1 by omega), zb_f (show ¬ 0 ≤ I 136 2 by omega)]⟩)))))⟩
      · refine Z_iconst (pc := 83) ok dX12_count_83 ?_
        refine Z_goto (pc := 84) (tgt := 88) ok dX12_count_84 rfl ?_
        refine Z_aload0 (pc := 88) ok dX12_count_88 ?_
        refine g_X12_sizes (pc := 89) (t := 136) ok dX12_count_89 kw924 rfl rfl ?_
        refine Z_iconst (pc := 92) ok dX12_count_92 ?_
        refine Z_iald (pc := 93) (L := 3) ok dX12_count_93 rfl rfl (by first | omega | (simp [sz, uz] <;> omega)) ?_
        refine Z_if_ge (pc := 94) (tgt := 101) ok dX12_count_94 rfl (by first | omega | (simp [sz, uz] <;> omega)) (fun a1 => ?_) (fun a1 => ?_)
        · refine Z_iconst (pc := 101) ok dX12_count_101 ?_
          refine Z_iadd (pc := 102) ok dX12_count_102 ?_
          refine Z_aload0 (pc := 103) ok dX12_count_103 ?_
          refine g_X12_sizes (pc := 104) (t := 136) ok dX12_count_104 kw924 rfl rfl ?_
          refine Z_iconst (pc := 107) ok dX12_count_107 ?_
          refine Z_iald (pc := 108) (L := 3) ok dX12_count_108 rfl rfl (by first | omega | (simp [sz, uz] <;> omega)) ?_
          refine Z_if_ge (pc := 109) (tgt := 116) ok dX12_count_109 rfl (by first | omega | (simp [sz, uz] <;> omega)) (fun a2 => ?_) (fun a2 => ?_)
          · refine Z_iconst (pc := 116) ok dX12_count_116 ?_
            refine Z_iadd (pc := 117) ok dX12_count_117 ?_
            refine Z_iret (pc := 118) ok okr dX12_count_118 ?_
            exact ⟨_, rfl, rfl, rfl, Or.inr (Or.inr (Or.inr (Or.inr (Or.inr (Or.inl ⟨rfl, by rw [e3, zb_f (show ¬ 0 ≤ I 136 0 by omega), zb_t (show 0 ≤ I 136 1 by omega), zb_t (show 0 ≤ I 136 2 by omega)]⟩)))))⟩
          · refine Z_iconst (pc := 112) ok dX12_count_112 ?_
            refine Z_goto (pc := 113) (tgt := 117) ok dX12_count_113 rfl ?_
            refine Z_iadd (pc := 117) ok dX12_count_117 ?_
            refine Z_iret (pc := 118) ok okr dX12_count_118 ?_
            exact ⟨_, rfl, rfl, rfl, Or.inr (Or.inr (Or.inr (Or.inr (Or.inr (Or.inl ⟨rfl, by rw [e3, zb_f (show ¬ 0 ≤ I 136 0 by omega), zb_t (show 0 ≤ I 136 1 by omega), zb_f (show ¬ 0 ≤ I 136 2 by omega)]⟩)))))⟩
        · refine Z_iconst (pc := 97) ok dX12_count_97 ?_
          refine Z_goto (pc := 98) (tgt := 102) ok dX12_count_98 rfl ?_
          refine Z_iadd (pc := 102) ok dX12_count_102 ?_
          refine Z_aload0 (pc := 103) ok dX12_count_103 ?_
          refine g_X12_sizes (pc := 104) (t := 136) ok dX12_count_104 kw924 rfl rfl ?_
          refine Z_iconst (pc := 107) ok dX12_count_107 ?_
          refine Z_iald (pc := 108) (L := 3) ok dX12_count_108 rfl rfl (by first | omega | (simp [sz, uz] <;> omega)) ?_
          refine Z_if_ge (pc := 109) (tgt := 116) ok dX12_count_109 rfl (by first | omega | (simp [sz, uz] <;> omega)) (fun a2 => ?_) (fun a2 => ?_)
          · refine Z_iconst (pc := 116) ok dX12_count_116 ?_
            refine Z_iadd (pc := 117) ok dX12_count_117 ?_
            refine Z_iret (pc := 118) ok okr dX12_count_118 ?_
            exact ⟨_, rfl, rfl, rfl, Or.inr (Or.inr (Or.inr (Or.inr (Or.inr (Or.inl ⟨rfl, by rw [e3, zb_f (show ¬ 0 ≤ I 136 0 by omega), zb_f (show ¬ 0 ≤ I 136 1 by omega), zb_t (show 0 ≤ I 136 2 by omega)]⟩)))))⟩
          · refine Z_iconst (pc := 112) ok dX12_count_112 ?_
            refine Z_goto (pc := 113) (tgt := 117) ok dX12_count_113 rfl ?_
            refine Z_iadd (pc := 117) ok dX12_count_117 ?_
            refine Z_iret (pc := 118) ok okr dX12_count_118 ?_
            exact ⟨_, rfl, rfl, rfl, Or.inr (Or.inr (Or.inr (Or.inr (Or.inr (Or.inl ⟨rfl, by rw [e3, zb_f (show ¬ 0 ≤ I 136 0 by omega), zb_f (show ¬ 0 ≤ I 136 1 by omega), zb_f (show ¬ 0 ≤ I 136 2 by omega)]⟩)))))⟩
  · refine Cz.of rfl (Nat.le_of_ble_eq_true rfl) [some (zr G 121), some (zi w)] rfl (fun E ok okr hE => ?_)
    refine Z_iload1 (pc := 0) ok dX12_count_0 ?_
    refine Z_tabO (pc := 1) (tgt := 119) ok dX12_count_1 (by first | omega | (simp [sz, uz] <;> omega)) (by omega) rfl ?_
    refine Z_iconst (pc := 119) ok dX12_count_119 ?_
    refine Z_iret (pc := 120) ok okr dX12_count_120 ?_
    exact ⟨_, rfl, rfl, rfl, Or.inr (Or.inr (Or.inr (Or.inr (Or.inr (Or.inr ⟨hc, rfl⟩)))))⟩
end
