/-! the reference: what is spelled -/
def sF (I I' : Mz) : Prop := fr [121, 142] I I' ∧ ∀ q, q ≠ 29 → I' 121 q = I 121 q
theorem sF.tr {I I1 I2 : Mz} (h : sF I I1) (h2 : sF I1 I2) : sF I I2 := ⟨h.1.tr h2.1, fun q hq => (h2.2 q hq).trans (h.2 q hq)⟩
theorem sF.rf {I : Mz} : sF I I := ⟨fr.rf, fun _ _ => rfl⟩
section
variable {l : Launch} {G : Gw} {I J : Mz}
theorem m_spells {L : List Int} (ht : tx (I 142) (I 121 29) L) (hl : L.length < 300) (a : Int) : K_X12_spells l G [zr G 121, zi a] I J (fun v I' J' => v = none ∧ (tx (I' 142) (I' 121 29) (L ++ [a]) ∧ sF I I' ∧ J' = J)) := by
  have h0 := ht.1
  refine Cz.of rfl (Nat.le_of_ble_eq_true rfl) [some (zr G 121), some (zi a)] rfl (fun E ok okr hE => ?_)
  refine Z_aload0 (pc := 0) ok dX12_spells_0 ?_
  refine g_X12_spelling (pc := 1) (t := 142) ok dX12_spells_1 kw933 rfl rfl ?_
  refine Z_aload0 (pc := 4) ok dX12_spells_4 ?_
  refine g_X12_spelledMany (pc := 5) ok dX12_spells_5 kw934 rfl ?_
  refine Z_iload1 (pc := 8) ok dX12_spells_8 ?_
  refine Z_iast (pc := 9) (L := 300) ok dX12_spells_9 rfl rfl (by first | omega | (simp [sz, uz] <;> omega)) ?_
  refine Z_aload0 (pc := 10) ok dX12_spells_10 ?_
  refine Z_dup (pc := 11) ok dX12_spells_11 rfl ?_
  refine g_X12_spelledMany (pc := 12) ok dX12_spells_12 kw934 rfl ?_
  refine Z_iconst (pc := 15) ok dX12_spells_15 ?_
  refine Z_iadd (pc := 16) ok dX12_spells_16 ?_
  refine p_X12_spelledMany (pc := 17) ok dX12_spells_17 kw934 rfl ?_
  refine Z_vret (pc := 20) ok okr dX12_spells_20 ?_
  refine ⟨rfl, ?_, ⟨(fr.rf.st rfl).st rfl, fun q hq => ?_⟩, rfl⟩
  · have h1 := tx_add ht a
    simp only [sz_ne _ _ (show (142 : Nat) ≠ 121 by decide), sz_ne _ _ (show (121 : Nat) ≠ 142 by decide), sz_eq, uz_eq]
    exact h1
  · rw [sz_eq, uz_ne _ _ hq, sz_ne _ _ (show (121 : Nat) ≠ 142 by decide)]
theorem m_spellsNumber {L : List Int} (ht : tx (I 142) (I 121 29) L) {a : Int} (ha : 0 ≤ a ∧ a ≤ 99) (hl : L.length < 298) : K_X12_spellsNumber l G [zr G 121, zi a] I J (fun v I' J' => v = none ∧ (tx (I' 142) (I' 121 29) (L ++ numL a) ∧ sF I I' ∧ J' = J)) := by
  refine Cz.of rfl (Nat.le_of_ble_eq_true rfl) [some (zr G 121), some (zi a)] rfl (fun E ok okr hE => ?_)
  refine Z_iload1 (pc := 0) ok dX12_spellsNumber_0 ?_
  refine Z_bipush (pc := 1) ok dX12_spellsNumber_1 (by decide) ?_
  refine Z_icmp_le (pc := 3) (tgt := 17) ok dX12_spellsNumber_3 rfl (by first | omega | (simp [sz, uz] <;> omega)) (by first | omega | (simp [sz, uz] <;> omega)) (fun h => ?_) (fun h => ?_)
  · refine Z_aload0 (pc := 17) ok dX12_spellsNumber_17 ?_
    refine Z_bipush (pc := 18) ok dX12_spellsNumber_18 (by decide) ?_
    refine Z_iload1 (pc := 20) ok dX12_spellsNumber_20 ?_
    refine Z_bipush (pc := 21) ok dX12_spellsNumber_21 (by decide) ?_
    refine Z_irem (pc := 23) ok dX12_spellsNumber_23 (by omega) (by omega) (by omega) (by omega) ?_
    refine Z_iadd (pc := 24) ok dX12_spellsNumber_24 ?_
    refine Z_callVV (pc := 25) ok dX12_spellsNumber_25 cw_X12_277 rfl rfl (by decide) (m_spells ht (by omega) _) rfl rfl (by first | decide | omega) (Nat.le_of_ble_eq_true rfl) (fun I1 J1 q => ?_)
    refine Z_vret (pc := 28) ok okr dX12_spellsNumber_28 ?_
    obtain ⟨q1, q2, q3⟩ := q
    rw [numL, if_neg (by omega)]
    exact ⟨rfl, q1, q2, q3⟩
  · refine Z_aload0 (pc := 6) ok dX12_spellsNumber_6 ?_
    refine Z_bipush (pc := 7) ok dX12_spellsNumber_7 (by decide) ?_
    refine Z_iload1 (pc := 9) ok dX12_spellsNumber_9 ?_
    refine Z_bipush (pc := 10) ok dX12_spellsNumber_10 (by decide) ?_
    refine Z_idiv (pc := 12) ok dX12_spellsNumber_12 (by omega) (by omega) (by omega) (by omega) ?_
    refine Z_iadd (pc := 13) ok dX12_spellsNumber_13 ?_
    refine Z_callVV (pc := 14) ok dX12_spellsNumber_14 cw_X12_277 rfl rfl (by decide) (m_spells ht (by omega) _) rfl rfl (by first | decide | omega) (Nat.le_of_ble_eq_true rfl) (fun I1 J1 q => ?_)
    obtain ⟨q1, q2, rfl⟩ := q
    refine Z_aload0 (pc := 17) ok dX12_spellsNumber_17 ?_
    refine Z_bipush (pc := 18) ok dX12_spellsNumber_18 (by decide) ?_
    refine Z_iload1 (pc := 20) ok dX12_spellsNumber_20 ?_
    refine Z_bipush (pc := 21) ok dX12_spellsNumber_21 (by decide) ?_
    refine Z_irem (pc := 23) ok dX12_spellsNumber_23 (by omega) (by omega) (by omega) (by omega) ?_
    refine Z_iadd (pc := 24) ok dX12_spellsNumber_24 ?_
    refine Z_callVV (pc := 25) ok dX12_spellsNumber_25 cw_X12_277 rfl rfl (by decide) (m_spells q1 (by simp; omega) _) rfl rfl (by first | decide | omega) (Nat.le_of_ble_eq_true rfl) (fun I2 J2 q => ?_)
    refine Z_vret (pc := 28) ok okr dX12_spellsNumber_28 ?_
    obtain ⟨q3, q4, q5⟩ := q
    refine ⟨rfl, ?_, q2.tr q4, q5⟩
    rw [numL, if_pos (by omega)]
    rw [List.append_assoc] at q3
    exact q3
theorem m_spelled {i : Int} (hi : -2147483648 ≤ i ∧ i ≤ 2147483647) (h1 : gR (I 121 0) (I 122)) : K_X12_spelled l G [zr G 121, zi i] I J (fun v I' J' => ∃ r, v = some (zi r) ∧ (sF I I' ∧ J' = J ∧ ((i = -1 ∧ r = ((SPL (I 121 0) (I 122)).length : Int)) ∨ ((0 ≤ i ∧ i < ((SPL (I 121 0) (I 122)).length : Int)) ∧ r = (SPL (I 121 0) (I 122)).getD i.toNat 0) ∨ ((i < -1 ∨ ((SPL (I 121 0) (I 122)).length : Int) ≤ i) ∧ r = -1)))) := by
  have hn := h1.1
  have hl : (SPL (I 121 0) (I 122)).length ≤ 153 := by
    have h2 := numL_len (I 121 0)
    have h3 := spE_len h1.2.1 (I 121 0).toNat
    simp only [SPL, List.length_append, List.length_singleton]; omega
  have hnl := numL_len (I 121 0)
  refine Cz.of rfl (Nat.le_of_ble_eq_true rfl) [some (zr G 121), some (zi i), none, none] rfl (fun E ok okr hE => ?_)
  refine Z_aload0 (pc := 0) ok dX12_spelled_0 ?_
  refine Z_iconst (pc := 1) ok dX12_spelled_1 ?_
  refine p_X12_spelledMany (pc := 2) ok dX12_spelled_2 kw934 rfl ?_
  refine Z_gen (fun T hT => ?_)
  have t0 : tx (T 142) (T 121 29) [] := by rw [hT, sz_eq, uz_eq]; exact tx_nil _
  have tF : sF I T := by rw [hT]; exact ⟨fr.rf.st rfl, fun q hq => by rw [sz_eq, uz_ne _ _ hq]⟩
  clear hT
  refine Z_aload0 (pc := 5) ok dX12_spelled_5 ?_
  refine Z_aload0 (pc := 6) ok dX12_spelled_6 ?_
  refine g_X12_n (pc := 7) ok dX12_spelled_7 kw905 rfl ?_
  rw [tF.2 0 (by decide)]
  refine Z_callVV (pc := 10) ok dX12_spelled_10 cw_X12_281 rfl rfl (by decide) (m_spellsNumber t0 (by omega) (by simp)) rfl rfl (by first | decide | omega) (Nat.le_of_ble_eq_true rfl) (fun I1 J1 q => ?_)
  obtain ⟨q1, q2, rfl⟩ := q
  rw [List.nil_append] at q1
  refine Z_aload0 (pc := 13) ok dX12_spelled_13 ?_
  refine Z_bipush (pc := 14) ok dX12_spelled_14 (by decide) ?_
  refine Z_callVV (pc := 16) ok dX12_spelled_16 cw_X12_277 rfl rfl (by decide) (m_spells q1 (by omega) _) rfl rfl (by first | decide | omega) (Nat.le_of_ble_eq_true rfl) (fun I2 J2 q => ?_)
  obtain ⟨q3, q4, rfl⟩ := q
  have f2 := (tF.tr q2).tr q4
  refine Z_iconst (pc := 19) ok dX12_spelled_19 ?_
  refine Z_istore2 (pc := 20) ok (by decide) dX12_spelled_20 rfl ?_
  refine Z_iconst (pc := 21) ok dX12_spelled_21 ?_
  refine Z_istore3 (pc := 22) ok (by decide) dX12_spelled_22 rfl ?_
  have H : ∀ e : Int, 0 ≤ e → e ≤ I 121 0 → ∀ I3 : Mz, sF I I3 → tx (I3 142) (I3 121 29) (numL (I 121 0) ++ [58] ++ spE (I 122) e.toNat) → Xz E G I3 J2 23 [some (zr G 121), some (zi i), some (zi (zb (spE (I 122) e.toNat ≠ []))), some (zi e)] [] := by
    refine zUp ?_ ?_
    · intro I3 g1 g2
      have e2 : I3 121 0 = I 121 0 := g1.2 0 (by decide)
      have g2 : tx (I3 142) (I3 121 29) (SPL (I 121 0) (I 122)) := g2
      have s1 := g2.1
      refine Z_iload3 (pc := 23) ok dX12_spelled_23 ?_
      refine Z_aload0 (pc := 24) ok dX12_spelled_24 ?_
      refine g_X12_n (pc := 25) ok dX12_spelled_25 kw905 rfl ?_
      refine Z_icmp_ge (pc := 28) (tgt := 92) ok dX12_spelled_28 rfl (by first | omega | (simp [sz, uz] <;> omega)) (by first | omega | (simp [sz, uz] <;> omega)) (fun _ => ?_) (fun h => by exfalso; omega)
      refine Z_iload1 (pc := 92) ok dX12_spelled_92 ?_
      refine Z_iconst (pc := 93) ok dX12_spelled_93 ?_
      refine Z_icmp_ne (pc := 94) (tgt := 104) ok dX12_spelled_94 rfl (by first | omega | (simp [sz, uz] <;> omega)) (by first | omega | (simp [sz, uz] <;> omega)) (fun h => ?_) (fun h => ?_)
      · refine Z_iload1 (pc := 104) ok dX12_spelled_104 ?_
        refine Z_i2l (pc := 105) ok dX12_spelled_105 (by first | omega | (simp [sz, uz] <;> omega)) ?_
        refine Z_lconst (pc := 106) (z := 0) ok dX12_spelled_106 (by decide) ?_
        refine Z_aload0 (pc := 107) ok dX12_spelled_107 ?_
        refine g_X12_spelledMany (pc := 108) ok dX12_spelled_108 kw934 rfl ?_
        refine Z_iconst (pc := 111) ok dX12_spelled_111 ?_
        refine Z_isub (pc := 112) ok dX12_spelled_112 ?_
        refine Z_i2l (pc := 113) ok dX12_spelled_113 (by first | omega | (simp [sz, uz] <;> omega)) ?_
        refine Z_callSId (pc := 114) ok dX12_spelled_114 cw_X12_97 (m_in (by omega) (by omega) (by omega)) rfl rfl (by first | decide | omega) (Nat.le_of_ble_eq_true rfl) ?_
        refine Z_if_eqB (pc := 117) (tgt := 129) ok dX12_spelled_117 rfl (fun h2 => ?_) (fun h2 => ?_)
        · refine Z_iconst (pc := 129) ok dX12_spelled_129 ?_
          refine Z_iret (pc := 130) ok okr dX12_spelled_130 ?_
          exact ⟨_, rfl, g1, rfl, Or.inr (Or.inr ⟨by omega, rfl⟩)⟩
        · refine Z_aload0 (pc := 120) ok dX12_spelled_120 ?_
          refine g_X12_spelling (pc := 121) (t := 142) ok dX12_spelled_121 kw933 rfl rfl ?_
          refine Z_iload1 (pc := 124) ok dX12_spelled_124 ?_
          refine Z_iald (pc := 125) (L := 300) ok dX12_spelled_125 rfl rfl (by first | omega | (simp [sz, uz] <;> omega)) ?_
          refine Z_goto (pc := 126) (tgt := 130) ok dX12_spelled_126 rfl ?_
          refine Z_iret (pc := 130) ok okr dX12_spelled_130 ?_
          have := g2.2 i.toNat (by omega)
          rw [Int.toNat_of_nonneg h2.1] at this
          exact ⟨_, rfl, g1, rfl, Or.inr (Or.inl ⟨by omega, this⟩)⟩
      · refine Z_aload0 (pc := 97) ok dX12_spelled_97 ?_
        refine g_X12_spelledMany (pc := 98) ok dX12_spelled_98 kw934 rfl ?_
        refine Z_goto (pc := 101) (tgt := 130) ok dX12_spelled_101 rfl ?_
        refine Z_iret (pc := 130) ok okr dX12_spelled_130 ?_
        exact ⟨_, rfl, g1, rfl, Or.inl ⟨h, s1⟩⟩
    · intro e e0 e1 ih I3 g1 g2
      have e2 : I3 121 0 = I 121 0 := g1.2 0 (by decide)
      have e3 : I3 122 = I 122 := g1.1.at 122 rfl
      have e3e := congrFun e3 e
      have hce := h1.2.1 e
      have hsl := spE_len h1.2.1 e.toNat
      rw [show (e + 1).toNat = e.toNat + 1 by omega, spE, show ((e.toNat : Nat) : Int) = e by omega] at ih
      refine Z_iload3 (pc := 23) ok dX12_spelled_23 ?_
      refine Z_aload0 (pc := 24) ok dX12_spelled_24 ?_
      refine g_X12_n (pc := 25) ok dX12_spelled_25 kw905 rfl ?_
      refine Z_icmp_ge (pc := 28) (tgt := 92) ok dX12_spelled_28 rfl (by first | omega | (simp [sz, uz] <;> omega)) (by first | omega | (simp [sz, uz] <;> omega)) (fun h => by exfalso; omega) (fun _ => ?_)
      refine Z_aload0 (pc := 31) ok dX12_spelled_31 ?_
      refine g_X12_row (pc := 32) (t := 122) ok dX12_spelled_32 kw906 rfl rfl ?_
      refine Z_iload3 (pc := 35) ok dX12_spelled_35 ?_
      refine Z_iald (pc := 36) (L := 30) ok dX12_spelled_36 rfl rfl (by first | omega | (simp [sz, uz] <;> omega)) ?_
      refine Z_if_le (pc := 37) (tgt := 86) ok dX12_spelled_37 rfl (by first | omega | (simp [sz, uz] <;> omega)) (fun h => ?_) (fun h => ?_)
      · refine Z_iinc3 (pc := 86) ok (by decide) dX12_spelled_86 rfl ?_
        refine Z_goto (pc := 89) (tgt := 23) ok dX12_spelled_89 rfl ?_
        rw [if_neg (by omega)] at ih
        exact ih I3 g1 g2
      · rw [if_pos (by omega)] at ih
        have hne : ∀ L : List Int, L ++ itemL e (I 122 e) ≠ [] := fun L q => itemL_ne e (I 122 e) (List.append_eq_nil_iff.mp q).2
        have A : ∀ (L : List Int) (I4 : Mz) (w : Int), L.length ≤ 170 → (∀ I5, sF I I5 → tx (I5 142) (I5 121 29) (L ++ itemL e (I 122 e)) → Xz E G I5 J2 23 [some (zr G 121), some (zi i), some (zi 1), some (zi (e + 1))] []) → sF I I4 → tx (I4 142) (I4 121 29) L → Xz E G I4 J2 50 [some (zr G 121), some (zi i), some (zi w), some (zi e)] [] := by
          intro L I4 w hL k f4 t4
          refine Z_iconst (pc := 50) ok dX12_spelled_50 ?_
          refine Z_istore2 (pc := 51) ok (by decide) dX12_spelled_51 rfl ?_
          refine Z_aload0 (pc := 52) ok dX12_spelled_52 ?_
          refine Z_iload3 (pc := 53) ok dX12_spelled_53 ?_
          refine Z_callVV (pc := 54) ok dX12_spelled_54 cw_X12_281 rfl rfl (by decide) (m_spellsNumber t4 (by omega) (by omega)) rfl rfl (by first | decide | omega) (Nat.le_of_ble_eq_true rfl) (fun I5 J5 q => ?_)
          obtain ⟨q5, q6, rfl⟩ := q
          have f5 := f4.tr q6
          have e5 : I5 122 e = I 122 e := by rw [f5.1.at 122 rfl]
          have hll := numL_len e
          refine Z_aload0 (pc := 57) ok dX12_spelled_57 ?_
          refine g_X12_row (pc := 58) (t := 122) ok dX12_spelled_58 kw906 rfl rfl ?_
          refine Z_iload3 (pc := 61) ok dX12_spelled_61 ?_
          refine Z_iald (pc := 62) (L := 30) ok dX12_spelled_62 rfl rfl (by first | omega | (simp [sz, uz] <;> omega)) ?_
          refine Z_iconst (pc := 63) ok dX12_spelled_63 ?_
          refine Z_icmp_le (pc := 64) (tgt := 86) ok dX12_spelled_64 rfl (by first | omega | (simp [sz, uz] <;> omega)) (by first | omega | (simp [sz, uz] <;> omega)) (fun h3 => ?_) (fun h3 => ?_)
          · refine Z_iinc3 (pc := 86) ok (by decide) dX12_spelled_86 rfl ?_
            refine Z_goto (pc := 89) (tgt := 23) ok dX12_spelled_89 rfl ?_
            refine k I5 f5 ?_
            rw [itemL, if_neg (by omega), List.append_nil]
            exact q5
          · refine Z_aload0 (pc := 67) ok dX12_spelled_67 ?_
            refine Z_bipush (pc := 68) ok dX12_spelled_68 (by decide) ?_
            refine Z_callVV (pc := 70) ok dX12_spelled_70 cw_X12_277 rfl rfl (by decide) (m_spells q5 (by simp; omega) _) rfl rfl (by first | decide | omega) (Nat.le_of_ble_eq_true rfl) (fun I6 J6 q => ?_)
            obtain ⟨q7, q8, rfl⟩ := q
            have f6 := f5.tr q8
            have e6 : I6 122 e = I 122 e := by rw [f6.1.at 122 rfl]
            refine Z_aload0 (pc := 73) ok dX12_spelled_73 ?_
            refine Z_bipush (pc := 74) ok dX12_spelled_74 (by decide) ?_
            refine Z_aload0 (pc := 76) ok dX12_spelled_76 ?_
            refine g_X12_row (pc := 77) (t := 122) ok dX12_spelled_77 kw906 rfl rfl ?_
            refine Z_iload3 (pc := 80) ok dX12_spelled_80 ?_
            refine Z_iald (pc := 81) (L := 30) ok dX12_spelled_81 rfl rfl (by first | omega | (simp [sz, uz] <;> omega)) ?_
            rw [e6]
            refine Z_iadd (pc := 82) ok dX12_spelled_82 ?_
            refine Z_callVV (pc := 83) ok dX12_spelled_83 cw_X12_277 rfl rfl (by decide) (m_spells q7 (by simp; omega) _) rfl rfl (by first | decide | omega) (Nat.le_of_ble_eq_true rfl) (fun I7 J7 q => ?_)
            refine Z_iinc3 (pc := 86) ok (by decide) dX12_spelled_86 rfl ?_
            refine Z_goto (pc := 89) (tgt := 23) ok dX12_spelled_89 rfl ?_
            obtain ⟨q9, q10, rfl⟩ := q
            refine k I7 (f6.tr q10) ?_
            rw [itemL, if_pos (by omega), numL_1 hce]
            simp only [List.append_assoc, List.cons_append, List.nil_append] at q9 ⊢
            exact q9
        refine Z_iload2 (pc := 40) ok dX12_spelled_40 ?_
        refine Z_if_eqB (pc := 41) (tgt := 50) ok dX12_spelled_41 rfl (fun h2 => ?_) (fun h2 => ?_)
        · have h2 : spE (I 122) e.toNat = [] := Classical.byContradiction fun q => h2 q
          rw [if_pos h2, List.append_nil, zb_t (hne _)] at ih
          refine A _ I3 _ ?_ (fun I5 a b => ih I5 a ?_) g1 g2
          · simp; omega
          · rw [List.append_assoc] at b; exact b
        · rw [if_neg h2, zb_t (hne _)] at ih
          refine Z_aload0 (pc := 44) ok dX12_spelled_44 ?_
          refine Z_bipush (pc := 45) ok dX12_spelled_45 (by decide) ?_
          refine Z_callVV (pc := 47) ok dX12_spelled_47 cw_X12_277 rfl rfl (by decide) (m_spells g2 (by simp; omega) _) rfl rfl (by first | decide | omega) (Nat.le_of_ble_eq_true rfl) (fun I4 J4 q => ?_)
          obtain ⟨q5, q6, rfl⟩ := q
          refine A _ I4 _ ?_ (fun I5 a b => ih I5 a ?_) (g1.tr q6) q5
          · simp; omega
          · simp only [List.append_assoc] at b ⊢; exact b
  have h0 := H 0 (by omega) (by omega) I2 f2 (by show tx (I2 142) (I2 121 29) (numL (I 121 0) ++ [58] ++ []); rw [List.append_nil]; exact q3)
  have e0 : zb (spE (I 122) (0 : Int).toNat ≠ []) = 0 := zb_f (fun q => q rfl)
  rw [e0] at h0
  exact h0
end
