/-! the reference: what is read -/
def hr (B : Int → Int) (s a : Int) : Int := if a < s then B a else 0
def mTp (I : Mz) : Prop := (0 ≤ I 121 25 ∧ I 121 25 ≤ 100) ∧ ∀ j, 0 ≤ j → j < I 121 25 → 32 ≤ I 141 j ∧ I 141 j ≤ 126
theorem hr_b {I : Mz} (ht : mTp I) {a : Int} (ha : 0 ≤ a) : 0 ≤ hr (I 141) (I 121 25) a ∧ hr (I 141) (I 121 25) a ≤ 126 := by
  simp only [hr]; split
  · have := ht.2 a ha (by assumption); omega
  · omega
theorem hr_fg (B : Int → Int) (s a : Int) : ((48 ≤ hr B s a ∧ hr B s a ≤ 57) → fg B s a = hr B s a - 48) ∧ (¬ (48 ≤ hr B s a ∧ hr B s a ≤ 57) → fg B s a = -1) := by
  simp only [hr, fg]
  by_cases h : a < s
  · rw [if_pos h]
    by_cases h2 : (a < s ∧ 48 ≤ B a) ∧ B a ≤ 57
    · rw [if_pos h2]; omega
    · rw [if_neg h2]; omega
  · rw [if_neg h, if_neg (by omega)]; omega
def rF (I I' : Mz) : Prop := fr [121, 132] I I' ∧ ∀ q, q ≠ 26 → q ≠ 27 → I' 121 q = I 121 q
theorem rF.tr {I I1 I2 : Mz} (h : rF I I1) (h2 : rF I1 I2) : rF I I2 := ⟨h.1.tr h2.1, fun q a b => (h2.2 q a b).trans (h.2 q a b)⟩
theorem rF.rf {I : Mz} : rF I I := ⟨fr.rf, fun _ _ _ => rfl⟩
theorem rF.u {I I1 : Mz} (h : rF I I1) (f : Int → Int) (hf : ∀ q, q ≠ 26 → q ≠ 27 → f q = I1 121 q) : rF I (sz I1 121 f) := ⟨h.1.st rfl, fun q a b => by rw [sz_eq, hf q a b]; exact h.2 q a b⟩
theorem mTp_c {I T : Mz} (ht : mTp I) (h1 : T 141 = I 141) (h2 : T 121 25 = I 121 25) : mTp T := by
  unfold mTp; rw [h1, h2]; exact ht
section
variable {l : Launch} {G : Gw} {I J : Mz}
theorem m_here (ht : mTp I) (ha : 0 ≤ I 121 26 ∧ I 121 26 ≤ 200) : K_X12_here l G [zr G 121] I J (pR (some (zi (hr (I 141) (I 121 25) (I 121 26)))) I J) := by
  have h0 := ht.1
  refine Cz.of rfl (Nat.le_of_ble_eq_true rfl) [some (zr G 121)] rfl (fun E ok okr hE => ?_)
  refine Z_aload0 (pc := 0) ok dX12_here_0 ?_
  refine g_X12_at (pc := 1) ok dX12_here_1 kw931 rfl ?_
  refine Z_aload0 (pc := 4) ok dX12_here_4 ?_
  refine g_X12_taped (pc := 5) ok dX12_here_5 kw930 rfl ?_
  refine Z_icmp_ge (pc := 8) (tgt := 23) ok dX12_here_8 rfl (by first | omega | (simp [sz, uz] <;> omega)) (by first | omega | (simp [sz, uz] <;> omega)) (fun h => ?_) (fun h => ?_)
  · refine Z_iconst (pc := 23) ok dX12_here_23 ?_
    refine Z_iret (pc := 24) ok okr dX12_here_24 ?_
    exact ⟨by rw [hr, if_neg (by omega)], rfl, rfl⟩
  · refine Z_aload0 (pc := 11) ok dX12_here_11 ?_
    refine g_X12_tape (pc := 12) (t := 141) ok dX12_here_12 kw929 rfl rfl ?_
    refine Z_aload0 (pc := 15) ok dX12_here_15 ?_
    refine g_X12_at (pc := 16) ok dX12_here_16 kw931 rfl ?_
    refine Z_iald (pc := 19) (L := 100) ok dX12_here_19 rfl rfl (by first | omega | (simp [sz, uz] <;> omega)) ?_
    refine Z_goto (pc := 20) (tgt := 24) ok dX12_here_20 rfl ?_
    refine Z_iret (pc := 24) ok okr dX12_here_24 ?_
    exact ⟨by rw [hr, if_pos h], rfl, rfl⟩
theorem m_readsNumber (ht : mTp I) (ha : 0 ≤ I 121 26 ∧ I 121 26 ≤ 100) : K_X12_readsNumber l G [zr G 121] I J (pR (some (zi (nuV (I 141) (I 121 25) (I 121 26)))) (sz I 121 (uz (I 121) 26 (nuA (I 141) (I 121 25) (I 121 26)))) J) := by
  have hb1 := hr_b ht ha.1
  have hb2 := hr_b ht (show 0 ≤ I 121 26 + 1 by omega)
  obtain ⟨g1, g2⟩ := hr_fg (I 141) (I 121 25) (I 121 26)
  obtain ⟨g3, g4⟩ := hr_fg (I 141) (I 121 25) (I 121 26 + 1)
  refine Cz.of rfl (Nat.le_of_ble_eq_true rfl) [some (zr G 121), none] rfl (fun E ok okr hE => ?_)
  refine Z_aload0 (pc := 0) ok dX12_readsNumber_0 ?_
  refine Z_callVId (pc := 1) ok dX12_readsNumber_1 cw_X12_255 rfl rfl (by decide) (m_here ht (by omega)) rfl rfl (by first | decide | omega) (Nat.le_of_ble_eq_true rfl) ?_
  refine Z_i2l (pc := 4) ok dX12_readsNumber_4 (by first | omega | (simp [sz, uz] <;> omega)) ?_
  refine Z_ldc2 (pc := 5) (z := 48) ok dX12_readsNumber_5 kw1349 (by decide) ?_
  refine Z_ldc2 (pc := 8) (z := 57) ok dX12_readsNumber_8 kw1350 (by decide) ?_
  refine Z_callSId (pc := 11) ok dX12_readsNumber_11 cw_X12_97 (m_in (by omega) (by omega) (by omega)) rfl rfl (by first | decide | omega) (Nat.le_of_ble_eq_true rfl) ?_
  refine Z_if_neB (pc := 14) (tgt := 19) ok dX12_readsNumber_14 rfl (fun h => ?_) (fun h => ?_)
  · have g1 := g1 h
    have e : hr (sz I 121 (uz (I 121) 26 (I 121 26 + 1)) 141) (sz I 121 (uz (I 121) 26 (I 121 26 + 1)) 121 25) (sz I 121 (uz (I 121) 26 (I 121 26 + 1)) 121 26) = hr (I 141) (I 121 25) (I 121 26 + 1) := by
      simp only [sz_eq, sz_ne _ _ (show (141 : Nat) ≠ 121 by decide), uz_ne _ _ (show (25 : Int) ≠ 26 by decide), uz_eq]
    have htT : mTp (sz I 121 (uz (I 121) 26 (I 121 26 + 1))) := mTp_c ht (sz_ne _ _ (by decide)) (by rw [sz_eq, uz_ne _ _ (by decide)])
    have haT : 0 ≤ sz I 121 (uz (I 121) 26 (I 121 26 + 1)) 121 26 ∧ sz I 121 (uz (I 121) 26 (I 121 26 + 1)) 121 26 ≤ 200 := by rw [sz_eq, uz_eq]; omega
    refine Z_aload0 (pc := 19) ok dX12_readsNumber_19 ?_
    refine Z_callVId (pc := 20) ok dX12_readsNumber_20 cw_X12_255 rfl rfl (by decide) (m_here ht (by omega)) rfl rfl (by first | decide | omega) (Nat.le_of_ble_eq_true rfl) ?_
    refine Z_bipush (pc := 23) ok dX12_readsNumber_23 (by decide) ?_
    refine Z_isub (pc := 25) ok dX12_readsNumber_25 ?_
    refine Z_istore1 (pc := 26) ok (by decide) dX12_readsNumber_26 rfl ?_
    refine Z_aload0 (pc := 27) ok dX12_readsNumber_27 ?_
    refine Z_dup (pc := 28) ok dX12_readsNumber_28 rfl ?_
    refine g_X12_at (pc := 29) ok dX12_readsNumber_29 kw931 rfl ?_
    refine Z_iconst (pc := 32) ok dX12_readsNumber_32 ?_
    refine Z_iadd (pc := 33) ok dX12_readsNumber_33 ?_
    refine p_X12_at (pc := 34) ok dX12_readsNumber_34 kw931 rfl ?_
    refine Z_aload0 (pc := 37) ok dX12_readsNumber_37 ?_
    refine Z_callVId (pc := 38) ok dX12_readsNumber_38 cw_X12_255 rfl rfl (by decide) (m_here htT haT) rfl rfl (by first | decide | omega) (Nat.le_of_ble_eq_true rfl) ?_
    rw [e]
    refine Z_i2l (pc := 41) ok dX12_readsNumber_41 (by first | omega | (simp [sz, uz] <;> omega)) ?_
    refine Z_ldc2 (pc := 42) (z := 48) ok dX12_readsNumber_42 kw1349 (by decide) ?_
    refine Z_ldc2 (pc := 45) (z := 57) ok dX12_readsNumber_45 kw1350 (by decide) ?_
    refine Z_callSId (pc := 48) ok dX12_readsNumber_48 cw_X12_97 (m_in (by omega) (by omega) (by omega)) rfl rfl (by first | decide | omega) (Nat.le_of_ble_eq_true rfl) ?_
    refine Z_if_eqB (pc := 51) (tgt := 77) ok dX12_readsNumber_51 rfl (fun h2 => ?_) (fun h2 => ?_)
    · have g4 := g4 h2
      refine Z_iload1 (pc := 77) ok dX12_readsNumber_77 ?_
      refine Z_iret (pc := 78) ok okr dX12_readsNumber_78 ?_
      refine ⟨?_, ?_, rfl⟩
      · rw [nuV, if_neg (by omega), if_neg (by omega), g1]
      · rw [nuA, if_neg (by omega), if_neg (by omega)]
    · have g3 := g3 h2
      refine Z_bipush (pc := 54) ok dX12_readsNumber_54 (by decide) ?_
      refine Z_iload1 (pc := 56) ok dX12_readsNumber_56 ?_
      refine Z_imul (pc := 57) ok dX12_readsNumber_57 ?_
      refine Z_aload0 (pc := 58) ok dX12_readsNumber_58 ?_
      refine Z_callVId (pc := 59) ok dX12_readsNumber_59 cw_X12_255 rfl rfl (by decide) (m_here htT haT) rfl rfl (by first | decide | omega) (Nat.le_of_ble_eq_true rfl) ?_
      rw [e]
      refine Z_iadd (pc := 62) ok dX12_readsNumber_62 ?_
      refine Z_bipush (pc := 63) ok dX12_readsNumber_63 (by decide) ?_
      refine Z_isub (pc := 65) ok dX12_readsNumber_65 ?_
      refine Z_istore1 (pc := 66) ok (by decide) dX12_readsNumber_66 rfl ?_
      refine Z_aload0 (pc := 67) ok dX12_readsNumber_67 ?_
      refine Z_dup (pc := 68) ok dX12_readsNumber_68 rfl ?_
      refine g_X12_at (pc := 69) ok dX12_readsNumber_69 kw931 rfl ?_
      refine Z_iconst (pc := 72) ok dX12_readsNumber_72 ?_
      refine Z_iadd (pc := 73) ok dX12_readsNumber_73 ?_
      refine p_X12_at (pc := 74) ok dX12_readsNumber_74 kw931 rfl ?_
      refine Z_iload1 (pc := 77) ok dX12_readsNumber_77 ?_
      refine Z_iret (pc := 78) ok okr dX12_readsNumber_78 ?_
      refine ⟨?_, ?_, rfl⟩
      · rw [nuV, if_neg (by omega), if_pos (by omega), g1, g3]; congr 2; omega
      · rw [nuA, if_neg (by omega), if_pos (by omega), sz_sz, sz_eq, uz_uz, uz_eq, show I 121 26 + 1 + 1 = I 121 26 + 2 by omega]
  · have g2 := g2 h
    refine Z_iconst (pc := 17) ok dX12_readsNumber_17 ?_
    refine Z_iret (pc := 18) ok okr dX12_readsNumber_18 ?_
    refine ⟨?_, ?_, rfl⟩
    · rw [nuV, if_pos (by omega)]
    · rw [nuA, if_pos (by omega), uz_self, sz_self]
theorem m_readsItem {b : Int} (hb : -1 ≤ b ∧ b ≤ 99) (ht : mTp I) (ha : 0 ≤ I 121 26 ∧ I 121 26 ≤ 100) (hw : I 121 27 = 0 ∨ I 121 27 = 1) (h9 : ∀ e, 0 ≤ I 132 e ∧ I 132 e ≤ 10000) : K_X12_readsItem l G [zr G 121, zi b] I J (fun v I' J' => ∃ r, v = some (zi r) ∧ (J' = J ∧ rF I I' ∧ I' 121 26 = itA (I 141) (I 121 25) (I 121 26) ∧ ((r = 0 ∧ itF (I 141) (I 121 25) (I 121 26) ∧ I' 132 = I 132 ∧ I' 121 27 = I 121 27) ∨ (r = 1 ∧ ¬ itF (I 141) (I 121 25) (I 121 26) ∧ I' 121 27 = rdW b (nuV (I 141) (I 121 25) (I 121 26)) (itC (I 141) (I 121 25) (I 121 26)) (I 121 27) (I 132) ∧ I' 132 = rdT (nuV (I 141) (I 121 25) (I 121 26)) (itC (I 141) (I 121 25) (I 121 26)) (I 132))))) := by
  have h0 := ht.1
  have hv := nuV_b (I 141) (I 121 25) (I 121 26)
  have hA := nuA_b (I 141) (I 121 25) (I 121 26)
  refine Cz.of rfl (Nat.le_of_ble_eq_true rfl) [some (zr G 121), some (zi b), none, none] rfl (fun E ok okr hE => ?_)
  have main : ∀ (c : Int) (T : Mz), ¬ itF (I 141) (I 121 25) (I 121 26) → c = itC (I 141) (I 121 25) (I 121 26) → (1 ≤ c ∧ c ≤ 9) → rF I T → T 121 26 = itA (I 141) (I 121 25) (I 121 26) → T 121 27 = I 121 27 → T 132 = I 132 → Xz E G T J 69 [some (zr G 121), some (zi b), some (zi (nuV (I 141) (I 121 25) (I 121 26))), some (zi c)] [] := by
    intro c T hF hc hc9 tF t26 t27 t132
    have hv0 : 0 ≤ nuV (I 141) (I 121 25) (I 121 26) := by
      by_cases q : nuV (I 141) (I 121 25) (I 121 26) < 0
      · exact absurd (Or.inl q) hF
      · omega
    rw [← hc] at okr
    generalize nuV (I 141) (I 121 25) (I 121 26) = e at *
    generalize hitA : itA (I 141) (I 121 25) (I 121 26) = A at *
    have h9e := h9 e
    have two : ∀ (w : Int) (T : Mz), (w = 0 ∨ w = 1) → (w = 1 ↔ (I 121 27 = 1 ∨ b ≤ e)) → rF I T → T 121 26 = A → T 121 27 = w → T 132 = I 132 → Xz E G T J 88 [some (zr G 121), some (zi b), some (zi e), some (zi c)] [] := by
      intro w T w0 w1 tF t26 t27 t132
      have t132e := congrFun t132 e
      have t27b : T 121 27 = 0 ∨ T 121 27 = 1 := by rw [t27]; exact w0
      refine Z_iload2 (pc := 88) ok dX12_readsItem_88 ?_
      refine Z_bipush (pc := 89) ok dX12_readsItem_89 (by decide) ?_
      refine Z_icmp_ge (pc := 91) (tgt := 129) ok dX12_readsItem_91 rfl (by first | omega | (simp [sz, uz] <;> omega)) (by first | omega | (simp [sz, uz] <;> omega)) (fun h => ?_) (fun h => ?_)
      · have eT : rdT e c (I 132) = I 132 := by rw [rdT, if_neg (by omega)]
        have eW : rdW b e c (I 121 27) (I 132) = w := by
          rw [rdW]
          by_cases q : I 121 27 = 1 ∨ b ≤ e
          · rw [if_pos (by omega), w1.mpr q]
          · rw [if_neg (by omega)]
            rcases w0 with w0 | w0
            · exact w0.symm
            · exact absurd (w1.mp w0) q
        refine Z_iconst (pc := 129) ok dX12_readsItem_129 ?_
        refine Z_bret (pc := 130) ok okr dX12_readsItem_130 (by first | exact Or.inl rfl | exact Or.inr rfl | exact zb_01 _ | assumption | omega) ?_
        exact ⟨_, rfl, rfl, tF, t26, Or.inr ⟨rfl, hF, by rw [eW]; exact t27, by rw [eT]; exact t132⟩⟩
      · have eT : rdT e c (I 132) = uz (I 132) e (I 132 e + c) := by rw [rdT, if_pos h]
        refine Z_aload0 (pc := 94) ok dX12_readsItem_94 ?_
        refine g_X12_tried (pc := 95) (t := 132) ok dX12_readsItem_95 kw917 rfl rfl ?_
        refine Z_iload2 (pc := 98) ok dX12_readsItem_98 ?_
        refine Z_dup2 (pc := 99) ok dX12_readsItem_99 rfl rfl ?_
        refine Z_iald (pc := 100) (L := 30) ok dX12_readsItem_100 rfl rfl (by first | omega | (simp [sz, uz] <;> omega)) ?_
        refine Z_iload3 (pc := 101) ok dX12_readsItem_101 ?_
        refine Z_iadd (pc := 102) ok dX12_readsItem_102 ?_
        refine Z_iast (pc := 103) (L := 30) ok dX12_readsItem_103 rfl rfl (by first | omega | (simp [sz, uz] <;> omega)) ?_
        refine Z_aload0 (pc := 104) ok dX12_readsItem_104 ?_
        refine Z_dup (pc := 105) ok dX12_readsItem_105 rfl ?_
        refine g_X12_isWrong (pc := 106) ok dX12_readsItem_106 kw932 rfl ?_
        refine Z_aload0 (pc := 109) ok dX12_readsItem_109 ?_
        refine g_X12_tried (pc := 110) (t := 132) ok dX12_readsItem_110 kw917 rfl rfl ?_
        refine Z_iload2 (pc := 113) ok dX12_readsItem_113 ?_
        refine Z_iald (pc := 114) (L := 30) ok dX12_readsItem_114 rfl rfl (by first | omega | (simp [sz, uz] <;> omega)) ?_
        rw [sz_eq, uz_eq, sz_ne _ _ (show (121 : Nat) ≠ 132 by decide), t27, t132]
        have z27 : ∀ f : Int → Int, sz T 132 f 121 = T 121 := fun f => sz_ne _ _ (by decide)
        refine Z_bipush (pc := 115) ok dX12_readsItem_115 (by decide) ?_
        refine Z_icmp_le (pc := 117) (tgt := 124) ok dX12_readsItem_117 rfl (by first | omega | (simp [sz, uz] <;> omega)) (by first | omega | (simp [sz, uz] <;> omega)) (fun h3 => ?_) (fun h3 => ?_)
        · refine Z_iconst (pc := 124) ok dX12_readsItem_124 ?_
          refine Z_ior0 (pc := 125) ok dX12_readsItem_125 w0 ?_
          refine p_X12_isWrong (pc := 126) ok dX12_readsItem_126 kw932 rfl (w0) ?_
          refine Z_iconst (pc := 129) ok dX12_readsItem_129 ?_
          refine Z_bret (pc := 130) ok okr dX12_readsItem_130 (by first | exact Or.inl rfl | exact Or.inr rfl | exact zb_01 _ | assumption | omega) ?_
          refine ⟨_, rfl, rfl, ⟨(tF.1.st rfl).st rfl, fun q a1 a2 => ?_⟩, ?_, Or.inr ⟨rfl, hF, ?_, ?_⟩⟩
          · rw [sz_eq, uz_ne _ _ a2, z27]; exact tF.2 q a1 a2
          · rw [sz_eq, uz_ne _ _ (by decide), z27]; exact t26
          · rw [sz_eq, uz_eq, rdW]
            by_cases q : I 121 27 = 1 ∨ b ≤ e
            · rw [if_pos (by omega), w1.mpr q]
            · rw [if_neg (by omega)]
              rcases w0 with w0 | w0
              · exact w0
              · exact absurd (w1.mp w0) q
          · rw [sz_ne _ _ (by decide), sz_eq, eT]
        · refine Z_iconst (pc := 120) ok dX12_readsItem_120 ?_
          refine Z_goto (pc := 121) (tgt := 125) ok dX12_readsItem_121 rfl ?_
          refine Z_ior1 (pc := 125) ok dX12_readsItem_125 w0 ?_
          refine p_X12_isWrong (pc := 126) ok dX12_readsItem_126 kw932 rfl (Or.inr rfl) ?_
          refine Z_iconst (pc := 129) ok dX12_readsItem_129 ?_
          refine Z_bret (pc := 130) ok okr dX12_readsItem_130 (by first | exact Or.inl rfl | exact Or.inr rfl | exact zb_01 _ | assumption | omega) ?_
          refine ⟨_, rfl, rfl, ⟨(tF.1.st rfl).st rfl, fun q a1 a2 => ?_⟩, ?_, Or.inr ⟨rfl, hF, ?_, ?_⟩⟩
          · rw [sz_eq, uz_ne _ _ a2, z27]; exact tF.2 q a1 a2
          · rw [sz_eq, uz_ne _ _ (by decide), z27]; exact t26
          · rw [sz_eq, uz_eq, rdW, if_pos (by omega)]
          · rw [sz_ne _ _ (by decide), sz_eq, eT]
    have t27b : T 121 27 = 0 ∨ T 121 27 = 1 := by rw [t27]; exact hw
    refine Z_aload0 (pc := 69) ok dX12_readsItem_69 ?_
    refine Z_dup (pc := 70) ok dX12_readsItem_70 rfl ?_
    refine g_X12_isWrong (pc := 71) ok dX12_readsItem_71 kw932 rfl ?_
    refine Z_iload2 (pc := 74) ok dX12_readsItem_74 ?_
    refine Z_iload1 (pc := 75) ok dX12_readsItem_75 ?_
    refine Z_icmp_lt (pc := 76) (tgt := 83) ok dX12_readsItem_76 rfl (by first | omega | (simp [sz, uz] <;> omega)) (by first | omega | (simp [sz, uz] <;> omega)) (fun h => ?_) (fun h => ?_)
    · refine Z_iconst (pc := 83) ok dX12_readsItem_83 ?_
      refine Z_ior0 (pc := 84) ok dX12_readsItem_84 t27b ?_
      refine p_X12_isWrong (pc := 85) ok dX12_readsItem_85 kw932 rfl (t27b) ?_
      refine two (I 121 27) _ hw ⟨fun q => Or.inl q, fun q => by omega⟩ (tF.u _ (fun q a1 a2 => uz_ne _ _ a2)) ?_ ?_ ?_
      · rw [sz_eq, uz_ne _ _ (by decide)]; exact t26
      · rw [sz_eq, uz_eq]; exact t27
      · rw [sz_ne _ _ (by decide)]; exact t132
    · refine Z_iconst (pc := 79) ok dX12_readsItem_79 ?_
      refine Z_goto (pc := 80) (tgt := 84) ok dX12_readsItem_80 rfl ?_
      refine Z_ior1 (pc := 84) ok dX12_readsItem_84 t27b ?_
      refine p_X12_isWrong (pc := 85) ok dX12_readsItem_85 kw932 rfl (Or.inr rfl) ?_
      refine two 1 _ (Or.inr rfl) ⟨fun _ => Or.inr (by omega), fun _ => rfl⟩ (tF.u _ (fun q a1 a2 => uz_ne _ _ a2)) ?_ ?_ ?_
      · rw [sz_eq, uz_ne _ _ (by decide)]; exact t26
      · rw [sz_eq, uz_eq]
      · rw [sz_ne _ _ (by decide)]; exact t132
  refine Z_aload0 (pc := 0) ok dX12_readsItem_0 ?_
  refine Z_callVId (pc := 1) ok dX12_readsItem_1 cw_X12_262 rfl rfl (by decide) (m_readsNumber ht ha) rfl rfl (by first | decide | omega) (Nat.le_of_ble_eq_true rfl) ?_
  refine Z_gen (fun T hT => ?_)
  have t141 : T 141 = I 141 := by rw [hT]; exact sz_ne _ _ (by decide)
  have t25 : T 121 25 = I 121 25 := by rw [hT, sz_eq, uz_ne _ _ (by decide)]
  have t26 : T 121 26 = nuA (I 141) (I 121 25) (I 121 26) := by rw [hT, sz_eq, uz_eq]
  have t27 : T 121 27 = I 121 27 := by rw [hT, sz_eq, uz_ne _ _ (by decide)]
  have t132 : T 132 = I 132 := by rw [hT]; exact sz_ne _ _ (by decide)
  have tF : rF I T := by rw [hT]; exact rF.rf.u _ (fun q a1 a2 => uz_ne _ _ a1)
  clear hT
  have htT : mTp T := mTp_c ht t141 t25
  refine Z_istore2 (pc := 4) ok (by decide) dX12_readsItem_4 rfl ?_
  refine Z_iconst (pc := 5) ok dX12_readsItem_5 ?_
  refine Z_istore3 (pc := 6) ok (by decide) dX12_readsItem_6 rfl ?_
  refine Z_iload2 (pc := 7) ok dX12_readsItem_7 ?_
  refine Z_if_ge (pc := 8) (tgt := 13) ok dX12_readsItem_8 rfl (by first | omega | (simp [sz, uz] <;> omega)) (fun h => ?_) (fun h => ?_)
  · have hv1 : ¬ nuV (I 141) (I 121 25) (I 121 26) < 0 := by omega
    have hA1 := hA.2.1 h
    have hh := hr_b htT (show 0 ≤ T 121 26 by omega)
    refine Z_aload0 (pc := 13) ok dX12_readsItem_13 ?_
    refine Z_callVId (pc := 14) ok dX12_readsItem_14 cw_X12_255 rfl rfl (by decide) (m_here htT (by omega)) rfl rfl (by first | decide | omega) (Nat.le_of_ble_eq_true rfl) ?_
    refine Z_bipush (pc := 17) ok dX12_readsItem_17 (by decide) ?_
    refine Z_icmp_ne (pc := 19) (tgt := 69) ok dX12_readsItem_19 rfl (by first | omega | (simp [sz, uz] <;> omega)) (by first | omega | (simp [sz, uz] <;> omega)) (fun h2 => ?_) (fun h2 => ?_)
    · rw [t141, t25, t26] at h2
      have hX : ¬ itX (I 141) (I 121 25) (I 121 26) := fun q => h2 (by rw [hr, if_pos q.1]; exact q.2)
      have eA : itA (I 141) (I 121 25) (I 121 26) = nuA (I 141) (I 121 25) (I 121 26) := by
        rw [itA, if_neg hv1, if_neg hX]
      refine main 1 T ?_ ?_ (by omega) tF (by rw [eA]; exact t26) t27 t132
      · rintro (q | q)
        · exact hv1 q
        · exact hX q.1
      · rw [itC, if_neg hX]
    · rw [t141, t25, t26] at h2
      have hX : itX (I 141) (I 121 25) (I 121 26) := by
        simp only [hr] at h2
        split at h2
        · exact ⟨by assumption, h2⟩
        · omega
      refine Z_aload0 (pc := 22) ok dX12_readsItem_22 ?_
      refine Z_dup (pc := 23) ok dX12_readsItem_23 rfl ?_
      refine g_X12_at (pc := 24) ok dX12_readsItem_24 kw931 rfl ?_
      refine Z_iconst (pc := 27) ok dX12_readsItem_27 ?_
      refine Z_iadd (pc := 28) ok dX12_readsItem_28 ?_
      refine p_X12_at (pc := 29) ok dX12_readsItem_29 kw931 rfl ?_
      refine Z_gen (fun U hU => ?_)
      have u141 : U 141 = I 141 := by rw [hU, sz_ne _ _ (by decide)]; exact t141
      have u25 : U 121 25 = I 121 25 := by rw [hU, sz_eq, uz_ne _ _ (by decide)]; exact t25
      have u26 : U 121 26 = nuA (I 141) (I 121 25) (I 121 26) + 1 := by rw [hU, sz_eq, uz_eq, t26]
      have u27 : U 121 27 = I 121 27 := by rw [hU, sz_eq, uz_ne _ _ (by decide)]; exact t27
      have u132 : U 132 = I 132 := by rw [hU, sz_ne _ _ (by decide)]; exact t132
      have uF : rF I U := by rw [hU]; exact tF.u _ (fun q a1 a2 => uz_ne _ _ a1)
      clear hU
      have htU : mTp U := mTp_c ht u141 u25
      have hhu := hr_b htU (show 0 ≤ U 121 26 by omega)
      have eh : hr (U 141) (U 121 25) (U 121 26) = hr (I 141) (I 121 25) (nuA (I 141) (I 121 25) (I 121 26) + 1) := by rw [u141, u25, u26]
      rw [eh] at hhu
      obtain ⟨g3, g4⟩ := hr_fg (I 141) (I 121 25) (nuA (I 141) (I 121 25) (I 121 26) + 1)
      refine Z_aload0 (pc := 32) ok dX12_readsItem_32 ?_
      refine Z_callVId (pc := 33) ok dX12_readsItem_33 cw_X12_255 rfl rfl (by decide) (m_here htU (by omega)) rfl rfl (by first | decide | omega) (Nat.le_of_ble_eq_true rfl) ?_
      rw [eh]
      refine Z_i2l (pc := 36) ok dX12_readsItem_36 (by first | omega | (simp [sz, uz] <;> omega)) ?_
      refine Z_ldc2 (pc := 37) (z := 49) ok dX12_readsItem_37 kw1355 (by decide) ?_
      refine Z_ldc2 (pc := 40) (z := 57) ok dX12_readsItem_40 kw1350 (by decide) ?_
      refine Z_callSId (pc := 43) ok dX12_readsItem_43 cw_X12_97 (m_in (by omega) (by omega) (by omega)) rfl rfl (by first | decide | omega) (Nat.le_of_ble_eq_true rfl) ?_
      refine Z_if_neB (pc := 46) (tgt := 51) ok dX12_readsItem_46 rfl (fun h3 => ?_) (fun h3 => ?_)
      · have g3 := g3 (by omega)
        have eA : itA (I 141) (I 121 25) (I 121 26) = nuA (I 141) (I 121 25) (I 121 26) + 2 := by
          rw [itA, if_neg hv1, if_pos hX, if_neg (by omega)]
        refine Z_aload0 (pc := 51) ok dX12_readsItem_51 ?_
        refine Z_callVId (pc := 52) ok dX12_readsItem_52 cw_X12_255 rfl rfl (by decide) (m_here htU (by omega)) rfl rfl (by first | decide | omega) (Nat.le_of_ble_eq_true rfl) ?_
        rw [eh]
        refine Z_bipush (pc := 55) ok dX12_readsItem_55 (by decide) ?_
        refine Z_isub (pc := 57) ok dX12_readsItem_57 ?_
        refine Z_istore3 (pc := 58) ok (by decide) dX12_readsItem_58 rfl ?_
        refine Z_aload0 (pc := 59) ok dX12_readsItem_59 ?_
        refine Z_dup (pc := 60) ok dX12_readsItem_60 rfl ?_
        refine g_X12_at (pc := 61) ok dX12_readsItem_61 kw931 rfl ?_
        refine Z_iconst (pc := 64) ok dX12_readsItem_64 ?_
        refine Z_iadd (pc := 65) ok dX12_readsItem_65 ?_
        refine p_X12_at (pc := 66) ok dX12_readsItem_66 kw931 rfl ?_
        refine main _ _ ?_ ?_ (by omega) (uF.u _ (fun q a1 a2 => uz_ne _ _ a1)) ?_ ?_ ?_
        · rintro (q | q)
          · exact hv1 q
          · omega
        · rw [itC, if_pos hX, g3]
        · rw [sz_eq, uz_eq, u26, eA]; omega
        · rw [sz_eq, uz_ne _ _ (by decide)]; exact u27
        · rw [sz_ne _ _ (by decide)]; exact u132
      · have hfg : fg (I 141) (I 121 25) (nuA (I 141) (I 121 25) (I 121 26) + 1) < 1 := by
          by_cases q : 48 ≤ hr (I 141) (I 121 25) (nuA (I 141) (I 121 25) (I 121 26) + 1) ∧ hr (I 141) (I 121 25) (nuA (I 141) (I 121 25) (I 121 26) + 1) ≤ 57
          · have := g3 q; omega
          · have := g4 q; omega
        have eA : itA (I 141) (I 121 25) (I 121 26) = nuA (I 141) (I 121 25) (I 121 26) + 1 := by
          rw [itA, if_neg hv1, if_pos hX, if_pos hfg]
        refine Z_iconst (pc := 49) ok dX12_readsItem_49 ?_
        refine Z_bret (pc := 50) ok okr dX12_readsItem_50 (by first | exact Or.inl rfl | exact Or.inr rfl | exact zb_01 _ | assumption | omega) ?_
        exact ⟨_, rfl, rfl, uF, by rw [eA]; exact u26, Or.inl ⟨rfl, Or.inr ⟨hX, hfg⟩, u132, u27⟩⟩
  · have eA : itA (I 141) (I 121 25) (I 121 26) = nuA (I 141) (I 121 25) (I 121 26) := by
      rw [itA, if_pos h]
    refine Z_iconst (pc := 11) ok dX12_readsItem_11 ?_
    refine Z_bret (pc := 12) ok okr dX12_readsItem_12 (by first | exact Or.inl rfl | exact Or.inr rfl | exact zb_01 _ | assumption | omega) ?_
    exact ⟨_, rfl, rfl, tF, by rw [eA]; exact t26, Or.inl ⟨rfl, Or.inl h, t132, t27⟩⟩
end
