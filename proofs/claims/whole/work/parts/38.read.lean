/-! the reference: read -/
theorem itC_b {B : Int → Int} {s a : Int} (h : ¬ itF B s a) : 1 ≤ itC B s a ∧ itC B s a ≤ 9 := by
  rw [itC]
  have hf := fg_b B s (nuA B s a + 1)
  by_cases z2 : itX B s a
  · rw [if_pos z2]
    by_cases z3 : fg B s (nuA B s a + 1) < 1
    · exact absurd (Or.inr ⟨z2, z3⟩) h
    · omega
  · rw [if_neg z2]; omega
def rG (I I' : Mz) : Prop := fr [121, 122, 132] I I' ∧ ∀ q, q ≠ 0 → q ≠ 25 → q ≠ 26 → q ≠ 27 → I' 121 q = I 121 q
section
variable {l : Launch} {G : Gw} {I J : Mz}
theorem m_read (ht : mTp I) : K_X12_read l G [zr G 121] I J (fun v I' J' => ∃ r, v = some (zi r) ∧ (J' = J ∧ rG I I' ∧ I' 121 25 = 0 ∧ (((rdA (I 141) (I 121 25)).1 ≠ 1 ∧ r = -100 - (rdA (I 141) (I 121 25)).2.1 ∧ I' 121 0 = I 121 0 ∧ I' 122 = I 122) ∨ ((rdA (I 141) (I 121 25)).1 = 1 ∧ ((rdA (I 141) (I 121 25)).2.2.1 = 1 ∨ ¬ (2 ≤ nuV (I 141) (I 121 25) 0 ∧ nuV (I 141) (I 121 25) 0 ≤ 30)) ∧ r = -9 ∧ I' 121 0 = I 121 0 ∧ I' 122 = I 122) ∨ ((rdA (I 141) (I 121 25)).1 = 1 ∧ (rdA (I 141) (I 121 25)).2.2.1 = 0 ∧ (2 ≤ nuV (I 141) (I 121 25) 0 ∧ nuV (I 141) (I 121 25) 0 ≤ 30) ∧ r = su (rdA (I 141) (I 121 25)).2.2.2 (nuV (I 141) (I 121 25) 0) ∧ I' 121 0 = nuV (I 141) (I 121 25) 0 ∧ I' 122 = (rdA (I 141) (I 121 25)).2.2.2)))) := by
  have h0 := ht.1
  have hv := nuV_b (I 141) (I 121 25) 0
  have hA := nuA_b (I 141) (I 121 25) 0
  refine Cz.of rfl (Nat.le_of_ble_eq_true rfl) [some (zr G 121), none, none, none, none] rfl (fun E ok okr hE => ?_)
  have fin : ∀ (o w3 : Int) (T : Mz), (o = 0 ∨ o = 1) → rF I T → (0 ≤ T 121 26 ∧ T 121 26 ≤ 200) → T 121 26 = (rdA (I 141) (I 121 25)).2.1 → ((o = 1 ∧ T 121 26 = I 121 25) ↔ (rdA (I 141) (I 121 25)).1 = 1) → ((rdA (I 141) (I 121 25)).1 = 1 → T 121 27 = (rdA (I 141) (I 121 25)).2.2.1 ∧ (T 121 27 = 0 ∨ T 121 27 = 1) ∧ T 132 = (rdA (I 141) (I 121 25)).2.2.2) → Xz E G T J 144 [some (zr G 121), some (zi (nuV (I 141) (I 121 25) 0)), some (zi o), some (zi w3), none] [] := by
    intro o w3 T o0 tF t26b t26 tR tW
    have t25 : T 121 25 = I 121 25 := tF.2 25 (by decide) (by decide)
    have t0 : T 121 0 = I 121 0 := tF.2 0 (by decide) (by decide)
    have t122 : T 122 = I 122 := tF.1.at 122 rfl
    have gF : rG I (sz T 121 (uz (T 121) 25 0)) := ⟨(tF.1.sub (L' := [121, 122, 132]) rfl).st rfl, fun q a b c d => by rw [sz_eq, uz_ne _ _ b]; exact tF.2 q c d⟩
    have bad : (rdA (I 141) (I 121 25)).1 ≠ 1 → Xz E G (sz T 121 (uz (T 121) 25 0)) J 172 [some (zr G 121), some (zi (nuV (I 141) (I 121 25) 0)), some (zi 0), some (zi w3), none] [] := by
      intro hr1
      refine Z_bipush (pc := 172) ok dX12_read_172 (by decide) ?_
      refine Z_aload0 (pc := 174) ok dX12_read_174 ?_
      refine g_X12_at (pc := 175) ok dX12_read_175 kw931 rfl ?_
      refine Z_isub (pc := 178) ok dX12_read_178 ?_
      refine Z_iret (pc := 179) ok okr dX12_read_179 ?_
      refine ⟨_, rfl, rfl, gF, by rw [sz_eq, uz_eq], Or.inl ⟨hr1, ?_, ?_, ?_⟩⟩
      · rw [sz_eq, uz_ne _ _ (by decide), t26]
      · rw [sz_eq, uz_ne _ _ (by decide)]; exact t0
      · rw [sz_ne _ _ (by decide)]; exact t122
    refine Z_iload2 (pc := 144) ok dX12_read_144 ?_
    refine Z_aload0 (pc := 145) ok dX12_read_145 ?_
    refine g_X12_at (pc := 146) ok dX12_read_146 kw931 rfl ?_
    refine Z_aload0 (pc := 149) ok dX12_read_149 ?_
    refine g_X12_taped (pc := 150) ok dX12_read_150 kw930 rfl ?_
    refine Z_icmp_ne (pc := 153) (tgt := 160) ok dX12_read_153 rfl (by first | omega | (simp [sz, uz] <;> omega)) (by first | omega | (simp [sz, uz] <;> omega)) (fun h => ?_) (fun h => ?_)
    · refine Z_iconst (pc := 160) ok dX12_read_160 ?_
      refine Z_iand0 (pc := 161) ok dX12_read_161 o0 ?_
      refine Z_istore2 (pc := 162) ok (by decide) dX12_read_162 rfl ?_
      refine Z_aload0 (pc := 163) ok dX12_read_163 ?_
      refine Z_iconst (pc := 164) ok dX12_read_164 ?_
      refine p_X12_taped (pc := 165) ok dX12_read_165 kw930 rfl ?_
      refine Z_iload2 (pc := 168) ok dX12_read_168 ?_
      refine Z_if_ne (pc := 169) (tgt := 180) ok dX12_read_169 rfl (by first | omega | (simp [sz, uz] <;> omega)) (fun h => by exfalso; omega) (fun _ => ?_)
      exact bad (fun q => h (by rw [t25]; exact (tR.mpr q).2))
    · refine Z_iconst (pc := 156) ok dX12_read_156 ?_
      refine Z_goto (pc := 157) (tgt := 161) ok dX12_read_157 rfl ?_
      refine Z_iand1 (pc := 161) ok dX12_read_161 o0 ?_
      refine Z_istore2 (pc := 162) ok (by decide) dX12_read_162 rfl ?_
      refine Z_aload0 (pc := 163) ok dX12_read_163 ?_
      refine Z_iconst (pc := 164) ok dX12_read_164 ?_
      refine p_X12_taped (pc := 165) ok dX12_read_165 kw930 rfl ?_
      refine Z_iload2 (pc := 168) ok dX12_read_168 ?_
      refine Z_if_ne (pc := 169) (tgt := 180) ok dX12_read_169 rfl (by first | omega | (simp [sz, uz] <;> omega)) (fun h2 => ?_) (fun h2 => ?_)
      · have hr1 := tR.mp ⟨by omega, by rw [← t25]; exact h⟩
        obtain ⟨w1, w2, w3'⟩ := tW hr1
        have s27 : sz T 121 (uz (T 121) 25 0) 121 27 = T 121 27 := by rw [sz_eq, uz_ne _ _ (by decide)]
        refine Z_aload0 (pc := 180) ok dX12_read_180 ?_
        refine g_X12_isWrong (pc := 181) ok dX12_read_181 kw932 rfl ?_
        refine Z_if_ne (pc := 184) (tgt := 201) ok dX12_read_184 rfl (by first | omega | (simp [sz, uz] <;> omega)) (fun h3 => ?_) (fun h3 => ?_)
        · rw [s27] at h3
          refine Z_bipush (pc := 201) ok dX12_read_201 (by decide) ?_
          refine Z_iret (pc := 203) ok okr dX12_read_203 ?_
          refine ⟨_, rfl, rfl, gF, by rw [sz_eq, uz_eq], Or.inr (Or.inl ⟨hr1, Or.inl (by omega), rfl, ?_, ?_⟩)⟩
          · rw [sz_eq, uz_ne _ _ (by decide)]; exact t0
          · rw [sz_ne _ _ (by decide)]; exact t122
        · rw [s27] at h3
          refine Z_iload1 (pc := 187) ok dX12_read_187 ?_
          refine Z_i2l (pc := 188) ok dX12_read_188 (by first | omega | (simp [sz, uz] <;> omega)) ?_
          refine Z_ldc2 (pc := 189) (z := 2) ok dX12_read_189 kw1022 (by decide) ?_
          refine Z_ldc2 (pc := 192) (z := 30) ok dX12_read_192 kw1023 (by decide) ?_
          refine Z_callSId (pc := 195) ok dX12_read_195 cw_X12_97 (m_in (by omega) (by omega) (by omega)) rfl rfl (by first | decide | omega) (Nat.le_of_ble_eq_true rfl) ?_
          refine Z_if_neB (pc := 198) (tgt := 204) ok dX12_read_198 rfl (fun h4 => ?_) (fun h4 => ?_)
          · refine Z_aload0 (pc := 204) ok dX12_read_204 ?_
            refine Z_iload1 (pc := 205) ok dX12_read_205 ?_
            refine p_X12_n (pc := 206) ok dX12_read_206 kw905 rfl ?_
            refine Z_iconst (pc := 209) ok dX12_read_209 ?_
            refine Z_istore4 (pc := 210) ok (by decide) dX12_read_210 rfl ?_
            refine Z_gen (fun U hU => ?_)
            have u0 : U 121 0 = nuV (I 141) (I 121 25) 0 := by rw [hU, sz_eq, uz_eq]
            have u25 : U 121 25 = 0 := by rw [hU, sz_eq, uz_ne _ _ (by decide), sz_eq, uz_eq]
            have uF : rG I U := by
              rw [hU]
              refine ⟨((tF.1.sub (L' := [121, 122, 132]) rfl).st rfl).st rfl, fun q a b c d => ?_⟩
              rw [sz_eq, uz_ne _ _ a, sz_eq, uz_ne _ _ b]; exact tF.2 q c d
            have u132 : U 132 = (rdA (I 141) (I 121 25)).2.2.2 := by rw [hU, sz_ne _ _ (by decide), sz_ne _ _ (by decide)]; exact w3'
            clear hU
            have H : ∀ e : Int, 0 ≤ e → e ≤ 30 → ∀ f : Int → Int, (∀ j, 0 ≤ j → j < e → f j = (rdA (I 141) (I 121 25)).2.2.2 j) → Xz E G (sz U 122 f) J 212 [some (zr G 121), some (zi (nuV (I 141) (I 121 25) 0)), some (zi o), some (zi w3), some (zi e)] [] := by
              refine zUp ?_ ?_
              · intro f f1
                refine Z_ext1 (g := (rdA (I 141) (I 121 25)).2.2.2) (by decide) (fun j a b => f1 j a (by have : j < 30 := b; omega)) ?_
                have z0 : sz U 122 (rdA (I 141) (I 121 25)).2.2.2 121 0 = nuV (I 141) (I 121 25) 0 := by rw [sz_ne _ _ (by decide)]; exact u0
                refine Z_iload4 (pc := 212) ok dX12_read_212 ?_
                refine Z_bipush (pc := 214) ok dX12_read_214 (by decide) ?_
                refine Z_icmp_ge (pc := 216) (tgt := 239) ok dX12_read_216 rfl (by first | omega | (simp [sz, uz] <;> omega)) (by first | omega | (simp [sz, uz] <;> omega)) (fun _ => ?_) (fun h => by exfalso; omega)
                refine Z_aload0 (pc := 239) ok dX12_read_239 ?_
                refine Z_callVId (pc := 240) ok dX12_read_240 cw_X12_115 rfl rfl (by decide) (m_weight (by rw [z0]; exact h4)) rfl rfl (by first | decide | omega) (Nat.le_of_ble_eq_true rfl) ?_
                refine Z_iret (pc := 243) ok okr dX12_read_243 ?_
                refine ⟨_, rfl, rfl, ⟨uF.1.st rfl, fun q a b c d => by rw [sz_ne _ _ (by decide)]; exact uF.2 q a b c d⟩, by rw [sz_ne _ _ (by decide)]; exact u25, Or.inr (Or.inr ⟨hr1, by omega, h4, ?_, z0, ?_⟩)⟩
                · rw [z0, sz_eq]
                · rw [sz_eq]
              · intro e e0 e1 ih f f1
                have z : sz U 122 f 132 = (rdA (I 141) (I 121 25)).2.2.2 := by rw [sz_ne _ _ (by decide)]; exact u132
                refine Z_iload4 (pc := 212) ok dX12_read_212 ?_
                refine Z_bipush (pc := 214) ok dX12_read_214 (by decide) ?_
                refine Z_icmp_ge (pc := 216) (tgt := 239) ok dX12_read_216 rfl (by first | omega | (simp [sz, uz] <;> omega)) (by first | omega | (simp [sz, uz] <;> omega)) (fun h => by exfalso; omega) (fun _ => ?_)
                refine Z_aload0 (pc := 219) ok dX12_read_219 ?_
                refine g_X12_row (pc := 220) (t := 122) ok dX12_read_220 kw906 rfl rfl ?_
                refine Z_iload4 (pc := 223) ok dX12_read_223 ?_
                refine Z_aload0 (pc := 225) ok dX12_read_225 ?_
                refine g_X12_tried (pc := 226) (t := 132) ok dX12_read_226 kw917 rfl rfl ?_
                refine Z_iload4 (pc := 229) ok dX12_read_229 ?_
                refine Z_iald (pc := 231) (L := 30) ok dX12_read_231 rfl rfl (by first | omega | (simp [sz, uz] <;> omega)) ?_
                refine Z_iast (pc := 232) (L := 30) ok dX12_read_232 rfl rfl (by first | omega | (simp [sz, uz] <;> omega)) ?_
                refine Z_iinc4 (pc := 233) ok (by decide) dX12_read_233 rfl ?_
                refine Z_goto (pc := 236) (tgt := 212) ok dX12_read_236 rfl ?_
                rw [sz_sz, sz_eq, z]
                exact ih _ (upto_s (p := fun j x => x = (rdA (I 141) (I 121 25)).2.2.2 j) f1 rfl)
            have q0 := H 0 (by omega) (by omega) (U 122) (fun j a b => by omega)
            rw [sz_self] at q0
            exact q0
          · refine Z_bipush (pc := 201) ok dX12_read_201 (by decide) ?_
            refine Z_iret (pc := 203) ok okr dX12_read_203 ?_
            refine ⟨_, rfl, rfl, gF, by rw [sz_eq, uz_eq], Or.inr (Or.inl ⟨hr1, Or.inr h4, rfl, ?_, ?_⟩)⟩
            · rw [sz_eq, uz_ne _ _ (by decide)]; exact t0
            · rw [sz_ne _ _ (by decide)]; exact t122
      · have ho : o = 0 := by omega
        subst ho
        exact bad (fun q => by have := (tR.mpr q).1; omega)
  -- from behind the number on
  have mid : ∀ (o : Int) (T : Mz), (o = 1 ∧ 0 ≤ nuV (I 141) (I 121 25) 0 ∧ (nuA (I 141) (I 121 25) 0 < I 121 25 ∧ I 141 (nuA (I 141) (I 121 25) 0) = 58)) ∨ (o = 0 ∧ (nuV (I 141) (I 121 25) 0 < 0 ∨ ¬ (nuA (I 141) (I 121 25) 0 < I 121 25 ∧ I 141 (nuA (I 141) (I 121 25) 0) = 58))) → rF I T → T 121 26 = nuA (I 141) (I 121 25) 0 → T 121 27 = 0 → T 132 = (fun _ => 0) → Xz E G T J 55 [some (zr G 121), some (zi (nuV (I 141) (I 121 25) 0)), some (zi o), none, none] [] := by
    intro o T hx tF t26 t27 t132
    have t25 : T 121 25 = I 121 25 := tF.2 25 (by decide) (by decide)
    have hA0 := hA.1
    have hAs : nuA (I 141) (I 121 25) 0 ≤ 100 := by
      by_cases q : nuV (I 141) (I 121 25) 0 < 0
      · rw [hA.2.2 q]; omega
      · have := (hA.2.1 (by omega)).2; omega
    rcases hx with ⟨rfl, hv0, hx⟩ | ⟨rfl, hx⟩
    · have erA : rdA (I 141) (I 121 25) = @ite _ (nuA (I 141) (I 121 25) 0 + 1 = I 121 25) (Classical.propDecidable _) (1, I 121 25, 0, fun _ => 0) (rdI (I 141) (I 121 25) (nuV (I 141) (I 121 25) 0) 100 (nuA (I 141) (I 121 25) 0 + 1) 0 (fun _ => 0)) := by
        rw [rdA, if_neg]
        rintro (q | q)
        · omega
        · exact q hx
      have hA2 := hA.2.1 hv0
      refine Z_aload0 (pc := 55) ok dX12_read_55 ?_
      refine Z_dup (pc := 56) ok dX12_read_56 rfl ?_
      refine g_X12_at (pc := 57) ok dX12_read_57 kw931 rfl ?_
      refine Z_iload2 (pc := 60) ok dX12_read_60 ?_
      refine Z_if_eq (pc := 61) (tgt := 68) ok dX12_read_61 rfl (by first | omega | (simp [sz, uz] <;> omega)) (fun h => by exfalso; omega) (fun _ => ?_)
      refine Z_iconst (pc := 64) ok dX12_read_64 ?_
      refine Z_goto (pc := 65) (tgt := 69) ok dX12_read_65 rfl ?_
      refine Z_iadd (pc := 69) ok dX12_read_69 ?_
      refine p_X12_at (pc := 70) ok dX12_read_70 kw931 rfl ?_
      refine Z_gen (fun U hU => ?_)
      have u25 : U 121 25 = I 121 25 := by rw [hU, sz_eq, uz_ne _ _ (by decide)]; exact t25
      have u26 : U 121 26 = nuA (I 141) (I 121 25) 0 + 1 := by rw [hU, sz_eq, uz_eq, t26]
      have u27 : U 121 27 = 0 := by rw [hU, sz_eq, uz_ne _ _ (by decide)]; exact t27
      have u132 : U 132 = (fun _ => 0) := by rw [hU, sz_ne _ _ (by decide)]; exact t132
      have uF : rF I U := by rw [hU]; exact tF.u _ (fun q a1 a2 => uz_ne _ _ a1)
      clear hU
      refine Z_iload2 (pc := 73) ok dX12_read_73 ?_
      refine Z_if_eq (pc := 74) (tgt := 92) ok dX12_read_74 rfl (by first | omega | (simp [sz, uz] <;> omega)) (fun h => by exfalso; omega) (fun _ => ?_)
      refine Z_aload0 (pc := 77) ok dX12_read_77 ?_
      refine g_X12_at (pc := 78) ok dX12_read_78 kw931 rfl ?_
      refine Z_aload0 (pc := 81) ok dX12_read_81 ?_
      refine g_X12_taped (pc := 82) ok dX12_read_82 kw930 rfl ?_
      refine Z_icmp_ge (pc := 85) (tgt := 92) ok dX12_read_85 rfl (by first | omega | (simp [sz, uz] <;> omega)) (by first | omega | (simp [sz, uz] <;> omega)) (fun h5 => ?_) (fun h5 => ?_)
      · rw [u26, u25] at h5
        have h6 : nuA (I 141) (I 121 25) 0 + 1 = I 121 25 := by omega
        rw [if_pos h6] at erA
        refine Z_iconst (pc := 92) ok dX12_read_92 ?_
        refine Z_istore3 (pc := 93) ok (by decide) dX12_read_93 rfl ?_
        refine Z_iload3 (pc := 94) ok dX12_read_94 ?_
        refine Z_if_eq (pc := 95) (tgt := 144) ok dX12_read_95 rfl (by first | omega | (simp [sz, uz] <;> omega)) (fun _ => ?_) (fun h => by exfalso; omega)
        refine fin 1 _ U (Or.inr rfl) uF (by omega) (by rw [erA, u26]; exact h6) (by rw [erA, u26]; exact ⟨fun _ => rfl, fun _ => ⟨rfl, h6⟩⟩) (fun _ => ?_)
        rw [erA]
        exact ⟨u27, Or.inl u27, u132⟩
      · rw [u26, u25] at h5
        rw [if_neg (by omega)] at erA
        refine Z_iconst (pc := 88) ok dX12_read_88 ?_
        refine Z_goto (pc := 89) (tgt := 93) ok dX12_read_89 rfl ?_
        refine Z_istore3 (pc := 93) ok (by decide) dX12_read_93 rfl ?_
        have H : ∀ (k : Nat) (T : Mz) (a w : Int) (t : Int → Int), rF I T → T 121 26 = a → (0 ≤ a ∧ a ≤ I 121 25) → I 121 25 - a < k → T 121 27 = w → (w = 0 ∨ w = 1) → T 132 = t → (∀ e, 0 ≤ t e ∧ t e ≤ 9 * a) → rdI (I 141) (I 121 25) (nuV (I 141) (I 121 25) 0) k a w t = rdA (I 141) (I 121 25) → Xz E G T J 94 [some (zr G 121), some (zi (nuV (I 141) (I 121 25) 0)), some (zi 1), some (zi 1), none] [] := by
          intro k
          induction k with
          | zero =>
            intro T a w t k1 k2 k3 k4
            exfalso; omega
          | succ k ihk =>
            intro T a w t k1 k2 k3 k4 k5 k6 k7 k8 k9
            have x141 : T 141 = I 141 := k1.1.at 141 rfl
            have x25 : T 121 25 = I 121 25 := k1.2 25 (by decide) (by decide)
            have htT : mTp T := mTp_c ht x141 x25
            rw [rdI] at k9
            refine Z_iload3 (pc := 94) ok dX12_read_94 ?_
            refine Z_if_eq (pc := 95) (tgt := 144) ok dX12_read_95 rfl (by first | omega | (simp [sz, uz] <;> omega)) (fun h => by exfalso; omega) (fun _ => ?_)
            refine Z_aload0 (pc := 98) ok dX12_read_98 ?_
            refine Z_iload1 (pc := 99) ok dX12_read_99 ?_
            refine Z_callVI (pc := 100) ok dX12_read_100 cw_X12_271 rfl rfl (by decide) (m_readsItem (by omega) htT (by omega) (by rw [k5]; exact k6) (fun e => by have := k8 e; rw [k7]; omega)) rfl rfl (by first | decide | omega) (Nat.le_of_ble_eq_true rfl) (fun r I4 J4 q => ?_)
            obtain ⟨rfl, q1, q2, q3⟩ := q
            rw [x141, x25, k2] at q2 q3
            rw [k5, k7] at q3
            have f4 := k1.tr q1
            have y25 : I4 121 25 = I 121 25 := f4.2 25 (by decide) (by decide)
            have y141 : I4 141 = I 141 := f4.1.at 141 rfl
            rcases q3 with ⟨rfl, y1, y2, y3⟩ | ⟨rfl, y1, y2, y3⟩
            · rw [if_pos y1] at k9
              have hb : 0 ≤ itA (I 141) (I 121 25) a ∧ itA (I 141) (I 121 25) a ≤ 200 := by
                rw [itA]
                have n1 := nuA_b (I 141) (I 121 25) a
                have n2 := nuV_b (I 141) (I 121 25) a
                by_cases z1 : nuV (I 141) (I 121 25) a < 0
                · rw [if_pos z1]; have := n1.2.2 z1; omega
                · have := n1.2.1 (by omega)
                  rw [if_neg z1]
                  by_cases z2 : itX (I 141) (I 121 25) a
                  · rw [if_pos z2]
                    by_cases z3 : fg (I 141) (I 121 25) (nuA (I 141) (I 121 25) a + 1) < 1
                    · rw [if_pos z3]; omega
                    · rw [if_neg z3]; omega
                  · rw [if_neg z2]; omega
              refine Z_istore2 (pc := 103) ok (by decide) dX12_read_103 rfl ?_
              refine Z_iload2 (pc := 104) ok dX12_read_104 ?_
              refine Z_if_eq (pc := 105) (tgt := 121) ok dX12_read_105 rfl (by first | omega | (simp [sz, uz] <;> omega)) (fun _ => ?_) (fun h => by exfalso; omega)
              refine Z_iconst (pc := 121) ok dX12_read_121 ?_
              refine Z_istore3 (pc := 122) ok (by decide) dX12_read_122 rfl ?_
              refine Z_aload0 (pc := 123) ok dX12_read_123 ?_
              refine Z_dup (pc := 124) ok dX12_read_124 rfl ?_
              refine g_X12_at (pc := 125) ok dX12_read_125 kw931 rfl ?_
              refine Z_iload3 (pc := 128) ok dX12_read_128 ?_
              refine Z_if_eq (pc := 129) (tgt := 136) ok dX12_read_129 rfl (by first | omega | (simp [sz, uz] <;> omega)) (fun _ => ?_) (fun h => by exfalso; omega)
              refine Z_iconst (pc := 136) ok dX12_read_136 ?_
              refine Z_iadd (pc := 137) ok dX12_read_137 ?_
              refine p_X12_at (pc := 138) ok dX12_read_138 kw931 rfl ?_
              refine Z_goto (pc := 141) (tgt := 94) ok dX12_read_141 rfl ?_
              refine Z_iload3 (pc := 94) ok dX12_read_94 ?_
              refine Z_if_eq (pc := 95) (tgt := 144) ok dX12_read_95 rfl (by first | omega | (simp [sz, uz] <;> omega)) (fun _ => ?_) (fun h => by exfalso; omega)
              refine fin 0 _ _ (Or.inl rfl) (f4.u _ (fun q a1 a2 => uz_ne _ _ a1)) ?_ ?_ ?_ ?_
              · rw [sz_eq, uz_eq, q2]; omega
              · rw [sz_eq, uz_eq, q2, ← k9]; exact Int.add_zero _
              · rw [← k9]; exact ⟨fun q => absurd q.1 (by decide), fun q => absurd q (show ¬ (0 : Int) = 1 by decide)⟩
              · rw [← k9]; exact fun q => absurd q (show ¬ (0 : Int) = 1 by decide)
            · rw [if_neg y1] at k9
              have hia := itA_b y1
              have hic := itC_b y1
              have ht4 : mTp I4 := mTp_c ht y141 y25
              have hv4 : 0 ≤ nuV (I 141) (I 121 25) a := by
                by_cases z1 : nuV (I 141) (I 121 25) a < 0
                · exact absurd (Or.inl z1) y1
                · omega
              have hw4 := rdW_01 (nuV (I 141) (I 121 25) 0) (nuV (I 141) (I 121 25) a) (itC (I 141) (I 121 25) a) w t
              have hb4 : ∀ e, 0 ≤ rdT (nuV (I 141) (I 121 25) a) (itC (I 141) (I 121 25) a) t e ∧ rdT (nuV (I 141) (I 121 25) a) (itC (I 141) (I 121 25) a) t e ≤ 9 * itA (I 141) (I 121 25) a := fun e => by
                rw [rdT]
                split
                · by_cases z : e = nuV (I 141) (I 121 25) a
                  · rw [z, uz_eq]; have := k8 (nuV (I 141) (I 121 25) a); omega
                  · rw [uz_ne _ _ z]; have := k8 e; omega
                · have := k8 e; omega
              generalize rdW (nuV (I 141) (I 121 25) 0) (nuV (I 141) (I 121 25) a) (itC (I 141) (I 121 25) a) w t = w' at *
              generalize rdT (nuV (I 141) (I 121 25) a) (itC (I 141) (I 121 25) a) t = t' at *
              have hh := hr_b ht4 (show 0 ≤ I4 121 26 by omega)
              refine Z_istore2 (pc := 103) ok (by decide) dX12_read_103 rfl ?_
              refine Z_iload2 (pc := 104) ok dX12_read_104 ?_
              refine Z_if_eq (pc := 105) (tgt := 121) ok dX12_read_105 rfl (by first | omega | (simp [sz, uz] <;> omega)) (fun h => by exfalso; omega) (fun _ => ?_)
              refine Z_aload0 (pc := 108) ok dX12_read_108 ?_
              refine Z_callVId (pc := 109) ok dX12_read_109 cw_X12_255 rfl rfl (by decide) (m_here ht4 (by omega)) rfl rfl (by first | decide | omega) (Nat.le_of_ble_eq_true rfl) ?_
              refine Z_bipush (pc := 112) ok dX12_read_112 (by decide) ?_
              refine Z_icmp_ne (pc := 114) (tgt := 121) ok dX12_read_114 rfl (by first | omega | (simp [sz, uz] <;> omega)) (by first | omega | (simp [sz, uz] <;> omega)) (fun h6 => ?_) (fun h6 => ?_)
              · rw [y141, y25, q2] at h6
                refine Z_iconst (pc := 121) ok dX12_read_121 ?_
                refine Z_istore3 (pc := 122) ok (by decide) dX12_read_122 rfl ?_
                refine Z_aload0 (pc := 123) ok dX12_read_123 ?_
                refine Z_dup (pc := 124) ok dX12_read_124 rfl ?_
                refine g_X12_at (pc := 125) ok dX12_read_125 kw931 rfl ?_
                refine Z_iload3 (pc := 128) ok dX12_read_128 ?_
                refine Z_if_eq (pc := 129) (tgt := 136) ok dX12_read_129 rfl (by first | omega | (simp [sz, uz] <;> omega)) (fun _ => ?_) (fun h => by exfalso; omega)
                refine Z_iconst (pc := 136) ok dX12_read_136 ?_
                refine Z_iadd (pc := 137) ok dX12_read_137 ?_
                refine p_X12_at (pc := 138) ok dX12_read_138 kw931 rfl ?_
                refine Z_goto (pc := 141) (tgt := 94) ok dX12_read_141 rfl ?_
                refine Z_iload3 (pc := 94) ok dX12_read_94 ?_
                refine Z_if_eq (pc := 95) (tgt := 144) ok dX12_read_95 rfl (by first | omega | (simp [sz, uz] <;> omega)) (fun _ => ?_) (fun h => by exfalso; omega)
                refine fin 1 _ _ (Or.inr rfl) (f4.u _ (fun q a1 a2 => uz_ne _ _ a1)) ?_ ?_ ?_ ?_
                · rw [sz_eq, uz_eq, q2]; omega
                · rw [sz_eq, uz_eq, q2, ← k9, Int.add_zero]
                  by_cases z : itA (I 141) (I 121 25) a = I 121 25
                  · rw [if_pos z]; exact z
                  · rw [if_neg z, if_neg (fun q => h6 (by rw [hr, if_pos (by omega)]; exact q))]
                · rw [sz_eq, uz_eq, q2, ← k9, Int.add_zero]
                  by_cases z : itA (I 141) (I 121 25) a = I 121 25
                  · rw [if_pos z]; exact ⟨fun _ => rfl, fun _ => ⟨rfl, z⟩⟩
                  · rw [if_neg z, if_neg (fun q => h6 (by rw [hr, if_pos (by omega)]; exact q))]
                    exact ⟨fun q => absurd q.2 z, fun q => absurd q (show ¬ (0 : Int) = 1 by decide)⟩
                · rw [sz_eq, uz_ne _ _ (by decide), sz_ne _ _ (by decide), y2, y3, ← k9]
                  by_cases z : itA (I 141) (I 121 25) a = I 121 25
                  · rw [if_pos z]; exact fun _ => ⟨rfl, hw4, rfl⟩
                  · rw [if_neg z, if_neg (fun q => h6 (by rw [hr, if_pos (by omega)]; exact q))]
                    exact fun q => absurd q (show ¬ (0 : Int) = 1 by decide)
              · rw [y141, y25, q2] at h6
                have z1 : itA (I 141) (I 121 25) a < I 121 25 ∧ I 141 (itA (I 141) (I 121 25) a) = 44 := by
                  simp only [hr] at h6
                  split at h6
                  · exact ⟨by assumption, h6⟩
                  · omega
                rw [if_neg (by omega), if_pos z1.2] at k9
                refine Z_iconst (pc := 117) ok dX12_read_117 ?_
                refine Z_goto (pc := 118) (tgt := 122) ok dX12_read_118 rfl ?_
                refine Z_istore3 (pc := 122) ok (by decide) dX12_read_122 rfl ?_
                refine Z_aload0 (pc := 123) ok dX12_read_123 ?_
                refine Z_dup (pc := 124) ok dX12_read_124 rfl ?_
                refine g_X12_at (pc := 125) ok dX12_read_125 kw931 rfl ?_
                refine Z_iload3 (pc := 128) ok dX12_read_128 ?_
                refine Z_if_eq (pc := 129) (tgt := 136) ok dX12_read_129 rfl (by first | omega | (simp [sz, uz] <;> omega)) (fun h => by exfalso; omega) (fun _ => ?_)
                refine Z_iconst (pc := 132) ok dX12_read_132 ?_
                refine Z_goto (pc := 133) (tgt := 137) ok dX12_read_133 rfl ?_
                refine Z_iadd (pc := 137) ok dX12_read_137 ?_
                refine p_X12_at (pc := 138) ok dX12_read_138 kw931 rfl ?_
                refine Z_goto (pc := 141) (tgt := 94) ok dX12_read_141 rfl ?_
                refine ihk _ (itA (I 141) (I 121 25) a + 1) w' t' (f4.u _ (fun q a1 a2 => uz_ne _ _ a1)) ?_ (by omega) (by omega) ?_ hw4 ?_ (fun e => by have := hb4 e; omega) k9
                · rw [sz_eq, uz_eq, q2]
                · rw [sz_eq, uz_ne _ _ (by decide)]; exact y2
                · rw [sz_ne _ _ (by decide)]; exact y3
        exact H 100 U (nuA (I 141) (I 121 25) 0 + 1) 0 (fun _ => 0) uF u26 (by omega) (by omega) u27 (Or.inl rfl) u132 (fun e => ⟨Int.le_refl 0, by show (0 : Int) ≤ _; omega⟩) erA.symm
    · have er : rdA (I 141) (I 121 25) = (0, nuA (I 141) (I 121 25) 0, 0, fun _ => 0) := by rw [rdA, if_pos hx]
      refine Z_aload0 (pc := 55) ok dX12_read_55 ?_
      refine Z_dup (pc := 56) ok dX12_read_56 rfl ?_
      refine g_X12_at (pc := 57) ok dX12_read_57 kw931 rfl ?_
      refine Z_iload2 (pc := 60) ok dX12_read_60 ?_
      refine Z_if_eq (pc := 61) (tgt := 68) ok dX12_read_61 rfl (by first | omega | (simp [sz, uz] <;> omega)) (fun _ => ?_) (fun h => by exfalso; omega)
      refine Z_iconst (pc := 68) ok dX12_read_68 ?_
      refine Z_iadd (pc := 69) ok dX12_read_69 ?_
      refine p_X12_at (pc := 70) ok dX12_read_70 kw931 rfl ?_
      refine Z_iload2 (pc := 73) ok dX12_read_73 ?_
      refine Z_if_eq (pc := 74) (tgt := 92) ok dX12_read_74 rfl (by first | omega | (simp [sz, uz] <;> omega)) (fun _ => ?_) (fun h => by exfalso; omega)
      refine Z_iconst (pc := 92) ok dX12_read_92 ?_
      refine Z_istore3 (pc := 93) ok (by decide) dX12_read_93 rfl ?_
      refine Z_iload3 (pc := 94) ok dX12_read_94 ?_
      refine Z_if_eq (pc := 95) (tgt := 144) ok dX12_read_95 rfl (by first | omega | (simp [sz, uz] <;> omega)) (fun _ => ?_) (fun h => by exfalso; omega)
      refine fin 0 _ _ (Or.inl rfl) (tF.u _ (fun q a1 a2 => uz_ne _ _ a1)) ?_ ?_ ?_ ?_
      · rw [sz_eq, uz_eq, t26]; omega
      · rw [sz_eq, uz_eq, t26, er]; exact Int.add_zero _
      · rw [er]; exact ⟨fun q => absurd q.1 (by decide), fun q => absurd q (show ¬ (0 : Int) = 1 by decide)⟩
      · rw [er]; exact fun q => absurd q (show ¬ (0 : Int) = 1 by decide)
  refine Z_aload0 (pc := 0) ok dX12_read_0 ?_
  refine Z_iconst (pc := 1) ok dX12_read_1 ?_
  refine p_X12_at (pc := 2) ok dX12_read_2 kw931 rfl ?_
  refine Z_aload0 (pc := 5) ok dX12_read_5 ?_
  refine Z_iconst (pc := 6) ok dX12_read_6 ?_
  refine p_X12_isWrong (pc := 7) ok dX12_read_7 kw932 rfl (by first | exact Or.inl rfl | exact Or.inr rfl | exact zb_01 _ | assumption | omega) ?_
  refine Z_iconst (pc := 10) ok dX12_read_10 ?_
  refine Z_istore1 (pc := 11) ok (by decide) dX12_read_11 rfl ?_
  refine Z_gen (fun T hT => ?_)
  have t141 : T 141 = I 141 := by rw [hT, sz_ne _ _ (by decide), sz_ne _ _ (by decide)]
  have t26 : T 121 26 = 0 := by rw [hT, sz_eq, uz_ne _ _ (by decide), sz_eq, uz_eq]
  have t27 : T 121 27 = 0 := by rw [hT, sz_eq, uz_eq]
  have tF : rF I T := by
    rw [hT]
    exact (rF.rf.u _ (fun q a1 a2 => uz_ne _ _ a1)).u _ (fun q a1 a2 => uz_ne _ _ a2)
  clear hT
  have HC : ∀ e : Int, 0 ≤ e → e ≤ 30 → ∀ f : Int → Int, (∀ j, 0 ≤ j → j < e → f j = 0) → Xz E G (sz T 132 f) J 12 [some (zr G 121), some (zi e), none, none, none] [] := by
    refine zUp ?_ ?_
    · intro f hf
      refine Z_ext1 (g := fun _ => 0) (by decide) (fun j a b => hf j a (by have : j < 30 := b; omega)) ?_
      have hF : rF I (sz T 132 (fun _ => 0)) := ⟨tF.1.st rfl, fun q a1 a2 => by rw [sz_ne _ _ (by decide)]; exact tF.2 q a1 a2⟩
      have z141 : sz T 132 (fun _ => 0) 141 = I 141 := by rw [sz_ne _ _ (by decide)]; exact t141
      have z25 : sz T 132 (fun _ => 0) 121 25 = I 121 25 := hF.2 25 (by decide) (by decide)
      have z26 : sz T 132 (fun _ => 0) 121 26 = 0 := by rw [sz_ne _ _ (by decide)]; exact t26
      have z27 : sz T 132 (fun _ => 0) 121 27 = 0 := by rw [sz_ne _ _ (by decide)]; exact t27
      have z132 : sz T 132 (fun _ => 0) 132 = (fun _ => 0) := sz_eq _ _ _
      have hU : mTp (sz T 132 (fun _ => 0)) := mTp_c ht z141 z25
      generalize sz T 132 (fun _ => 0) = U at *
      refine Z_iload1 (pc := 12) ok dX12_read_12 ?_
      refine Z_bipush (pc := 13) ok dX12_read_13 (by decide) ?_
      refine Z_icmp_ge (pc := 15) (tgt := 31) ok dX12_read_15 rfl (by first | omega | (simp [sz, uz] <;> omega)) (by first | omega | (simp [sz, uz] <;> omega)) (fun _ => ?_) (fun h => by exfalso; omega)
      refine Z_aload0 (pc := 31) ok dX12_read_31 ?_
      refine Z_callVId (pc := 32) ok dX12_read_32 cw_X12_262 rfl rfl (by decide) (m_readsNumber hU (by omega)) rfl rfl (by first | decide | omega) (Nat.le_of_ble_eq_true rfl) ?_
      rw [z141, z25, z26]
      refine Z_gen (fun V hV => ?_)
      have v141 : V 141 = I 141 := by rw [hV, sz_ne _ _ (by decide)]; exact z141
      have v25 : V 121 25 = I 121 25 := by rw [hV, sz_eq, uz_ne _ _ (by decide)]; exact z25
      have v26 : V 121 26 = nuA (I 141) (I 121 25) 0 := by rw [hV, sz_eq, uz_eq]
      have v27 : V 121 27 = 0 := by rw [hV, sz_eq, uz_ne _ _ (by decide)]; exact z27
      have v132 : V 132 = (fun _ => 0) := by rw [hV, sz_ne _ _ (by decide)]; exact z132
      have vF : rF I V := by rw [hV]; exact hF.u _ (fun q a1 a2 => uz_ne _ _ a1)
      clear hV
      refine Z_istore1 (pc := 35) ok (by decide) dX12_read_35 rfl ?_
      refine Z_iload1 (pc := 36) ok dX12_read_36 ?_
      refine Z_if_lt (pc := 37) (tgt := 53) ok dX12_read_37 rfl (by first | omega | (simp [sz, uz] <;> omega)) (fun h => ?_) (fun h => ?_)
      · refine Z_iconst (pc := 53) ok dX12_read_53 ?_
        refine Z_istore2 (pc := 54) ok (by decide) dX12_read_54 rfl ?_
        exact mid 0 V (Or.inr ⟨rfl, Or.inl h⟩) vF v26 v27 v132
      · have hV : mTp V := mTp_c ht v141 v25
        have hA2 := hA.2.1 h
        have hh := hr_b hV (show 0 ≤ V 121 26 by omega)
        refine Z_aload0 (pc := 40) ok dX12_read_40 ?_
        refine Z_callVId (pc := 41) ok dX12_read_41 cw_X12_255 rfl rfl (by decide) (m_here hV (by omega)) rfl rfl (by first | decide | omega) (Nat.le_of_ble_eq_true rfl) ?_
        refine Z_bipush (pc := 44) ok dX12_read_44 (by decide) ?_
        refine Z_icmp_ne (pc := 46) (tgt := 53) ok dX12_read_46 rfl (by first | omega | (simp [sz, uz] <;> omega)) (by first | omega | (simp [sz, uz] <;> omega)) (fun h2 => ?_) (fun h2 => ?_)
        · rw [v141, v25, v26] at h2
          refine Z_iconst (pc := 53) ok dX12_read_53 ?_
          refine Z_istore2 (pc := 54) ok (by decide) dX12_read_54 rfl ?_
          exact mid 0 V (Or.inr ⟨rfl, Or.inr (fun q => h2 (by rw [hr, if_pos q.1]; exact q.2))⟩) vF v26 v27 v132
        · rw [v141, v25, v26] at h2
          have hx : nuA (I 141) (I 121 25) 0 < I 121 25 ∧ I 141 (nuA (I 141) (I 121 25) 0) = 58 := by
            simp only [hr] at h2
            split at h2
            · exact ⟨by assumption, h2⟩
            · omega
          refine Z_iconst (pc := 49) ok dX12_read_49 ?_
          refine Z_goto (pc := 50) (tgt := 54) ok dX12_read_50 rfl ?_
          refine Z_istore2 (pc := 54) ok (by decide) dX12_read_54 rfl ?_
          exact mid 1 V (Or.inl ⟨rfl, h, hx⟩) vF v26 v27 v132
    · intro e e0 e1 ih f hf
      refine Z_iload1 (pc := 12) ok dX12_read_12 ?_
      refine Z_bipush (pc := 13) ok dX12_read_13 (by decide) ?_
      refine Z_icmp_ge (pc := 15) (tgt := 31) ok dX12_read_15 rfl (by first | omega | (simp [sz, uz] <;> omega)) (by first | omega | (simp [sz, uz] <;> omega)) (fun h => by exfalso; omega) (fun _ => ?_)
      refine Z_aload0 (pc := 18) ok dX12_read_18 ?_
      refine g_X12_tried (pc := 19) (t := 132) ok dX12_read_19 kw917 rfl rfl ?_
      refine Z_iload1 (pc := 22) ok dX12_read_22 ?_
      refine Z_iconst (pc := 23) ok dX12_read_23 ?_
      refine Z_iast (pc := 24) (L := 30) ok dX12_read_24 rfl rfl (by first | omega | (simp [sz, uz] <;> omega)) ?_
      refine Z_iinc1 (pc := 25) ok (by decide) dX12_read_25 rfl ?_
      refine Z_goto (pc := 28) (tgt := 12) ok dX12_read_28 rfl ?_
      rw [sz_sz, sz_eq]
      exact ih _ (upto_s (p := fun _ x => x = 0) hf rfl)
  have q0 := HC 0 (by omega) (by omega) (T 132) (fun j a b => by omega)
  rw [sz_self] at q0
  exact q0
end
