/-! Tape.item, Tape.scan, read -/
section
variable {l : Launch} {G : Gw} {I J : Mz}
theorem c_item (ht : tpOk I) (ha : 0 ≤ I 110 3 ∧ I 110 3 ≤ 100) (hg : gR (I 112 0) (I 113)) : K_X9_item l G [zr G 110] I J (fun v I' J' => ∃ r, v = some (zi r) ∧ (J' = J ∧ fr [110, 113] I I' ∧ I' 110 2 = I 110 2 ∧ I' 110 3 = itA (I 111) (I 110 2) (I 110 3) ∧ ((r = 0 ∧ itF (I 111) (I 110 2) (I 110 3) ∧ I' 113 = I 113 ∧ I' 110 1 = I 110 1) ∨ (r = 1 ∧ ¬ itF (I 111) (I 110 2) (I 110 3) ∧ ((¬ (nuV (I 111) (I 110 2) (I 110 3) < I 112 0 ∧ I 113 (nuV (I 111) (I 110 2) (I 110 3)) + itC (I 111) (I 110 2) (I 110 3) ≤ 9) ∧ I' 110 1 = 1 ∧ I' 113 = I 113) ∨ ((nuV (I 111) (I 110 2) (I 110 3) < I 112 0 ∧ I 113 (nuV (I 111) (I 110 2) (I 110 3)) + itC (I 111) (I 110 2) (I 110 3) ≤ 9) ∧ I' 110 1 = I 110 1 ∧ I' 113 = uz (I 113) (nuV (I 111) (I 110 2) (I 110 3)) (I 113 (nuV (I 111) (I 110 2) (I 110 3)) + itC (I 111) (I 110 2) (I 110 3)))))))) := by
  have h0 := ht.1
  have hn := hg.1
  have hv := nuV_b (I 111) (I 110 2) (I 110 3)
  have hA := nuA_b (I 111) (I 110 2) (I 110 3)
  have hf := fg_b (I 111) (I 110 2) (nuA (I 111) (I 110 2) (I 110 3) + 1)
  refine Cz.of rfl (Nat.le_of_ble_eq_true rfl) [some (zr G 110), none, none] rfl (fun E ok okr hE => ?_)
  have main : ∀ c : Int, ¬ itF (I 111) (I 110 2) (I 110 3) → c = itC (I 111) (I 110 2) (I 110 3) → (1 ≤ c ∧ c ≤ 9) → Xz E G (sz I 110 (uz (I 110) 3 (itA (I 111) (I 110 2) (I 110 3)))) J 44 [some (zr G 110), some (zi (nuV (I 111) (I 110 2) (I 110 3))), some (zi c)] [] := by
    intro c hF hc hc9
    have e112 : sz I 110 (uz (I 110) 3 (itA (I 111) (I 110 2) (I 110 3))) 112 = I 112 := sz_ne _ _ (by decide)
    have e113 : sz I 110 (uz (I 110) 3 (itA (I 111) (I 110 2) (I 110 3))) 113 = I 113 := sz_ne _ _ (by decide)
    have e110 : sz I 110 (uz (I 110) 3 (itA (I 111) (I 110 2) (I 110 3))) 110 = uz (I 110) 3 (itA (I 111) (I 110 2) (I 110 3)) := sz_eq _ _ _
    generalize hT : sz I 110 (uz (I 110) 3 (itA (I 111) (I 110 2) (I 110 3))) = T at *
    have fT : fr [110, 113] I T := by rw [← hT]; exact fr.rf.st rfl
    have a1 : T 110 1 = I 110 1 := by rw [e110, uz_ne _ _ (by decide)]
    have a2 : T 110 2 = I 110 2 := by rw [e110, uz_ne _ _ (by decide)]
    have a3 : T 110 3 = itA (I 111) (I 110 2) (I 110 3) := by rw [e110, uz_eq]
    have hv0 : 0 ≤ nuV (I 111) (I 110 2) (I 110 3) := by
      by_cases q : nuV (I 111) (I 110 2) (I 110 3) < 0
      · exact absurd (Or.inl q) hF
      · omega
    generalize nuV (I 111) (I 110 2) (I 110 3) = e at *
    have hge := hg.2.1 e
    have e112e := congrFun e112 0
    have e113e := congrFun e113 e
    have bad : ¬ (e < I 112 0 ∧ I 113 e + c ≤ 9) → Xz E G T J 71 [some (zr G 110), some (zi e), some (zi c)] [] := by
      intro hb
      refine Z_aload0 (pc := 71) ok dX9_item_71 ?_
      refine Z_iconst (pc := 72) ok dX9_item_72 ?_
      refine p_X9_tellsWrong (pc := 73) ok dX9_item_73 kw305 rfl (by first | exact Or.inl rfl | exact Or.inr rfl | exact zb_01 _ | assumption | omega) ?_
      refine Z_goto (pc := 76) (tgt := 92) ok dX9_item_76 rfl ?_
      refine Z_iconst (pc := 92) ok dX9_item_92 ?_
      refine Z_bret (pc := 93) ok okr dX9_item_93 (by first | exact Or.inl rfl | exact Or.inr rfl | exact zb_01 _ | assumption | omega) ?_
      refine ⟨_, rfl, rfl, fT.st rfl, by rw [sz_eq, uz_ne _ _ (by decide)]; exact a2, by rw [sz_eq, uz_ne _ _ (by decide)]; exact a3, Or.inr ⟨rfl, hF, Or.inl ⟨by rw [← hc]; exact hb, by rw [sz_eq, uz_eq], by rw [sz_ne _ _ (by decide)]; exact e113⟩⟩⟩
    refine Z_aload0 (pc := 44) ok dX9_item_44 ?_
    refine g_X9_told (pc := 45) (t := 112) ok dX9_item_45 kw310 rfl rfl ?_
    refine Z_iload1 (pc := 48) ok dX9_item_48 ?_
    refine Z_callVId (pc := 49) ok dX9_item_49 cw_X9_56 rfl rfl (by decide) (c_Row_has rfl (by omega) (by rw [e112]; omega)) rfl rfl (by decide) (Nat.le_of_ble_eq_true rfl) ?_
    refine Z_if_eqB (pc := 52) (tgt := 71) ok dX9_item_52 rfl (fun h => ?_) (fun h => ?_)
    · exact bad (fun q => h ⟨hv0, by rw [e112]; exact q.1⟩)
    · refine Z_aload0 (pc := 55) ok dX9_item_55 ?_
      refine g_X9_told (pc := 56) (t := 112) ok dX9_item_56 kw310 rfl rfl ?_
      refine g_X5_counts (pc := 59) (t := 113) ok dX9_item_59 kw102 rfl rfl ?_
      refine Z_iload1 (pc := 62) ok dX9_item_62 ?_
      refine Z_iald (pc := 63) (L := 30) ok dX9_item_63 rfl rfl (by first | omega | (simp [sz, uz] <;> omega)) ?_
      refine Z_iload2 (pc := 64) ok dX9_item_64 ?_
      refine Z_iadd (pc := 65) ok dX9_item_65 ?_
      refine Z_bipush (pc := 66) ok dX9_item_66 (by decide) ?_
      refine Z_icmp_le (pc := 68) (tgt := 79) ok dX9_item_68 rfl (by first | omega | (simp [sz, uz] <;> omega)) (by first | omega | (simp [sz, uz] <;> omega)) (fun h2 => ?_) (fun h2 => ?_)
      · refine Z_aload0 (pc := 79) ok dX9_item_79 ?_
        refine g_X9_told (pc := 80) (t := 112) ok dX9_item_80 kw310 rfl rfl ?_
        refine g_X5_counts (pc := 83) (t := 113) ok dX9_item_83 kw102 rfl rfl ?_
        refine Z_iload1 (pc := 86) ok dX9_item_86 ?_
        refine Z_dup2 (pc := 87) ok dX9_item_87 rfl rfl ?_
        refine Z_iald (pc := 88) (L := 30) ok dX9_item_88 rfl rfl (by first | omega | (simp [sz, uz] <;> omega)) ?_
        refine Z_iload2 (pc := 89) ok dX9_item_89 ?_
        refine Z_iadd (pc := 90) ok dX9_item_90 ?_
        refine Z_iast (pc := 91) (L := 30) ok dX9_item_91 rfl rfl (by first | omega | (simp [sz, uz] <;> omega)) ?_
        refine Z_iconst (pc := 92) ok dX9_item_92 ?_
        refine Z_bret (pc := 93) ok okr dX9_item_93 (by first | exact Or.inl rfl | exact Or.inr rfl | exact zb_01 _ | assumption | omega) ?_
        refine ⟨_, rfl, rfl, fT.st rfl, by rw [sz_ne _ _ (by decide)]; exact a2, by rw [sz_ne _ _ (by decide)]; exact a3, Or.inr ⟨rfl, hF, Or.inr ⟨⟨by omega, by rw [← hc]; omega⟩, by rw [sz_ne _ _ (by decide)]; exact a1, by rw [sz_eq, e113, hc]⟩⟩⟩
      · exact bad (fun q => by omega)
  refine Z_aload0 (pc := 0) ok dX9_item_0 ?_
  refine Z_callVId (pc := 1) ok dX9_item_1 cw_X9_33 rfl rfl (by decide) (c_number ht ha) rfl rfl (by decide) (Nat.le_of_ble_eq_true rfl) ?_
  refine Z_istore1 (pc := 4) ok (by decide) dX9_item_4 rfl ?_
  refine Z_iload1 (pc := 5) ok dX9_item_5 ?_
  refine Z_if_ge (pc := 6) (tgt := 11) ok dX9_item_6 rfl (by first | omega | (simp [sz, uz] <;> omega)) (fun h => ?_) (fun h => ?_)
  · generalize hT : sz I 110 (uz (I 110) 3 (nuA (I 111) (I 110 2) (I 110 3))) = T at *
    have t111 : T 111 = I 111 := by rw [← hT]; exact sz_ne _ _ (by decide)
    have t2 : T 110 2 = I 110 2 := by rw [← hT, sz_eq, uz_ne _ _ (by decide)]
    have t3 : T 110 3 = nuA (I 111) (I 110 2) (I 110 3) := by rw [← hT, sz_eq, uz_eq]
    have htT : tpOk T := by rw [← hT]; exact tp_at ht _
    have hA1 := hA.2.1 h
    have hv1 : ¬ nuV (I 111) (I 110 2) (I 110 3) < 0 := by omega
    refine Z_iconst (pc := 11) ok dX9_item_11 ?_
    refine Z_istore2 (pc := 12) ok (by decide) dX9_item_12 rfl ?_
    refine Z_aload0 (pc := 13) ok dX9_item_13 ?_
    refine Z_bipush (pc := 14) ok dX9_item_14 (by decide) ?_
    refine Z_callVI (pc := 16) ok dX9_item_16 cw_X9_37 rfl rfl (by decide) (c_passes htT (by omega) (by omega)) rfl rfl (by decide) (Nat.le_of_ble_eq_true rfl) (fun r I1 J1 q => ?_)
    obtain ⟨rfl, q⟩ := q
    rw [t3, t2, t111] at q
    rcases q with ⟨rfl, hx, rfl⟩ | ⟨rfl, hx, rfl⟩
    · have hX : itX (I 111) (I 110 2) (I 110 3) := hx
      have e1 : sz T 110 (uz (T 110) 3 (nuA (I 111) (I 110 2) (I 110 3) + 1)) = sz I 110 (uz (I 110) 3 (nuA (I 111) (I 110 2) (I 110 3) + 1)) := by rw [← hT, sz_sz, sz_eq, uz_uz]
      rw [e1]
      refine Z_if_eq (pc := 19) (tgt := 44) ok dX9_item_19 rfl (by first | omega | (simp [sz, uz] <;> omega)) (fun h => by exfalso; omega) (fun _ => ?_)
      refine Z_aload0 (pc := 22) ok dX9_item_22 ?_
      refine Z_callVId (pc := 23) ok dX9_item_23 cw_X9_53 rfl rfl (by decide) (c_figure (tp_at ht _) (by rw [sz_eq, uz_eq]; omega)) rfl rfl (by decide) (Nat.le_of_ble_eq_true rfl) ?_
      refine Z_istore2 (pc := 26) ok (by decide) dX9_item_26 rfl ?_
      have e : fg (sz I 110 (uz (I 110) 3 (nuA (I 111) (I 110 2) (I 110 3) + 1)) 111) (sz I 110 (uz (I 110) 3 (nuA (I 111) (I 110 2) (I 110 3) + 1)) 110 2) (sz I 110 (uz (I 110) 3 (nuA (I 111) (I 110 2) (I 110 3) + 1)) 110 3) = fg (I 111) (I 110 2) (nuA (I 111) (I 110 2) (I 110 3) + 1) := by
        simp only [sz_eq, sz_ne _ _ (show (111 : Nat) ≠ 110 by decide), uz_ne _ _ (show (2 : Int) ≠ 3 by decide), uz_eq]
      rw [e]
      refine Z_iload2 (pc := 27) ok dX9_item_27 ?_
      refine Z_iconst (pc := 28) ok dX9_item_28 ?_
      refine Z_icmp_ge (pc := 29) (tgt := 34) ok dX9_item_29 rfl (by first | omega | (simp [sz, uz] <;> omega)) (by first | omega | (simp [sz, uz] <;> omega)) (fun h2 => ?_) (fun h2 => ?_)
      · refine Z_aload0 (pc := 34) ok dX9_item_34 ?_
        refine Z_dup (pc := 35) ok dX9_item_35 rfl ?_
        refine g_X9_at (pc := 36) ok dX9_item_36 kw308 rfl ?_
        refine Z_iconst (pc := 39) ok dX9_item_39 ?_
        refine Z_iadd (pc := 40) ok dX9_item_40 ?_
        refine p_X9_at (pc := 41) ok dX9_item_41 kw308 rfl ?_
        rw [sz_sz, sz_eq, uz_uz, uz_eq, show nuA (I 111) (I 110 2) (I 110 3) + 1 + 1 = nuA (I 111) (I 110 2) (I 110 3) + 2 by omega]
        have eA : itA (I 111) (I 110 2) (I 110 3) = nuA (I 111) (I 110 2) (I 110 3) + 2 := by
          rw [itA, if_neg hv1, if_pos hX, if_neg (by omega)]
        rw [← eA]
        refine main _ ?_ ?_ (by omega)
        · rintro (q | q)
          · exact hv1 q
          · omega
        · rw [itC, if_pos hX]
      · refine Z_iconst (pc := 32) ok dX9_item_32 ?_
        refine Z_bret (pc := 33) ok okr dX9_item_33 (by first | exact Or.inl rfl | exact Or.inr rfl | exact zb_01 _ | assumption | omega) ?_
        have eA : itA (I 111) (I 110 2) (I 110 3) = nuA (I 111) (I 110 2) (I 110 3) + 1 := by
          rw [itA, if_neg hv1, if_pos hX, if_pos h2]
        refine ⟨_, rfl, rfl, fr.rf.st rfl, by rw [sz_eq, uz_ne _ _ (by decide)], by rw [sz_eq, uz_eq, eA], Or.inl ⟨rfl, Or.inr ⟨hX, h2⟩, by rw [sz_ne _ _ (by decide)], by rw [sz_eq, uz_ne _ _ (by decide)]⟩⟩
    · have hX : ¬ itX (I 111) (I 110 2) (I 110 3) := hx
      refine Z_if_eq (pc := 19) (tgt := 44) ok dX9_item_19 rfl (by first | omega | (simp [sz, uz] <;> omega)) (fun _ => ?_) (fun h => by exfalso; omega)
      have eA : itA (I 111) (I 110 2) (I 110 3) = nuA (I 111) (I 110 2) (I 110 3) := by
        rw [itA, if_neg hv1, if_neg hX]
      rw [← hT, ← eA]
      refine main 1 ?_ ?_ (by omega)
      · rintro (q | q)
        · exact hv1 q
        · exact hX q.1
      · rw [itC, if_neg hX]
  · refine Z_iconst (pc := 9) ok dX9_item_9 ?_
    refine Z_bret (pc := 10) ok okr dX9_item_10 (by first | exact Or.inl rfl | exact Or.inr rfl | exact zb_01 _ | assumption | omega) ?_
    have eA : itA (I 111) (I 110 2) (I 110 3) = nuA (I 111) (I 110 2) (I 110 3) := by
      rw [itA, if_pos h]
    refine ⟨_, rfl, rfl, fr.rf.st rfl, by rw [sz_eq, uz_ne _ _ (by decide)], by rw [sz_eq, uz_eq, eA], Or.inl ⟨rfl, Or.inl h, by rw [sz_ne _ _ (by decide)], by rw [sz_eq, uz_ne _ _ (by decide)]⟩⟩
end
/-- how what the class has told stands to what is read -/
def rdR (b f w : Int) (tc t : Int → Int) : Prop := (f = 0 ∨ f = 1) ∧ (w = 0 ∨ w = 1) ∧ ((2 ≤ b ∧ b ≤ 30) → f = w ∧ (f = 0 → tc = t)) ∧ (¬ (2 ≤ b ∧ b ≤ 30) → f = 1)
theorem rdW_01 (b e c w : Int) (t : Int → Int) : rdW b e c w t = 0 ∨ rdW b e c w t = 1 := by
  simp only [rdW]
  by_cases h : w = 1 ∨ b ≤ e ∨ (e < 30 ∧ 9 < t e + c)
  · rw [if_pos h]; exact Or.inr rfl
  · rw [if_neg h]; exact Or.inl rfl
theorem rdR_s {b f w e c n0 f' : Int} {tc t tc' : Int → Int} (h : rdR b f w tc t) (hn : (2 ≤ b ∧ b ≤ 30) → n0 = b) (hs : (¬ (e < n0 ∧ tc e + c ≤ 9) ∧ f' = 1 ∧ tc' = tc) ∨ ((e < n0 ∧ tc e + c ≤ 9) ∧ f' = f ∧ tc' = uz tc e (tc e + c))) : rdR b f' (rdW b e c w t) tc' (rdT e c t) := by
  obtain ⟨h1, h2, h3, h4⟩ := h
  refine ⟨?_, rdW_01 _ _ _ _ _, fun hb => ?_, fun hb => ?_⟩
  · rcases hs with ⟨_, q, _⟩ | ⟨_, q, _⟩
    · exact Or.inr q
    · rw [q]; exact h1
  · obtain ⟨a1, a2⟩ := h3 hb
    have hn := hn hb
    subst a1
    rcases h1 with hf | hf
    · have et := a2 hf
      subst et
      rcases hs with ⟨q1, q2, q3⟩ | ⟨q1, q2, q3⟩
      · rw [q2, rdW, if_pos (by omega)]
        exact ⟨rfl, fun q => by omega⟩
      · rw [q2, rdW, if_neg (by omega)]
        refine ⟨hf, fun _ => ?_⟩
        rw [q3, rdT, if_pos (by omega)]
    · rw [rdW, if_pos (Or.inl hf)]
      rcases hs with ⟨q1, q2, q3⟩ | ⟨q1, q2, q3⟩
      · exact ⟨q2, fun q => by omega⟩
      · exact ⟨by omega, fun q => by omega⟩
  · have := h4 hb
    rcases hs with ⟨_, q, _⟩ | ⟨_, q, _⟩
    · exact q
    · omega
section
variable {l : Launch} {G : Gw} {I J : Mz}
theorem c_scan (ht : tpOk I) : K_X9_scan l G [zr G 110] I J (fun v I' J' => ∃ r, v = some (zi r) ∧ (J' = J ∧ fr [110, 112, 113] I I' ∧ (0 ≤ I' 110 3 ∧ I' 110 3 ≤ 200) ∧ r = (rdA (I 111) (I 110 2)).1 ∧ I' 110 3 = (rdA (I 111) (I 110 2)).2.1 ∧ (r = 0 ∨ r = 1) ∧ (r = 1 → rdR (nuV (I 111) (I 110 2) 0) (I' 110 1) (rdA (I 111) (I 110 2)).2.2.1 (I' 113) (rdA (I 111) (I 110 2)).2.2.2 ∧ gR (I' 112 0) (I' 113) ∧ ((2 ≤ nuV (I 111) (I 110 2) 0 ∧ nuV (I 111) (I 110 2) 0 ≤ 30) → I' 112 0 = nuV (I 111) (I 110 2) 0)))) := by
  have h0 := ht.1
  have hv := nuV_b (I 111) (I 110 2) 0
  have hA := nuA_b (I 111) (I 110 2) 0
  refine Cz.of rfl (Nat.le_of_ble_eq_true rfl) [some (zr G 110), none, none] rfl (fun E ok okr hE => ?_)
  refine Z_aload0 (pc := 0) ok dX9_scan_0 ?_
  refine Z_iconst (pc := 1) ok dX9_scan_1 ?_
  refine p_X9_at (pc := 2) ok dX9_scan_2 kw308 rfl ?_
  generalize hT : sz I 110 (uz (I 110) 3 0) = T at *
  have t111 : T 111 = I 111 := by rw [← hT]; exact sz_ne _ _ (by decide)
  have t2 : T 110 2 = I 110 2 := by rw [← hT, sz_eq, uz_ne _ _ (by decide)]
  have t3 : T 110 3 = 0 := by rw [← hT, sz_eq, uz_eq]
  have htT : tpOk T := by rw [← hT]; exact tp_at ht _
  have fT : fr [110, 112, 113] I T := by rw [← hT]; exact fr.rf.st rfl
  clear hT
  have ev : nuV (T 111) (T 110 2) (T 110 3) = nuV (I 111) (I 110 2) 0 := by rw [t111, t2, t3]
  have eA : nuA (T 111) (T 110 2) (T 110 3) = nuA (I 111) (I 110 2) 0 := by rw [t111, t2, t3]
  refine Z_aload0 (pc := 5) ok dX9_scan_5 ?_
  refine Z_callVId (pc := 6) ok dX9_scan_6 cw_X9_33 rfl rfl (by decide) (c_number htT (by omega)) rfl rfl (by decide) (Nat.le_of_ble_eq_true rfl) ?_
  rw [ev, eA]
  generalize hU : sz T 110 (uz (T 110) 3 (nuA (I 111) (I 110 2) 0)) = U at *
  have u111 : U 111 = I 111 := by rw [← hU, sz_ne _ _ (by decide)]; exact t111
  have u2 : U 110 2 = I 110 2 := by rw [← hU, sz_eq, uz_ne _ _ (by decide)]; exact t2
  have u3 : U 110 3 = nuA (I 111) (I 110 2) 0 := by rw [← hU, sz_eq, uz_eq]
  have htU : tpOk U := by rw [← hU]; exact tp_at htT _
  have fU : fr [110, 112, 113] I U := by rw [← hU]; exact fT.st rfl
  clear hU
  have hA0 := hA.1
  have hAs : nuA (I 111) (I 110 2) 0 ≤ 100 := by
    by_cases q : nuV (I 111) (I 110 2) 0 < 0
    · rw [hA.2.2 q]; omega
    · have := (hA.2.1 (by omega)).2; omega
  refine Z_istore1 (pc := 9) ok (by decide) dX9_scan_9 rfl ?_
  refine Z_iload1 (pc := 10) ok dX9_scan_10 ?_
  refine Z_if_lt (pc := 11) (tgt := 23) ok dX9_scan_11 rfl (by first | omega | (simp [sz, uz] <;> omega)) (fun h => ?_) (fun h => ?_)
  · refine Z_iconst (pc := 23) ok dX9_scan_23 ?_
    refine Z_bret (pc := 24) ok okr dX9_scan_24 (by first | exact Or.inl rfl | exact Or.inr rfl | exact zb_01 _ | assumption | omega) ?_
    have er : rdA (I 111) (I 110 2) = (0, nuA (I 111) (I 110 2) 0, 0, fun _ => 0) := by rw [rdA, if_pos (Or.inl h)]
    rw [er]
    exact ⟨_, rfl, rfl, fU, by omega, rfl, u3, Or.inl rfl, fun q => by omega⟩
  · refine Z_aload0 (pc := 14) ok dX9_scan_14 ?_
    refine Z_bipush (pc := 15) ok dX9_scan_15 (by decide) ?_
    refine Z_callVI (pc := 17) ok dX9_scan_17 cw_X9_37 rfl rfl (by decide) (c_passes htU (by omega) (by omega)) rfl rfl (by decide) (Nat.le_of_ble_eq_true rfl) (fun r I1 J1 q => ?_)
    obtain ⟨rfl, q⟩ := q
    rw [u3, u2, u111] at q
    rcases q with ⟨rfl, hx, hI1⟩ | ⟨rfl, hx, rfl⟩
    · have a111 : I1 111 = I 111 := by rw [hI1, sz_ne _ _ (by decide)]; exact u111
      have a2 : I1 110 2 = I 110 2 := by rw [hI1, sz_eq, uz_ne _ _ (by decide)]; exact u2
      have a3 : I1 110 3 = nuA (I 111) (I 110 2) 0 + 1 := by rw [hI1, sz_eq, uz_eq]
      have ht1 : tpOk I1 := by rw [hI1, ← u3]; exact tp_at htU _
      have f1 : fr [110, 112, 113] I I1 := by rw [hI1]; exact fU.st rfl
      clear hI1
      have erA : rdA (I 111) (I 110 2) = @ite _ (nuA (I 111) (I 110 2) 0 + 1 = I 110 2) (Classical.propDecidable _) (1, I 110 2, 0, fun _ => 0) (rdI (I 111) (I 110 2) (nuV (I 111) (I 110 2) 0) 100 (nuA (I 111) (I 110 2) 0 + 1) 0 (fun _ => 0)) := by
        rw [rdA, if_neg]
        rintro (q | q)
        · omega
        · exact q hx
      have hA2 := hA.2.1 (by omega)
      generalize nuV (I 111) (I 110 2) 0 = b at *
      -- behind the renewal
      have mid : ∀ (I2 : Mz) (n0 : Int), fr [110, 112, 113] I1 I2 → I2 110 2 = I 110 2 → I2 110 3 = nuA (I 111) (I 110 2) 0 + 1 → I2 112 0 = n0 → I2 113 = (fun _ => 0) → (2 ≤ n0 ∧ n0 ≤ 30) → ((2 ≤ b ∧ b ≤ 30) → n0 = b ∧ I2 110 1 = 0) → (¬ (2 ≤ b ∧ b ≤ 30) → I2 110 1 = 1) → Xz E G I2 J1 61 [some (zr G 110), some (zi b), none] [] := by
        intro I2 n0 g1 g2 g3 g4 g5 g6 g7 g8
        have f2 := f1.tr g1
        have r0 : rdR b (I2 110 1) 0 (I2 113) (fun _ => 0) := by
          refine ⟨?_, Or.inl rfl, fun hb => ⟨(g7 hb).2, fun _ => g5⟩, g8⟩
          by_cases hb : 2 ≤ b ∧ b ≤ 30
          · exact Or.inl (g7 hb).2
          · exact Or.inr (g8 hb)
        have gz : gR (I2 112 0) (I2 113) := by
          rw [g4, g5]; exact ⟨g6, fun _ => ⟨Int.le_refl 0, show (0 : Int) ≤ 9 by decide⟩, fun _ _ => rfl⟩
        refine Z_aload0 (pc := 61) ok dX9_scan_61 ?_
        refine g_X9_at (pc := 62) ok dX9_scan_62 kw308 rfl ?_
        refine Z_aload0 (pc := 65) ok dX9_scan_65 ?_
        refine g_X9_size (pc := 66) ok dX9_scan_66 kw306 rfl ?_
        refine Z_icmp_ne (pc := 69) (tgt := 74) ok dX9_scan_69 rfl (by first | omega | (simp [sz, uz] <;> omega)) (by first | omega | (simp [sz, uz] <;> omega)) (fun h5 => ?_) (fun h5 => ?_)
        · rw [g3, g2] at h5
          rw [if_neg h5] at erA
          refine Z_iconst (pc := 74) ok dX9_scan_74 ?_
          refine Z_istore2 (pc := 75) ok (by decide) dX9_scan_75 rfl ?_
          have H : ∀ i : Int, 0 ≤ i → i ≤ 100 → ∀ (I3 : Mz) (a w : Int) (t : Int → Int), fr [110, 112, 113] I I3 → I3 110 2 = I 110 2 → I3 110 3 = a → (0 ≤ a ∧ a ≤ I 110 2) → I 110 2 - a < 100 - i → I3 112 0 = n0 → gR n0 (I3 113) → rdR b (I3 110 1) w (I3 113) t → rdI (I 111) (I 110 2) b (100 - i).toNat a w t = rdA (I 111) (I 110 2) → Xz E G I3 J1 76 [some (zr G 110), some (zi b), some (zi i)] [] := by
            refine zUp ?_ ?_
            · intro I3 a w t k1 k2 k3 k4 k5 k6 k7 k8 k9
              exfalso; omega
            · intro i i0 i1 ih I3 a w t k1 k2 k3 k4 k5 k6 k7 k8 k9
              have x111 : I3 111 = I 111 := k1.at 111 rfl
              have ht3 : tpOk I3 := by
                unfold tpOk; rw [x111, k2]; exact ht
              rw [show (100 - i).toNat = (100 - (i + 1)).toNat + 1 by omega, rdI] at k9
              refine Z_iload2 (pc := 76) ok dX9_scan_76 ?_
              refine Z_bipush (pc := 77) ok dX9_scan_77 (by decide) ?_
              refine Z_icmp_ge (pc := 79) (tgt := 121) ok dX9_scan_79 rfl (by first | omega | (simp [sz, uz] <;> omega)) (by first | omega | (simp [sz, uz] <;> omega)) (fun h => by exfalso; omega) (fun _ => ?_)
              refine Z_aload0 (pc := 82) ok dX9_scan_82 ?_
              refine Z_callVI (pc := 83) ok dX9_scan_83 cw_X9_49 rfl rfl (by decide) (c_item ht3 (by omega) (by rw [k6]; exact k7)) rfl rfl (by decide) (Nat.le_of_ble_eq_true rfl) (fun r I4 J4 q => ?_)
              obtain ⟨rfl, q1, q2, q3, q4⟩ := q
              rw [x111, k2, k3] at q3 q4
              rw [k2] at q2
              rw [k6] at q4
              have f4 : fr [110, 112, 113] I I4 := k1.tr (q1.sub rfl)
              have q112 : I4 112 = I3 112 := q1.at 112 rfl
              rcases q4 with ⟨rfl, y1, y2, y3⟩ | ⟨rfl, y1, y2⟩
              · refine Z_if_ne (pc := 86) (tgt := 91) ok dX9_scan_86 rfl (by first | omega | (simp [sz, uz] <;> omega)) (fun h => by exfalso; omega) (fun _ => ?_)
                refine Z_iconst (pc := 89) ok dX9_scan_89 ?_
                refine Z_bret (pc := 90) ok okr dX9_scan_90 (by first | exact Or.inl rfl | exact Or.inr rfl | exact zb_01 _ | assumption | omega) ?_
                rw [if_pos y1] at k9
                have hb : 0 ≤ I4 110 3 ∧ I4 110 3 ≤ 200 := by
                  rw [q3, itA]
                  have n1 := nuA_b (I 111) (I 110 2) a
                  have n2 := nuV_b (I 111) (I 110 2) a
                  by_cases z1 : nuV (I 111) (I 110 2) a < 0
                  · rw [if_pos z1]; have := n1.2.2 z1; omega
                  · have := n1.2.1 (by omega)
                    rw [if_neg z1]
                    by_cases z2 : itX (I 111) (I 110 2) a
                    · rw [if_pos z2]
                      by_cases z3 : fg (I 111) (I 110 2) (nuA (I 111) (I 110 2) a + 1) < 1
                      · rw [if_pos z3]; omega
                      · rw [if_neg z3]; omega
                    · rw [if_neg z2]; omega
                rw [← k9]
                exact ⟨_, rfl, rfl, f4, hb, rfl, q3, Or.inl rfl, fun q => by omega⟩
              · rw [if_neg y1] at k9
                have hia := itA_b y1
                have hR := rdR_s (c := itC (I 111) (I 110 2) a) k8 (n0 := n0) (e := nuV (I 111) (I 110 2) a) (f' := I4 110 1) (tc' := I4 113) (fun hb => (g7 hb).1) y2
                have hgn : gR n0 (I4 113) := by
                  have hv0 : 0 ≤ nuV (I 111) (I 110 2) a := by
                    by_cases z1 : nuV (I 111) (I 110 2) a < 0
                    · exact absurd (Or.inl z1) y1
                    · omega
                  have hc1 : 0 ≤ itC (I 111) (I 110 2) a := by
                    rw [itC]
                    by_cases z2 : itX (I 111) (I 110 2) a
                    · rw [if_pos z2]
                      by_cases z3 : fg (I 111) (I 110 2) (nuA (I 111) (I 110 2) a + 1) < 1
                      · exact absurd (Or.inr ⟨z2, z3⟩) y1
                      · omega
                    · rw [if_neg z2]; omega
                  rcases y2 with ⟨z1, z2, z3⟩ | ⟨z1, z2, z3⟩
                  · rw [z3]; exact k7
                  · rw [z3]
                    refine ⟨k7.1, fun e => ?_, fun e he => ?_⟩
                    · by_cases z4 : e = nuV (I 111) (I 110 2) a
                      · rw [z4, uz_eq]; have := k7.2.1 (nuV (I 111) (I 110 2) a); omega
                      · rw [uz_ne _ _ z4]; exact k7.2.1 e
                    · rw [uz_ne _ _ (by omega)]; exact k7.2.2 e he
                generalize rdW b (nuV (I 111) (I 110 2) a) (itC (I 111) (I 110 2) a) w t = w' at *
                generalize rdT (nuV (I 111) (I 110 2) a) (itC (I 111) (I 110 2) a) t = t' at *
                refine Z_if_ne (pc := 86) (tgt := 91) ok dX9_scan_86 rfl (by first | omega | (simp [sz, uz] <;> omega)) (fun _ => ?_) (fun h => by exfalso; omega)
                refine Z_aload0 (pc := 91) ok dX9_scan_91 ?_
                refine g_X9_at (pc := 92) ok dX9_scan_92 kw308 rfl ?_
                refine Z_aload0 (pc := 95) ok dX9_scan_95 ?_
                refine g_X9_size (pc := 96) ok dX9_scan_96 kw306 rfl ?_
                refine Z_icmp_ne (pc := 99) (tgt := 104) ok dX9_scan_99 rfl (by first | omega | (simp [sz, uz] <;> omega)) (by first | omega | (simp [sz, uz] <;> omega)) (fun h6 => ?_) (fun h6 => ?_)
                · rw [q3, q2] at h6
                  rw [if_neg h6] at k9
                  have ht4 : tpOk I4 := by unfold tpOk; rw [f4.at 111 rfl, q2]; exact ht
                  refine Z_aload0 (pc := 104) ok dX9_scan_104 ?_
                  refine Z_bipush (pc := 105) ok dX9_scan_105 (by decide) ?_
                  refine Z_callVI (pc := 107) ok dX9_scan_107 cw_X9_37 rfl rfl (by decide) (c_passes ht4 (by omega) (by omega)) rfl rfl (by decide) (Nat.le_of_ble_eq_true rfl) (fun r I5 J5 q => ?_)
                  obtain ⟨rfl, q⟩ := q
                  rw [q3, q2, f4.at 111 rfl] at q
                  rcases q with ⟨rfl, z1, z2⟩ | ⟨rfl, z1, rfl⟩
                  · rw [if_pos z1.2] at k9
                    refine Z_if_ne (pc := 110) (tgt := 115) ok dX9_scan_110 rfl (by first | omega | (simp [sz, uz] <;> omega)) (fun _ => ?_) (fun h => by exfalso; omega)
                    refine Z_iinc2 (pc := 115) ok (by decide) dX9_scan_115 rfl ?_
                    refine Z_goto (pc := 118) (tgt := 76) ok dX9_scan_118 rfl ?_
                    refine ih I5 (itA (I 111) (I 110 2) a + 1) w' t' (by rw [z2]; exact f4.st rfl) (by rw [z2, sz_eq, uz_ne _ _ (by decide)]; exact q2) (by rw [z2, sz_eq, uz_eq]) (by omega) (by omega) (by rw [z2, sz_ne _ _ (by decide), q112]; exact k6) (by rw [z2, sz_ne _ _ (by decide)]; exact hgn) (by rw [z2, sz_eq, uz_ne _ _ (by decide), sz_ne _ _ (by decide)]; exact hR) k9
                  · rw [if_neg (fun q => z1 ⟨by omega, q⟩)] at k9
                    refine Z_if_ne (pc := 110) (tgt := 115) ok dX9_scan_110 rfl (by first | omega | (simp [sz, uz] <;> omega)) (fun h => by exfalso; omega) (fun _ => ?_)
                    refine Z_iconst (pc := 113) ok dX9_scan_113 ?_
                    refine Z_bret (pc := 114) ok okr dX9_scan_114 (by first | exact Or.inl rfl | exact Or.inr rfl | exact zb_01 _ | assumption | omega) ?_
                    rw [← k9]
                    exact ⟨_, rfl, rfl, f4, by omega, rfl, q3, Or.inl rfl, fun q => by omega⟩
                · rw [q3, q2] at h6
                  rw [if_pos h6] at k9
                  refine Z_iconst (pc := 102) ok dX9_scan_102 ?_
                  refine Z_bret (pc := 103) ok okr dX9_scan_103 (by first | exact Or.inl rfl | exact Or.inr rfl | exact zb_01 _ | assumption | omega) ?_
                  rw [← k9]
                  exact ⟨_, rfl, rfl, f4, by omega, rfl, by rw [q3]; exact h6, Or.inr rfl, fun _ => ⟨hR, by rw [q112, k6]; exact hgn, fun hb => by rw [q112, k6]; exact (g7 hb).1⟩⟩
          exact H 0 (by omega) (by omega) I2 (nuA (I 111) (I 110 2) 0 + 1) 0 (fun _ => 0) f2 g2 g3 (by omega) (by omega) g4 (by rw [← g4]; exact gz) r0 erA.symm
        · rw [g3, g2] at h5
          rw [if_pos h5] at erA
          refine Z_iconst (pc := 72) ok dX9_scan_72 ?_
          refine Z_bret (pc := 73) ok okr dX9_scan_73 (by first | exact Or.inl rfl | exact Or.inr rfl | exact zb_01 _ | assumption | omega) ?_
          rw [erA]
          exact ⟨_, rfl, rfl, f2, by omega, rfl, by rw [g3]; exact h5, Or.inr rfl, fun _ => ⟨r0, gz, fun hb => by rw [g4]; exact (g7 hb).1⟩⟩
      refine Z_if_ne (pc := 20) (tgt := 25) ok dX9_scan_20 rfl (by first | omega | (simp [sz, uz] <;> omega)) (fun _ => ?_) (fun h => by exfalso; omega)
      refine Z_aload0 (pc := 25) ok dX9_scan_25 ?_
      refine Z_iload1 (pc := 26) ok dX9_scan_26 ?_
      refine Z_callNId (pc := 27) ok dX9_scan_27 cw_X9_41 (c_isBase (by omega)) rfl rfl (by decide) (Nat.le_of_ble_eq_true rfl) ?_
      refine Z_if_neB (pc := 30) (tgt := 37) ok dX9_scan_30 rfl (fun h5 => ?_) (fun h5 => ?_)
      · refine Z_iconst (pc := 37) ok dX9_scan_37 ?_
        refine p_X9_tellsWrong (pc := 38) ok dX9_scan_38 kw305 rfl (by first | exact Or.inl rfl | exact Or.inr rfl | exact zb_01 _ | assumption | omega) ?_
        refine Z_aload0 (pc := 41) ok dX9_scan_41 ?_
        refine g_X9_told (pc := 42) (t := 112) ok dX9_scan_42 kw310 rfl rfl ?_
        refine Z_aload0 (pc := 45) ok dX9_scan_45 ?_
        refine g_X9_tellsWrong (pc := 46) ok dX9_scan_46 kw305 rfl ?_
        refine Z_if_eq (pc := 49) (tgt := 57) ok dX9_scan_49 rfl (by first | omega | (simp [sz, uz] <;> omega)) (fun h => ?_) (fun h => absurd h ((fun q => q (by simp [sz, uz]))))
        refine Z_iload1 (pc := 57) ok dX9_scan_57 ?_
        refine Z_callVVd (pc := 58) ok dX9_scan_58 cw_X9_45 rfl rfl (by decide) (c_Row_renew rfl b) rfl rfl (by decide) (Nat.le_of_ble_eq_true rfl) ?_
        exact mid _ b (((fr.rf.st rfl).st rfl).st rfl) (by simp [sz, uz, a2]) (by simp [sz, uz, a3]) (by simp [sz, uz]) (by simp [sz]) h5 (fun _ => ⟨rfl, by simp [sz, uz]⟩) (fun q => absurd h5 q)
      · refine Z_iconst (pc := 33) ok dX9_scan_33 ?_
        refine Z_goto (pc := 34) (tgt := 38) ok dX9_scan_34 rfl ?_
        refine p_X9_tellsWrong (pc := 38) ok dX9_scan_38 kw305 rfl (by first | exact Or.inl rfl | exact Or.inr rfl | exact zb_01 _ | assumption | omega) ?_
        refine Z_aload0 (pc := 41) ok dX9_scan_41 ?_
        refine g_X9_told (pc := 42) (t := 112) ok dX9_scan_42 kw310 rfl rfl ?_
        refine Z_aload0 (pc := 45) ok dX9_scan_45 ?_
        refine g_X9_tellsWrong (pc := 46) ok dX9_scan_46 kw305 rfl ?_
        refine Z_if_eq (pc := 49) (tgt := 57) ok dX9_scan_49 rfl (by first | omega | (simp [sz, uz] <;> omega)) (fun h => absurd h ((by simp [sz, uz]))) (fun h => ?_)
        refine Z_bipush (pc := 52) ok dX9_scan_52 (by decide) ?_
        refine Z_goto (pc := 54) (tgt := 58) ok dX9_scan_54 rfl ?_
        refine Z_callVVd (pc := 58) ok dX9_scan_58 cw_X9_45 rfl rfl (by decide) (c_Row_renew rfl 30) rfl rfl (by decide) (Nat.le_of_ble_eq_true rfl) ?_
        exact mid _ 30 (((fr.rf.st rfl).st rfl).st rfl) (by simp [sz, uz, a2]) (by simp [sz, uz, a3]) (by simp [sz, uz]) (by simp [sz]) (by omega) (fun q => absurd q h5) (fun _ => by simp [sz, uz])
    · refine Z_if_ne (pc := 20) (tgt := 25) ok dX9_scan_20 rfl (by first | omega | (simp [sz, uz] <;> omega)) (fun h => by exfalso; omega) (fun _ => ?_)
      refine Z_iconst (pc := 23) ok dX9_scan_23 ?_
      refine Z_bret (pc := 24) ok okr dX9_scan_24 (by first | exact Or.inl rfl | exact Or.inr rfl | exact zb_01 _ | assumption | omega) ?_
      have er : rdA (I 111) (I 110 2) = (0, nuA (I 111) (I 110 2) 0, 0, fun _ => 0) := by rw [rdA, if_pos (Or.inr hx)]
      rw [er]
      exact ⟨_, rfl, rfl, fU, by omega, rfl, u3, Or.inl rfl, fun q => by omega⟩
theorem c_isWrong (h : I 110 1 = 0 ∨ I 110 1 = 1) : K_X9_isWrong l G [zr G 110] I J (pR (some (zi (I 110 1))) I J) := by
  refine Cz.of rfl (Nat.le_of_ble_eq_true rfl) [some (zr G 110)] rfl (fun E ok okr hE => ?_)
  refine Z_aload0 (pc := 0) ok dX9_isWrong_0 ?_
  refine g_X9_tellsWrong (pc := 1) ok dX9_isWrong_1 kw305 rfl ?_
  refine Z_bret (pc := 4) ok okr dX9_isWrong_4 (by first | exact Or.inl rfl | exact Or.inr rfl | exact zb_01 _ | assumption | omega) ?_
  exact ⟨rfl, rfl, rfl⟩
theorem c_read (ht : tpOk I) : K_X11_read l G [zr G 0] I J (fun v I' J' => ∃ r, v = some (zi r) ∧ (J' = J ∧ fr [2, 3, 110, 112, 113] I I' ∧ I' 110 2 = 0 ∧ (((rdA (I 111) (I 110 2)).1 ≠ 1 ∧ r = -100 - (rdA (I 111) (I 110 2)).2.1 ∧ I' 2 = I 2 ∧ I' 3 = I 3) ∨ ((rdA (I 111) (I 110 2)).1 = 1 ∧ ((rdA (I 111) (I 110 2)).2.2.1 = 1 ∨ ¬ (2 ≤ nuV (I 111) (I 110 2) 0 ∧ nuV (I 111) (I 110 2) 0 ≤ 30)) ∧ r = -9 ∧ I' 2 = I 2 ∧ I' 3 = I 3) ∨ ((rdA (I 111) (I 110 2)).1 = 1 ∧ (rdA (I 111) (I 110 2)).2.2.1 = 0 ∧ (2 ≤ nuV (I 111) (I 110 2) 0 ∧ nuV (I 111) (I 110 2) 0 ≤ 30) ∧ r = su (rdA (I 111) (I 110 2)).2.2.2 (nuV (I 111) (I 110 2) 0) ∧ I' 2 0 = nuV (I 111) (I 110 2) 0 ∧ I' 3 = (rdA (I 111) (I 110 2)).2.2.2 ∧ gR (nuV (I 111) (I 110 2) 0) (rdA (I 111) (I 110 2)).2.2.2)))) := by
  refine Cz.of rfl (Nat.le_of_ble_eq_true rfl) [some (zr G 0), none] rfl (fun E ok okr hE => ?_)
  refine Z_aload0 (pc := 0) ok dX11_read_0 ?_
  refine g_X11_tape (pc := 1) (t := 110) ok dX11_read_1 kw348 rfl rfl ?_
  refine Z_callVI (pc := 4) ok dX11_read_4 cw_X11_271 rfl rfl (by decide) (c_scan ht) rfl rfl (by decide) (Nat.le_of_ble_eq_true rfl) (fun r I1 J1 q => ?_)
  obtain ⟨q1, q2, q3, q4, q5, q6, q7⟩ := q
  have f1 : fr [2, 3, 110, 112, 113] I I1 := q2.sub rfl
  refine Z_istore1 (pc := 7) ok (by decide) dX11_read_7 rfl ?_
  refine Z_aload0 (pc := 8) ok dX11_read_8 ?_
  refine g_X11_tape (pc := 9) (t := 110) ok dX11_read_9 kw348 rfl rfl ?_
  refine Z_iconst (pc := 12) ok dX11_read_12 ?_
  refine p_X9_size (pc := 13) ok dX11_read_13 kw307 rfl ?_
  generalize hT : sz I1 110 (uz (I1 110) 2 0) = T at *
  have t1 : T 110 1 = I1 110 1 := by rw [← hT, sz_eq, uz_ne _ _ (by decide)]
  have t2 : T 110 2 = 0 := by rw [← hT, sz_eq, uz_eq]
  have t3 : T 110 3 = I1 110 3 := by rw [← hT, sz_eq, uz_ne _ _ (by decide)]
  have tn : ∀ a, a ≠ 110 → T a = I1 a := fun a ha => by rw [← hT]; exact sz_ne _ _ ha
  have fT : fr [2, 3, 110, 112, 113] I T := by rw [← hT]; exact f1.st rfl
  clear hT
  refine Z_iload1 (pc := 16) ok dX11_read_16 ?_
  refine Z_if_ne (pc := 17) (tgt := 31) ok dX11_read_17 rfl (by first | omega | (simp [sz, uz] <;> omega)) (fun h => ?_) (fun h => ?_)
  · have hr : r = 1 := by omega
    obtain ⟨⟨x1, x2, x3, x4⟩, y, z⟩ := q7 hr
    refine Z_aload0 (pc := 31) ok dX11_read_31 ?_
    refine g_X11_tape (pc := 32) (t := 110) ok dX11_read_32 kw348 rfl rfl ?_
    refine Z_callVId (pc := 35) ok dX11_read_35 cw_X11_277 rfl rfl (by decide) (c_isWrong (by rw [t1]; exact x1)) rfl rfl (by decide) (Nat.le_of_ble_eq_true rfl) ?_
    rw [t1]
    rcases x1 with hw | hw
    · rw [hw]
      have hb : 2 ≤ nuV (I 111) (I 110 2) 0 ∧ nuV (I 111) (I 110 2) 0 ≤ 30 := Classical.byContradiction fun q => by have := x4 q; omega
      obtain ⟨x5, x6⟩ := x3 hb
      have x6 := x6 hw
      have z := z hb
      have yn := y.1
      refine Z_if_eq (pc := 38) (tgt := 44) ok dX11_read_38 rfl (by omega) (fun _ => ?_) (fun h => by exfalso; omega)
      have fin :  Xz E G T J1 44 [some (zr G 0), some (zi r)] [] := by
        refine Z_aload0 (pc := 44) ok dX11_read_44 ?_
        refine g_X11_state (pc := 45) (t := 1) ok dX11_read_45 kw340 rfl rfl ?_
        refine g_X8_row (pc := 48) (t := 2) ok dX11_read_48 kw148 rfl rfl ?_
        refine Z_aload0 (pc := 51) ok dX11_read_51 ?_
        refine g_X11_tape (pc := 52) (t := 110) ok dX11_read_52 kw348 rfl rfl ?_
        refine g_X9_told (pc := 55) (t := 112) ok dX11_read_55 kw311 rfl rfl ?_
        refine Z_callVVd (pc := 58) ok dX11_read_58 cw_X11_161 rfl rfl (by decide) (c_Row_become rfl rfl) rfl rfl (by decide) (Nat.le_of_ble_eq_true rfl) ?_
        refine Z_aload0 (pc := 61) ok dX11_read_61 ?_
        refine g_X11_state (pc := 62) (t := 1) ok dX11_read_62 kw340 rfl rfl ?_
        refine g_X8_row (pc := 65) (t := 2) ok dX11_read_65 kw148 rfl rfl ?_
        refine Z_callVId (pc := 68) ok dX11_read_68 cw_X11_112 rfl rfl (by decide) (c_Row_total rfl (by rw [sz_ne _ _ (by decide), sz_eq, uz_eq, tn 112 (by decide)]; omega)) rfl rfl (by decide) (Nat.le_of_ble_eq_true rfl) ?_
        refine Z_iret (pc := 71) ok okr dX11_read_71 ?_
        have s2 : sz (sz T 2 (uz (T 2) 0 (T 112 0))) (2 + 1) (T (112 + 1)) 2 0 = nuV (I 111) (I 110 2) 0 := by rw [sz_ne _ _ (by decide), sz_eq, uz_eq, tn 112 (by decide)]; exact z
        have s3 : sz (sz T 2 (uz (T 2) 0 (T 112 0))) (2 + 1) (T (112 + 1)) 3 = (rdA (I 111) (I 110 2)).2.2.2 := by
          show sz (sz T 2 (uz (T 2) 0 (T 112 0))) 3 (T 113) 3 = _
          rw [sz_eq, tn 113 (by decide)]; exact x6
        refine ⟨_, rfl, q1, (fT.st rfl).st rfl, by rw [sz_ne _ _ (by decide), sz_ne _ _ (by decide)]; exact t2, Or.inr (Or.inr ⟨by omega, by omega, hb, ?_, s2, s3, by rw [← x6, ← z]; exact y⟩)⟩
        rw [← s2, ← s3]
      exact fin
    · rw [hw]
      refine Z_if_eq (pc := 38) (tgt := 44) ok dX11_read_38 rfl (by omega) (fun h => by exfalso; omega) (fun _ => ?_)
      have fin :  Xz E G T J1 41 [some (zr G 0), some (zi r)] [] := by
        refine Z_bipush (pc := 41) ok dX11_read_41 (by decide) ?_
        refine Z_iret (pc := 43) ok okr dX11_read_43 ?_
        refine ⟨_, rfl, q1, fT, t2, Or.inr (Or.inl ⟨by omega, ?_, rfl, ?_, ?_⟩)⟩
        · by_cases hb : 2 ≤ nuV (I 111) (I 110 2) 0 ∧ nuV (I 111) (I 110 2) 0 ≤ 30
          · exact Or.inl (by have := (x3 hb).1; omega)
          · exact Or.inr hb
        · rw [tn 2 (by decide)]; exact q2.at 2 rfl
        · rw [tn 3 (by decide)]; exact q2.at 3 rfl
      exact fin
  · refine Z_bipush (pc := 20) ok dX11_read_20 (by decide) ?_
    refine Z_aload0 (pc := 22) ok dX11_read_22 ?_
    refine g_X11_tape (pc := 23) (t := 110) ok dX11_read_23 kw348 rfl rfl ?_
    refine g_X9_at (pc := 26) ok dX11_read_26 kw309 rfl ?_
    refine Z_isub (pc := 29) ok dX11_read_29 ?_
    refine Z_iret (pc := 30) ok okr dX11_read_30 ?_
    exact ⟨_, rfl, q1, fT, t2, Or.inl ⟨by omega, by rw [t3, q5], by rw [tn 2 (by decide)]; exact q2.at 2 rfl, by rw [tn 3 (by decide)]; exact q2.at 3 rfl⟩⟩
end
