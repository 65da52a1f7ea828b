/-! the reference: listed, filled -/
theorem lsd_0 {n w : Int} (hw : 1 ≤ w) : ¬ lsd n w 0 := fun q => by
  have h1 := q.1
  have : bc 0 = 0 := rfl
  omega
section
variable {l : Launch} {G : Gw} {I J : Mz}
theorem m_listed {w k : Int} (hw : -2147483648 ≤ w ∧ w ≤ 2147483647) (hk : -2147483648 ≤ k ∧ k ≤ 2147483647) (hn : 2 ≤ I 121 0 ∧ I 121 0 ≤ 30) (hT : mT I) : K_X12_listed l G [zr G 121, zi w, zi k] I J (fun v I' J' => ∃ r, v = some (zi r) ∧ (J' = J ∧ fr [128, 131, 140] I I' ∧ ((¬ (1 ≤ w ∧ w ≤ 12) ∧ r = -2) ∨ ((1 ≤ w ∧ w ≤ 12) ∧ 12 < I 121 0 ∧ r = -3) ∨ ((1 ≤ w ∧ w ≤ 12) ∧ I 121 0 ≤ 12 ∧ r = fz (fun b => (NB (I 121 0) b ∧ lsd (I 121 0) w b) ∧ su (fun q => zb (NB (I 121 0) q ∧ lsd (I 121 0) w q)) b = k) (if k = -1 then su (fun q => zb (NB (I 121 0) q ∧ lsd (I 121 0) w q)) (2 ^ (I 121 0).toNat) else -1) 0 (2 ^ (I 121 0).toNat))))) := by
  refine Cz.of rfl (Nat.le_of_ble_eq_true rfl) [some (zr G 121), some (zi w), some (zi k), none, none] rfl (fun E ok okr hE => ?_)
  refine Z_iload1 (pc := 0) ok dX12_listed_0 ?_
  refine Z_i2l (pc := 1) ok dX12_listed_1 (by first | omega | (simp [sz, uz] <;> omega)) ?_
  refine Z_lconst (pc := 2) (z := 1) ok dX12_listed_2 (by decide) ?_
  refine Z_ldc2 (pc := 3) (z := 12) ok dX12_listed_3 kw1234 (by decide) ?_
  refine Z_callSId (pc := 6) ok dX12_listed_6 cw_X12_97 (m_in (by omega) (by omega) (by omega)) rfl rfl (by first | decide | omega) (Nat.le_of_ble_eq_true rfl) ?_
  refine Z_if_neB (pc := 9) (tgt := 15) ok dX12_listed_9 rfl (fun h => ?_) (fun h => ?_)
  · refine Z_aload0 (pc := 15) ok dX12_listed_15 ?_
    refine g_X12_n (pc := 16) ok dX12_listed_16 kw905 rfl ?_
    refine Z_bipush (pc := 19) ok dX12_listed_19 (by decide) ?_
    refine Z_icmp_le (pc := 21) (tgt := 27) ok dX12_listed_21 rfl (by first | omega | (simp [sz, uz] <;> omega)) (by first | omega | (simp [sz, uz] <;> omega)) (fun h2 => ?_) (fun h2 => ?_)
    · have hn2 : 2 ≤ I 121 0 ∧ I 121 0 ≤ 12 := ⟨hn.1, h2⟩
      have hp2 := p2_b hn2
      refine Z_aload0 (pc := 27) ok dX12_listed_27 ?_
      refine Z_callVV (pc := 28) ok dX12_listed_28 cw_X12_211 rfl rfl (by decide) (m_tellsSets hn2 hT) rfl rfl (by first | decide | omega) (Nat.le_of_ble_eq_true rfl) (fun I1 J1 q => ?_)
      obtain ⟨rfl, q1, q2⟩ := q
      have e0 : I1 121 0 = I 121 0 := by rw [q1.at 121 rfl]
      generalize hP : (fun b => (NB (I 121 0) b ∧ lsd (I 121 0) w b) ∧ su (fun q => zb (NB (I 121 0) q ∧ lsd (I 121 0) w q)) b = k) = P at *
      have hPi : ∀ b, P b ↔ ((NB (I 121 0) b ∧ lsd (I 121 0) w b) ∧ su (fun q => zb (NB (I 121 0) q ∧ lsd (I 121 0) w q)) b = k) := fun b => by rw [← hP]
      refine Z_iconst (pc := 31) ok dX12_listed_31 ?_
      refine Z_istore3 (pc := 32) ok (by decide) dX12_listed_32 rfl ?_
      refine Z_iconst (pc := 33) ok dX12_listed_33 ?_
      refine Z_istore4 (pc := 34) ok (by decide) dX12_listed_34 rfl ?_
      have H : ∀ x : Int, 1 ≤ x → x ≤ 2 ^ (I 121 0).toNat → fz P (if k = -1 then su (fun q => zb (NB (I 121 0) q ∧ lsd (I 121 0) w q)) (2 ^ (I 121 0).toNat) else -1) x (2 ^ (I 121 0).toNat) = fz P (if k = -1 then su (fun q => zb (NB (I 121 0) q ∧ lsd (I 121 0) w q)) (2 ^ (I 121 0).toNat) else -1) 0 (2 ^ (I 121 0).toNat) → Xz E G I1 J1 36 [some (zr G 121), some (zi w), some (zi k), some (zi (su (fun q => zb (NB (I 121 0) q ∧ lsd (I 121 0) w q)) x)), some (zi x)] [] := by
        refine zUp ?_ ?_
        · intro hf
          rw [fz_end _ _ (Int.le_refl _)] at hf
          have hz := su_zb (fun q => NB (I 121 0) q ∧ lsd (I 121 0) w q) (e := 2 ^ (I 121 0).toNat) (by omega)
          refine Z_iload4 (pc := 36) ok dX12_listed_36 ?_
          refine Z_iconst (pc := 38) ok dX12_listed_38 ?_
          refine Z_aload0 (pc := 39) ok dX12_listed_39 ?_
          refine g_X12_n (pc := 40) ok dX12_listed_40 kw905 rfl ?_
          refine Z_ishl (pc := 43) ok dX12_listed_43 (by omega) ?_
          rw [e0, Int.one_mul]
          refine Z_icmp_ge (pc := 44) (tgt := 91) ok dX12_listed_44 rfl (by first | omega | (simp [sz, uz] <;> omega)) (by first | omega | (simp [sz, uz] <;> omega)) (fun _ => ?_) (fun h => by exfalso; omega)
          refine Z_iload2 (pc := 91) ok dX12_listed_91 ?_
          refine Z_iconst (pc := 92) ok dX12_listed_92 ?_
          refine Z_icmp_ne (pc := 93) (tgt := 100) ok dX12_listed_93 rfl (by first | omega | (simp [sz, uz] <;> omega)) (by first | omega | (simp [sz, uz] <;> omega)) (fun h3 => ?_) (fun h3 => ?_)
          · refine Z_iconst (pc := 100) ok dX12_listed_100 ?_
            refine Z_iret (pc := 101) ok okr dX12_listed_101 ?_
            rw [if_neg h3] at hf
            rw [if_neg h3]
            exact ⟨_, rfl, rfl, q1, Or.inr (Or.inr ⟨h, h2, hf⟩)⟩
          · refine Z_iload3 (pc := 96) ok dX12_listed_96 ?_
            refine Z_goto (pc := 97) (tgt := 101) ok dX12_listed_97 rfl ?_
            refine Z_iret (pc := 101) ok okr dX12_listed_101 ?_
            rw [if_pos h3] at hf
            rw [if_pos h3]
            exact ⟨_, rfl, rfl, q1, Or.inr (Or.inr ⟨h, h2, hf⟩)⟩
        · intro x x0 x1 ih hf
          have hz := su_zb (fun q => NB (I 121 0) q ∧ lsd (I 121 0) w q) (e := x) (by omega)
          have hbc := bc_b x
          rw [su_s _ (show 0 ≤ x by omega)] at ih
          have hx2 : 0 ≤ x ∧ x < 2 ^ (I 121 0).toNat := by omega
          have miss : ¬ (NB (I 121 0) x ∧ lsd (I 121 0) w x) → Xz E G I1 J1 36 [some (zr G 121), some (zi w), some (zi k), some (zi (su (fun q => zb (NB (I 121 0) q ∧ lsd (I 121 0) w q)) x)), some (zi (x + 1))] [] := fun q => by
            rw [zb_f q, Int.add_zero] at ih
            rw [fz_miss x1 (fun q2 => q ((hPi x).mp q2).1)] at hf
            exact ih hf
          refine Z_iload4 (pc := 36) ok dX12_listed_36 ?_
          refine Z_iconst (pc := 38) ok dX12_listed_38 ?_
          refine Z_aload0 (pc := 39) ok dX12_listed_39 ?_
          refine g_X12_n (pc := 40) ok dX12_listed_40 kw905 rfl ?_
          refine Z_ishl (pc := 43) ok dX12_listed_43 (by omega) ?_
          rw [e0, Int.one_mul]
          refine Z_icmp_ge (pc := 44) (tgt := 91) ok dX12_listed_44 rfl (by first | omega | (simp [sz, uz] <;> omega)) (by first | omega | (simp [sz, uz] <;> omega)) (fun h => by exfalso; omega) (fun _ => ?_)
          refine Z_iload4 (pc := 47) ok dX12_listed_47 ?_
          refine Z_callSId (pc := 49) ok dX12_listed_49 cw_X12_214 (c_bitCount (by omega)) rfl rfl (by first | decide | omega) (Nat.le_of_ble_eq_true rfl) ?_
          refine Z_iload1 (pc := 52) ok dX12_listed_52 ?_
          refine Z_icmp_ne (pc := 53) (tgt := 85) ok dX12_listed_53 rfl (by first | omega | (simp [sz, uz] <;> omega)) (by first | omega | (simp [sz, uz] <;> omega)) (fun h3 => ?_) (fun h3 => ?_)
          · refine Z_iinc4 (pc := 85) ok (by decide) dX12_listed_85 rfl ?_
            refine Z_goto (pc := 88) (tgt := 36) ok dX12_listed_88 rfl ?_
            exact miss (fun q => h3 q.2.1)
          · refine Z_aload0 (pc := 56) ok dX12_listed_56 ?_
            refine Z_iload4 (pc := 57) ok dX12_listed_57 ?_
            refine Z_callVId (pc := 59) ok dX12_listed_59 cw_X12_219 rfl rfl (by decide) (m_isLeast hn2 e0 hx2) rfl rfl (by first | decide | omega) (Nat.le_of_ble_eq_true rfl) ?_
            refine Z_if_eqB (pc := 62) (tgt := 85) ok dX12_listed_62 rfl (fun h4 => ?_) (fun h4 => ?_)
            · refine Z_iinc4 (pc := 85) ok (by decide) dX12_listed_85 rfl ?_
              refine Z_goto (pc := 88) (tgt := 36) ok dX12_listed_88 rfl ?_
              exact miss (fun q => h4 q.2.2.2)
            · refine Z_aload0 (pc := 65) ok dX12_listed_65 ?_
              refine Z_iload4 (pc := 66) ok dX12_listed_66 ?_
              refine Z_callVId (pc := 68) ok dX12_listed_68 cw_X12_222 rfl rfl (by decide) (m_isPrimitive hn2 hx2 q2) rfl rfl (by first | decide | omega) (Nat.le_of_ble_eq_true rfl) ?_
              refine Z_if_eqB (pc := 71) (tgt := 85) ok dX12_listed_71 rfl (fun h5 => ?_) (fun h5 => ?_)
              · refine Z_iinc4 (pc := 85) ok (by decide) dX12_listed_85 rfl ?_
                refine Z_goto (pc := 88) (tgt := 36) ok dX12_listed_88 rfl ?_
                exact miss (fun q => h5 ⟨by omega, q.1, q.2.2.1⟩)
              · have hit : NB (I 121 0) x ∧ lsd (I 121 0) w x := ⟨h5.2.1, h3, h5.2.2, h4⟩
                rw [zb_t hit] at ih
                refine Z_iload3 (pc := 74) ok dX12_listed_74 ?_
                refine Z_iload2 (pc := 75) ok dX12_listed_75 ?_
                refine Z_icmp_ne (pc := 76) (tgt := 82) ok dX12_listed_76 rfl (by first | omega | (simp [sz, uz] <;> omega)) (by first | omega | (simp [sz, uz] <;> omega)) (fun h6 => ?_) (fun h6 => ?_)
                · refine Z_iinc3 (pc := 82) ok (by decide) dX12_listed_82 rfl ?_
                  refine Z_iinc4 (pc := 85) ok (by decide) dX12_listed_85 rfl ?_
                  refine Z_goto (pc := 88) (tgt := 36) ok dX12_listed_88 rfl ?_
                  rw [fz_miss x1 (fun q2 => h6 ((hPi x).mp q2).2)] at hf
                  exact ih hf
                · refine Z_iload4 (pc := 79) ok dX12_listed_79 ?_
                  refine Z_iret (pc := 81) ok okr dX12_listed_81 ?_
                  rw [fz_hit x1 ((hPi x).mpr ⟨hit, h6⟩)] at hf
                  exact ⟨_, rfl, rfl, q1, Or.inr (Or.inr ⟨h, h2, hf⟩)⟩
      have h0 := H 1 (by omega) (by omega) (by rw [fz_miss (i := 0) (by omega) (fun q => lsd_0 h.1 ((hPi 0).mp q).1.2)]; rfl)
      have e1 : su (fun q => zb (NB (I 121 0) q ∧ lsd (I 121 0) w q)) 1 = 0 := by
        rw [show (1 : Int) = 0 + 1 from rfl, su_s _ (by omega), su_0, zb_f (fun q => lsd_0 h.1 q.2)]; rfl
      rw [e1] at h0
      exact h0
    · refine Z_bipush (pc := 24) ok dX12_listed_24 (by decide) ?_
      refine Z_iret (pc := 26) ok okr dX12_listed_26 ?_
      exact ⟨_, rfl, rfl, fr.rf, Or.inr (Or.inl ⟨h, by omega, rfl⟩)⟩
  · refine Z_bipush (pc := 12) ok dX12_listed_12 (by decide) ?_
    refine Z_iret (pc := 14) ok okr dX12_listed_14 ?_
    exact ⟨_, rfl, rfl, fr.rf, Or.inl ⟨h, rfl⟩⟩
theorem m_filled {s w : Int} (hs : -2147483648 ≤ s ∧ s ≤ 2147483647) (hw : -2147483648 ≤ w ∧ w ≤ 2147483647) (hn : 2 ≤ I 121 0 ∧ I 121 0 ≤ 30) (hT : mT I) : K_X12_filled l G [zr G 121, zi s, zi w] I J (fun v I' J' => ∃ r, v = some (zi r) ∧ (J' = J ∧ fr [128, 131, 140] I I' ∧ ((12 < I 121 0 ∧ r = -3) ∨ (I 121 0 ≤ 12 ∧ ¬ (0 ≤ s ∧ s < 2 ^ (I 121 0).toNat) ∧ r = -2) ∨ (I 121 0 ≤ 12 ∧ (0 ≤ s ∧ s < 2 ^ (I 121 0).toNat) ∧ (w ≠ 0 ∧ w ≠ 1) ∧ r = -1) ∨ (I 121 0 ≤ 12 ∧ (0 ≤ s ∧ s < 2 ^ (I 121 0).toNat) ∧ ∃ x, LW (I 121 0) s x ∧ ((w = 0 ∧ r = bc x) ∨ (w = 1 ∧ r = x)))))) := by
  refine Cz.of rfl (Nat.le_of_ble_eq_true rfl) [some (zr G 121), some (zi s), some (zi w), none, none, none] rfl (fun E ok okr hE => ?_)
  refine Z_aload0 (pc := 0) ok dX12_filled_0 ?_
  refine g_X12_n (pc := 1) ok dX12_filled_1 kw905 rfl ?_
  refine Z_bipush (pc := 4) ok dX12_filled_4 (by decide) ?_
  refine Z_icmp_le (pc := 6) (tgt := 12) ok dX12_filled_6 rfl (by first | omega | (simp [sz, uz] <;> omega)) (by first | omega | (simp [sz, uz] <;> omega)) (fun h => ?_) (fun h => ?_)
  · have hn2 : 2 ≤ I 121 0 ∧ I 121 0 ≤ 12 := ⟨hn.1, h⟩
    have hp2 := p2_b hn2
    refine Z_iload1 (pc := 12) ok dX12_filled_12 ?_
    refine Z_i2l (pc := 13) ok dX12_filled_13 (by first | omega | (simp [sz, uz] <;> omega)) ?_
    refine Z_lconst (pc := 14) (z := 0) ok dX12_filled_14 (by decide) ?_
    refine Z_iconst (pc := 15) ok dX12_filled_15 ?_
    refine Z_aload0 (pc := 16) ok dX12_filled_16 ?_
    refine g_X12_n (pc := 17) ok dX12_filled_17 kw905 rfl ?_
    refine Z_ishl (pc := 20) ok dX12_filled_20 (by omega) ?_
    rw [Int.one_mul]
    refine Z_iconst (pc := 21) ok dX12_filled_21 ?_
    refine Z_isub (pc := 22) ok dX12_filled_22 ?_
    refine Z_i2l (pc := 23) ok dX12_filled_23 (by first | omega | (simp [sz, uz] <;> omega)) ?_
    refine Z_callSId (pc := 24) ok dX12_filled_24 cw_X12_97 (m_in (by omega) (by omega) (by omega)) rfl rfl (by first | decide | omega) (Nat.le_of_ble_eq_true rfl) ?_
    refine Z_if_neB (pc := 27) (tgt := 33) ok dX12_filled_27 rfl (fun h2 => ?_) (fun h2 => ?_)
    · refine Z_iload2 (pc := 33) ok dX12_filled_33 ?_
      refine Z_i2l (pc := 34) ok dX12_filled_34 (by first | omega | (simp [sz, uz] <;> omega)) ?_
      refine Z_lconst (pc := 35) (z := 0) ok dX12_filled_35 (by decide) ?_
      refine Z_lconst (pc := 36) (z := 1) ok dX12_filled_36 (by decide) ?_
      refine Z_callSId (pc := 37) ok dX12_filled_37 cw_X12_97 (m_in (by omega) (by omega) (by omega)) rfl rfl (by first | decide | omega) (Nat.le_of_ble_eq_true rfl) ?_
      refine Z_if_neB (pc := 40) (tgt := 45) ok dX12_filled_40 rfl (fun h3 => ?_) (fun h3 => ?_)
      · refine Z_aload0 (pc := 45) ok dX12_filled_45 ?_
        refine Z_callVV (pc := 46) ok dX12_filled_46 cw_X12_211 rfl rfl (by decide) (m_tellsSets hn2 hT) rfl rfl (by first | decide | omega) (Nat.le_of_ble_eq_true rfl) (fun I1 J1 q => ?_)
        obtain ⟨rfl, q1, q2⟩ := q
        have e0 : I1 121 0 = I 121 0 := by rw [q1.at 121 rfl]
        refine Z_iconst (pc := 49) ok dX12_filled_49 ?_
        refine Z_aload0 (pc := 50) ok dX12_filled_50 ?_
        refine g_X12_n (pc := 51) ok dX12_filled_51 kw905 rfl ?_
        rw [e0]
        refine Z_ishl (pc := 54) ok dX12_filled_54 (by omega) ?_
        rw [Int.one_mul]
        refine Z_iconst (pc := 55) ok dX12_filled_55 ?_
        refine Z_isub (pc := 56) ok dX12_filled_56 ?_
        refine Z_istore3 (pc := 57) ok (by decide) dX12_filled_57 rfl ?_
        refine Z_iload3 (pc := 58) ok dX12_filled_58 ?_
        refine Z_istore4 (pc := 59) ok (by decide) dX12_filled_59 rfl ?_
        have H : ∀ x : Int, -1 ≤ x → x ≤ 2 ^ (I 121 0).toNat - 1 → ∀ m : Int, (0 ≤ m ∧ m < 2 ^ (I 121 0).toNat) → (m = 2 ^ (I 121 0).toNat - 1 ∨ cand (I 121 0) s m) → (∀ b, cand (I 121 0) s b → x < b → bc m < bc b ∨ (bc m = bc b ∧ m ≤ b)) → ∀ w5, Xz E G I1 J1 61 [some (zr G 121), some (zi s), some (zi w), some (zi m), some (zi x), w5] [] := by
          refine zDown ?_ ?_
          · intro _ m m0 m1 m2 w5
            have hL : LW (I 121 0) s m := ⟨m1, fun b hb => m2 b hb (by have := hb.1.1; omega)⟩
            refine Z_iload4 (pc := 61) ok dX12_filled_61 ?_
            refine Z_if_lt (pc := 63) (tgt := 121) ok dX12_filled_63 rfl (by first | omega | (simp [sz, uz] <;> omega)) (fun _ => ?_) (fun h => by exfalso; omega)
            refine Z_iload2 (pc := 121) ok dX12_filled_121 ?_
            refine Z_if_ne (pc := 122) (tgt := 132) ok dX12_filled_122 rfl (by first | omega | (simp [sz, uz] <;> omega)) (fun h4 => ?_) (fun h4 => ?_)
            · refine Z_iload3 (pc := 132) ok dX12_filled_132 ?_
              refine Z_iret (pc := 133) ok okr dX12_filled_133 ?_
              exact ⟨_, rfl, rfl, q1, Or.inr (Or.inr (Or.inr ⟨h, by omega, m, hL, Or.inr ⟨by omega, rfl⟩⟩))⟩
            · refine Z_iload3 (pc := 125) ok dX12_filled_125 ?_
              refine Z_callSId (pc := 126) ok dX12_filled_126 cw_X12_214 (c_bitCount (by omega)) rfl rfl (by first | decide | omega) (Nat.le_of_ble_eq_true rfl) ?_
              refine Z_goto (pc := 129) (tgt := 133) ok dX12_filled_129 rfl ?_
              refine Z_iret (pc := 133) ok okr dX12_filled_133 ?_
              exact ⟨_, rfl, rfl, q1, Or.inr (Or.inr (Or.inr ⟨h, by omega, m, hL, Or.inl ⟨h4, rfl⟩⟩))⟩
          · intro x x0 ih x1 m m0 m1 m2 w5
            have ih := ih (by omega)
            have hx2 : 0 ≤ x ∧ x < 2 ^ (I 121 0).toNat := by omega
            have hNx := q2 x hx2.1 hx2.2
            have hzx := zb_01 (NB (I 121 0) x)
            have hb1 := bc_b x
            have hb2 := bc_b m
            have hza := zand_l (a := x) (b := s) hx2.1
            have keep : (cand (I 121 0) s x → bc m < bc x) → ∀ b, cand (I 121 0) s b → x - 1 < b → bc m < bc b ∨ (bc m = bc b ∧ m ≤ b) := fun q b hb hlt => by
              by_cases e : b = x
              · rw [e] at hb ⊢; exact Or.inl (q hb)
              · exact m2 b hb (by omega)
            refine Z_iload4 (pc := 61) ok dX12_filled_61 ?_
            refine Z_if_lt (pc := 63) (tgt := 121) ok dX12_filled_63 rfl (by first | omega | (simp [sz, uz] <;> omega)) (fun h => by exfalso; omega) (fun _ => ?_)
            refine Z_iload4 (pc := 66) ok dX12_filled_66 ?_
            refine Z_iload1 (pc := 68) ok dX12_filled_68 ?_
            refine Z_iandN (pc := 69) ok dX12_filled_69 hx2.1 h2.1 ?_
            refine Z_iload1 (pc := 70) ok dX12_filled_70 ?_
            refine Z_icmp_ne (pc := 71) (tgt := 88) ok dX12_filled_71 rfl (by first | omega | (simp [sz, uz] <;> omega)) (by first | omega | (simp [sz, uz] <;> omega)) (fun h4 => ?_) (fun h4 => ?_)
            · refine Z_iconst (pc := 88) ok dX12_filled_88 ?_
              refine Z_istore5 (pc := 89) ok (by decide) dX12_filled_89 rfl ?_
              refine Z_iload5 (pc := 91) ok dX12_filled_91 ?_
              refine Z_if_eq (pc := 93) (tgt := 113) ok dX12_filled_93 rfl (by first | omega | (simp [sz, uz] <;> omega)) (fun _ => ?_) (fun h => by exfalso; omega)
              refine Z_iload3 (pc := 113) ok dX12_filled_113 ?_
              refine Z_istore3 (pc := 114) ok (by decide) dX12_filled_114 rfl ?_
              refine Z_iinc4 (pc := 115) ok (by decide) dX12_filled_115 rfl ?_
              refine Z_goto (pc := 118) (tgt := 61) ok dX12_filled_118 rfl ?_
              exact ih m m0 m1 (keep (fun q => absurd q.2.2 h4)) _
            · refine Z_aload0 (pc := 74) ok dX12_filled_74 ?_
              refine g_X12_isNought (pc := 75) (t := 140) ok dX12_filled_75 kw928 rfl rfl ?_
              refine Z_iload4 (pc := 78) ok dX12_filled_78 ?_
              refine Z_zald (pc := 80) (L := 4096) ok dX12_filled_80 rfl rfl (by first | omega | (simp [sz, uz] <;> omega)) ?_
              refine Z_if_eq (pc := 81) (tgt := 88) ok dX12_filled_81 rfl (by first | omega | (simp [sz, uz] <;> omega)) (fun h5 => ?_) (fun h5 => ?_)
              · have h5 := nb0 hNx h5
                refine Z_iconst (pc := 88) ok dX12_filled_88 ?_
                refine Z_istore5 (pc := 89) ok (by decide) dX12_filled_89 rfl ?_
                refine Z_iload5 (pc := 91) ok dX12_filled_91 ?_
                refine Z_if_eq (pc := 93) (tgt := 113) ok dX12_filled_93 rfl (by first | omega | (simp [sz, uz] <;> omega)) (fun _ => ?_) (fun h => by exfalso; omega)
                refine Z_iload3 (pc := 113) ok dX12_filled_113 ?_
                refine Z_istore3 (pc := 114) ok (by decide) dX12_filled_114 rfl ?_
                refine Z_iinc4 (pc := 115) ok (by decide) dX12_filled_115 rfl ?_
                refine Z_goto (pc := 118) (tgt := 61) ok dX12_filled_118 rfl ?_
                exact ih m m0 m1 (keep (fun q => absurd q.2.1 h5)) _
              · have h5 := nb1 hNx h5
                refine Z_iconst (pc := 84) ok dX12_filled_84 ?_
                refine Z_goto (pc := 85) (tgt := 89) ok dX12_filled_85 rfl ?_
                refine Z_istore5 (pc := 89) ok (by decide) dX12_filled_89 rfl ?_
                refine Z_iload5 (pc := 91) ok dX12_filled_91 ?_
                refine Z_if_eq (pc := 93) (tgt := 113) ok dX12_filled_93 rfl (by first | omega | (simp [sz, uz] <;> omega)) (fun h => by exfalso; omega) (fun _ => ?_)
                refine Z_iload4 (pc := 96) ok dX12_filled_96 ?_
                refine Z_callSId (pc := 98) ok dX12_filled_98 cw_X12_214 (c_bitCount (by omega)) rfl rfl (by first | decide | omega) (Nat.le_of_ble_eq_true rfl) ?_
                refine Z_iload3 (pc := 101) ok dX12_filled_101 ?_
                refine Z_callSId (pc := 102) ok dX12_filled_102 cw_X12_214 (c_bitCount (by omega)) rfl rfl (by first | decide | omega) (Nat.le_of_ble_eq_true rfl) ?_
                refine Z_icmp_gt (pc := 105) (tgt := 113) ok dX12_filled_105 rfl (by first | omega | (simp [sz, uz] <;> omega)) (by first | omega | (simp [sz, uz] <;> omega)) (fun h6 => ?_) (fun h6 => ?_)
                · refine Z_iload3 (pc := 113) ok dX12_filled_113 ?_
                  refine Z_istore3 (pc := 114) ok (by decide) dX12_filled_114 rfl ?_
                  refine Z_iinc4 (pc := 115) ok (by decide) dX12_filled_115 rfl ?_
                  refine Z_goto (pc := 118) (tgt := 61) ok dX12_filled_118 rfl ?_
                  exact ih m m0 m1 (keep (fun _ => by omega)) _
                · refine Z_iload4 (pc := 108) ok dX12_filled_108 ?_
                  refine Z_goto (pc := 110) (tgt := 114) ok dX12_filled_110 rfl ?_
                  refine Z_istore3 (pc := 114) ok (by decide) dX12_filled_114 rfl ?_
                  refine Z_iinc4 (pc := 115) ok (by decide) dX12_filled_115 rfl ?_
                  refine Z_goto (pc := 118) (tgt := 61) ok dX12_filled_118 rfl ?_
                  refine ih x hx2 (Or.inr ⟨hx2, h5, h4⟩) (fun b hb hlt => ?_) _
                  by_cases e : b = x
                  · rw [e]; exact Or.inr ⟨rfl, Int.le_refl _⟩
                  · have := m2 b hb (by omega)
                    omega
        refine H (2 ^ (I 121 0).toNat - 1) (by omega) (by omega) (2 ^ (I 121 0).toNat - 1) (by omega) (Or.inl rfl) (fun b hb hlt => ?_) none
        have := hb.1.2; omega
      · refine Z_iconst (pc := 43) ok dX12_filled_43 ?_
        refine Z_iret (pc := 44) ok okr dX12_filled_44 ?_
        exact ⟨_, rfl, rfl, fr.rf, Or.inr (Or.inr (Or.inl ⟨h, by omega, by omega, rfl⟩))⟩
    · refine Z_bipush (pc := 30) ok dX12_filled_30 (by decide) ?_
      refine Z_iret (pc := 32) ok okr dX12_filled_32 ?_
      exact ⟨_, rfl, rfl, fr.rf, Or.inr (Or.inl ⟨h, by omega, rfl⟩)⟩
  · refine Z_bipush (pc := 9) ok dX12_filled_9 (by decide) ?_
    refine Z_iret (pc := 11) ok okr dX12_filled_11 ?_
    exact ⟨_, rfl, rfl, fr.rf, Or.inl ⟨by omega, rfl⟩⟩
end
