/-! the reference: stays, best, alike, prime -/
theorem tn_9 {n : Int} {c : Int → Int} (h : gR n c) (k e : Int) : 0 ≤ tn c n k e ∧ tn c n k e ≤ 9 := by
  simp only [tn]; split <;> exact h.2.1 _
theorem upI {P : Int → Prop} {e : Int} (e0 : 0 ≤ e) : (∀ j, 0 ≤ j → j < e + 1 → P j) ↔ (∀ j, 0 ≤ j → j < e → P j) ∧ P e :=
  ⟨fun h => ⟨fun j a b => h j a (by omega), h e e0 (by omega)⟩, fun h j a b => by
    by_cases q : j = e
    · rw [q]; exact h.2
    · exact h.1 j a (by omega)⟩
section
variable {l : Launch} {G : Gw} {I J : Mz}
theorem m_stays {k : Int} (h1 : gR (I 121 0) (I 122)) (hk : 0 ≤ k ∧ k < I 121 0) : K_X12_stays l G [zr G 121, zi k, zi 1] I J (pR (some (zi (zb (sam (I 122) (I 121 0) k 0)))) I J) := by
  have hn := h1.1
  refine Cz.of rfl (Nat.le_of_ble_eq_true rfl) [some (zr G 121), some (zi k), some (zi 1), none, none] rfl (fun E ok okr hE => ?_)
  refine Z_iconst (pc := 0) ok dX12_stays_0 ?_
  refine Z_istore3 (pc := 1) ok (by decide) dX12_stays_1 rfl ?_
  refine Z_iconst (pc := 2) ok dX12_stays_2 ?_
  refine Z_istore4 (pc := 3) ok (by decide) dX12_stays_3 rfl ?_
  have H : ∀ e : Int, 0 ≤ e → e ≤ I 121 0 → ∀ b : Int, (b = 0 ∨ b = 1) → (b = 1 ↔ ∀ j, 0 ≤ j → j < e → tn (I 122) (I 121 0) k j = I 122 j) → Xz E G I J 5 [some (zr G 121), some (zi k), some (zi 1), some (zi b), some (zi e)] [] := by
    refine zUp ?_ ?_
    · intro b b0 b1
      have hb : b = 1 ↔ sam (I 122) (I 121 0) k 0 := by
        rw [b1]
        exact ⟨fun q j j0 j1 => by rw [tn_0 _ j0]; exact q j j0 j1, fun q j j0 j1 => by have := q j j0 j1; rwa [tn_0 _ j0] at this⟩
      refine Z_iload4 (pc := 5) ok dX12_stays_5 ?_
      refine Z_aload0 (pc := 7) ok dX12_stays_7 ?_
      refine g_X12_n (pc := 8) ok dX12_stays_8 kw905 rfl ?_
      refine Z_icmp_ge (pc := 11) (tgt := 45) ok dX12_stays_11 rfl (by first | omega | (simp [sz, uz] <;> omega)) (by first | omega | (simp [sz, uz] <;> omega)) (fun _ => ?_) (fun h => by exfalso; omega)
      refine Z_iload3 (pc := 45) ok dX12_stays_45 ?_
      refine Z_iload2 (pc := 46) ok dX12_stays_46 ?_
      refine Z_icmp_ne (pc := 47) (tgt := 54) ok dX12_stays_47 rfl (by first | omega | (simp [sz, uz] <;> omega)) (by first | omega | (simp [sz, uz] <;> omega)) (fun h => ?_) (fun h => ?_)
      · refine Z_iconst (pc := 54) ok dX12_stays_54 ?_
        refine Z_bret (pc := 55) ok okr dX12_stays_55 (by first | exact Or.inl rfl | exact Or.inr rfl | exact zb_01 _ | assumption | omega) ?_
        exact ⟨by rw [zb_f (fun q => h (hb.mpr q))], rfl, rfl⟩
      · refine Z_iconst (pc := 50) ok dX12_stays_50 ?_
        refine Z_goto (pc := 51) (tgt := 55) ok dX12_stays_51 rfl ?_
        refine Z_bret (pc := 55) ok okr dX12_stays_55 (by first | exact Or.inl rfl | exact Or.inr rfl | exact zb_01 _ | assumption | omega) ?_
        exact ⟨by rw [zb_t (hb.mp h)], rfl, rfl⟩
    · intro e e0 e1 ih b b0 b1
      have ht := tn_9 h1 k e
      have hc := h1.2.1 e
      refine Z_iload4 (pc := 5) ok dX12_stays_5 ?_
      refine Z_aload0 (pc := 7) ok dX12_stays_7 ?_
      refine g_X12_n (pc := 8) ok dX12_stays_8 kw905 rfl ?_
      refine Z_icmp_ge (pc := 11) (tgt := 45) ok dX12_stays_11 rfl (by first | omega | (simp [sz, uz] <;> omega)) (by first | omega | (simp [sz, uz] <;> omega)) (fun h => by exfalso; omega) (fun _ => ?_)
      refine Z_iload3 (pc := 14) ok dX12_stays_14 ?_
      refine Z_aload0 (pc := 15) ok dX12_stays_15 ?_
      refine Z_iload1 (pc := 16) ok dX12_stays_16 ?_
      refine Z_iload4 (pc := 17) ok dX12_stays_17 ?_
      refine Z_callVId (pc := 19) ok dX12_stays_19 cw_X12_184 rfl rfl (by decide) (m_turned hk ⟨e0, e1⟩ hn) rfl rfl (by first | decide | omega) (Nat.le_of_ble_eq_true rfl) ?_
      refine Z_aload0 (pc := 22) ok dX12_stays_22 ?_
      refine g_X12_row (pc := 23) (t := 122) ok dX12_stays_23 kw906 rfl rfl ?_
      refine Z_iload4 (pc := 26) ok dX12_stays_26 ?_
      refine Z_iald (pc := 28) (L := 30) ok dX12_stays_28 rfl rfl (by first | omega | (simp [sz, uz] <;> omega)) ?_
      refine Z_icmp_ne (pc := 29) (tgt := 36) ok dX12_stays_29 rfl (by first | omega | (simp [sz, uz] <;> omega)) (by first | omega | (simp [sz, uz] <;> omega)) (fun h => ?_) (fun h => ?_)
      · refine Z_iconst (pc := 36) ok dX12_stays_36 ?_
        refine Z_iand0 (pc := 37) ok dX12_stays_37 b0 ?_
        refine Z_istore3 (pc := 38) ok (by decide) dX12_stays_38 rfl ?_
        refine Z_iinc4 (pc := 39) ok (by decide) dX12_stays_39 rfl ?_
        refine Z_goto (pc := 42) (tgt := 5) ok dX12_stays_42 rfl ?_
        exact ih 0 (Or.inl rfl) (by rw [upI e0]; exact ⟨fun q => by omega, fun q => absurd q.2 h⟩)
      · refine Z_iconst (pc := 32) ok dX12_stays_32 ?_
        refine Z_goto (pc := 33) (tgt := 37) ok dX12_stays_33 rfl ?_
        refine Z_iand1 (pc := 37) ok dX12_stays_37 b0 ?_
        refine Z_istore3 (pc := 38) ok (by decide) dX12_stays_38 rfl ?_
        refine Z_iinc4 (pc := 39) ok (by decide) dX12_stays_39 rfl ?_
        refine Z_goto (pc := 42) (tgt := 5) ok dX12_stays_42 rfl ?_
        exact ih b b0 (by rw [upI e0, b1]; exact ⟨fun q => ⟨q, h⟩, fun q => q.1⟩)
  exact H 0 (by omega) (by omega) 1 (Or.inr rfl) ⟨fun _ j j0 j1 => by omega, fun _ => rfl⟩
theorem m_stays_ {w : Int} (hw : -2147483648 ≤ w ∧ w ≤ 2147483647) (h1 : gR (I 121 0) (I 122)) : K_X12_stays_ l G [zr G 121, zi w] I J (fun v I' J' => ∃ r, v = some (zi r) ∧ (I' = I ∧ J' = J ∧ (((w ≠ 0 ∧ w ≠ 1) ∧ r = -1) ∨ (w = 0 ∧ r = su (fun k => zb (sam (I 122) (I 121 0) k 0)) (I 121 0)) ∨ (w = 1 ∧ r = fz (fun k => sam (I 122) (I 121 0) k 0) (I 121 0) 1 (I 121 0))))) := by
  have hn := h1.1
  refine Cz.of rfl (Nat.le_of_ble_eq_true rfl) [some (zr G 121), some (zi w), none, none, none] rfl (fun E ok okr hE => ?_)
  refine Z_iload1 (pc := 0) ok dX12_stays__0 ?_
  refine Z_i2l (pc := 1) ok dX12_stays__1 (by first | omega | (simp [sz, uz] <;> omega)) ?_
  refine Z_lconst (pc := 2) (z := 0) ok dX12_stays__2 (by decide) ?_
  refine Z_lconst (pc := 3) (z := 1) ok dX12_stays__3 (by decide) ?_
  refine Z_callSId (pc := 4) ok dX12_stays__4 cw_X12_97 (m_in (by omega) (by omega) (by omega)) rfl rfl (by first | decide | omega) (Nat.le_of_ble_eq_true rfl) ?_
  refine Z_if_neB (pc := 7) (tgt := 12) ok dX12_stays__7 rfl (fun h => ?_) (fun h => ?_)
  · refine Z_iconst (pc := 12) ok dX12_stays__12 ?_
    refine Z_istore2 (pc := 13) ok (by decide) dX12_stays__13 rfl ?_
    refine Z_aload0 (pc := 14) ok dX12_stays__14 ?_
    refine g_X12_n (pc := 15) ok dX12_stays__15 kw905 rfl ?_
    refine Z_istore3 (pc := 18) ok (by decide) dX12_stays__18 rfl ?_
    refine Z_aload0 (pc := 19) ok dX12_stays__19 ?_
    refine g_X12_n (pc := 20) ok dX12_stays__20 kw905 rfl ?_
    refine Z_iconst (pc := 23) ok dX12_stays__23 ?_
    refine Z_isub (pc := 24) ok dX12_stays__24 ?_
    refine Z_istore4 (pc := 25) ok (by decide) dX12_stays__25 rfl ?_
    have H : ∀ k : Int, -1 ≤ k → k ≤ I 121 0 - 1 → Xz E G I J 27 [some (zr G 121), some (zi w), some (zi (su (fun k => zb (sam (I 122) (I 121 0) k 0)) (I 121 0) - su (fun k => zb (sam (I 122) (I 121 0) k 0)) (k + 1))), some (zi (fz (fun k => sam (I 122) (I 121 0) k 0) (I 121 0) (if k < 0 then 1 else k + 1) (I 121 0))), some (zi k)] [] := by
      refine zDown ?_ ?_
      · intro _
        rw [if_pos (by omega), show su (fun k => zb (sam (I 122) (I 121 0) k 0)) (-1 + 1) = 0 from rfl, Int.sub_zero]
        refine Z_iload4 (pc := 27) ok dX12_stays__27 ?_
        refine Z_if_lt (pc := 29) (tgt := 78) ok dX12_stays__29 rfl (by first | omega | (simp [sz, uz] <;> omega)) (fun _ => ?_) (fun h => by exfalso; omega)
        refine Z_iload1 (pc := 78) ok dX12_stays__78 ?_
        refine Z_if_ne (pc := 79) (tgt := 86) ok dX12_stays__79 rfl (by first | omega | (simp [sz, uz] <;> omega)) (fun h2 => ?_) (fun h2 => ?_)
        · refine Z_iload3 (pc := 86) ok dX12_stays__86 ?_
          refine Z_iret (pc := 87) ok okr dX12_stays__87 ?_
          exact ⟨_, rfl, rfl, rfl, Or.inr (Or.inr ⟨by omega, rfl⟩)⟩
        · refine Z_iload2 (pc := 82) ok dX12_stays__82 ?_
          refine Z_goto (pc := 83) (tgt := 87) ok dX12_stays__83 rfl ?_
          refine Z_iret (pc := 87) ok okr dX12_stays__87 ?_
          exact ⟨_, rfl, rfl, rfl, Or.inr (Or.inl ⟨h2, rfl⟩)⟩
      · intro k k0 ih k1
        have ih := ih (by omega)
        rw [show k - 1 + 1 = k by omega] at ih
        rw [su_s _ (show 0 ≤ k by omega), if_neg (show ¬ k < 0 by omega)]
        refine Z_iload4 (pc := 27) ok dX12_stays__27 ?_
        refine Z_if_lt (pc := 29) (tgt := 78) ok dX12_stays__29 rfl (by first | omega | (simp [sz, uz] <;> omega)) (fun h => by exfalso; omega) (fun _ => ?_)
        refine Z_iload2 (pc := 32) ok dX12_stays__32 ?_
        refine Z_aload0 (pc := 33) ok dX12_stays__33 ?_
        refine Z_iload4 (pc := 34) ok dX12_stays__34 ?_
        refine Z_iconst (pc := 36) ok dX12_stays__36 ?_
        refine Z_callVId (pc := 37) ok dX12_stays__37 cw_X12_187 rfl rfl (by decide) (m_stays h1 ⟨by omega, by omega⟩) rfl rfl (by first | decide | omega) (Nat.le_of_ble_eq_true rfl) ?_
        refine Z_if_eqB (pc := 40) (tgt := 47) ok dX12_stays__40 rfl (fun h2 => ?_) (fun h2 => ?_)
        · rw [zb_f h2, Int.add_zero]
          refine Z_iconst (pc := 47) ok dX12_stays__47 ?_
          refine Z_iadd (pc := 48) ok dX12_stays__48 ?_
          refine Z_istore2 (pc := 49) ok (by decide) dX12_stays__49 rfl ?_
          refine Z_iload4 (pc := 50) ok dX12_stays__50 ?_
          refine Z_if_le (pc := 52) (tgt := 70) ok dX12_stays__52 rfl (by first | omega | (simp [sz, uz] <;> omega)) (fun h3 => ?_) (fun h3 => ?_)
          · refine Z_iload3 (pc := 70) ok dX12_stays__70 ?_
            refine Z_istore3 (pc := 71) ok (by decide) dX12_stays__71 rfl ?_
            refine Z_iinc4 (pc := 72) ok (by decide) dX12_stays__72 rfl ?_
            refine Z_goto (pc := 75) (tgt := 27) ok dX12_stays__75 rfl ?_
            rw [if_pos (show k - 1 < 0 by omega)] at ih
            rw [show k = 0 by omega] at ih ⊢
            rw [Int.add_zero]
            exact ih
          · refine Z_aload0 (pc := 55) ok dX12_stays__55 ?_
            refine Z_iload4 (pc := 56) ok dX12_stays__56 ?_
            refine Z_iconst (pc := 58) ok dX12_stays__58 ?_
            refine Z_callVId (pc := 59) ok dX12_stays__59 cw_X12_187 rfl rfl (by decide) (m_stays h1 ⟨by omega, by omega⟩) rfl rfl (by first | decide | omega) (Nat.le_of_ble_eq_true rfl) ?_
            refine Z_if_eqB (pc := 62) (tgt := 70) ok dX12_stays__62 rfl (fun h => ?_) (fun h => absurd h (h2))
            refine Z_iload3 (pc := 70) ok dX12_stays__70 ?_
            refine Z_istore3 (pc := 71) ok (by decide) dX12_stays__71 rfl ?_
            refine Z_iinc4 (pc := 72) ok (by decide) dX12_stays__72 rfl ?_
            refine Z_goto (pc := 75) (tgt := 27) ok dX12_stays__75 rfl ?_
            rw [if_neg (show ¬ k - 1 < 0 by omega), fz_miss (P := fun k => sam (I 122) (I 121 0) k 0) (by omega) h2] at ih
            rw [Int.add_zero]
            exact ih
        · rw [zb_t h2]
          refine Z_iconst (pc := 43) ok dX12_stays__43 ?_
          refine Z_goto (pc := 44) (tgt := 48) ok dX12_stays__44 rfl ?_
          refine Z_iadd (pc := 48) ok dX12_stays__48 ?_
          refine Z_istore2 (pc := 49) ok (by decide) dX12_stays__49 rfl ?_
          refine Z_iload4 (pc := 50) ok dX12_stays__50 ?_
          refine Z_if_le (pc := 52) (tgt := 70) ok dX12_stays__52 rfl (by first | omega | (simp [sz, uz] <;> omega)) (fun h3 => ?_) (fun h3 => ?_)
          · refine Z_iload3 (pc := 70) ok dX12_stays__70 ?_
            refine Z_istore3 (pc := 71) ok (by decide) dX12_stays__71 rfl ?_
            refine Z_iinc4 (pc := 72) ok (by decide) dX12_stays__72 rfl ?_
            refine Z_goto (pc := 75) (tgt := 27) ok dX12_stays__75 rfl ?_
            rw [if_pos (show k - 1 < 0 by omega)] at ih
            refine Z_to ih rfl rfl ?_ rfl
            simp only [List.cons.injEq, Option.some.injEq, and_true, true_and]
            exact ⟨by congr 1; omega, by rw [show k = 0 by omega]; rfl, rfl⟩
          · refine Z_aload0 (pc := 55) ok dX12_stays__55 ?_
            refine Z_iload4 (pc := 56) ok dX12_stays__56 ?_
            refine Z_iconst (pc := 58) ok dX12_stays__58 ?_
            refine Z_callVId (pc := 59) ok dX12_stays__59 cw_X12_187 rfl rfl (by decide) (m_stays h1 ⟨by omega, by omega⟩) rfl rfl (by first | decide | omega) (Nat.le_of_ble_eq_true rfl) ?_
            refine Z_if_eqB (pc := 62) (tgt := 70) ok dX12_stays__62 rfl (fun h => absurd h (fun q => q h2)) (fun h => ?_)
            refine Z_iload4 (pc := 65) ok dX12_stays__65 ?_
            refine Z_goto (pc := 67) (tgt := 71) ok dX12_stays__67 rfl ?_
            refine Z_istore3 (pc := 71) ok (by decide) dX12_stays__71 rfl ?_
            refine Z_iinc4 (pc := 72) ok (by decide) dX12_stays__72 rfl ?_
            refine Z_goto (pc := 75) (tgt := 27) ok dX12_stays__75 rfl ?_
            rw [if_neg (show ¬ k - 1 < 0 by omega), fz_hit (P := fun k => sam (I 122) (I 121 0) k 0) (by omega) h2] at ih
            refine Z_to ih rfl rfl ?_ rfl
            simp only [List.cons.injEq, Option.some.injEq, and_true, true_and]
            exact ⟨by congr 1; omega, rfl⟩
    have h0 := H (I 121 0 - 1) (by omega) (by omega)
    rw [if_neg (by omega), show I 121 0 - 1 + 1 = I 121 0 by omega, fz_end _ _ (Int.le_refl _), Int.sub_self] at h0
    exact h0
  · refine Z_iconst (pc := 10) ok dX12_stays__10 ?_
    refine Z_iret (pc := 11) ok okr dX12_stays__11 ?_
    exact ⟨_, rfl, rfl, rfl, Or.inl ⟨by omega, rfl⟩⟩
theorem m_isAhead {k o : Int} (h1 : gR (I 121 0) (I 122)) (hk : 0 ≤ k ∧ k < I 121 0) (ho : 0 ≤ o ∧ o < I 121 0) : K_X12_isAhead l G [zr G 121, zi k, zi o] I J (pR (some (zi (zb (ahd (I 122) (I 121 0) k o)))) I J) := by
  have hn := h1.1
  refine Cz.of rfl (Nat.le_of_ble_eq_true rfl) [some (zr G 121), some (zi k), some (zi o), none] rfl (fun E ok okr hE => ?_)
  refine Z_iconst (pc := 0) ok dX12_isAhead_0 ?_
  refine Z_istore3 (pc := 1) ok (by decide) dX12_isAhead_1 rfl ?_
  have H : ∀ e : Int, 0 ≤ e → e ≤ I 121 0 → (∀ j, 0 ≤ j → j < e → tn (I 122) (I 121 0) k j = tn (I 122) (I 121 0) o j) → Xz E G I J 2 [some (zr G 121), some (zi k), some (zi o), some (zi e)] [] := by
    refine zUp ?_ ?_
    · intro hj
      refine Z_iload3 (pc := 2) ok dX12_isAhead_2 ?_
      refine Z_aload0 (pc := 3) ok dX12_isAhead_3 ?_
      refine g_X12_n (pc := 4) ok dX12_isAhead_4 kw905 rfl ?_
      refine Z_icmp_ge (pc := 7) (tgt := 52) ok dX12_isAhead_7 rfl (by first | omega | (simp [sz, uz] <;> omega)) (by first | omega | (simp [sz, uz] <;> omega)) (fun _ => ?_) (fun h => by exfalso; omega)
      refine Z_iconst (pc := 52) ok dX12_isAhead_52 ?_
      refine Z_bret (pc := 53) ok okr dX12_isAhead_53 (by first | exact Or.inl rfl | exact Or.inr rfl | exact zb_01 _ | assumption | omega) ?_
      exact ⟨by rw [zb_f (fun ⟨d, q1, q2, q3, q4⟩ => by have := hj d q1 q2; omega)], rfl, rfl⟩
    · intro e e0 e1 ih hj
      have t1 := tn_9 h1 k e
      have t2 := tn_9 h1 o e
      refine Z_iload3 (pc := 2) ok dX12_isAhead_2 ?_
      refine Z_aload0 (pc := 3) ok dX12_isAhead_3 ?_
      refine g_X12_n (pc := 4) ok dX12_isAhead_4 kw905 rfl ?_
      refine Z_icmp_ge (pc := 7) (tgt := 52) ok dX12_isAhead_7 rfl (by first | omega | (simp [sz, uz] <;> omega)) (by first | omega | (simp [sz, uz] <;> omega)) (fun h => by exfalso; omega) (fun _ => ?_)
      refine Z_aload0 (pc := 10) ok dX12_isAhead_10 ?_
      refine Z_iload1 (pc := 11) ok dX12_isAhead_11 ?_
      refine Z_iload3 (pc := 12) ok dX12_isAhead_12 ?_
      refine Z_callVId (pc := 13) ok dX12_isAhead_13 cw_X12_184 rfl rfl (by decide) (m_turned hk ⟨e0, e1⟩ hn) rfl rfl (by first | decide | omega) (Nat.le_of_ble_eq_true rfl) ?_
      refine Z_aload0 (pc := 16) ok dX12_isAhead_16 ?_
      refine Z_iload2 (pc := 17) ok dX12_isAhead_17 ?_
      refine Z_iload3 (pc := 18) ok dX12_isAhead_18 ?_
      refine Z_callVId (pc := 19) ok dX12_isAhead_19 cw_X12_184 rfl rfl (by decide) (m_turned ho ⟨e0, e1⟩ hn) rfl rfl (by first | decide | omega) (Nat.le_of_ble_eq_true rfl) ?_
      refine Z_icmp_eq (pc := 22) (tgt := 46) ok dX12_isAhead_22 rfl (by first | omega | (simp [sz, uz] <;> omega)) (by first | omega | (simp [sz, uz] <;> omega)) (fun h => ?_) (fun h => ?_)
      · refine Z_iinc3 (pc := 46) ok (by decide) dX12_isAhead_46 rfl ?_
        refine Z_goto (pc := 49) (tgt := 2) ok dX12_isAhead_49 rfl ?_
        exact ih ((upI e0).mpr ⟨hj, h⟩)
      · refine Z_aload0 (pc := 25) ok dX12_isAhead_25 ?_
        refine Z_iload1 (pc := 26) ok dX12_isAhead_26 ?_
        refine Z_iload3 (pc := 27) ok dX12_isAhead_27 ?_
        refine Z_callVId (pc := 28) ok dX12_isAhead_28 cw_X12_184 rfl rfl (by decide) (m_turned hk ⟨e0, e1⟩ hn) rfl rfl (by first | decide | omega) (Nat.le_of_ble_eq_true rfl) ?_
        refine Z_aload0 (pc := 31) ok dX12_isAhead_31 ?_
        refine Z_iload2 (pc := 32) ok dX12_isAhead_32 ?_
        refine Z_iload3 (pc := 33) ok dX12_isAhead_33 ?_
        refine Z_callVId (pc := 34) ok dX12_isAhead_34 cw_X12_184 rfl rfl (by decide) (m_turned ho ⟨e0, e1⟩ hn) rfl rfl (by first | decide | omega) (Nat.le_of_ble_eq_true rfl) ?_
        refine Z_icmp_le (pc := 37) (tgt := 44) ok dX12_isAhead_37 rfl (by first | omega | (simp [sz, uz] <;> omega)) (by first | omega | (simp [sz, uz] <;> omega)) (fun h2 => ?_) (fun h2 => ?_)
        · refine Z_iconst (pc := 44) ok dX12_isAhead_44 ?_
          refine Z_bret (pc := 45) ok okr dX12_isAhead_45 (by first | exact Or.inl rfl | exact Or.inr rfl | exact zb_01 _ | assumption | omega) ?_
          have hna : ¬ ahd (I 122) (I 121 0) k o := by
            rintro ⟨d, q1, q2, q3, q4⟩
            by_cases a1 : d < e
            · have := hj d q1 a1; omega
            · by_cases a2 : d = e
              · rw [a2] at q4; omega
              · exact h (q3 e e0 (by omega))
          exact ⟨by rw [zb_f hna], rfl, rfl⟩
        · refine Z_iconst (pc := 40) ok dX12_isAhead_40 ?_
          refine Z_goto (pc := 41) (tgt := 45) ok dX12_isAhead_41 rfl ?_
          refine Z_bret (pc := 45) ok okr dX12_isAhead_45 (by first | exact Or.inl rfl | exact Or.inr rfl | exact zb_01 _ | assumption | omega) ?_
          exact ⟨by rw [zb_t ⟨e, e0, e1, hj, h2⟩], rfl, rfl⟩
  exact H 0 (by omega) (by omega) (fun j j0 j1 => by omega)
theorem m_best (h1 : gR (I 121 0) (I 122)) : K_X12_best l G [zr G 121] I J (pR (some (zi (bst (I 122) (I 121 0) (I 121 0 - 1).toNat))) I J) := by
  have hn := h1.1
  refine Cz.of rfl (Nat.le_of_ble_eq_true rfl) [some (zr G 121), none, none] rfl (fun E ok okr hE => ?_)
  refine Z_iconst (pc := 0) ok dX12_best_0 ?_
  refine Z_istore1 (pc := 1) ok (by decide) dX12_best_1 rfl ?_
  refine Z_iconst (pc := 2) ok dX12_best_2 ?_
  refine Z_istore2 (pc := 3) ok (by decide) dX12_best_3 rfl ?_
  have H : ∀ k : Int, 1 ≤ k → k ≤ I 121 0 → Xz E G I J 4 [some (zr G 121), some (zi (bst (I 122) (I 121 0) (k - 1).toNat)), some (zi k)] [] := by
    refine zUp ?_ ?_
    · refine Z_iload2 (pc := 4) ok dX12_best_4 ?_
      refine Z_aload0 (pc := 5) ok dX12_best_5 ?_
      refine g_X12_n (pc := 6) ok dX12_best_6 kw905 rfl ?_
      refine Z_icmp_ge (pc := 9) (tgt := 33) ok dX12_best_9 rfl (by first | omega | (simp [sz, uz] <;> omega)) (by first | omega | (simp [sz, uz] <;> omega)) (fun _ => ?_) (fun h => by exfalso; omega)
      refine Z_iload1 (pc := 33) ok dX12_best_33 ?_
      refine Z_iret (pc := 34) ok okr dX12_best_34 ?_
      exact ⟨rfl, rfl, rfl⟩
    · intro k k0 k1 ih
      have hb := bst_b (I 122) (I 121 0) (k - 1).toNat
      rw [show (k + 1 - 1).toNat = (k - 1).toNat + 1 by omega, bst, show (((k - 1).toNat : Nat) : Int) + 1 = k by omega] at ih
      refine Z_iload2 (pc := 4) ok dX12_best_4 ?_
      refine Z_aload0 (pc := 5) ok dX12_best_5 ?_
      refine g_X12_n (pc := 6) ok dX12_best_6 kw905 rfl ?_
      refine Z_icmp_ge (pc := 9) (tgt := 33) ok dX12_best_9 rfl (by first | omega | (simp [sz, uz] <;> omega)) (by first | omega | (simp [sz, uz] <;> omega)) (fun h => by exfalso; omega) (fun _ => ?_)
      refine Z_aload0 (pc := 12) ok dX12_best_12 ?_
      refine Z_iload2 (pc := 13) ok dX12_best_13 ?_
      refine Z_iload1 (pc := 14) ok dX12_best_14 ?_
      refine Z_callVId (pc := 15) ok dX12_best_15 cw_X12_191 rfl rfl (by decide) (m_isAhead h1 ⟨by omega, k1⟩ ⟨by omega, by omega⟩) rfl rfl (by first | decide | omega) (Nat.le_of_ble_eq_true rfl) ?_
      refine Z_if_eqB (pc := 18) (tgt := 25) ok dX12_best_18 rfl (fun h => ?_) (fun h => ?_)
      · refine Z_iload1 (pc := 25) ok dX12_best_25 ?_
        refine Z_istore1 (pc := 26) ok (by decide) dX12_best_26 rfl ?_
        refine Z_iinc2 (pc := 27) ok (by decide) dX12_best_27 rfl ?_
        refine Z_goto (pc := 30) (tgt := 4) ok dX12_best_30 rfl ?_
        rw [if_neg h] at ih
        exact ih
      · refine Z_iload2 (pc := 21) ok dX12_best_21 ?_
        refine Z_goto (pc := 22) (tgt := 26) ok dX12_best_22 rfl ?_
        refine Z_istore1 (pc := 26) ok (by decide) dX12_best_26 rfl ?_
        refine Z_iinc2 (pc := 27) ok (by decide) dX12_best_27 rfl ?_
        refine Z_goto (pc := 30) (tgt := 4) ok dX12_best_30 rfl ?_
        rw [if_pos h] at ih
        exact ih
  exact H 1 (by omega) (by omega)
theorem m_isList {a : Int} (ha : -2147483648 ≤ a ∧ a ≤ 2147483647) : K_X12_isList l G [zi a] I J (pR (some (zi (zb (0 ≤ a ∧ a ≤ 2)))) I J) := by
  refine Cz.of rfl (Nat.le_of_ble_eq_true rfl) [some (zi a)] rfl (fun E ok okr hE => ?_)
  refine Z_iload0 (pc := 0) ok dX12_isList_0 ?_
  refine Z_i2l (pc := 1) ok dX12_isList_1 (by first | omega | (simp [sz, uz] <;> omega)) ?_
  refine Z_lconst (pc := 2) (z := 0) ok dX12_isList_2 (by decide) ?_
  refine Z_ldc2 (pc := 3) (z := 2) ok dX12_isList_3 kw1022 (by decide) ?_
  refine Z_callSId (pc := 6) ok dX12_isList_6 cw_X12_97 (m_in (by omega) (by omega) (by omega)) rfl rfl (by first | decide | omega) (Nat.le_of_ble_eq_true rfl) ?_
  refine Z_bret (pc := 9) ok okr dX12_isList_9 (by first | exact Or.inl rfl | exact Or.inr rfl | exact zb_01 _ | assumption | omega) ?_
  exact ⟨rfl, rfl, rfl⟩
theorem m_alike {i : Int} (hi : -2147483648 ≤ i ∧ i ≤ 2147483647) (h1 : gR (I 121 0) (I 122)) (hs : ∀ i, 0 ≤ i → i < 3 → -1 ≤ I 136 i ∧ I 136 i ≤ 30) (hJ : ∀ j, -9223372036854775808 ≤ J 137 j ∧ J 137 j ≤ 9223372036854775807) : K_X12_alike l G [zr G 121, zi i] I J (fun v I' J' => ∃ r, v = some (zi r) ∧ (I' = I ∧ J' = J ∧ ((¬ (0 ≤ i ∧ i < 3) ∧ r = -1) ∨ ((0 ≤ i ∧ i < 3) ∧ I 136 i < 0 ∧ r = -11) ∨ ((0 ≤ i ∧ i < 3) ∧ 0 ≤ I 136 i ∧ I 136 i ≠ I 121 0 ∧ r = -5) ∨ ((0 ≤ i ∧ i < 3) ∧ I 136 i = I 121 0 ∧ r = fz (fun k => ∀ j, 0 ≤ j → j < I 121 0 → tn (I 122) (I 121 0) k j = J 137 (30 * i + j)) (-5) 0 (I 121 0))))) := by
  have hn := h1.1
  refine Cz.of rfl (Nat.le_of_ble_eq_true rfl) [some (zr G 121), some (zi i), none, none, none] rfl (fun E ok okr hE => ?_)
  refine Z_iload1 (pc := 0) ok dX12_alike_0 ?_
  refine Z_callSId (pc := 1) ok dX12_alike_1 cw_X12_194 (m_isList hi) rfl rfl (by first | decide | omega) (Nat.le_of_ble_eq_true rfl) ?_
  refine Z_if_neB (pc := 4) (tgt := 9) ok dX12_alike_4 rfl (fun h => ?_) (fun h => ?_)
  · have hsi := hs i (by omega) (by omega)
    refine Z_aload0 (pc := 9) ok dX12_alike_9 ?_
    refine g_X12_sizes (pc := 10) (t := 136) ok dX12_alike_10 kw924 rfl rfl ?_
    refine Z_iload1 (pc := 13) ok dX12_alike_13 ?_
    refine Z_iald (pc := 14) (L := 3) ok dX12_alike_14 rfl rfl (by first | omega | (simp [sz, uz] <;> omega)) ?_
    refine Z_if_ge (pc := 15) (tgt := 21) ok dX12_alike_15 rfl (by first | omega | (simp [sz, uz] <;> omega)) (fun h2 => ?_) (fun h2 => ?_)
    · refine Z_iconst (pc := 21) ok dX12_alike_21 ?_
      refine Z_istore2 (pc := 22) ok (by decide) dX12_alike_22 rfl ?_
      have H : ∀ k : Int, 0 ≤ k → k ≤ I 121 0 → fz (fun k => ∀ j, 0 ≤ j → j < I 121 0 → tn (I 122) (I 121 0) k j = J 137 (30 * i + j)) (-5) k (I 121 0) = fz (fun k => ∀ j, 0 ≤ j → j < I 121 0 → tn (I 122) (I 121 0) k j = J 137 (30 * i + j)) (-5) 0 (I 121 0) → ∀ w1 w2, Xz E G I J 23 [some (zr G 121), some (zi i), some (zi k), w1, w2] [] := by
        refine zUp ?_ ?_
        · intro hf w1 w2
          refine Z_iload2 (pc := 23) ok dX12_alike_23 ?_
          refine Z_aload0 (pc := 24) ok dX12_alike_24 ?_
          refine g_X12_n (pc := 25) ok dX12_alike_25 kw905 rfl ?_
          refine Z_icmp_ge (pc := 28) (tgt := 108) ok dX12_alike_28 rfl (by first | omega | (simp [sz, uz] <;> omega)) (by first | omega | (simp [sz, uz] <;> omega)) (fun _ => ?_) (fun h => by exfalso; omega)
          refine Z_bipush (pc := 108) ok dX12_alike_108 (by decide) ?_
          refine Z_iret (pc := 110) ok okr dX12_alike_110 ?_
          by_cases h3 : I 136 i = I 121 0
          · exact ⟨_, rfl, rfl, rfl, Or.inr (Or.inr (Or.inr ⟨by omega, h3, by rw [← hf, fz_end _ _ (Int.le_refl _)]⟩))⟩
          · exact ⟨_, rfl, rfl, rfl, Or.inr (Or.inr (Or.inl ⟨by omega, h2, h3, rfl⟩))⟩
        · intro k k0 k1 ih hf w1 w2
          refine Z_iload2 (pc := 23) ok dX12_alike_23 ?_
          refine Z_aload0 (pc := 24) ok dX12_alike_24 ?_
          refine g_X12_n (pc := 25) ok dX12_alike_25 kw905 rfl ?_
          refine Z_icmp_ge (pc := 28) (tgt := 108) ok dX12_alike_28 rfl (by first | omega | (simp [sz, uz] <;> omega)) (by first | omega | (simp [sz, uz] <;> omega)) (fun h => by exfalso; omega) (fun _ => ?_)
          refine Z_aload0 (pc := 31) ok dX12_alike_31 ?_
          refine g_X12_sizes (pc := 32) (t := 136) ok dX12_alike_32 kw924 rfl rfl ?_
          refine Z_iload1 (pc := 35) ok dX12_alike_35 ?_
          refine Z_iald (pc := 36) (L := 3) ok dX12_alike_36 rfl rfl (by first | omega | (simp [sz, uz] <;> omega)) ?_
          refine Z_aload0 (pc := 37) ok dX12_alike_37 ?_
          refine g_X12_n (pc := 38) ok dX12_alike_38 kw905 rfl ?_
          refine Z_icmp_ne (pc := 41) (tgt := 108) ok dX12_alike_41 rfl (by first | omega | (simp [sz, uz] <;> omega)) (by first | omega | (simp [sz, uz] <;> omega)) (fun h3 => ?_) (fun h3 => ?_)
          · refine Z_bipush (pc := 108) ok dX12_alike_108 (by decide) ?_
            refine Z_iret (pc := 110) ok okr dX12_alike_110 ?_
            exact ⟨_, rfl, rfl, rfl, Or.inr (Or.inr (Or.inl ⟨by omega, h2, h3, rfl⟩))⟩
          · refine Z_iconst (pc := 44) ok dX12_alike_44 ?_
            refine Z_istore3 (pc := 45) ok (by decide) dX12_alike_45 rfl ?_
            refine Z_iconst (pc := 46) ok dX12_alike_46 ?_
            refine Z_istore4 (pc := 47) ok (by decide) dX12_alike_47 rfl ?_
            have H2 : ∀ e : Int, 0 ≤ e → e ≤ I 121 0 → ∀ b : Int, (b = 0 ∨ b = 1) → (b = 1 ↔ ∀ j, 0 ≤ j → j < e → tn (I 122) (I 121 0) k j = J 137 (30 * i + j)) → Xz E G I J 49 [some (zr G 121), some (zi i), some (zi k), some (zi b), some (zi e)] [] := by
              refine zUp ?_ ?_
              · intro b b0 b1
                refine Z_iload4 (pc := 49) ok dX12_alike_49 ?_
                refine Z_aload0 (pc := 51) ok dX12_alike_51 ?_
                refine g_X12_n (pc := 52) ok dX12_alike_52 kw905 rfl ?_
                refine Z_icmp_ge (pc := 55) (tgt := 96) ok dX12_alike_55 rfl (by first | omega | (simp [sz, uz] <;> omega)) (by first | omega | (simp [sz, uz] <;> omega)) (fun _ => ?_) (fun h => by exfalso; omega)
                refine Z_iload3 (pc := 96) ok dX12_alike_96 ?_
                refine Z_if_eq (pc := 97) (tgt := 102) ok dX12_alike_97 rfl (by first | omega | (simp [sz, uz] <;> omega)) (fun h4 => ?_) (fun h4 => ?_)
                · refine Z_iinc2 (pc := 102) ok (by decide) dX12_alike_102 rfl ?_
                  refine Z_goto (pc := 105) (tgt := 23) ok dX12_alike_105 rfl ?_
                  rw [fz_miss (P := fun k => ∀ j, 0 ≤ j → j < I 121 0 → tn (I 122) (I 121 0) k j = J 137 (30 * i + j)) k1 (fun q => by have := b1.mpr q; omega)] at hf
                  exact ih hf _ _
                · refine Z_iload2 (pc := 100) ok dX12_alike_100 ?_
                  refine Z_iret (pc := 101) ok okr dX12_alike_101 ?_
                  rw [fz_hit (P := fun k => ∀ j, 0 ≤ j → j < I 121 0 → tn (I 122) (I 121 0) k j = J 137 (30 * i + j)) k1 (b1.mp (by omega))] at hf
                  exact ⟨_, rfl, rfl, rfl, Or.inr (Or.inr (Or.inr ⟨by omega, h3, hf⟩))⟩
              · intro e e0 e1 ih2 b b0 b1
                have ht := tn_9 h1 k e
                have hJe := hJ (30 * i + e)
                refine Z_iload4 (pc := 49) ok dX12_alike_49 ?_
                refine Z_aload0 (pc := 51) ok dX12_alike_51 ?_
                refine g_X12_n (pc := 52) ok dX12_alike_52 kw905 rfl ?_
                refine Z_icmp_ge (pc := 55) (tgt := 96) ok dX12_alike_55 rfl (by first | omega | (simp [sz, uz] <;> omega)) (by first | omega | (simp [sz, uz] <;> omega)) (fun h => by exfalso; omega) (fun _ => ?_)
                refine Z_iload3 (pc := 58) ok dX12_alike_58 ?_
                refine Z_aload0 (pc := 59) ok dX12_alike_59 ?_
                refine g_X12_items (pc := 60) (t := 137) ok dX12_alike_60 kw925 rfl rfl ?_
                refine Z_bipush (pc := 63) ok dX12_alike_63 (by decide) ?_
                refine Z_iload1 (pc := 65) ok dX12_alike_65 ?_
                refine Z_imul (pc := 66) ok dX12_alike_66 ?_
                refine Z_iload4 (pc := 67) ok dX12_alike_67 ?_
                refine Z_iadd (pc := 69) ok dX12_alike_69 ?_
                refine Z_lald (pc := 70) (L := 90) ok dX12_alike_70 rfl rfl (by first | omega | (simp [sz, uz] <;> omega)) ?_
                refine Z_aload0 (pc := 71) ok dX12_alike_71 ?_
                refine Z_iload2 (pc := 72) ok dX12_alike_72 ?_
                refine Z_iload4 (pc := 73) ok dX12_alike_73 ?_
                refine Z_callVId (pc := 75) ok dX12_alike_75 cw_X12_184 rfl rfl (by decide) (m_turned ⟨k0, k1⟩ ⟨e0, e1⟩ hn) rfl rfl (by first | decide | omega) (Nat.le_of_ble_eq_true rfl) ?_
                refine Z_i2l (pc := 78) ok dX12_alike_78 (by first | omega | (simp [sz, uz] <;> omega)) ?_
                refine Z_lcmp (pc := 79) ok dX12_alike_79 (by first | omega | (simp [sz, uz] <;> omega)) (by first | omega | (simp [sz, uz] <;> omega)) ?_
                refine Z_if_neC (pc := 80) (tgt := 87) ok dX12_alike_80 rfl (fun h5 => ?_) (fun h5 => ?_)
                · refine Z_iconst (pc := 87) ok dX12_alike_87 ?_
                  refine Z_iand0 (pc := 88) ok dX12_alike_88 b0 ?_
                  refine Z_istore3 (pc := 89) ok (by decide) dX12_alike_89 rfl ?_
                  refine Z_iinc4 (pc := 90) ok (by decide) dX12_alike_90 rfl ?_
                  refine Z_goto (pc := 93) (tgt := 49) ok dX12_alike_93 rfl ?_
                  exact ih2 0 (Or.inl rfl) (by rw [upI e0]; exact ⟨fun q => by omega, fun q => absurd q.2.symm h5⟩)
                · refine Z_iconst (pc := 83) ok dX12_alike_83 ?_
                  refine Z_goto (pc := 84) (tgt := 88) ok dX12_alike_84 rfl ?_
                  refine Z_iand1 (pc := 88) ok dX12_alike_88 b0 ?_
                  refine Z_istore3 (pc := 89) ok (by decide) dX12_alike_89 rfl ?_
                  refine Z_iinc4 (pc := 90) ok (by decide) dX12_alike_90 rfl ?_
                  refine Z_goto (pc := 93) (tgt := 49) ok dX12_alike_93 rfl ?_
                  exact ih2 b b0 (by rw [upI e0, b1]; exact ⟨fun q => ⟨q, h5.symm⟩, fun q => q.1⟩)
            exact H2 0 (by omega) (by omega) 1 (Or.inr rfl) ⟨fun _ j j0 j1 => by omega, fun _ => rfl⟩
      exact H 0 (by omega) (by omega) rfl _ _
    · refine Z_bipush (pc := 18) ok dX12_alike_18 (by decide) ?_
      refine Z_iret (pc := 20) ok okr dX12_alike_20 ?_
      exact ⟨_, rfl, rfl, rfl, Or.inr (Or.inl ⟨by omega, h2, rfl⟩)⟩
  · refine Z_iconst (pc := 7) ok dX12_alike_7 ?_
    refine Z_iret (pc := 8) ok okr dX12_alike_8 ?_
    exact ⟨_, rfl, rfl, rfl, Or.inl ⟨by omega, rfl⟩⟩
theorem m_prime {i : Int} (hi : -2147483648 ≤ i ∧ i ≤ 2147483647) (h1 : gR (I 121 0) (I 122)) : K_X12_prime l G [zr G 121, zi i] I J (fun v I' J' => ∃ r, v = some (zi r) ∧ (I' = I ∧ J' = J ∧ r = fz (fun p => isP p (I 121 0) ∧ su (fun q => zb (isP q (I 121 0))) p = i) (if i = -1 then su (fun q => zb (isP q (I 121 0))) (I 121 0 + 1) else -1) 2 (I 121 0 + 1))) := by
  have hn := h1.1
  refine Cz.of rfl (Nat.le_of_ble_eq_true rfl) [some (zr G 121), some (zi i), none, none] rfl (fun E ok okr hE => ?_)
  refine Z_iconst (pc := 0) ok dX12_prime_0 ?_
  refine Z_istore2 (pc := 1) ok (by decide) dX12_prime_1 rfl ?_
  refine Z_iconst (pc := 2) ok dX12_prime_2 ?_
  refine Z_istore3 (pc := 3) ok (by decide) dX12_prime_3 rfl ?_
  have H : ∀ p : Int, 2 ≤ p → p ≤ I 121 0 + 1 → fz (fun p => isP p (I 121 0) ∧ su (fun q => zb (isP q (I 121 0))) p = i) (if i = -1 then su (fun q => zb (isP q (I 121 0))) (I 121 0 + 1) else -1) p (I 121 0 + 1) = fz (fun p => isP p (I 121 0) ∧ su (fun q => zb (isP q (I 121 0))) p = i) (if i = -1 then su (fun q => zb (isP q (I 121 0))) (I 121 0 + 1) else -1) 2 (I 121 0 + 1) → Xz E G I J 4 [some (zr G 121), some (zi i), some (zi (su (fun q => zb (isP q (I 121 0))) p)), some (zi p)] [] := by
    refine zUp ?_ ?_
    · intro hf
      rw [fz_end _ _ (Int.le_refl _)] at hf
      refine Z_iload3 (pc := 4) ok dX12_prime_4 ?_
      refine Z_aload0 (pc := 5) ok dX12_prime_5 ?_
      refine g_X12_n (pc := 6) ok dX12_prime_6 kw905 rfl ?_
      refine Z_icmp_gt (pc := 9) (tgt := 36) ok dX12_prime_9 rfl (by first | omega | (simp [sz, uz] <;> omega)) (by first | omega | (simp [sz, uz] <;> omega)) (fun _ => ?_) (fun h => by exfalso; omega)
      refine Z_iload1 (pc := 36) ok dX12_prime_36 ?_
      refine Z_iconst (pc := 37) ok dX12_prime_37 ?_
      refine Z_icmp_ne (pc := 38) (tgt := 45) ok dX12_prime_38 rfl (by first | omega | (simp [sz, uz] <;> omega)) (by first | omega | (simp [sz, uz] <;> omega)) (fun h2 => ?_) (fun h2 => ?_)
      · refine Z_iconst (pc := 45) ok dX12_prime_45 ?_
        refine Z_iret (pc := 46) ok okr dX12_prime_46 ?_
        rw [if_neg h2] at hf
        rw [if_neg h2]
        exact ⟨_, rfl, rfl, rfl, hf⟩
      · refine Z_iload2 (pc := 41) ok dX12_prime_41 ?_
        refine Z_goto (pc := 42) (tgt := 46) ok dX12_prime_42 rfl ?_
        refine Z_iret (pc := 46) ok okr dX12_prime_46 ?_
        rw [if_pos h2] at hf
        rw [if_pos h2]
        exact ⟨_, rfl, rfl, rfl, hf⟩
    · intro p p0 p1 ih hf
      have hz := su_zb (fun q => isP q (I 121 0)) (e := p) (by omega)
      rw [su_s _ (show 0 ≤ p by omega)] at ih
      refine Z_iload3 (pc := 4) ok dX12_prime_4 ?_
      refine Z_aload0 (pc := 5) ok dX12_prime_5 ?_
      refine g_X12_n (pc := 6) ok dX12_prime_6 kw905 rfl ?_
      refine Z_icmp_gt (pc := 9) (tgt := 36) ok dX12_prime_9 rfl (by first | omega | (simp [sz, uz] <;> omega)) (by first | omega | (simp [sz, uz] <;> omega)) (fun h => by exfalso; omega) (fun _ => ?_)
      refine Z_aload0 (pc := 12) ok dX12_prime_12 ?_
      refine Z_iload3 (pc := 13) ok dX12_prime_13 ?_
      refine Z_callVId (pc := 14) ok dX12_prime_14 cw_X12_170 rfl rfl (by decide) (m_isPrime (by omega) hn) rfl rfl (by first | decide | omega) (Nat.le_of_ble_eq_true rfl) ?_
      refine Z_if_eqB (pc := 17) (tgt := 30) ok dX12_prime_17 rfl (fun h2 => ?_) (fun h2 => ?_)
      · refine Z_iinc3 (pc := 30) ok (by decide) dX12_prime_30 rfl ?_
        refine Z_goto (pc := 33) (tgt := 4) ok dX12_prime_33 rfl ?_
        rw [zb_f h2, Int.add_zero] at ih
        rw [fz_miss (P := fun p => isP p (I 121 0) ∧ su (fun q => zb (isP q (I 121 0))) p = i) p1 (fun q => h2 q.1)] at hf
        exact ih hf
      · rw [zb_t h2] at ih
        refine Z_iload2 (pc := 20) ok dX12_prime_20 ?_
        refine Z_iload1 (pc := 21) ok dX12_prime_21 ?_
        refine Z_icmp_ne (pc := 22) (tgt := 27) ok dX12_prime_22 rfl (by first | omega | (simp [sz, uz] <;> omega)) (by first | omega | (simp [sz, uz] <;> omega)) (fun h3 => ?_) (fun h3 => ?_)
        · refine Z_iinc2 (pc := 27) ok (by decide) dX12_prime_27 rfl ?_
          refine Z_iinc3 (pc := 30) ok (by decide) dX12_prime_30 rfl ?_
          refine Z_goto (pc := 33) (tgt := 4) ok dX12_prime_33 rfl ?_
          rw [fz_miss (P := fun p => isP p (I 121 0) ∧ su (fun q => zb (isP q (I 121 0))) p = i) p1 (fun q => h3 q.2)] at hf
          exact ih hf
        · refine Z_iload3 (pc := 25) ok dX12_prime_25 ?_
          refine Z_iret (pc := 26) ok okr dX12_prime_26 ?_
          rw [fz_hit (P := fun p => isP p (I 121 0) ∧ su (fun q => zb (isP q (I 121 0))) p = i) p1 ⟨h2, h3⟩] at hf
          exact ⟨_, rfl, rfl, rfl, hf⟩
  refine H 2 (by omega) (by omega) rfl |> fun q => ?_
  have e2 : su (fun q => zb (isP q (I 121 0))) 2 = 0 := by
    rw [show (2 : Int) = 0 + 1 + 1 from rfl, su_s _ (by omega), su_s _ (by omega), su_0, zb_f (fun q => by have := q.1; omega), zb_f (fun q => by have := q.1; omega)]; rfl
  rw [e2] at q
  exact q
end
