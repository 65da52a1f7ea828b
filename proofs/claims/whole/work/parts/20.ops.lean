/-! turn, times, mirror, raise, stays, best, alike, prime -/
def lc (i : Int) : Nat := 104 + 2 * i.toNat
theorem lc_kd {i : Int} (h : 0 ≤ i ∧ i < 3) : kd (lc i) = 2 := by
  have : i = 0 ∨ i = 1 ∨ i = 2 := by omega
  rcases this with rfl | rfl | rfl <;> rfl
theorem lc_rf {i : Int} (h : 0 ≤ i ∧ i < 3) : rf 103 i.toNat = lc i := by
  have : i = 0 ∨ i = 1 ∨ i = 2 := by omega
  rcases this with rfl | rfl | rfl <;> rfl
def lsOk (I J : Mz) : Prop := ∀ i, 0 ≤ i → i < 3 → (-1 ≤ I (lc i) 0 ∧ I (lc i) 0 ≤ 30) ∧ ∀ j, -9223372036854775808 ≤ J (lc i + 1) j ∧ J (lc i + 1) j ≤ 9223372036854775807
theorem sam_0 (c : Int → Int) (n : Int) : sam c n 0 0 := fun _ _ _ => rfl
section
variable {l : Launch} {G : Gw} {I J : Mz}
theorem c_turn {k : Int} (hk : -2147483648 ≤ k ∧ k ≤ 2147483647) (h1 : gR (I 2 0) (I 3)) : K_X11_turn l G [zr G 0, zi k] I J (fun v I' J' => ∃ r, v = some (zi r) ∧ (fr [3, 118] I I' ∧ J' = J ∧ r = I' 3 0 ∧ (((∀ t, chg 0 k (I 2 0) (I 3) t ≤ 9) ∧ I' 3 = chg 0 k (I 2 0) (I 3)) ∨ (¬ (∀ t, chg 0 k (I 2 0) (I 3) t ≤ 9) ∧ I' 3 = I 3)))) := by
  have hcc : cCh 0 k (I 2 0) := ⟨fun q => by omega, fun q => by omega⟩
  refine Cz.of rfl (Nat.le_of_ble_eq_true rfl) [some (zr G 0), some (zi k)] rfl (fun E ok okr hE => ?_)
  refine Z_aload0 (pc := 0) ok dX11_turn_0 ?_
  refine Z_iconst (pc := 1) ok dX11_turn_1 ?_
  refine Z_iload1 (pc := 2) ok dX11_turn_2 ?_
  refine Z_callVI (pc := 3) ok dX11_turn_3 cw_X11_164 rfl rfl (by decide) (c_change (by omega) hk h1) rfl rfl (by decide) (Nat.le_of_ble_eq_true rfl) (fun r I1 J1 q => ?_)
  refine Z_pop (pc := 6) ok dX11_turn_6 rfl ?_
  refine Z_aload0 (pc := 7) ok dX11_turn_7 ?_
  refine g_X11_state (pc := 8) (t := 1) ok dX11_turn_8 kw340 rfl rfl ?_
  refine g_X8_row (pc := 11) (t := 2) ok dX11_turn_11 kw148 rfl rfl ?_
  refine g_X5_counts (pc := 14) (t := 3) ok dX11_turn_14 kw101 rfl rfl ?_
  refine Z_iconst (pc := 17) ok dX11_turn_17 ?_
  refine Z_iald (pc := 18) (L := 30) ok dX11_turn_18 rfl rfl (by first | omega | (simp [sz, uz]; omega)) ?_
  refine Z_iret (pc := 19) ok okr dX11_turn_19 ?_
  obtain ⟨q1, q2, q3⟩ := q
  refine ⟨_, rfl, q1, q2, rfl, ?_⟩
  rcases q3 with ⟨_, _, a1, a2⟩ | ⟨_, a1, a2⟩
  · exact Or.inl ⟨a1, a2⟩
  · exact Or.inr ⟨fun q => a1 ⟨hcc, q⟩, a2⟩
theorem c_mirror (h1 : gR (I 2 0) (I 3)) : K_X11_mirror l G [zr G 0] I J (fun v I' J' => ∃ r, v = some (zi r) ∧ (fr [3, 118] I I' ∧ J' = J ∧ r = I' 3 0 ∧ (((∀ t, chg 2 0 (I 2 0) (I 3) t ≤ 9) ∧ I' 3 = chg 2 0 (I 2 0) (I 3)) ∨ (¬ (∀ t, chg 2 0 (I 2 0) (I 3) t ≤ 9) ∧ I' 3 = I 3)))) := by
  have hcc : cCh 2 0 (I 2 0) := ⟨fun q => by omega, fun q => by omega⟩
  refine Cz.of rfl (Nat.le_of_ble_eq_true rfl) [some (zr G 0)] rfl (fun E ok okr hE => ?_)
  refine Z_aload0 (pc := 0) ok dX11_mirror_0 ?_
  refine Z_iconst (pc := 1) ok dX11_mirror_1 ?_
  refine Z_iconst (pc := 2) ok dX11_mirror_2 ?_
  refine Z_callVI (pc := 3) ok dX11_mirror_3 cw_X11_164 rfl rfl (by decide) (c_change (by omega) (by omega) h1) rfl rfl (by decide) (Nat.le_of_ble_eq_true rfl) (fun r I1 J1 q => ?_)
  refine Z_pop (pc := 6) ok dX11_mirror_6 rfl ?_
  refine Z_aload0 (pc := 7) ok dX11_mirror_7 ?_
  refine g_X11_state (pc := 8) (t := 1) ok dX11_mirror_8 kw340 rfl rfl ?_
  refine g_X8_row (pc := 11) (t := 2) ok dX11_mirror_11 kw148 rfl rfl ?_
  refine g_X5_counts (pc := 14) (t := 3) ok dX11_mirror_14 kw101 rfl rfl ?_
  refine Z_iconst (pc := 17) ok dX11_mirror_17 ?_
  refine Z_iald (pc := 18) (L := 30) ok dX11_mirror_18 rfl rfl (by first | omega | (simp [sz, uz]; omega)) ?_
  refine Z_iret (pc := 19) ok okr dX11_mirror_19 ?_
  obtain ⟨q1, q2, q3⟩ := q
  refine ⟨_, rfl, q1, q2, rfl, ?_⟩
  rcases q3 with ⟨_, _, a1, a2⟩ | ⟨_, a1, a2⟩
  · exact Or.inl ⟨a1, a2⟩
  · exact Or.inr ⟨fun q => a1 ⟨hcc, q⟩, a2⟩
theorem c_times {u : Int} (hu : -2147483648 ≤ u ∧ u ≤ 2147483647) (h1 : gR (I 2 0) (I 3)) : K_X11_times l G [zr G 0, zi u] I J (fun v I' J' => ∃ r, v = some (zi r) ∧ ((¬ (1 ≤ u ∧ u ≤ 99) ∧ r = -2 ∧ I' = I ∧ J' = J) ∨ ((1 ≤ u ∧ u ≤ 99) ∧ fr [3, 118] I I' ∧ J' = J ∧ ((cCh 1 u (I 2 0) ∧ (∀ t, chg 1 u (I 2 0) (I 3) t ≤ 9) ∧ r = I' 3 0 ∧ I' 3 = chg 1 u (I 2 0) (I 3)) ∨ (¬ (cCh 1 u (I 2 0) ∧ ∀ t, chg 1 u (I 2 0) (I 3) t ≤ 9) ∧ r = -3 ∧ I' 3 = I 3))))) := by
  refine Cz.of rfl (Nat.le_of_ble_eq_true rfl) [some (zr G 0), some (zi u)] rfl (fun E ok okr hE => ?_)
  refine Z_iload1 (pc := 0) ok dX11_times_0 ?_
  refine Z_iconst (pc := 1) ok dX11_times_1 ?_
  refine Z_icmp_lt (pc := 2) (tgt := 11) ok dX11_times_2 rfl (by first | omega | (simp [sz, uz]; omega)) (by first | omega | (simp [sz, uz]; omega)) (fun h => ?_) (fun h => ?_)
  · refine Z_bipush (pc := 11) ok dX11_times_11 (by decide) ?_
    refine Z_iret (pc := 13) ok okr dX11_times_13 ?_
    exact ⟨_, rfl, Or.inl ⟨by omega, rfl, rfl, rfl⟩⟩
  · refine Z_iload1 (pc := 5) ok dX11_times_5 ?_
    refine Z_bipush (pc := 6) ok dX11_times_6 (by decide) ?_
    refine Z_icmp_le (pc := 8) (tgt := 14) ok dX11_times_8 rfl (by first | omega | (simp [sz, uz]; omega)) (by first | omega | (simp [sz, uz]; omega)) (fun h2 => ?_) (fun h2 => ?_)
    · refine Z_aload0 (pc := 14) ok dX11_times_14 ?_
      refine Z_iconst (pc := 15) ok dX11_times_15 ?_
      refine Z_iload1 (pc := 16) ok dX11_times_16 ?_
      refine Z_callVI (pc := 17) ok dX11_times_17 cw_X11_164 rfl rfl (by decide) (c_change (by omega) hu h1) rfl rfl (by decide) (Nat.le_of_ble_eq_true rfl) (fun r I1 J1 q => ?_)
      obtain ⟨q1, q2, q3⟩ := q
      rcases q3 with ⟨rfl, a0, a1, a2⟩ | ⟨rfl, a1, a2⟩
      · refine Z_if_eq (pc := 20) (tgt := 38) ok dX11_times_20 rfl (by first | omega | (simp [sz, uz]; omega)) (fun h => by exfalso; omega) (fun _ => ?_)
        refine Z_aload0 (pc := 23) ok dX11_times_23 ?_
        refine g_X11_state (pc := 24) (t := 1) ok dX11_times_24 kw340 rfl rfl ?_
        refine g_X8_row (pc := 27) (t := 2) ok dX11_times_27 kw148 rfl rfl ?_
        refine g_X5_counts (pc := 30) (t := 3) ok dX11_times_30 kw101 rfl rfl ?_
        refine Z_iconst (pc := 33) ok dX11_times_33 ?_
        refine Z_iald (pc := 34) (L := 30) ok dX11_times_34 rfl rfl (by first | omega | (simp [sz, uz]; omega)) ?_
        refine Z_goto (pc := 35) (tgt := 40) ok dX11_times_35 rfl ?_
        refine Z_iret (pc := 40) ok okr dX11_times_40 ?_
        exact ⟨_, rfl, Or.inr ⟨by omega, q1, q2, Or.inl ⟨a0, a1, rfl, a2⟩⟩⟩
      · refine Z_if_eq (pc := 20) (tgt := 38) ok dX11_times_20 rfl (by first | omega | (simp [sz, uz]; omega)) (fun _ => ?_) (fun h => by exfalso; omega)
        refine Z_bipush (pc := 38) ok dX11_times_38 (by decide) ?_
        refine Z_iret (pc := 40) ok okr dX11_times_40 ?_
        exact ⟨_, rfl, Or.inr ⟨by omega, q1, q2, Or.inr ⟨a1, rfl, a2⟩⟩⟩
    · refine Z_bipush (pc := 11) ok dX11_times_11 (by decide) ?_
      refine Z_iret (pc := 13) ok okr dX11_times_13 ?_
      exact ⟨_, rfl, Or.inl ⟨by omega, rfl, rfl, rfl⟩⟩
theorem c_raise {u : Int} (hu : -2147483648 ≤ u ∧ u ≤ 2147483647) (h1 : gR (I 2 0) (I 3)) : K_X11_raise l G [zr G 0, zi u] I J (fun v I' J' => ∃ r, v = some (zi r) ∧ ((¬ isP u (I 2 0) ∧ r = -1 ∧ I' = I ∧ J' = J) ∨ (isP u (I 2 0) ∧ fr [3, 118] I I' ∧ J' = J ∧ (((∀ t, chg 3 u (I 2 0) (I 3) t ≤ 9) ∧ r = I' 3 0 ∧ I' 3 = chg 3 u (I 2 0) (I 3)) ∨ (¬ (∀ t, chg 3 u (I 2 0) (I 3) t ≤ 9) ∧ r = -4 ∧ I' 3 = I 3))))) := by
  refine Cz.of rfl (Nat.le_of_ble_eq_true rfl) [some (zr G 0), some (zi u)] rfl (fun E ok okr hE => ?_)
  refine Z_iload1 (pc := 0) ok dX11_raise_0 ?_
  refine Z_aload0 (pc := 1) ok dX11_raise_1 ?_
  refine g_X11_state (pc := 2) (t := 1) ok dX11_raise_2 kw340 rfl rfl ?_
  refine g_X8_row (pc := 5) (t := 2) ok dX11_raise_5 kw148 rfl rfl ?_
  refine g_X5_n (pc := 8) ok dX11_raise_8 kw96 rfl ?_
  refine Z_callSId (pc := 11) ok dX11_raise_11 cw_X11_168 (c_isPrimeOf hu h1.1) rfl rfl (by decide) (Nat.le_of_ble_eq_true rfl) ?_
  refine Z_if_neB (pc := 14) (tgt := 19) ok dX11_raise_14 rfl (fun h => ?_) (fun h => ?_)
  · refine Z_aload0 (pc := 19) ok dX11_raise_19 ?_
    refine Z_iconst (pc := 20) ok dX11_raise_20 ?_
    refine Z_iload1 (pc := 21) ok dX11_raise_21 ?_
    refine Z_callVI (pc := 22) ok dX11_raise_22 cw_X11_164 rfl rfl (by decide) (c_change (by omega) hu h1) rfl rfl (by decide) (Nat.le_of_ble_eq_true rfl) (fun r I1 J1 q => ?_)
    obtain ⟨q1, q2, q3⟩ := q
    rcases q3 with ⟨rfl, a0, a1, a2⟩ | ⟨rfl, a1, a2⟩
    · refine Z_if_eq (pc := 25) (tgt := 43) ok dX11_raise_25 rfl (by first | omega | (simp [sz, uz]; omega)) (fun h => by exfalso; omega) (fun _ => ?_)
      refine Z_aload0 (pc := 28) ok dX11_raise_28 ?_
      refine g_X11_state (pc := 29) (t := 1) ok dX11_raise_29 kw340 rfl rfl ?_
      refine g_X8_row (pc := 32) (t := 2) ok dX11_raise_32 kw148 rfl rfl ?_
      refine g_X5_counts (pc := 35) (t := 3) ok dX11_raise_35 kw101 rfl rfl ?_
      refine Z_iconst (pc := 38) ok dX11_raise_38 ?_
      refine Z_iald (pc := 39) (L := 30) ok dX11_raise_39 rfl rfl (by first | omega | (simp [sz, uz]; omega)) ?_
      refine Z_goto (pc := 40) (tgt := 45) ok dX11_raise_40 rfl ?_
      refine Z_iret (pc := 45) ok okr dX11_raise_45 ?_
      exact ⟨_, rfl, Or.inr ⟨h, q1, q2, Or.inl ⟨a1, rfl, a2⟩⟩⟩
    · refine Z_if_eq (pc := 25) (tgt := 43) ok dX11_raise_25 rfl (by first | omega | (simp [sz, uz]; omega)) (fun _ => ?_) (fun h => by exfalso; omega)
      refine Z_bipush (pc := 43) ok dX11_raise_43 (by decide) ?_
      refine Z_iret (pc := 45) ok okr dX11_raise_45 ?_
      exact ⟨_, rfl, Or.inr ⟨h, q1, q2, Or.inr ⟨fun q => a1 ⟨⟨fun q => by omega, fun _ => h⟩, q⟩, rfl, a2⟩⟩⟩
  · refine Z_iconst (pc := 17) ok dX11_raise_17 ?_
    refine Z_iret (pc := 18) ok okr dX11_raise_18 ?_
    exact ⟨_, rfl, Or.inl ⟨h, rfl, rfl, rfl⟩⟩
theorem c_stays {w : Int} (hw : -2147483648 ≤ w ∧ w ≤ 2147483647) (h1 : gR (I 2 0) (I 3)) : K_X11_stays l G [zr G 0, zi w] I J (fun v I' J' => ∃ r, v = some (zi r) ∧ (I' = I ∧ J' = J ∧ (((w ≠ 0 ∧ w ≠ 1) ∧ r = -1) ∨ (w = 0 ∧ r = su (fun k => zb (sam (I 3) (I 2 0) k 0)) (I 2 0)) ∨ (w = 1 ∧ r = fz (fun k => sam (I 3) (I 2 0) k 0) (I 2 0) 1 (I 2 0))))) := by
  have hn := h1.1
  refine Cz.of rfl (Nat.le_of_ble_eq_true rfl) [some (zr G 0), some (zi w), none, none, none, none] rfl (fun E ok okr hE => ?_)
  have main : (w = 0 ∨ w = 1) → Xz E G I J 11 [some (zr G 0), some (zi w), none, none, none, none] [] := by
    intro hw2
    refine Z_aload0 (pc := 11) ok dX11_stays_11 ?_
    refine g_X11_state (pc := 12) (t := 1) ok dX11_stays_12 kw340 rfl rfl ?_
    refine g_X8_row (pc := 15) (t := 2) ok dX11_stays_15 kw148 rfl rfl ?_
    refine Z_astore2 (pc := 18) ok (by decide) dX11_stays_18 rfl ?_
    refine Z_iconst (pc := 19) ok dX11_stays_19 ?_
    refine Z_istore3 (pc := 20) ok (by decide) dX11_stays_20 rfl ?_
    refine Z_aload2 (pc := 21) ok dX11_stays_21 ?_
    refine g_X5_n (pc := 22) ok dX11_stays_22 kw96 rfl ?_
    refine Z_istore4 (pc := 25) ok (by decide) dX11_stays_25 rfl ?_
    refine Z_aload2 (pc := 27) ok dX11_stays_27 ?_
    refine g_X5_n (pc := 28) ok dX11_stays_28 kw96 rfl ?_
    refine Z_iconst (pc := 31) ok dX11_stays_31 ?_
    refine Z_isub (pc := 32) ok dX11_stays_32 ?_
    refine Z_istore5 (pc := 33) ok (by decide) dX11_stays_33 rfl ?_
    have H : ∀ k : Int, 0 ≤ k → k ≤ I 2 0 - 1 → Xz E G I J 35 [some (zr G 0), some (zi w), some (zr G 2), some (zi (1 + su (fun k => zb (sam (I 3) (I 2 0) k 0)) (I 2 0) - su (fun k => zb (sam (I 3) (I 2 0) k 0)) (k + 1))), some (zi (fz (fun k => sam (I 3) (I 2 0) k 0) (I 2 0) (k + 1) (I 2 0))), some (zi k)] [] := by
      refine zDown ?_ ?_
      · intro _
        have e1 : su (fun k => zb (sam (I 3) (I 2 0) k 0)) (0 + 1) = 1 := by rw [su_s _ (Int.le_refl 0), su_0, zb_t (sam_0 _ _)]; rfl
        rw [e1, show 1 + su (fun k => zb (sam (I 3) (I 2 0) k 0)) (I 2 0) - 1 = su (fun k => zb (sam (I 3) (I 2 0) k 0)) (I 2 0) by omega]
        refine Z_iload5 (pc := 35) ok dX11_stays_35 ?_
        refine Z_if_le (pc := 37) (tgt := 63) ok dX11_stays_37 rfl (by first | omega | (simp [sz, uz]; omega)) (fun _ => ?_) (fun h => by exfalso; omega)
        refine Z_iload1 (pc := 63) ok dX11_stays_63 ?_
        refine Z_if_ne (pc := 64) (tgt := 71) ok dX11_stays_64 rfl (by first | omega | (simp [sz, uz]; omega)) (fun h => ?_) (fun h => ?_)
        · refine Z_iload4 (pc := 71) ok dX11_stays_71 ?_
          refine Z_iret (pc := 73) ok okr dX11_stays_73 ?_
          exact ⟨_, rfl, rfl, rfl, Or.inr (Or.inr ⟨by omega, rfl⟩)⟩
        · refine Z_iload3 (pc := 67) ok dX11_stays_67 ?_
          refine Z_goto (pc := 68) (tgt := 73) ok dX11_stays_68 rfl ?_
          refine Z_iret (pc := 73) ok okr dX11_stays_73 ?_
          exact ⟨_, rfl, rfl, rfl, Or.inr (Or.inl ⟨h, rfl⟩)⟩
      · intro k k0 ih k1
        have ih := ih (by omega)
        rw [show k - 1 + 1 = k by omega] at ih
        rw [su_s _ (show 0 ≤ k by omega)]
        refine Z_iload5 (pc := 35) ok dX11_stays_35 ?_
        refine Z_if_le (pc := 37) (tgt := 63) ok dX11_stays_37 rfl (by first | omega | (simp [sz, uz]; omega)) (fun h => by exfalso; omega) (fun _ => ?_)
        refine Z_aload2 (pc := 40) ok dX11_stays_40 ?_
        refine Z_iload5 (pc := 41) ok dX11_stays_41 ?_
        refine Z_iconst (pc := 43) ok dX11_stays_43 ?_
        refine Z_callVI (pc := 44) ok dX11_stays_44 cw_X11_171 rfl rfl (by decide) (c_Row_compareTurned rfl h1 ⟨by omega, by show k < I 2 0; omega⟩ ⟨by omega, by show (0 : Int) < I 2 0; omega⟩) rfl rfl (by decide) (Nat.le_of_ble_eq_true rfl) (fun r I1 J1 q => ?_)
        obtain ⟨q1, q2, q3, rfl, rfl⟩ := q
        have q2 : r = 0 ↔ sam (I1 3) (I1 2 0) k 0 := q2
        refine Z_if_ne (pc := 47) (tgt := 57) ok dX11_stays_47 rfl (by first | omega | (simp [sz, uz]; omega)) (fun h => ?_) (fun h => ?_)
        · refine Z_iinc5 (pc := 57) ok (by decide) dX11_stays_57 rfl ?_
          refine Z_goto (pc := 60) (tgt := 35) ok dX11_stays_60 rfl ?_
          have hs : ¬ sam (I1 3) (I1 2 0) k 0 := fun q => h (q2.mpr q)
          rw [zb_f hs, Int.add_zero]
          rw [fz_miss (P := fun k => sam (I1 3) (I1 2 0) k 0) (by omega) hs] at ih
          exact ih
        · refine Z_iinc3 (pc := 50) ok (by decide) dX11_stays_50 rfl ?_
          refine Z_iload5 (pc := 53) ok dX11_stays_53 ?_
          refine Z_istore4 (pc := 55) ok (by decide) dX11_stays_55 rfl ?_
          refine Z_iinc5 (pc := 57) ok (by decide) dX11_stays_57 rfl ?_
          refine Z_goto (pc := 60) (tgt := 35) ok dX11_stays_60 rfl ?_
          have hs : sam (I1 3) (I1 2 0) k 0 := q2.mp h
          rw [zb_t hs]
          rw [fz_hit (P := fun k => sam (I1 3) (I1 2 0) k 0) (by omega) hs] at ih
          refine Z_to ih rfl rfl ?_ rfl
          simp only [List.cons.injEq, Option.some.injEq, and_true, true_and]
          exact ⟨by congr 1; omega, by congr 1⟩
    have h0 := H (I 2 0 - 1) (by omega) (by omega)
    rw [show I 2 0 - 1 + 1 = I 2 0 by omega, fz_end _ _ (Int.le_refl _), show 1 + su (fun k => zb (sam (I 3) (I 2 0) k 0)) (I 2 0) - su (fun k => zb (sam (I 3) (I 2 0) k 0)) (I 2 0) = 1 by omega] at h0
    exact h0
  refine Z_iload1 (pc := 0) ok dX11_stays_0 ?_
  refine Z_if_eq (pc := 1) (tgt := 11) ok dX11_stays_1 rfl (by first | omega | (simp [sz, uz]; omega)) (fun h => ?_) (fun h => ?_)
  · exact main (Or.inl h)
  · refine Z_iload1 (pc := 4) ok dX11_stays_4 ?_
    refine Z_iconst (pc := 5) ok dX11_stays_5 ?_
    refine Z_icmp_eq (pc := 6) (tgt := 11) ok dX11_stays_6 rfl (by first | omega | (simp [sz, uz]; omega)) (by first | omega | (simp [sz, uz]; omega)) (fun h2 => ?_) (fun h2 => ?_)
    · exact main (Or.inr h2)
    · refine Z_iconst (pc := 9) ok dX11_stays_9 ?_
      refine Z_iret (pc := 10) ok okr dX11_stays_10 ?_
      exact ⟨_, rfl, rfl, rfl, Or.inl ⟨⟨h, h2⟩, rfl⟩⟩
theorem c_best (h1 : gR (I 2 0) (I 3)) : K_X11_best l G [zr G 0] I J (pR (some (zi (bst (I 3) (I 2 0) (I 2 0 - 1).toNat))) I J) := by
  have hn := h1.1
  refine Cz.of rfl (Nat.le_of_ble_eq_true rfl) [some (zr G 0), none, none, none] rfl (fun E ok okr hE => ?_)
  refine Z_aload0 (pc := 0) ok dX11_best_0 ?_
  refine g_X11_state (pc := 1) (t := 1) ok dX11_best_1 kw340 rfl rfl ?_
  refine g_X8_row (pc := 4) (t := 2) ok dX11_best_4 kw148 rfl rfl ?_
  refine Z_astore1 (pc := 7) ok (by decide) dX11_best_7 rfl ?_
  refine Z_iconst (pc := 8) ok dX11_best_8 ?_
  refine Z_istore2 (pc := 9) ok (by decide) dX11_best_9 rfl ?_
  refine Z_iconst (pc := 10) ok dX11_best_10 ?_
  refine Z_istore3 (pc := 11) ok (by decide) dX11_best_11 rfl ?_
  have H : ∀ k : Int, 1 ≤ k → k ≤ I 2 0 → Xz E G I J 12 [some (zr G 0), some (zr G 2), some (zi (bst (I 3) (I 2 0) (k - 1).toNat)), some (zi k)] [] := by
    refine zUp ?_ ?_
    · refine Z_iload3 (pc := 12) ok dX11_best_12 ?_
      refine Z_aload1 (pc := 13) ok dX11_best_13 ?_
      refine g_X5_n (pc := 14) ok dX11_best_14 kw96 rfl ?_
      refine Z_icmp_ge (pc := 17) (tgt := 37) ok dX11_best_17 rfl (by first | omega | (simp [sz, uz]; omega)) (by first | omega | (simp [sz, uz]; omega)) (fun _ => ?_) (fun h => by exfalso; omega)
      refine Z_iload2 (pc := 37) ok dX11_best_37 ?_
      refine Z_iret (pc := 38) ok okr dX11_best_38 ?_
      exact ⟨rfl, rfl, rfl⟩
    · intro k k0 k1 ih
      have hb := bst_b (I 3) (I 2 0) (k - 1).toNat
      rw [show (k + 1 - 1).toNat = (k - 1).toNat + 1 by omega, bst, show (((k - 1).toNat : Nat) : Int) + 1 = k by omega] at ih
      refine Z_iload3 (pc := 12) ok dX11_best_12 ?_
      refine Z_aload1 (pc := 13) ok dX11_best_13 ?_
      refine g_X5_n (pc := 14) ok dX11_best_14 kw96 rfl ?_
      refine Z_icmp_ge (pc := 17) (tgt := 37) ok dX11_best_17 rfl (by first | omega | (simp [sz, uz]; omega)) (by first | omega | (simp [sz, uz]; omega)) (fun h => by exfalso; omega) (fun _ => ?_)
      refine Z_aload1 (pc := 20) ok dX11_best_20 ?_
      refine Z_iload3 (pc := 21) ok dX11_best_21 ?_
      refine Z_iload2 (pc := 22) ok dX11_best_22 ?_
      refine Z_callVI (pc := 23) ok dX11_best_23 cw_X11_171 rfl rfl (by decide) (c_Row_compareTurned rfl h1 ⟨by omega, by show k < I 2 0; omega⟩ ⟨by omega, by show bst (I 3) (I 2 0) (k - 1).toNat < I 2 0; omega⟩) rfl rfl (by decide) (Nat.le_of_ble_eq_true rfl) (fun r I1 J1 q => ?_)
      obtain ⟨q1, q2, q3, rfl, rfl⟩ := q
      have q3 : 0 < r ↔ ahd (I1 3) (I1 2 0) k (bst (I1 3) (I1 2 0) (k - 1).toNat) := q3
      refine Z_if_le (pc := 26) (tgt := 31) ok dX11_best_26 rfl (by first | omega | (simp [sz, uz]; omega)) (fun h => ?_) (fun h => ?_)
      · refine Z_iinc3 (pc := 31) ok (by decide) dX11_best_31 rfl ?_
        refine Z_goto (pc := 34) (tgt := 12) ok dX11_best_34 rfl ?_
        rw [if_neg (fun q => by have := q3.mpr q; omega)] at ih
        exact ih
      · refine Z_iload3 (pc := 29) ok dX11_best_29 ?_
        refine Z_istore2 (pc := 30) ok (by decide) dX11_best_30 rfl ?_
        refine Z_iinc3 (pc := 31) ok (by decide) dX11_best_31 rfl ?_
        refine Z_goto (pc := 34) (tgt := 12) ok dX11_best_34 rfl ?_
        rw [if_pos (q3.mp h)] at ih
        exact ih
  exact H 1 (by omega) (by omega)
theorem c_alike {i : Int} (hi : -2147483648 ≤ i ∧ i ≤ 2147483647) (h1 : gR (I 2 0) (I 3)) (hl : lsOk I J) : K_X11_alike l G [zr G 0, zi i] I J (fun v I' J' => ∃ r, v = some (zi r) ∧ (I' = I ∧ J' = J ∧ ((¬ (0 ≤ i ∧ i < 3) ∧ r = -1) ∨ ((0 ≤ i ∧ i < 3) ∧ I (lc i) 0 < 0 ∧ r = -11) ∨ ((0 ≤ i ∧ i < 3) ∧ 0 ≤ I (lc i) 0 ∧ I (lc i) 0 ≠ I 2 0 ∧ r = -5) ∨ ((0 ≤ i ∧ i < 3) ∧ I (lc i) 0 = I 2 0 ∧ r = fz (fun k => ∀ j, 0 ≤ j → j < I 2 0 → tn (I 3) (I 2 0) k j = J (lc i + 1) j) (-5) 0 (I 2 0))))) := by
  have hn := h1.1
  refine Cz.of rfl (Nat.le_of_ble_eq_true rfl) [some (zr G 0), some (zi i), none, none] rfl (fun E ok okr hE => ?_)
  refine Z_iload1 (pc := 0) ok dX11_alike_0 ?_
  refine Z_callSId (pc := 1) ok dX11_alike_1 cw_X11_175 (c_isList hi) rfl rfl (by decide) (Nat.le_of_ble_eq_true rfl) ?_
  refine Z_if_neB (pc := 4) (tgt := 9) ok dX11_alike_4 rfl (fun h => ?_) (fun h => ?_)
  · obtain ⟨hs, hJ⟩ := hl i h.1 h.2
    refine Z_aload0 (pc := 9) ok dX11_alike_9 ?_
    refine g_X11_lists (pc := 10) (t := 103) ok dX11_alike_10 kw347 rfl rfl ?_
    refine Z_iload1 (pc := 13) ok dX11_alike_13 ?_
    refine Z_aald (pc := 14) (r := (lc i)) (L := 3) ok dX11_alike_14 (t := 3) rfl (by decide) rfl rfl (by first | omega | (simp [sz, uz]; omega)) (lc_rf h) ?_
    refine Z_astore2 (pc := 15) ok (by decide) dX11_alike_15 rfl ?_
    refine Z_aload2 (pc := 16) ok dX11_alike_16 ?_
    refine Z_callVId (pc := 17) ok dX11_alike_17 cw_X11_178 rfl (lc_kd h) (by decide) (c_LongList_isMissing (lc_kd h) hs) rfl rfl (by decide) (Nat.le_of_ble_eq_true rfl) ?_
    refine Z_if_eqB (pc := 20) (tgt := 26) ok dX11_alike_20 rfl (fun h2 => ?_) (fun h2 => ?_)
    · refine Z_aload2 (pc := 26) ok dX11_alike_26 ?_
      refine g_X2_size (pc := 27) ok dX11_alike_27 kw288 (lc_kd h) ?_
      refine Z_aload0 (pc := 30) ok dX11_alike_30 ?_
      refine g_X11_state (pc := 31) (t := 1) ok dX11_alike_31 kw340 rfl rfl ?_
      refine g_X8_row (pc := 34) (t := 2) ok dX11_alike_34 kw148 rfl rfl ?_
      refine g_X5_n (pc := 37) ok dX11_alike_37 kw96 rfl ?_
      refine Z_icmp_eq (pc := 40) (tgt := 46) ok dX11_alike_40 rfl (by first | omega | (simp [sz, uz]; omega)) (by first | omega | (simp [sz, uz]; omega)) (fun h3 => ?_) (fun h3 => ?_)
      · refine Z_iconst (pc := 46) ok dX11_alike_46 ?_
        refine Z_istore3 (pc := 47) ok (by decide) dX11_alike_47 rfl ?_
        have H : ∀ k : Int, 0 ≤ k → k ≤ I 2 0 → fz (fun k => ∀ j, 0 ≤ j → j < I 2 0 → tn (I 3) (I 2 0) k j = J (lc i + 1) j) (-5) k (I 2 0) = fz (fun k => ∀ j, 0 ≤ j → j < I 2 0 → tn (I 3) (I 2 0) k j = J (lc i + 1) j) (-5) 0 (I 2 0) → Xz E G I J 48 [some (zr G 0), some (zi i), some (zr G (lc i)), some (zi k)] [] := by
          refine zUp ?_ ?_
          · intro hf
            refine Z_iload3 (pc := 48) ok dX11_alike_48 ?_
            refine Z_aload0 (pc := 49) ok dX11_alike_49 ?_
            refine g_X11_state (pc := 50) (t := 1) ok dX11_alike_50 kw340 rfl rfl ?_
            refine g_X8_row (pc := 53) (t := 2) ok dX11_alike_53 kw148 rfl rfl ?_
            refine g_X5_n (pc := 56) ok dX11_alike_56 kw96 rfl ?_
            refine Z_icmp_ge (pc := 59) (tgt := 88) ok dX11_alike_59 rfl (by first | omega | (simp [sz, uz]; omega)) (by first | omega | (simp [sz, uz]; omega)) (fun _ => ?_) (fun h => by exfalso; omega)
            refine Z_bipush (pc := 88) ok dX11_alike_88 (by decide) ?_
            refine Z_iret (pc := 90) ok okr dX11_alike_90 ?_
            exact ⟨_, rfl, rfl, rfl, Or.inr (Or.inr (Or.inr ⟨h, h3, by rw [← hf, fz_end _ _ (Int.le_refl _)]⟩))⟩
          · intro k k0 k1 ih hf
            refine Z_iload3 (pc := 48) ok dX11_alike_48 ?_
            refine Z_aload0 (pc := 49) ok dX11_alike_49 ?_
            refine g_X11_state (pc := 50) (t := 1) ok dX11_alike_50 kw340 rfl rfl ?_
            refine g_X8_row (pc := 53) (t := 2) ok dX11_alike_53 kw148 rfl rfl ?_
            refine g_X5_n (pc := 56) ok dX11_alike_56 kw96 rfl ?_
            refine Z_icmp_ge (pc := 59) (tgt := 88) ok dX11_alike_59 rfl (by first | omega | (simp [sz, uz]; omega)) (by first | omega | (simp [sz, uz]; omega)) (fun h => by exfalso; omega) (fun _ => ?_)
            refine Z_aload0 (pc := 62) ok dX11_alike_62 ?_
            refine g_X11_state (pc := 63) (t := 1) ok dX11_alike_63 kw340 rfl rfl ?_
            refine g_X8_row (pc := 66) (t := 2) ok dX11_alike_66 kw148 rfl rfl ?_
            refine Z_iload3 (pc := 69) ok dX11_alike_69 ?_
            refine Z_aload2 (pc := 70) ok dX11_alike_70 ?_
            refine g_X2_values (pc := 71) (t := ((lc i) + 1)) ok dX11_alike_71 kw290 (lc_kd h) (ll_rf (lc_kd h)) ?_
            refine Z_callVId (pc := 74) ok dX11_alike_74 cw_X11_188 rfl rfl (by decide) (c_Row_isToldTurned rfl (ll_kd (lc_kd h)) (ll_ln (lc_kd h)) h1 ⟨k0, k1⟩ hJ) rfl rfl (by decide) (Nat.le_of_ble_eq_true rfl) ?_
            refine Z_if_eqB (pc := 77) (tgt := 82) ok dX11_alike_77 rfl (fun h4 => ?_) (fun h4 => ?_)
            · refine Z_iinc3 (pc := 82) ok (by decide) dX11_alike_82 rfl ?_
              refine Z_goto (pc := 85) (tgt := 48) ok dX11_alike_85 rfl ?_
              rw [fz_miss (P := fun k => ∀ j, 0 ≤ j → j < I 2 0 → tn (I 3) (I 2 0) k j = J (lc i + 1) j) k1 h4] at hf
              exact ih hf
            · refine Z_iload3 (pc := 80) ok dX11_alike_80 ?_
              refine Z_iret (pc := 81) ok okr dX11_alike_81 ?_
              rw [fz_hit (P := fun k => ∀ j, 0 ≤ j → j < I 2 0 → tn (I 3) (I 2 0) k j = J (lc i + 1) j) k1 h4] at hf
              exact ⟨_, rfl, rfl, rfl, Or.inr (Or.inr (Or.inr ⟨h, h3, hf⟩))⟩
        exact H 0 (by omega) (by omega) rfl
      · refine Z_bipush (pc := 43) ok dX11_alike_43 (by decide) ?_
        refine Z_iret (pc := 45) ok okr dX11_alike_45 ?_
        exact ⟨_, rfl, rfl, rfl, Or.inr (Or.inr (Or.inl ⟨h, by omega, h3, rfl⟩))⟩
    · refine Z_bipush (pc := 23) ok dX11_alike_23 (by decide) ?_
      refine Z_iret (pc := 25) ok okr dX11_alike_25 ?_
      exact ⟨_, rfl, rfl, rfl, Or.inr (Or.inl ⟨h, h2, rfl⟩)⟩
  · refine Z_iconst (pc := 7) ok dX11_alike_7 ?_
    refine Z_iret (pc := 8) ok okr dX11_alike_8 ?_
    exact ⟨_, rfl, rfl, rfl, Or.inl ⟨h, rfl⟩⟩
theorem c_prime {i : Int} (hi : -2147483648 ≤ i ∧ i ≤ 2147483647) (h1 : gR (I 2 0) (I 3)) : K_X11_prime l G [zr G 0, zi i] I J (fun v I' J' => ∃ r, v = some (zi r) ∧ (I' = I ∧ J' = J ∧ ((i < -1 ∧ r = -1) ∨ (-1 ≤ i ∧ r = fz (fun p => isP p (I 2 0) ∧ su (fun q => zb (isP q (I 2 0))) p = i) (if i = -1 then su (fun q => zb (isP q (I 2 0))) (I 2 0 + 1) else -1) 2 (I 2 0 + 1))))) := by
  have hn := h1.1
  refine Cz.of rfl (Nat.le_of_ble_eq_true rfl) [some (zr G 0), some (zi i), none, none] rfl (fun E ok okr hE => ?_)
  refine Z_iload1 (pc := 0) ok dX11_prime_0 ?_
  refine Z_iconst (pc := 1) ok dX11_prime_1 ?_
  refine Z_icmp_ge (pc := 2) (tgt := 7) ok dX11_prime_2 rfl (by first | omega | (simp [sz, uz]; omega)) (by first | omega | (simp [sz, uz]; omega)) (fun h => ?_) (fun h => ?_)
  · refine Z_iconst (pc := 7) ok dX11_prime_7 ?_
    refine Z_istore2 (pc := 8) ok (by decide) dX11_prime_8 rfl ?_
    refine Z_iconst (pc := 9) ok dX11_prime_9 ?_
    refine Z_istore3 (pc := 10) ok (by decide) dX11_prime_10 rfl ?_
    have H : ∀ p : Int, 2 ≤ p → p ≤ I 2 0 + 1 → fz (fun p => isP p (I 2 0) ∧ su (fun q => zb (isP q (I 2 0))) p = i) (if i = -1 then su (fun q => zb (isP q (I 2 0))) (I 2 0 + 1) else -1) p (I 2 0 + 1) = fz (fun p => isP p (I 2 0) ∧ su (fun q => zb (isP q (I 2 0))) p = i) (if i = -1 then su (fun q => zb (isP q (I 2 0))) (I 2 0 + 1) else -1) 2 (I 2 0 + 1) → Xz E G I J 11 [some (zr G 0), some (zi i), some (zi (su (fun q => zb (isP q (I 2 0))) p)), some (zi p)] [] := by
      refine zUp ?_ ?_
      · intro hf
        rw [fz_end _ _ (Int.le_refl _)] at hf
        refine Z_iload3 (pc := 11) ok dX11_prime_11 ?_
        refine Z_aload0 (pc := 12) ok dX11_prime_12 ?_
        refine g_X11_state (pc := 13) (t := 1) ok dX11_prime_13 kw340 rfl rfl ?_
        refine g_X8_row (pc := 16) (t := 2) ok dX11_prime_16 kw148 rfl rfl ?_
        refine g_X5_n (pc := 19) ok dX11_prime_19 kw96 rfl ?_
        refine Z_icmp_gt (pc := 22) (tgt := 58) ok dX11_prime_22 rfl (by first | omega | (simp [sz, uz]; omega)) (by first | omega | (simp [sz, uz]; omega)) (fun _ => ?_) (fun h => by exfalso; omega)
        refine Z_iload1 (pc := 58) ok dX11_prime_58 ?_
        refine Z_iconst (pc := 59) ok dX11_prime_59 ?_
        refine Z_icmp_ne (pc := 60) (tgt := 67) ok dX11_prime_60 rfl (by first | omega | (simp [sz, uz]; omega)) (by first | omega | (simp [sz, uz]; omega)) (fun h2 => ?_) (fun h2 => ?_)
        · refine Z_iconst (pc := 67) ok dX11_prime_67 ?_
          refine Z_iret (pc := 68) ok okr dX11_prime_68 ?_
          rw [if_neg h2] at hf
          rw [if_neg h2]
          exact ⟨_, rfl, rfl, rfl, Or.inr ⟨h, hf⟩⟩
        · refine Z_iload2 (pc := 63) ok dX11_prime_63 ?_
          refine Z_goto (pc := 64) (tgt := 68) ok dX11_prime_64 rfl ?_
          refine Z_iret (pc := 68) ok okr dX11_prime_68 ?_
          rw [if_pos h2] at hf
          rw [if_pos h2]
          exact ⟨_, rfl, rfl, rfl, Or.inr ⟨h, hf⟩⟩
      · intro p p0 p1 ih hf
        have hz := su_zb (fun q => isP q (I 2 0)) (e := p) (by omega)
        rw [su_s _ (show 0 ≤ p by omega)] at ih
        refine Z_iload3 (pc := 11) ok dX11_prime_11 ?_
        refine Z_aload0 (pc := 12) ok dX11_prime_12 ?_
        refine g_X11_state (pc := 13) (t := 1) ok dX11_prime_13 kw340 rfl rfl ?_
        refine g_X8_row (pc := 16) (t := 2) ok dX11_prime_16 kw148 rfl rfl ?_
        refine g_X5_n (pc := 19) ok dX11_prime_19 kw96 rfl ?_
        refine Z_icmp_gt (pc := 22) (tgt := 58) ok dX11_prime_22 rfl (by first | omega | (simp [sz, uz]; omega)) (by first | omega | (simp [sz, uz]; omega)) (fun h => by exfalso; omega) (fun _ => ?_)
        refine Z_iload3 (pc := 25) ok dX11_prime_25 ?_
        refine Z_aload0 (pc := 26) ok dX11_prime_26 ?_
        refine g_X11_state (pc := 27) (t := 1) ok dX11_prime_27 kw340 rfl rfl ?_
        refine g_X8_row (pc := 30) (t := 2) ok dX11_prime_30 kw148 rfl rfl ?_
        refine g_X5_n (pc := 33) ok dX11_prime_33 kw96 rfl ?_
        refine Z_callSId (pc := 36) ok dX11_prime_36 cw_X11_168 (c_isPrimeOf (by omega) hn) rfl rfl (by decide) (Nat.le_of_ble_eq_true rfl) ?_
        refine Z_if_eqB (pc := 39) (tgt := 52) ok dX11_prime_39 rfl (fun h2 => ?_) (fun h2 => ?_)
        · refine Z_iinc3 (pc := 52) ok (by decide) dX11_prime_52 rfl ?_
          refine Z_goto (pc := 55) (tgt := 11) ok dX11_prime_55 rfl ?_
          rw [zb_f h2, Int.add_zero] at ih
          rw [fz_miss (P := fun p => isP p (I 2 0) ∧ su (fun q => zb (isP q (I 2 0))) p = i) p1 (fun q => h2 q.1)] at hf
          exact ih hf
        · rw [zb_t h2] at ih
          refine Z_iload2 (pc := 42) ok dX11_prime_42 ?_
          refine Z_iload1 (pc := 43) ok dX11_prime_43 ?_
          refine Z_icmp_ne (pc := 44) (tgt := 49) ok dX11_prime_44 rfl (by first | omega | (simp [sz, uz]; omega)) (by first | omega | (simp [sz, uz]; omega)) (fun h3 => ?_) (fun h3 => ?_)
          · refine Z_iinc2 (pc := 49) ok (by decide) dX11_prime_49 rfl ?_
            refine Z_iinc3 (pc := 52) ok (by decide) dX11_prime_52 rfl ?_
            refine Z_goto (pc := 55) (tgt := 11) ok dX11_prime_55 rfl ?_
            rw [fz_miss (P := fun p => isP p (I 2 0) ∧ su (fun q => zb (isP q (I 2 0))) p = i) p1 (fun q => h3 q.2)] at hf
            exact ih hf
          · refine Z_iload3 (pc := 47) ok dX11_prime_47 ?_
            refine Z_iret (pc := 48) ok okr dX11_prime_48 ?_
            rw [fz_hit (P := fun p => isP p (I 2 0) ∧ su (fun q => zb (isP q (I 2 0))) p = i) p1 ⟨h2, h3⟩] at hf
            exact ⟨_, rfl, rfl, rfl, Or.inr ⟨h, hf⟩⟩
    refine H 2 (by omega) (by omega) rfl |> fun q => ?_
    have e2 : su (fun q => zb (isP q (I 2 0))) 2 = 0 := by
      rw [show (2 : Int) = 0 + 1 + 1 from rfl, su_s _ (by omega), su_s _ (by omega), su_0, zb_f (fun q => by have := q.1; omega), zb_f (fun q => by have := q.1; omega)]; rfl
    rw [e2] at q
    exact q
  · refine Z_iconst (pc := 5) ok dX11_prime_5 ?_
    refine Z_iret (pc := 6) ok okr dX11_prime_6 ?_
    exact ⟨_, rfl, rfl, rfl, Or.inl ⟨h, rfl⟩⟩
end
