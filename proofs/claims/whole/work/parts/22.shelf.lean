/-! plans, shelves, lists, tape, image of the class -/
def plOk (I : Mz) (p : Nat) : Prop := (0 ≤ I p 0 ∧ I p 0 ≤ 8) ∧ ∀ i, 0 ≤ i → i < I p 0 → (0 ≤ I (p + 1) i ∧ I (p + 1) i ≤ 3) ∧ (-2147483648 ≤ I (p + 2) i ∧ I (p + 2) i ≤ 2147483647)
def shOk (I : Mz) (s : Nat) : Prop := (0 ≤ I s 0 ∧ I s 0 ≤ 8) ∧ ∀ m, 0 ≤ m → m < I s 0 → gR (I (rc s m) 0) (I (rc s m + 1))
def sc (i : Int) : Nat := 8 + 18 * i.toNat
theorem sc_kd {i : Int} (h : 0 ≤ i ∧ i < 2) : kd (sc i) = 6 := by
  have : i = 0 ∨ i = 1 := by omega
  rcases this with rfl | rfl <;> rfl
theorem sc_rf {i : Int} (h : 0 ≤ i ∧ i < 2) : rf 7 i.toNat = sc i := by
  have : i = 0 ∨ i = 1 := by omega
  rcases this with rfl | rfl <;> rfl
noncomputable def whF (K V : Int → Int) (n e : Int) : Nat → Int
  | 0 => e
  | k + 1 => @ite Int (cCh (K k) (V k) n) (Classical.propDecidable _) (mv (K k) (V k) n (whF K V n e k)) (whF K V n e k)
def rnP (a v n : Int) (c : Int → Int) : Prop := cCh a v n ∧ ∀ t, chg a v n c t ≤ 9
noncomputable def rnR (K V : Int → Int) (n : Int) (c : Int → Int) : Nat → (Int → Int)
  | 0 => c
  | k + 1 => @ite (Int → Int) (rnP (K k) (V k) n (rnR K V n c k)) (Classical.propDecidable _) (chg (K k) (V k) n (rnR K V n c k)) (rnR K V n c k)
theorem rnR_g {K V : Int → Int} {n : Int} {c : Int → Int} (h : gR n c) : ∀ k, gR n (rnR K V n c k)
  | 0 => h
  | k + 1 => by
    simp only [rnR]
    by_cases hp : rnP (K k) (V k) n (rnR K V n c k)
    · rw [if_pos hp]; exact chg_gR (rnR_g h k) hp.2
    · rw [if_neg hp]; exact rnR_g h k
def lgF (W : Int → Int) : Nat → Int
  | 0 => 0
  | j + 1 => if W ((j : Int) + 1) < W (lgF W j) then (j : Int) + 1 else lgF W j
theorem lgF_b (W : Int → Int) : ∀ j : Nat, 0 ≤ lgF W j ∧ lgF W j ≤ j
  | 0 => ⟨Int.le_refl _, Int.le_refl _⟩
  | j + 1 => by
    have := lgF_b W j
    simp only [lgF]; split <;> omega
theorem gR_su {n : Int} {c : Int → Int} (h : gR n c) : 0 ≤ su c n ∧ su c n ≤ 270 := by
  have h1 := su_le (f := c) (g := fun _ => 9) (e := n) (fun j _ _ => (h.2.1 j).2)
  have hn := h.1
  rw [su_k _ (by omega)] at h1
  have h2 := su_nn (f := c) (e := n) (fun j _ _ => (h.2.1 j).1)
  omega
theorem rc_sc_ne {i m : Int} (q : Nat) (h : 0 ≤ i ∧ i < 2) (hm : 0 ≤ m ∧ m < 8) (hq : q < 8 ∨ 44 ≤ q) : rc (sc i) m ≠ q ∧ rc (sc i) m + 1 ≠ q := by
  simp only [rc, sc]; omega
section
variable {l : Launch} {G : Gw} {I J : Mz}
theorem c_plan {a v : Int} (ha : -2147483648 ≤ a ∧ a ≤ 2147483647) (hp : plOk I 4) : K_X11_plan l G [zr G 0, zi a, zi v] I J (fun w I' J' => ∃ r, w = some (zi r) ∧ (J' = J ∧ ((¬ (0 ≤ a ∧ a ≤ 3) ∧ r = -1 ∧ I' = I) ∨ ((0 ≤ a ∧ a ≤ 3) ∧ I 4 0 = 8 ∧ r = -4 ∧ I' = I) ∨ ((0 ≤ a ∧ a ≤ 3) ∧ I 4 0 < 8 ∧ r = I 4 0 + 1 ∧ I' = sz (sz (sz I 5 (uz (I 5) (I 4 0) a)) 6 (uz (I 6) (I 4 0) v)) 4 (uz (I 4) 0 (I 4 0 + 1)))))) := by
  have h0 := hp.1
  refine Cz.of rfl (Nat.le_of_ble_eq_true rfl) [some (zr G 0), some (zi a), some (zi v), none] rfl (fun E ok okr hE => ?_)
  refine Z_iload1 (pc := 0) ok dX11_plan_0 ?_
  refine Z_if_lt (pc := 1) (tgt := 9) ok dX11_plan_1 rfl (by first | omega | (simp [sz, uz]; omega)) (fun h => ?_) (fun h => ?_)
  · refine Z_iconst (pc := 9) ok dX11_plan_9 ?_
    refine Z_iret (pc := 10) ok okr dX11_plan_10 ?_
    exact ⟨_, rfl, rfl, Or.inl ⟨by omega, rfl, rfl⟩⟩
  · refine Z_iload1 (pc := 4) ok dX11_plan_4 ?_
    refine Z_iconst (pc := 5) ok dX11_plan_5 ?_
    refine Z_icmp_le (pc := 6) (tgt := 11) ok dX11_plan_6 rfl (by first | omega | (simp [sz, uz]; omega)) (by first | omega | (simp [sz, uz]; omega)) (fun h2 => ?_) (fun h2 => ?_)
    · refine Z_aload0 (pc := 11) ok dX11_plan_11 ?_
      refine g_X11_state (pc := 12) (t := 1) ok dX11_plan_12 kw340 rfl rfl ?_
      refine g_X8_plan (pc := 15) (t := 4) ok dX11_plan_15 kw150 rfl rfl ?_
      refine Z_astore3 (pc := 18) ok (by decide) dX11_plan_18 rfl ?_
      refine Z_aload3 (pc := 19) ok dX11_plan_19 ?_
      refine g_X4_size (pc := 20) ok dX11_plan_20 kw116 rfl ?_
      refine Z_bipush (pc := 23) ok dX11_plan_23 (by decide) ?_
      refine Z_icmp_lt (pc := 25) (tgt := 31) ok dX11_plan_25 rfl (by first | omega | (simp [sz, uz]; omega)) (by first | omega | (simp [sz, uz]; omega)) (fun h3 => ?_) (fun h3 => ?_)
      · refine Z_aload3 (pc := 31) ok dX11_plan_31 ?_
        refine Z_iload1 (pc := 32) ok dX11_plan_32 ?_
        refine Z_iload2 (pc := 33) ok dX11_plan_33 ?_
        refine Z_callVVd (pc := 34) ok dX11_plan_34 cw_X11_230 rfl rfl (by decide) (c_Plan_append rfl ⟨h0.1, h3⟩ a v) rfl rfl (by decide) (Nat.le_of_ble_eq_true rfl) ?_
        refine Z_aload3 (pc := 37) ok dX11_plan_37 ?_
        refine g_X4_size (pc := 38) ok dX11_plan_38 kw116 rfl ?_
        refine Z_iret (pc := 41) ok okr dX11_plan_41 ?_
        exact ⟨_, rfl, rfl, Or.inr (Or.inr ⟨by omega, h3, by rw [sz_eq, uz_eq], rfl⟩)⟩
      · refine Z_bipush (pc := 28) ok dX11_plan_28 (by decide) ?_
        refine Z_iret (pc := 30) ok okr dX11_plan_30 ?_
        exact ⟨_, rfl, rfl, Or.inr (Or.inl ⟨by omega, by omega, rfl, rfl⟩)⟩
    · refine Z_iconst (pc := 9) ok dX11_plan_9 ?_
      refine Z_iret (pc := 10) ok okr dX11_plan_10 ?_
      exact ⟨_, rfl, rfl, Or.inl ⟨by omega, rfl, rfl⟩⟩
theorem c_unplan : K_X11_unplan l G [zr G 0] I J (pR (some (zi (I 4 0))) (sz I 4 (uz (I 4) 0 0)) J) := by
  refine Cz.of rfl (Nat.le_of_ble_eq_true rfl) [some (zr G 0), none] rfl (fun E ok okr hE => ?_)
  refine Z_aload0 (pc := 0) ok dX11_unplan_0 ?_
  refine g_X11_state (pc := 1) (t := 1) ok dX11_unplan_1 kw340 rfl rfl ?_
  refine g_X8_plan (pc := 4) (t := 4) ok dX11_unplan_4 kw150 rfl rfl ?_
  refine g_X4_size (pc := 7) ok dX11_unplan_7 kw116 rfl ?_
  refine Z_istore1 (pc := 10) ok (by decide) dX11_unplan_10 rfl ?_
  refine Z_aload0 (pc := 11) ok dX11_unplan_11 ?_
  refine g_X11_state (pc := 12) (t := 1) ok dX11_unplan_12 kw340 rfl rfl ?_
  refine g_X8_plan (pc := 15) (t := 4) ok dX11_unplan_15 kw150 rfl rfl ?_
  refine Z_iconst (pc := 18) ok dX11_unplan_18 ?_
  refine p_X4_size (pc := 19) ok dX11_unplan_19 kw116 rfl ?_
  refine Z_iload1 (pc := 22) ok dX11_unplan_22 ?_
  refine Z_iret (pc := 23) ok okr dX11_unplan_23 ?_
  exact ⟨rfl, rfl, rfl⟩
theorem c_where {e : Int} (he : -2147483648 ≤ e ∧ e ≤ 2147483647) (h1 : gR (I 2 0) (I 3)) (hp : plOk I 4) : K_X11_where l G [zr G 0, zi e] I J (fun w I' J' => ∃ r, w = some (zi r) ∧ (I' = I ∧ J' = J ∧ ((¬ (0 ≤ e ∧ e < I 2 0) ∧ r = -1) ∨ ((0 ≤ e ∧ e < I 2 0) ∧ r = whF (I 5) (I 6) (I 2 0) e (I 4 0).toNat)))) := by
  have hn := h1.1
  have h0 := hp.1
  refine Cz.of rfl (Nat.le_of_ble_eq_true rfl) [some (zr G 0), some (zi e), none, none, none, none] rfl (fun E ok okr hE => ?_)
  refine Z_aload0 (pc := 0) ok dX11_where_0 ?_
  refine g_X11_state (pc := 1) (t := 1) ok dX11_where_1 kw340 rfl rfl ?_
  refine g_X8_row (pc := 4) (t := 2) ok dX11_where_4 kw148 rfl rfl ?_
  refine Z_iload1 (pc := 7) ok dX11_where_7 ?_
  refine Z_callVId (pc := 8) ok dX11_where_8 cw_X11_106 rfl rfl (by decide) (c_Row_has rfl he (by omega)) rfl rfl (by decide) (Nat.le_of_ble_eq_true rfl) ?_
  refine Z_if_neB (pc := 11) (tgt := 16) ok dX11_where_11 rfl (fun h => ?_) (fun h => ?_)
  · refine Z_aload0 (pc := 16) ok dX11_where_16 ?_
    refine g_X11_state (pc := 17) (t := 1) ok dX11_where_17 kw340 rfl rfl ?_
    refine g_X8_row (pc := 20) (t := 2) ok dX11_where_20 kw148 rfl rfl ?_
    refine g_X5_n (pc := 23) ok dX11_where_23 kw96 rfl ?_
    refine Z_istore2 (pc := 26) ok (by decide) dX11_where_26 rfl ?_
    refine Z_aload0 (pc := 27) ok dX11_where_27 ?_
    refine g_X11_state (pc := 28) (t := 1) ok dX11_where_28 kw340 rfl rfl ?_
    refine g_X8_plan (pc := 31) (t := 4) ok dX11_where_31 kw150 rfl rfl ?_
    refine Z_astore3 (pc := 34) ok (by decide) dX11_where_34 rfl ?_
    refine Z_iload1 (pc := 35) ok dX11_where_35 ?_
    refine Z_istore4 (pc := 36) ok (by decide) dX11_where_36 rfl ?_
    refine Z_iconst (pc := 38) ok dX11_where_38 ?_
    refine Z_istore5 (pc := 39) ok (by decide) dX11_where_39 rfl ?_
    have H : ∀ i : Int, 0 ≤ i → i ≤ I 4 0 → (0 ≤ whF (I 5) (I 6) (I 2 0) e i.toNat ∧ whF (I 5) (I 6) (I 2 0) e i.toNat < I 2 0) → Xz E G I J 41 [some (zr G 0), some (zi e), some (zi (I 2 0)), some (zr G 4), some (zi (whF (I 5) (I 6) (I 2 0) e i.toNat)), some (zi i)] [] := by
      refine zUp ?_ ?_
      · intro hb
        refine Z_iload5 (pc := 41) ok dX11_where_41 ?_
        refine Z_aload3 (pc := 43) ok dX11_where_43 ?_
        refine g_X4_size (pc := 44) ok dX11_where_44 kw116 rfl ?_
        refine Z_icmp_ge (pc := 47) (tgt := 99) ok dX11_where_47 rfl (by first | omega | (simp [sz, uz]; omega)) (by first | omega | (simp [sz, uz]; omega)) (fun _ => ?_) (fun h => by exfalso; omega)
        refine Z_iload4 (pc := 99) ok dX11_where_99 ?_
        refine Z_iret (pc := 101) ok okr dX11_where_101 ?_
        exact ⟨_, rfl, rfl, rfl, Or.inr ⟨h, rfl⟩⟩
      · intro i i0 i1 ih hb
        obtain ⟨k1, k2⟩ := hp.2 i i0 i1
        have k1 : 0 ≤ I 5 i ∧ I 5 i ≤ 3 := k1
        have k2 : -2147483648 ≤ I 6 i ∧ I 6 i ≤ 2147483647 := k2
        rw [show (i + 1).toNat = i.toNat + 1 by omega, whF, show ((i.toNat : Nat) : Int) = i by omega] at ih
        refine Z_iload5 (pc := 41) ok dX11_where_41 ?_
        refine Z_aload3 (pc := 43) ok dX11_where_43 ?_
        refine g_X4_size (pc := 44) ok dX11_where_44 kw116 rfl ?_
        refine Z_icmp_ge (pc := 47) (tgt := 99) ok dX11_where_47 rfl (by first | omega | (simp [sz, uz]; omega)) (by first | omega | (simp [sz, uz]; omega)) (fun h => by exfalso; omega) (fun _ => ?_)
        refine Z_aload3 (pc := 50) ok dX11_where_50 ?_
        refine g_X4_kinds (pc := 51) (t := 5) ok dX11_where_51 kw118 rfl rfl ?_
        refine Z_iload5 (pc := 54) ok dX11_where_54 ?_
        refine Z_iald (pc := 56) (L := 8) ok dX11_where_56 rfl rfl (by first | omega | (simp [sz, uz]; omega)) ?_
        refine Z_aload3 (pc := 57) ok dX11_where_57 ?_
        refine g_X4_values (pc := 58) (t := 6) ok dX11_where_58 kw120 rfl rfl ?_
        refine Z_iload5 (pc := 61) ok dX11_where_61 ?_
        refine Z_iald (pc := 63) (L := 8) ok dX11_where_63 rfl rfl (by first | omega | (simp [sz, uz]; omega)) ?_
        refine Z_iload2 (pc := 64) ok dX11_where_64 ?_
        refine Z_callSId (pc := 65) ok dX11_where_65 cw_X11_239 (c_canChange k1 k2 hn) rfl rfl (by decide) (Nat.le_of_ble_eq_true rfl) ?_
        refine Z_if_eqB (pc := 68) (tgt := 93) ok dX11_where_68 rfl (fun h2 => ?_) (fun h2 => ?_)
        · refine Z_iinc5 (pc := 93) ok (by decide) dX11_where_93 rfl ?_
          refine Z_goto (pc := 96) (tgt := 41) ok dX11_where_96 rfl ?_
          rw [if_neg h2] at ih
          exact ih hb
        · rw [if_pos h2] at ih
          have hv2 : I 5 i = 1 ∨ I 5 i = 3 → 0 ≤ I 6 i ∧ I 6 i ≤ 99 := by
            rintro (q | q)
            · have := (h2.1 q).1; omega
            · have := (h2.2 q).1; have := (h2.2 q).2.1; omega
          refine Z_aload3 (pc := 71) ok dX11_where_71 ?_
          refine g_X4_kinds (pc := 72) (t := 5) ok dX11_where_72 kw118 rfl rfl ?_
          refine Z_iload5 (pc := 75) ok dX11_where_75 ?_
          refine Z_iald (pc := 77) (L := 8) ok dX11_where_77 rfl rfl (by first | omega | (simp [sz, uz]; omega)) ?_
          refine Z_aload3 (pc := 78) ok dX11_where_78 ?_
          refine g_X4_values (pc := 79) (t := 6) ok dX11_where_79 kw120 rfl rfl ?_
          refine Z_iload5 (pc := 82) ok dX11_where_82 ?_
          refine Z_iald (pc := 84) (L := 8) ok dX11_where_84 rfl rfl (by first | omega | (simp [sz, uz]; omega)) ?_
          refine Z_iload2 (pc := 85) ok dX11_where_85 ?_
          refine Z_iload4 (pc := 86) ok dX11_where_86 ?_
          refine Z_callSId (pc := 88) ok dX11_where_88 cw_X11_243 (c_rootBehind k1 k2 hv2 hn hb) rfl rfl (by decide) (Nat.le_of_ble_eq_true rfl) ?_
          refine Z_istore4 (pc := 91) ok (by decide) dX11_where_91 rfl ?_
          refine Z_iinc5 (pc := 93) ok (by decide) dX11_where_93 rfl ?_
          refine Z_goto (pc := 96) (tgt := 41) ok dX11_where_96 rfl ?_
          exact ih (mv_b _ _ _ (by omega))
    exact H 0 (by omega) (by omega) (by show 0 ≤ e ∧ e < I 2 0; exact h)
  · refine Z_iconst (pc := 14) ok dX11_where_14 ?_
    refine Z_iret (pc := 15) ok okr dX11_where_15 ?_
    exact ⟨_, rfl, rfl, rfl, Or.inl ⟨h, rfl⟩⟩
theorem c_run (h1 : gR (I 2 0) (I 3)) (hp : plOk I 4) : K_X11_run l G [zr G 0] I J (fun w I' J' => ∃ r, w = some (zi r) ∧ (fr [3, 118] I I' ∧ J' = J ∧ I' 3 = rnR (I 5) (I 6) (I 2 0) (I 3) (I 4 0).toNat ∧ r = su (fun k => zb (rnP (I 5 k) (I 6 k) (I 2 0) (rnR (I 5) (I 6) (I 2 0) (I 3) k.toNat))) (I 4 0))) := by
  have h0 := hp.1
  refine Cz.of rfl (Nat.le_of_ble_eq_true rfl) [some (zr G 0), none, none, none] rfl (fun E ok okr hE => ?_)
  refine Z_aload0 (pc := 0) ok dX11_run_0 ?_
  refine g_X11_state (pc := 1) (t := 1) ok dX11_run_1 kw340 rfl rfl ?_
  refine g_X8_plan (pc := 4) (t := 4) ok dX11_run_4 kw150 rfl rfl ?_
  refine Z_astore1 (pc := 7) ok (by decide) dX11_run_7 rfl ?_
  refine Z_iconst (pc := 8) ok dX11_run_8 ?_
  refine Z_istore2 (pc := 9) ok (by decide) dX11_run_9 rfl ?_
  refine Z_iconst (pc := 10) ok dX11_run_10 ?_
  refine Z_istore3 (pc := 11) ok (by decide) dX11_run_11 rfl ?_
  have H : ∀ i : Int, 0 ≤ i → i ≤ I 4 0 → ∀ I1 : Mz, fr [3, 118] I I1 → I1 3 = rnR (I 5) (I 6) (I 2 0) (I 3) i.toNat → Xz E G I1 J 12 [some (zr G 0), some (zr G 4), some (zi (su (fun k => zb (rnP (I 5 k) (I 6 k) (I 2 0) (rnR (I 5) (I 6) (I 2 0) (I 3) k.toNat))) i)), some (zi i)] [] := by
    refine zUp ?_ ?_
    · intro I1 f1 f3
      have e4 : I1 4 0 = I 4 0 := by rw [f1.at 4 rfl]
      refine Z_iload3 (pc := 12) ok dX11_run_12 ?_
      refine Z_aload1 (pc := 13) ok dX11_run_13 ?_
      refine g_X4_size (pc := 14) ok dX11_run_14 kw116 rfl ?_
      refine Z_icmp_ge (pc := 17) (tgt := 48) ok dX11_run_17 rfl (by first | omega | (simp [sz, uz]; omega)) (by first | omega | (simp [sz, uz]; omega)) (fun _ => ?_) (fun h => by exfalso; omega)
      refine Z_iload2 (pc := 48) ok dX11_run_48 ?_
      refine Z_iret (pc := 49) ok okr dX11_run_49 ?_
      exact ⟨_, rfl, f1, rfl, f3, rfl⟩
    · intro i i0 i1 ih I1 f1 f3
      obtain ⟨k1, k2⟩ := hp.2 i i0 i1
      have e4 : I1 4 0 = I 4 0 := by rw [f1.at 4 rfl]
      have e5 : I1 5 = I 5 := f1.at 5 rfl
      have e6 : I1 6 = I 6 := f1.at 6 rfl
      have e2 : I1 2 0 = I 2 0 := by rw [f1.at 2 rfl]
      have k1 : 0 ≤ I1 5 i ∧ I1 5 i ≤ 3 := by rw [e5]; exact k1
      have k2 : -2147483648 ≤ I1 6 i ∧ I1 6 i ≤ 2147483647 := by rw [e6]; exact k2
      have hg := rnR_g (K := I 5) (V := I 6) h1 i.toNat
      rw [su_s _ i0, show (i + 1).toNat = i.toNat + 1 by omega, rnR, show ((i.toNat : Nat) : Int) = i by omega] at ih
      refine Z_iload3 (pc := 12) ok dX11_run_12 ?_
      refine Z_aload1 (pc := 13) ok dX11_run_13 ?_
      refine g_X4_size (pc := 14) ok dX11_run_14 kw116 rfl ?_
      refine Z_icmp_ge (pc := 17) (tgt := 48) ok dX11_run_17 rfl (by first | omega | (simp [sz, uz]; omega)) (by first | omega | (simp [sz, uz]; omega)) (fun h => by exfalso; omega) (fun _ => ?_)
      refine Z_aload0 (pc := 20) ok dX11_run_20 ?_
      refine Z_aload1 (pc := 21) ok dX11_run_21 ?_
      refine g_X4_kinds (pc := 22) (t := 5) ok dX11_run_22 kw118 rfl rfl ?_
      refine Z_iload3 (pc := 25) ok dX11_run_25 ?_
      refine Z_iald (pc := 26) (L := 8) ok dX11_run_26 rfl rfl (by first | omega | (simp [sz, uz]; omega)) ?_
      refine Z_aload1 (pc := 27) ok dX11_run_27 ?_
      refine g_X4_values (pc := 28) (t := 6) ok dX11_run_28 kw120 rfl rfl ?_
      refine Z_iload3 (pc := 31) ok dX11_run_31 ?_
      refine Z_iald (pc := 32) (L := 8) ok dX11_run_32 rfl rfl (by first | omega | (simp [sz, uz]; omega)) ?_
      refine Z_callVI (pc := 33) ok dX11_run_33 cw_X11_164 rfl rfl (by decide) (c_change k1 k2 (by rw [e2, f3]; exact hg)) rfl rfl (by decide) (Nat.le_of_ble_eq_true rfl) (fun r I2 J2 q => ?_)
      obtain ⟨q1, rfl, q3⟩ := q
      rw [e2, f3, e5, e6] at q3
      rcases q3 with ⟨rfl, a0, a1, a2⟩ | ⟨rfl, a1, a2⟩
      · rw [zb_t ⟨a0, a1⟩, if_pos ⟨a0, a1⟩] at ih
        refine Z_if_eq (pc := 36) (tgt := 42) ok dX11_run_36 rfl (by first | omega | (simp [sz, uz]; omega)) (fun h => by exfalso; omega) (fun _ => ?_)
        refine Z_iinc2 (pc := 39) ok (by decide) dX11_run_39 rfl ?_
        refine Z_iinc3 (pc := 42) ok (by decide) dX11_run_42 rfl ?_
        refine Z_goto (pc := 45) (tgt := 12) ok dX11_run_45 rfl ?_
        exact ih I2 (f1.tr q1) a2
      · have a1 : ¬ rnP (I 5 i) (I 6 i) (I 2 0) (rnR (I 5) (I 6) (I 2 0) (I 3) i.toNat) := a1
        rw [zb_f a1, if_neg a1, Int.add_zero] at ih
        refine Z_if_eq (pc := 36) (tgt := 42) ok dX11_run_36 rfl (by first | omega | (simp [sz, uz]; omega)) (fun _ => ?_) (fun h => by exfalso; omega)
        refine Z_iinc3 (pc := 42) ok (by decide) dX11_run_42 rfl ?_
        refine Z_goto (pc := 45) (tgt := 12) ok dX11_run_45 rfl ?_
        exact ih I2 (f1.tr q1) a2
  exact H 0 (by omega) (by omega) I fr.rf rfl
theorem c_keep {s : Int} (hs : -2147483648 ≤ s ∧ s ≤ 2147483647) (hh : ∀ i, 0 ≤ i → i < 2 → shOk I (sc i)) : K_X11_keep l G [zr G 0, zi s] I J (fun w I' J' => ∃ r, w = some (zi r) ∧ (J' = J ∧ ((¬ (0 ≤ s ∧ s < 2) ∧ r = -1 ∧ I' = I) ∨ ((0 ≤ s ∧ s < 2) ∧ I (sc s) 0 = 8 ∧ r = -4 ∧ I' = I) ∨ ((0 ≤ s ∧ s < 2) ∧ I (sc s) 0 < 8 ∧ r = I (sc s) 0 ∧ I' (sc s) 0 = I (sc s) 0 + 1 ∧ I' (rc (sc s) (I (sc s) 0)) 0 = I 2 0 ∧ I' (rc (sc s) (I (sc s) 0) + 1) = I 3 ∧ (∀ a, a ≠ sc s → a ≠ rc (sc s) (I (sc s) 0) → a ≠ rc (sc s) (I (sc s) 0) + 1 → I' a = I a))))) := by
  refine Cz.of rfl (Nat.le_of_ble_eq_true rfl) [some (zr G 0), some (zi s), none] rfl (fun E ok okr hE => ?_)
  refine Z_iload1 (pc := 0) ok dX11_keep_0 ?_
  refine Z_callSId (pc := 1) ok dX11_keep_1 cw_X11_247 (c_isShelf hs) rfl rfl (by decide) (Nat.le_of_ble_eq_true rfl) ?_
  refine Z_if_neB (pc := 4) (tgt := 9) ok dX11_keep_4 rfl (fun h => ?_) (fun h => ?_)
  · have h0 := (hh s h.1 h.2).1
    refine Z_aload0 (pc := 9) ok dX11_keep_9 ?_
    refine g_X11_state (pc := 10) (t := 1) ok dX11_keep_10 kw340 rfl rfl ?_
    refine g_X8_shelves (pc := 13) (t := 7) ok dX11_keep_13 kw152 rfl rfl ?_
    refine Z_iload1 (pc := 16) ok dX11_keep_16 ?_
    refine Z_aald (pc := 17) (r := (sc s)) (L := 2) ok dX11_keep_17 (t := 5) rfl (by decide) rfl rfl (by first | omega | (simp [sz, uz]; omega)) (sc_rf h) ?_
    refine Z_astore2 (pc := 18) ok (by decide) dX11_keep_18 rfl ?_
    refine Z_aload2 (pc := 19) ok dX11_keep_19 ?_
    refine g_X6_size (pc := 20) ok dX11_keep_20 kw139 (sc_kd h) ?_
    refine Z_bipush (pc := 23) ok dX11_keep_23 (by decide) ?_
    refine Z_icmp_lt (pc := 25) (tgt := 31) ok dX11_keep_25 rfl (by first | omega | (simp [sz, uz]; omega)) (by first | omega | (simp [sz, uz]; omega)) (fun h3 => ?_) (fun h3 => ?_)
    · refine Z_aload2 (pc := 31) ok dX11_keep_31 ?_
      refine Z_aload0 (pc := 32) ok dX11_keep_32 ?_
      refine g_X11_state (pc := 33) (t := 1) ok dX11_keep_33 kw340 rfl rfl ?_
      refine g_X8_row (pc := 36) (t := 2) ok dX11_keep_36 kw148 rfl rfl ?_
      refine Z_callVV (pc := 39) ok dX11_keep_39 cw_X11_257 rfl (sc_kd h) (by decide) (c_Shelf_append (sc_kd h) rfl ⟨h0.1, h3⟩) rfl rfl (by decide) (Nat.le_of_ble_eq_true rfl) (fun I1 J1 q => ?_)
      refine Z_aload2 (pc := 42) ok dX11_keep_42 ?_
      refine g_X6_size (pc := 43) ok dX11_keep_43 kw139 (sc_kd h) ?_
      refine Z_iconst (pc := 46) ok dX11_keep_46 ?_
      refine Z_isub (pc := 47) ok dX11_keep_47 ?_
      refine Z_iret (pc := 48) ok okr dX11_keep_48 ?_
      obtain ⟨q1, q2, q3, q4, q5⟩ := q
      exact ⟨_, rfl, q5, Or.inr (Or.inr ⟨h, h3, by rw [q1]; omega, q1, q2, q3, q4⟩)⟩
    · refine Z_bipush (pc := 28) ok dX11_keep_28 (by decide) ?_
      refine Z_iret (pc := 30) ok okr dX11_keep_30 ?_
      exact ⟨_, rfl, rfl, Or.inr (Or.inl ⟨h, by omega, rfl, rfl⟩)⟩
  · refine Z_iconst (pc := 7) ok dX11_keep_7 ?_
    refine Z_iret (pc := 8) ok okr dX11_keep_8 ?_
    exact ⟨_, rfl, rfl, Or.inl ⟨h, rfl, rfl⟩⟩
theorem c_lay {s k : Int} (hs : -2147483648 ≤ s ∧ s ≤ 2147483647) (hk : -2147483648 ≤ k ∧ k ≤ 2147483647) (hh : ∀ i, 0 ≤ i → i < 2 → shOk I (sc i)) : K_X11_lay l G [zr G 0, zi s, zi k] I J (fun w I' J' => ∃ r, w = some (zi r) ∧ (J' = J ∧ ((¬ ((0 ≤ s ∧ s < 2) ∧ (0 ≤ k ∧ k < I (sc s) 0)) ∧ r = -1 ∧ I' = I) ∨ (((0 ≤ s ∧ s < 2) ∧ (0 ≤ k ∧ k < I (sc s) 0)) ∧ r = su (I (rc (sc s) k + 1)) (I (rc (sc s) k) 0) ∧ I' = sz (sz I 2 (uz (I 2) 0 (I (rc (sc s) k) 0))) 3 (I (rc (sc s) k + 1)))))) := by
  refine Cz.of rfl (Nat.le_of_ble_eq_true rfl) [some (zr G 0), some (zi s), some (zi k)] rfl (fun E ok okr hE => ?_)
  refine Z_iload1 (pc := 0) ok dX11_lay_0 ?_
  refine Z_callSId (pc := 1) ok dX11_lay_1 cw_X11_247 (c_isShelf hs) rfl rfl (by decide) (Nat.le_of_ble_eq_true rfl) ?_
  refine Z_if_eqB (pc := 4) (tgt := 23) ok dX11_lay_4 rfl (fun h => ?_) (fun h => ?_)
  · refine Z_iconst (pc := 23) ok dX11_lay_23 ?_
    refine Z_iret (pc := 24) ok okr dX11_lay_24 ?_
    exact ⟨_, rfl, rfl, Or.inl ⟨fun q => h q.1, rfl, rfl⟩⟩
  · have h0 := (hh s h.1 h.2).1
    refine Z_aload0 (pc := 7) ok dX11_lay_7 ?_
    refine g_X11_state (pc := 8) (t := 1) ok dX11_lay_8 kw340 rfl rfl ?_
    refine g_X8_shelves (pc := 11) (t := 7) ok dX11_lay_11 kw152 rfl rfl ?_
    refine Z_iload1 (pc := 14) ok dX11_lay_14 ?_
    refine Z_aald (pc := 15) (r := (sc s)) (L := 2) ok dX11_lay_15 (t := 5) rfl (by decide) rfl rfl (by first | omega | (simp [sz, uz]; omega)) (sc_rf h) ?_
    refine Z_iload2 (pc := 16) ok dX11_lay_16 ?_
    refine Z_callVId (pc := 17) ok dX11_lay_17 cw_X11_259 rfl (sc_kd h) (by decide) (c_Shelf_has (sc_kd h) h0 hk) rfl rfl (by decide) (Nat.le_of_ble_eq_true rfl) ?_
    refine Z_if_neB (pc := 20) (tgt := 25) ok dX11_lay_20 rfl (fun h2 => ?_) (fun h2 => ?_)
    · have hl : k.toNat < 8 := by omega
      have hg := (hh s h.1 h.2).2 k h2.1 h2.2
      have hgn := hg.1
      refine Z_aload0 (pc := 25) ok dX11_lay_25 ?_
      refine g_X11_state (pc := 26) (t := 1) ok dX11_lay_26 kw340 rfl rfl ?_
      refine g_X8_row (pc := 29) (t := 2) ok dX11_lay_29 kw148 rfl rfl ?_
      refine Z_aload0 (pc := 32) ok dX11_lay_32 ?_
      refine g_X11_state (pc := 33) (t := 1) ok dX11_lay_33 kw340 rfl rfl ?_
      refine g_X8_shelves (pc := 36) (t := 7) ok dX11_lay_36 kw152 rfl rfl ?_
      refine Z_iload1 (pc := 39) ok dX11_lay_39 ?_
      refine Z_aald (pc := 40) (r := (sc s)) (L := 2) ok dX11_lay_40 (t := 5) rfl (by decide) rfl rfl (by first | omega | (simp [sz, uz]; omega)) (sc_rf h) ?_
      refine g_X6_rows (pc := 41) (t := ((sc s) + 1)) ok dX11_lay_41 kw141 (sc_kd h) (sh_rf (sc_kd h)) ?_
      refine Z_iload2 (pc := 44) ok dX11_lay_44 ?_
      refine Z_aald (pc := 45) (r := (rc (sc s) k)) ok dX11_lay_45 (t := 4) (sh_kd (sc_kd h)) (by decide) rfl (sh_ln (sc_kd h)) (by first | omega | (simp [sz, uz]; omega)) (rc_rf (sc_kd h) hl) ?_
      refine Z_callVVd (pc := 46) ok dX11_lay_46 cw_X11_161 rfl rfl (by decide) (c_Row_become rfl (rc_kd (sc_kd h) hl)) rfl rfl (by decide) (Nat.le_of_ble_eq_true rfl) ?_
      refine Z_aload0 (pc := 49) ok dX11_lay_49 ?_
      refine g_X11_state (pc := 50) (t := 1) ok dX11_lay_50 kw340 rfl rfl ?_
      refine g_X8_row (pc := 53) (t := 2) ok dX11_lay_53 kw148 rfl rfl ?_
      refine Z_callVId (pc := 56) ok dX11_lay_56 cw_X11_112 rfl rfl (by decide) (c_Row_total rfl (by simp [sz, uz]; omega)) rfl rfl (by decide) (Nat.le_of_ble_eq_true rfl) ?_
      refine Z_iret (pc := 59) ok okr dX11_lay_59 ?_
      refine ⟨_, rfl, rfl, Or.inr ⟨⟨h, h2⟩, ?_, rfl⟩⟩
      simp [sz, uz]
    · refine Z_iconst (pc := 23) ok dX11_lay_23 ?_
      refine Z_iret (pc := 24) ok okr dX11_lay_24 ?_
      exact ⟨_, rfl, rfl, Or.inl ⟨fun q => h2 q.2, rfl, rfl⟩⟩
theorem c_drop {s k : Int} (hs : -2147483648 ≤ s ∧ s ≤ 2147483647) (hk : -2147483648 ≤ k ∧ k ≤ 2147483647) (hh : ∀ i, 0 ≤ i → i < 2 → shOk I (sc i)) : K_X11_drop l G [zr G 0, zi s, zi k] I J (fun w I' J' => ∃ r, w = some (zi r) ∧ (J' = J ∧ ((¬ ((0 ≤ s ∧ s < 2) ∧ (0 ≤ k ∧ k < I (sc s) 0)) ∧ r = -1 ∧ I' = I) ∨ (((0 ≤ s ∧ s < 2) ∧ (0 ≤ k ∧ k < I (sc s) 0)) ∧ r = I (sc s) 0 - 1 ∧ I' (sc s) 0 = I (sc s) 0 - 1 ∧ (∀ m, k ≤ m → m < I (sc s) 0 - 1 → I' (rc (sc s) m) 0 = I (rc (sc s) (m + 1)) 0 ∧ I' (rc (sc s) m + 1) = I (rc (sc s) (m + 1) + 1)) ∧ (∀ a, a ≠ sc s → (∀ m, k ≤ m → m < I (sc s) 0 - 1 → a ≠ rc (sc s) m ∧ a ≠ rc (sc s) m + 1) → I' a = I a))))) := by
  refine Cz.of rfl (Nat.le_of_ble_eq_true rfl) [some (zr G 0), some (zi s), some (zi k)] rfl (fun E ok okr hE => ?_)
  refine Z_iload1 (pc := 0) ok dX11_drop_0 ?_
  refine Z_callSId (pc := 1) ok dX11_drop_1 cw_X11_247 (c_isShelf hs) rfl rfl (by decide) (Nat.le_of_ble_eq_true rfl) ?_
  refine Z_if_eqB (pc := 4) (tgt := 23) ok dX11_drop_4 rfl (fun h => ?_) (fun h => ?_)
  · refine Z_iconst (pc := 23) ok dX11_drop_23 ?_
    refine Z_iret (pc := 24) ok okr dX11_drop_24 ?_
    exact ⟨_, rfl, rfl, Or.inl ⟨fun q => h q.1, rfl, rfl⟩⟩
  · have h0 := (hh s h.1 h.2).1
    refine Z_aload0 (pc := 7) ok dX11_drop_7 ?_
    refine g_X11_state (pc := 8) (t := 1) ok dX11_drop_8 kw340 rfl rfl ?_
    refine g_X8_shelves (pc := 11) (t := 7) ok dX11_drop_11 kw152 rfl rfl ?_
    refine Z_iload1 (pc := 14) ok dX11_drop_14 ?_
    refine Z_aald (pc := 15) (r := (sc s)) (L := 2) ok dX11_drop_15 (t := 5) rfl (by decide) rfl rfl (by first | omega | (simp [sz, uz]; omega)) (sc_rf h) ?_
    refine Z_iload2 (pc := 16) ok dX11_drop_16 ?_
    refine Z_callVId (pc := 17) ok dX11_drop_17 cw_X11_259 rfl (sc_kd h) (by decide) (c_Shelf_has (sc_kd h) h0 hk) rfl rfl (by decide) (Nat.le_of_ble_eq_true rfl) ?_
    refine Z_if_neB (pc := 20) (tgt := 25) ok dX11_drop_20 rfl (fun h2 => ?_) (fun h2 => ?_)
    · refine Z_aload0 (pc := 25) ok dX11_drop_25 ?_
      refine g_X11_state (pc := 26) (t := 1) ok dX11_drop_26 kw340 rfl rfl ?_
      refine g_X8_shelves (pc := 29) (t := 7) ok dX11_drop_29 kw152 rfl rfl ?_
      refine Z_iload1 (pc := 32) ok dX11_drop_32 ?_
      refine Z_aald (pc := 33) (r := (sc s)) (L := 2) ok dX11_drop_33 (t := 5) rfl (by decide) rfl rfl (by first | omega | (simp [sz, uz]; omega)) (sc_rf h) ?_
      refine Z_iload2 (pc := 34) ok dX11_drop_34 ?_
      refine Z_callVV (pc := 35) ok dX11_drop_35 cw_X11_263 rfl (sc_kd h) (by decide) (c_Shelf_remove (sc_kd h) h0.2 h2) rfl rfl (by decide) (Nat.le_of_ble_eq_true rfl) (fun I1 J1 q => ?_)
      refine Z_aload0 (pc := 38) ok dX11_drop_38 ?_
      refine g_X11_state (pc := 39) (t := 1) ok dX11_drop_39 kw340 rfl rfl ?_
      refine g_X8_shelves (pc := 42) (t := 7) ok dX11_drop_42 kw152 rfl rfl ?_
      refine Z_iload1 (pc := 45) ok dX11_drop_45 ?_
      refine Z_aald (pc := 46) (r := (sc s)) (L := 2) ok dX11_drop_46 (t := 5) rfl (by decide) rfl rfl (by first | omega | (simp [sz, uz]; omega)) (sc_rf h) ?_
      refine g_X6_size (pc := 47) ok dX11_drop_47 kw139 (sc_kd h) ?_
      refine Z_iret (pc := 50) ok okr dX11_drop_50 ?_
      obtain ⟨q1, q2, q3, q4⟩ := q
      exact ⟨_, rfl, q4, Or.inr ⟨⟨h, h2⟩, q1, q1, q2, q3⟩⟩
    · refine Z_iconst (pc := 23) ok dX11_drop_23 ?_
      refine Z_iret (pc := 24) ok okr dX11_drop_24 ?_
      exact ⟨_, rfl, rfl, Or.inl ⟨fun q => h2 q.2, rfl, rfl⟩⟩
theorem c_lightest {s : Int} (hs : -2147483648 ≤ s ∧ s ≤ 2147483647) (hh : ∀ i, 0 ≤ i → i < 2 → shOk I (sc i)) : K_X11_lightest l G [zr G 0, zi s] I J (fun w I' J' => ∃ r, w = some (zi r) ∧ (I' = I ∧ J' = J ∧ ((¬ (0 ≤ s ∧ s < 2) ∧ r = -1) ∨ ((0 ≤ s ∧ s < 2) ∧ I (sc s) 0 = 0 ∧ r = -5) ∨ ((0 ≤ s ∧ s < 2) ∧ 0 < I (sc s) 0 ∧ r = lgF (fun m => su (I (rc (sc s) m + 1)) (I (rc (sc s) m) 0)) (I (sc s) 0 - 1).toNat)))) := by
  refine Cz.of rfl (Nat.le_of_ble_eq_true rfl) [some (zr G 0), some (zi s), none, none, none] rfl (fun E ok okr hE => ?_)
  refine Z_iload1 (pc := 0) ok dX11_lightest_0 ?_
  refine Z_callSId (pc := 1) ok dX11_lightest_1 cw_X11_247 (c_isShelf hs) rfl rfl (by decide) (Nat.le_of_ble_eq_true rfl) ?_
  refine Z_if_neB (pc := 4) (tgt := 9) ok dX11_lightest_4 rfl (fun h => ?_) (fun h => ?_)
  · obtain ⟨h0, hg⟩ := hh s h.1 h.2
    refine Z_aload0 (pc := 9) ok dX11_lightest_9 ?_
    refine g_X11_state (pc := 10) (t := 1) ok dX11_lightest_10 kw340 rfl rfl ?_
    refine g_X8_shelves (pc := 13) (t := 7) ok dX11_lightest_13 kw152 rfl rfl ?_
    refine Z_iload1 (pc := 16) ok dX11_lightest_16 ?_
    refine Z_aald (pc := 17) (r := (sc s)) (L := 2) ok dX11_lightest_17 (t := 5) rfl (by decide) rfl rfl (by first | omega | (simp [sz, uz]; omega)) (sc_rf h) ?_
    refine Z_astore2 (pc := 18) ok (by decide) dX11_lightest_18 rfl ?_
    refine Z_aload2 (pc := 19) ok dX11_lightest_19 ?_
    refine g_X6_size (pc := 20) ok dX11_lightest_20 kw139 (sc_kd h) ?_
    refine Z_if_ne (pc := 23) (tgt := 29) ok dX11_lightest_23 rfl (by first | omega | (simp [sz, uz]; omega)) (fun h2 => ?_) (fun h2 => ?_)
    · refine Z_iconst (pc := 29) ok dX11_lightest_29 ?_
      refine Z_istore3 (pc := 30) ok (by decide) dX11_lightest_30 rfl ?_
      refine Z_iconst (pc := 31) ok dX11_lightest_31 ?_
      refine Z_istore4 (pc := 32) ok (by decide) dX11_lightest_32 rfl ?_
      have H : ∀ m : Int, 1 ≤ m → m ≤ I (sc s) 0 → Xz E G I J 34 [some (zr G 0), some (zi s), some (zr G (sc s)), some (zi (lgF (fun m => su (I (rc (sc s) m + 1)) (I (rc (sc s) m) 0)) (m - 1).toNat)), some (zi m)] [] := by
        refine zUp ?_ ?_
        · refine Z_iload4 (pc := 34) ok dX11_lightest_34 ?_
          refine Z_aload2 (pc := 36) ok dX11_lightest_36 ?_
          refine g_X6_size (pc := 37) ok dX11_lightest_37 kw139 (sc_kd h) ?_
          refine Z_icmp_ge (pc := 40) (tgt := 74) ok dX11_lightest_40 rfl (by first | omega | (simp [sz, uz]; omega)) (by first | omega | (simp [sz, uz]; omega)) (fun _ => ?_) (fun h => by exfalso; omega)
          refine Z_iload3 (pc := 74) ok dX11_lightest_74 ?_
          refine Z_iret (pc := 75) ok okr dX11_lightest_75 ?_
          exact ⟨_, rfl, rfl, rfl, Or.inr (Or.inr ⟨h, by omega, rfl⟩)⟩
        · intro m m0 m1 ih
          have hb := lgF_b (fun m => su (I (rc (sc s) m + 1)) (I (rc (sc s) m) 0)) (m - 1).toNat
          have l1 : m.toNat < 8 := by omega
          have g1 := hg m (by omega) m1
          have s1 := gR_su g1
          have n1 := g1.1
          rw [show (m + 1 - 1).toNat = (m - 1).toNat + 1 by omega, lgF, show (((m - 1).toNat : Nat) : Int) + 1 = m by omega] at ih
          generalize lgF (fun m => su (I (rc (sc s) m + 1)) (I (rc (sc s) m) 0)) (m - 1).toNat = b at *
          have l2 : b.toNat < 8 := by omega
          have g2 := hg b (by omega) (by omega)
          have s2 := gR_su g2
          have n2 := g2.1
          refine Z_iload4 (pc := 34) ok dX11_lightest_34 ?_
          refine Z_aload2 (pc := 36) ok dX11_lightest_36 ?_
          refine g_X6_size (pc := 37) ok dX11_lightest_37 kw139 (sc_kd h) ?_
          refine Z_icmp_ge (pc := 40) (tgt := 74) ok dX11_lightest_40 rfl (by first | omega | (simp [sz, uz]; omega)) (by first | omega | (simp [sz, uz]; omega)) (fun h => by exfalso; omega) (fun _ => ?_)
          refine Z_aload2 (pc := 43) ok dX11_lightest_43 ?_
          refine g_X6_rows (pc := 44) (t := ((sc s) + 1)) ok dX11_lightest_44 kw141 (sc_kd h) (sh_rf (sc_kd h)) ?_
          refine Z_iload4 (pc := 47) ok dX11_lightest_47 ?_
          refine Z_aald (pc := 49) (r := (rc (sc s) m)) ok dX11_lightest_49 (t := 4) (sh_kd (sc_kd h)) (by decide) rfl (sh_ln (sc_kd h)) (by first | omega | (simp [sz, uz]; omega)) (rc_rf (sc_kd h) l1) ?_
          refine Z_callVId (pc := 50) ok dX11_lightest_50 cw_X11_112 rfl (rc_kd (sc_kd h) l1) (by decide) (c_Row_total (rc_kd (sc_kd h) l1) (by omega)) rfl rfl (by decide) (Nat.le_of_ble_eq_true rfl) ?_
          refine Z_aload2 (pc := 53) ok dX11_lightest_53 ?_
          refine g_X6_rows (pc := 54) (t := ((sc s) + 1)) ok dX11_lightest_54 kw141 (sc_kd h) (sh_rf (sc_kd h)) ?_
          refine Z_iload3 (pc := 57) ok dX11_lightest_57 ?_
          refine Z_aald (pc := 58) (r := (rc (sc s) b)) ok dX11_lightest_58 (t := 4) (sh_kd (sc_kd h)) (by decide) rfl (sh_ln (sc_kd h)) (by first | omega | (simp [sz, uz]; omega)) (rc_rf (sc_kd h) l2) ?_
          refine Z_callVId (pc := 59) ok dX11_lightest_59 cw_X11_112 rfl (rc_kd (sc_kd h) l2) (by decide) (c_Row_total (rc_kd (sc_kd h) l2) (by omega)) rfl rfl (by decide) (Nat.le_of_ble_eq_true rfl) ?_
          refine Z_icmp_ge (pc := 62) (tgt := 68) ok dX11_lightest_62 rfl (by first | omega | (simp [sz, uz]; omega)) (by first | omega | (simp [sz, uz]; omega)) (fun h4 => ?_) (fun h4 => ?_)
          · refine Z_iinc4 (pc := 68) ok (by decide) dX11_lightest_68 rfl ?_
            refine Z_goto (pc := 71) (tgt := 34) ok dX11_lightest_71 rfl ?_
            rw [if_neg (by show ¬ su (I (rc (sc s) m + 1)) (I (rc (sc s) m) 0) < su (I (rc (sc s) b + 1)) (I (rc (sc s) b) 0); omega)] at ih
            exact ih
          · refine Z_iload4 (pc := 65) ok dX11_lightest_65 ?_
            refine Z_istore3 (pc := 67) ok (by decide) dX11_lightest_67 rfl ?_
            refine Z_iinc4 (pc := 68) ok (by decide) dX11_lightest_68 rfl ?_
            refine Z_goto (pc := 71) (tgt := 34) ok dX11_lightest_71 rfl ?_
            rw [if_pos h4] at ih
            exact ih
      exact H 1 (by omega) (by omega)
    · refine Z_bipush (pc := 26) ok dX11_lightest_26 (by decide) ?_
      refine Z_iret (pc := 28) ok okr dX11_lightest_28 ?_
      exact ⟨_, rfl, rfl, rfl, Or.inr (Or.inl ⟨h, h2, rfl⟩)⟩
  · refine Z_iconst (pc := 7) ok dX11_lightest_7 ?_
    refine Z_iret (pc := 8) ok okr dX11_lightest_8 ?_
    exact ⟨_, rfl, rfl, rfl, Or.inl ⟨h, rfl⟩⟩
theorem c_held {s k : Int} (hs : -2147483648 ≤ s ∧ s ≤ 2147483647) (hk : -2147483648 ≤ k ∧ k ≤ 2147483647) (hh : ∀ i, 0 ≤ i → i < 2 → shOk I (sc i)) : K_X11_held l G [zr G 0, zi s, zi k] I J (fun w I' J' => ∃ r, w = some (zi r) ∧ (I' = I ∧ J' = J ∧ ((¬ (0 ≤ s ∧ s < 2) ∧ r = -1) ∨ ((0 ≤ s ∧ s < 2) ∧ k = -1 ∧ r = I (sc s) 0) ∨ ((0 ≤ s ∧ s < 2) ∧ k ≠ -1 ∧ ¬ (0 ≤ k ∧ k < I (sc s) 0) ∧ r = -1) ∨ ((0 ≤ s ∧ s < 2) ∧ (0 ≤ k ∧ k < I (sc s) 0) ∧ r = su (I (rc (sc s) k + 1)) (I (rc (sc s) k) 0))))) := by
  refine Cz.of rfl (Nat.le_of_ble_eq_true rfl) [some (zr G 0), some (zi s), some (zi k), none] rfl (fun E ok okr hE => ?_)
  refine Z_iload1 (pc := 0) ok dX11_held_0 ?_
  refine Z_callSId (pc := 1) ok dX11_held_1 cw_X11_247 (c_isShelf hs) rfl rfl (by decide) (Nat.le_of_ble_eq_true rfl) ?_
  refine Z_if_neB (pc := 4) (tgt := 9) ok dX11_held_4 rfl (fun h => ?_) (fun h => ?_)
  · obtain ⟨h0, hg⟩ := hh s h.1 h.2
    refine Z_aload0 (pc := 9) ok dX11_held_9 ?_
    refine g_X11_state (pc := 10) (t := 1) ok dX11_held_10 kw340 rfl rfl ?_
    refine g_X8_shelves (pc := 13) (t := 7) ok dX11_held_13 kw152 rfl rfl ?_
    refine Z_iload1 (pc := 16) ok dX11_held_16 ?_
    refine Z_aald (pc := 17) (r := (sc s)) (L := 2) ok dX11_held_17 (t := 5) rfl (by decide) rfl rfl (by first | omega | (simp [sz, uz]; omega)) (sc_rf h) ?_
    refine Z_astore3 (pc := 18) ok (by decide) dX11_held_18 rfl ?_
    refine Z_iload2 (pc := 19) ok dX11_held_19 ?_
    refine Z_iconst (pc := 20) ok dX11_held_20 ?_
    refine Z_icmp_ne (pc := 21) (tgt := 29) ok dX11_held_21 rfl (by first | omega | (simp [sz, uz]; omega)) (by first | omega | (simp [sz, uz]; omega)) (fun h2 => ?_) (fun h2 => ?_)
    · refine Z_aload3 (pc := 29) ok dX11_held_29 ?_
      refine Z_iload2 (pc := 30) ok dX11_held_30 ?_
      refine Z_callVId (pc := 31) ok dX11_held_31 cw_X11_259 rfl (sc_kd h) (by decide) (c_Shelf_has (sc_kd h) h0 hk) rfl rfl (by decide) (Nat.le_of_ble_eq_true rfl) ?_
      refine Z_if_eqB (pc := 34) (tgt := 49) ok dX11_held_34 rfl (fun h3 => ?_) (fun h3 => ?_)
      · refine Z_iconst (pc := 49) ok dX11_held_49 ?_
        refine Z_iret (pc := 50) ok okr dX11_held_50 ?_
        exact ⟨_, rfl, rfl, rfl, Or.inr (Or.inr (Or.inl ⟨h, h2, h3, rfl⟩))⟩
      · have hl : k.toNat < 8 := by omega
        have n1 := (hg k h3.1 h3.2).1
        refine Z_aload3 (pc := 37) ok dX11_held_37 ?_
        refine g_X6_rows (pc := 38) (t := ((sc s) + 1)) ok dX11_held_38 kw141 (sc_kd h) (sh_rf (sc_kd h)) ?_
        refine Z_iload2 (pc := 41) ok dX11_held_41 ?_
        refine Z_aald (pc := 42) (r := (rc (sc s) k)) ok dX11_held_42 (t := 4) (sh_kd (sc_kd h)) (by decide) rfl (sh_ln (sc_kd h)) (by first | omega | (simp [sz, uz]; omega)) (rc_rf (sc_kd h) hl) ?_
        refine Z_callVId (pc := 43) ok dX11_held_43 cw_X11_112 rfl (rc_kd (sc_kd h) hl) (by decide) (c_Row_total (rc_kd (sc_kd h) hl) (by omega)) rfl rfl (by decide) (Nat.le_of_ble_eq_true rfl) ?_
        refine Z_goto (pc := 46) (tgt := 50) ok dX11_held_46 rfl ?_
        refine Z_iret (pc := 50) ok okr dX11_held_50 ?_
        exact ⟨_, rfl, rfl, rfl, Or.inr (Or.inr (Or.inr ⟨h, h3, rfl⟩))⟩
    · refine Z_aload3 (pc := 24) ok dX11_held_24 ?_
      refine g_X6_size (pc := 25) ok dX11_held_25 kw139 (sc_kd h) ?_
      refine Z_iret (pc := 28) ok okr dX11_held_28 ?_
      exact ⟨_, rfl, rfl, rfl, Or.inr (Or.inl ⟨h, h2, rfl⟩)⟩
  · refine Z_iconst (pc := 7) ok dX11_held_7 ?_
    refine Z_iret (pc := 8) ok okr dX11_held_8 ?_
    exact ⟨_, rfl, rfl, rfl, Or.inl ⟨h, rfl⟩⟩
theorem c_pour {s o : Int} (hs : -2147483648 ≤ s ∧ s ≤ 2147483647) (ho : -2147483648 ≤ o ∧ o ≤ 2147483647) (hh : ∀ i, 0 ≤ i → i < 2 → shOk I (sc i)) : K_X11_pour l G [zr G 0, zi s, zi o] I J (fun w I' J' => ∃ r, w = some (zi r) ∧ (J' = J ∧ ((¬ ((0 ≤ s ∧ s < 2) ∧ (0 ≤ o ∧ o < 2)) ∧ r = -1 ∧ I' = I) ∨ (((0 ≤ s ∧ s < 2) ∧ (0 ≤ o ∧ o < 2)) ∧ s = o ∧ r = -3 ∧ I' = I) ∨ (((0 ≤ s ∧ s < 2) ∧ (0 ≤ o ∧ o < 2)) ∧ s ≠ o ∧ 8 < I (sc s) 0 + I (sc o) 0 ∧ r = -4 ∧ I' = I) ∨ (((0 ≤ s ∧ s < 2) ∧ (0 ≤ o ∧ o < 2)) ∧ s ≠ o ∧ I (sc s) 0 + I (sc o) 0 ≤ 8 ∧ r = I (sc o) 0 + I (sc s) 0 ∧ I' (sc o) 0 = I (sc o) 0 + I (sc s) 0 ∧ I' (sc s) 0 = 0 ∧ (∀ i, 0 ≤ i → i < I (sc s) 0 → I' (rc (sc o) (I (sc o) 0 + i)) 0 = I (rc (sc s) i) 0 ∧ I' (rc (sc o) (I (sc o) 0 + i) + 1) = I (rc (sc s) i + 1)) ∧ (∀ a, a ≠ sc s → a ≠ sc o → (∀ i, 0 ≤ i → i < I (sc s) 0 → a ≠ rc (sc o) (I (sc o) 0 + i) ∧ a ≠ rc (sc o) (I (sc o) 0 + i) + 1) → I' a = I a))))) := by
  refine Cz.of rfl (Nat.le_of_ble_eq_true rfl) [some (zr G 0), some (zi s), some (zi o), none, none, none] rfl (fun E ok okr hE => ?_)
  refine Z_iload1 (pc := 0) ok dX11_pour_0 ?_
  refine Z_callSId (pc := 1) ok dX11_pour_1 cw_X11_247 (c_isShelf hs) rfl rfl (by decide) (Nat.le_of_ble_eq_true rfl) ?_
  refine Z_if_eqB (pc := 4) (tgt := 14) ok dX11_pour_4 rfl (fun h => ?_) (fun h => ?_)
  · refine Z_iconst (pc := 14) ok dX11_pour_14 ?_
    refine Z_iret (pc := 15) ok okr dX11_pour_15 ?_
    exact ⟨_, rfl, rfl, Or.inl ⟨fun q => h q.1, rfl, rfl⟩⟩
  · refine Z_iload2 (pc := 7) ok dX11_pour_7 ?_
    refine Z_callSId (pc := 8) ok dX11_pour_8 cw_X11_247 (c_isShelf ho) rfl rfl (by decide) (Nat.le_of_ble_eq_true rfl) ?_
    refine Z_if_neB (pc := 11) (tgt := 16) ok dX11_pour_11 rfl (fun h2 => ?_) (fun h2 => ?_)
    · obtain ⟨h0, hg⟩ := hh s h.1 h.2
      obtain ⟨h0', hg'⟩ := hh o h2.1 h2.2
      refine Z_iload1 (pc := 16) ok dX11_pour_16 ?_
      refine Z_iload2 (pc := 17) ok dX11_pour_17 ?_
      refine Z_icmp_ne (pc := 18) (tgt := 24) ok dX11_pour_18 rfl (by first | omega | (simp [sz, uz]; omega)) (by first | omega | (simp [sz, uz]; omega)) (fun h3 => ?_) (fun h3 => ?_)
      · refine Z_aload0 (pc := 24) ok dX11_pour_24 ?_
        refine g_X11_state (pc := 25) (t := 1) ok dX11_pour_25 kw340 rfl rfl ?_
        refine g_X8_shelves (pc := 28) (t := 7) ok dX11_pour_28 kw152 rfl rfl ?_
        refine Z_iload1 (pc := 31) ok dX11_pour_31 ?_
        refine Z_aald (pc := 32) (r := (sc s)) (L := 2) ok dX11_pour_32 (t := 5) rfl (by decide) rfl rfl (by first | omega | (simp [sz, uz]; omega)) (sc_rf h) ?_
        refine Z_astore3 (pc := 33) ok (by decide) dX11_pour_33 rfl ?_
        refine Z_aload0 (pc := 34) ok dX11_pour_34 ?_
        refine g_X11_state (pc := 35) (t := 1) ok dX11_pour_35 kw340 rfl rfl ?_
        refine g_X8_shelves (pc := 38) (t := 7) ok dX11_pour_38 kw152 rfl rfl ?_
        refine Z_iload2 (pc := 41) ok dX11_pour_41 ?_
        refine Z_aald (pc := 42) (r := (sc o)) (L := 2) ok dX11_pour_42 (t := 5) rfl (by decide) rfl rfl (by first | omega | (simp [sz, uz]; omega)) (sc_rf h2) ?_
        refine Z_astore4 (pc := 43) ok (by decide) dX11_pour_43 rfl ?_
        refine Z_aload3 (pc := 45) ok dX11_pour_45 ?_
        refine g_X6_size (pc := 46) ok dX11_pour_46 kw139 (sc_kd h) ?_
        refine Z_aload4 (pc := 49) ok dX11_pour_49 ?_
        refine g_X6_size (pc := 51) ok dX11_pour_51 kw139 (sc_kd h2) ?_
        refine Z_iadd (pc := 54) ok dX11_pour_54 ?_
        refine Z_bipush (pc := 55) ok dX11_pour_55 (by decide) ?_
        refine Z_icmp_le (pc := 57) (tgt := 63) ok dX11_pour_57 rfl (by first | omega | (simp [sz, uz]; omega)) (by first | omega | (simp [sz, uz]; omega)) (fun h4 => ?_) (fun h4 => ?_)
        · have hne : sc s ≠ sc o := by simp only [sc]; omega
          have hsc : sc s = 8 + 18 * s.toNat := rfl
          have hoc : sc o = 8 + 18 * o.toNat := rfl
          refine Z_iconst (pc := 63) ok dX11_pour_63 ?_
          refine Z_istore5 (pc := 64) ok (by decide) dX11_pour_64 rfl ?_
          have H : ∀ i : Int, 0 ≤ i → i ≤ I (sc s) 0 → ∀ I1 : Mz, I1 (sc o) 0 = I (sc o) 0 + i → (∀ m, 0 ≤ m → m < i → I1 (rc (sc o) (I (sc o) 0 + m)) 0 = I (rc (sc s) m) 0 ∧ I1 (rc (sc o) (I (sc o) 0 + m) + 1) = I (rc (sc s) m + 1)) → (∀ a, a ≠ sc o → (∀ m, 0 ≤ m → m < i → a ≠ rc (sc o) (I (sc o) 0 + m) ∧ a ≠ rc (sc o) (I (sc o) 0 + m) + 1) → I1 a = I a) → Xz E G I1 J 66 [some (zr G 0), some (zi s), some (zi o), some (zr G (sc s)), some (zr G (sc o)), some (zi i)] [] := by
            refine zUp ?_ ?_
            · intro I1 a1 a2 a3
              have es : I1 (sc s) 0 = I (sc s) 0 := by rw [a3 (sc s) hne (fun m m0 m1 => by simp only [rc]; omega)]
              refine Z_iload5 (pc := 66) ok dX11_pour_66 ?_
              refine Z_aload3 (pc := 68) ok dX11_pour_68 ?_
              refine g_X6_size (pc := 69) ok dX11_pour_69 kw139 (sc_kd h) ?_
              refine Z_icmp_ge (pc := 72) (tgt := 93) ok dX11_pour_72 rfl (by first | omega | (simp [sz, uz]; omega)) (by first | omega | (simp [sz, uz]; omega)) (fun _ => ?_) (fun h => by exfalso; omega)
              refine Z_aload3 (pc := 93) ok dX11_pour_93 ?_
              refine Z_iconst (pc := 94) ok dX11_pour_94 ?_
              refine p_X6_size (pc := 95) ok dX11_pour_95 kw139 (sc_kd h) ?_
              refine Z_aload4 (pc := 98) ok dX11_pour_98 ?_
              refine g_X6_size (pc := 100) ok dX11_pour_100 kw139 (sc_kd h2) ?_
              refine Z_iret (pc := 103) ok okr dX11_pour_103 ?_
              refine ⟨_, rfl, rfl, Or.inr (Or.inr (Or.inr ⟨⟨h, h2⟩, h3, h4, ?_, ?_, ?_, fun m m0 m1 => ?_, fun a b1 b2 b3 => ?_⟩))⟩
              · rw [sz_ne _ _ (fun q => hne q.symm)]; exact a1
              · rw [sz_ne _ _ (fun q => hne q.symm)]; exact a1
              · rw [sz_eq, uz_eq]
              · rw [sz_ne _ _ (by simp only [rc]; omega), sz_ne _ _ (by simp only [rc]; omega)]; exact a2 m m0 m1
              · rw [sz_ne _ _ b1]; exact a3 a b2 b3
            · intro i i0 i1 ih I1 a1 a2 a3
              have es : I1 (sc s) 0 = I (sc s) 0 := by rw [a3 (sc s) hne (fun m m0 m1 => by simp only [rc]; omega)]
              have l1 : i.toNat < 8 := by omega
              refine Z_iload5 (pc := 66) ok dX11_pour_66 ?_
              refine Z_aload3 (pc := 68) ok dX11_pour_68 ?_
              refine g_X6_size (pc := 69) ok dX11_pour_69 kw139 (sc_kd h) ?_
              refine Z_icmp_ge (pc := 72) (tgt := 93) ok dX11_pour_72 rfl (by first | omega | (simp [sz, uz]; omega)) (by first | omega | (simp [sz, uz]; omega)) (fun h => by exfalso; omega) (fun _ => ?_)
              refine Z_aload4 (pc := 75) ok dX11_pour_75 ?_
              refine Z_aload3 (pc := 77) ok dX11_pour_77 ?_
              refine g_X6_rows (pc := 78) (t := ((sc s) + 1)) ok dX11_pour_78 kw141 (sc_kd h) (sh_rf (sc_kd h)) ?_
              refine Z_iload5 (pc := 81) ok dX11_pour_81 ?_
              refine Z_aald (pc := 83) (r := (rc (sc s) i)) ok dX11_pour_83 (t := 4) (sh_kd (sc_kd h)) (by decide) rfl (sh_ln (sc_kd h)) (by first | omega | (simp [sz, uz]; omega)) (rc_rf (sc_kd h) l1) ?_
              refine Z_callVV (pc := 84) ok dX11_pour_84 cw_X11_257 rfl (sc_kd h2) (by decide) (c_Shelf_append (sc_kd h2) (rc_kd (sc_kd h) l1) (by omega)) rfl rfl (by decide) (Nat.le_of_ble_eq_true rfl) (fun I2 J2 q => ?_)
              refine Z_iinc5 (pc := 87) ok (by decide) dX11_pour_87 rfl ?_
              refine Z_goto (pc := 90) (tgt := 66) ok dX11_pour_90 rfl ?_
              obtain ⟨q1, q2, q3, q4, rfl⟩ := q
              rw [a1] at q1 q2 q3 q4
              have x1 : I1 (rc (sc s) i) = I (rc (sc s) i) := a3 _ (by simp only [rc]; omega) (fun m m0 m1 => by simp only [rc]; omega)
              have x2 : I1 (rc (sc s) i + 1) = I (rc (sc s) i + 1) := a3 _ (by simp only [rc]; omega) (fun m m0 m1 => by simp only [rc]; omega)
              refine ih I2 (by omega) (fun m m0 m1 => ?_) (fun a b1 b2 => ?_)
              · by_cases hm : m = i
                · rw [hm, q2, q3, x1, x2]; exact ⟨rfl, rfl⟩
                · rw [q4 _ (by simp only [rc]; omega) (by simp only [rc]; omega) (by simp only [rc]; omega), q4 _ (by simp only [rc]; omega) (by simp only [rc]; omega) (by simp only [rc]; omega)]
                  exact a2 m m0 (by omega)
              · have := b2 i i0 (by omega)
                rw [q4 a b1 this.1 this.2]
                exact a3 a b1 (fun m m0 m1 => b2 m m0 (by omega))
          exact H 0 (by omega) (by omega) I (by omega) (fun m m0 m1 => by omega) (fun a _ _ => rfl)
        · refine Z_bipush (pc := 60) ok dX11_pour_60 (by decide) ?_
          refine Z_iret (pc := 62) ok okr dX11_pour_62 ?_
          exact ⟨_, rfl, rfl, Or.inr (Or.inr (Or.inl ⟨⟨h, h2⟩, h3, by omega, rfl, rfl⟩))⟩
      · refine Z_bipush (pc := 21) ok dX11_pour_21 (by decide) ?_
        refine Z_iret (pc := 23) ok okr dX11_pour_23 ?_
        exact ⟨_, rfl, rfl, Or.inr (Or.inl ⟨⟨h, h2⟩, h3, rfl, rfl⟩)⟩
    · refine Z_iconst (pc := 14) ok dX11_pour_14 ?_
      refine Z_iret (pc := 15) ok okr dX11_pour_15 ?_
      exact ⟨_, rfl, rfl, Or.inl ⟨fun q => h2 q.2, rfl, rfl⟩⟩
theorem c_list {i n : Int} (hi : -2147483648 ≤ i ∧ i ≤ 2147483647) (hn : -2147483648 ≤ n ∧ n ≤ 2147483647) : K_X11_list l G [zr G 0, zi i, zi n] I J (fun w I' J' => ∃ r, w = some (zi r) ∧ ((¬ (0 ≤ i ∧ i < 3) ∧ r = -1 ∧ I' = I ∧ J' = J) ∨ ((0 ≤ i ∧ i < 3) ∧ 30 < n ∧ r = -2 ∧ I' = I ∧ J' = J) ∨ ((0 ≤ i ∧ i < 3) ∧ n < -1 ∧ r = -14 ∧ I' = I ∧ J' = J) ∨ ((0 ≤ i ∧ i < 3) ∧ (-1 ≤ n ∧ n ≤ 30) ∧ r = 1 ∧ I' = sz I (lc i) (uz (I (lc i)) 0 n) ∧ J' = sz J (lc i + 1) (fun _ => 0)))) := by
  refine Cz.of rfl (Nat.le_of_ble_eq_true rfl) [some (zr G 0), some (zi i), some (zi n)] rfl (fun E ok okr hE => ?_)
  refine Z_iload1 (pc := 0) ok dX11_list_0 ?_
  refine Z_callSId (pc := 1) ok dX11_list_1 cw_X11_175 (c_isList hi) rfl rfl (by decide) (Nat.le_of_ble_eq_true rfl) ?_
  refine Z_if_neB (pc := 4) (tgt := 9) ok dX11_list_4 rfl (fun h => ?_) (fun h => ?_)
  · refine Z_iload2 (pc := 9) ok dX11_list_9 ?_
    refine Z_bipush (pc := 10) ok dX11_list_10 (by decide) ?_
    refine Z_icmp_le (pc := 12) (tgt := 18) ok dX11_list_12 rfl (by first | omega | (simp [sz, uz]; omega)) (by first | omega | (simp [sz, uz]; omega)) (fun h2 => ?_) (fun h2 => ?_)
    · refine Z_iload2 (pc := 18) ok dX11_list_18 ?_
      refine Z_iconst (pc := 19) ok dX11_list_19 ?_
      refine Z_icmp_ge (pc := 20) (tgt := 26) ok dX11_list_20 rfl (by first | omega | (simp [sz, uz]; omega)) (by first | omega | (simp [sz, uz]; omega)) (fun h3 => ?_) (fun h3 => ?_)
      · refine Z_aload0 (pc := 26) ok dX11_list_26 ?_
        refine g_X11_lists (pc := 27) (t := 103) ok dX11_list_27 kw347 rfl rfl ?_
        refine Z_iload1 (pc := 30) ok dX11_list_30 ?_
        refine Z_aald (pc := 31) (r := (lc i)) (L := 3) ok dX11_list_31 (t := 3) rfl (by decide) rfl rfl (by first | omega | (simp [sz, uz]; omega)) (lc_rf h) ?_
        refine Z_iload2 (pc := 32) ok dX11_list_32 ?_
        refine Z_callVVd (pc := 33) ok dX11_list_33 cw_X11_266 rfl (lc_kd h) (by decide) (c_LongList_renew (lc_kd h) n) rfl rfl (by decide) (Nat.le_of_ble_eq_true rfl) ?_
        refine Z_iconst (pc := 36) ok dX11_list_36 ?_
        refine Z_iret (pc := 37) ok okr dX11_list_37 ?_
        exact ⟨_, rfl, Or.inr (Or.inr (Or.inr ⟨h, by omega, rfl, rfl, rfl⟩))⟩
      · refine Z_bipush (pc := 23) ok dX11_list_23 (by decide) ?_
        refine Z_iret (pc := 25) ok okr dX11_list_25 ?_
        exact ⟨_, rfl, Or.inr (Or.inr (Or.inl ⟨h, h3, rfl, rfl, rfl⟩))⟩
    · refine Z_bipush (pc := 15) ok dX11_list_15 (by decide) ?_
      refine Z_iret (pc := 17) ok okr dX11_list_17 ?_
      exact ⟨_, rfl, Or.inr (Or.inl ⟨h, h2, rfl, rfl, rfl⟩)⟩
  · refine Z_iconst (pc := 7) ok dX11_list_7 ?_
    refine Z_iret (pc := 8) ok okr dX11_list_8 ?_
    exact ⟨_, rfl, Or.inl ⟨h, rfl, rfl, rfl⟩⟩
theorem c_put {i j v : Int} (hi : -2147483648 ≤ i ∧ i ≤ 2147483647) (hj : -2147483648 ≤ j ∧ j ≤ 2147483647) (hl : lsOk I J) : K_X11_put l G [zr G 0, zi i, zi j, zl v] I J (fun w I' J' => ∃ r, w = some (zi r) ∧ (I' = I ∧ ((¬ (0 ≤ i ∧ i < 3) ∧ r = -1 ∧ J' = J) ∨ ((0 ≤ i ∧ i < 3) ∧ I (lc i) 0 < 0 ∧ r = -11 ∧ J' = J) ∨ ((0 ≤ i ∧ i < 3) ∧ 0 ≤ I (lc i) 0 ∧ ¬ (0 ≤ j ∧ j < I (lc i) 0) ∧ r = -13 ∧ J' = J) ∨ ((0 ≤ i ∧ i < 3) ∧ (0 ≤ j ∧ j < I (lc i) 0) ∧ r = 1 ∧ J' = sz J (lc i + 1) (uz (J (lc i + 1)) j v))))) := by
  refine Cz.of rfl (Nat.le_of_ble_eq_true rfl) [some (zr G 0), some (zi i), some (zi j), some (zl v), none, none] rfl (fun E ok okr hE => ?_)
  refine Z_iload1 (pc := 0) ok dX11_put_0 ?_
  refine Z_callSId (pc := 1) ok dX11_put_1 cw_X11_175 (c_isList hi) rfl rfl (by decide) (Nat.le_of_ble_eq_true rfl) ?_
  refine Z_if_neB (pc := 4) (tgt := 9) ok dX11_put_4 rfl (fun h => ?_) (fun h => ?_)
  · obtain ⟨hs, hJ⟩ := hl i h.1 h.2
    refine Z_aload0 (pc := 9) ok dX11_put_9 ?_
    refine g_X11_lists (pc := 10) (t := 103) ok dX11_put_10 kw347 rfl rfl ?_
    refine Z_iload1 (pc := 13) ok dX11_put_13 ?_
    refine Z_aald (pc := 14) (r := (lc i)) (L := 3) ok dX11_put_14 (t := 3) rfl (by decide) rfl rfl (by first | omega | (simp [sz, uz]; omega)) (lc_rf h) ?_
    refine Z_astore5 (pc := 15) ok (by decide) dX11_put_15 rfl ?_
    refine Z_aload5 (pc := 17) ok dX11_put_17 ?_
    refine Z_callVId (pc := 19) ok dX11_put_19 cw_X11_178 rfl (lc_kd h) (by decide) (c_LongList_isMissing (lc_kd h) hs) rfl rfl (by decide) (Nat.le_of_ble_eq_true rfl) ?_
    refine Z_if_eqB (pc := 22) (tgt := 28) ok dX11_put_22 rfl (fun h2 => ?_) (fun h2 => ?_)
    · refine Z_aload5 (pc := 28) ok dX11_put_28 ?_
      refine Z_iload2 (pc := 30) ok dX11_put_30 ?_
      refine Z_callVId (pc := 31) ok dX11_put_31 cw_X11_267 rfl (lc_kd h) (by decide) (c_LongList_has (lc_kd h) hs hj) rfl rfl (by decide) (Nat.le_of_ble_eq_true rfl) ?_
      refine Z_if_neB (pc := 34) (tgt := 40) ok dX11_put_34 rfl (fun h3 => ?_) (fun h3 => ?_)
      · refine Z_aload5 (pc := 40) ok dX11_put_40 ?_
        refine g_X2_values (pc := 42) (t := ((lc i) + 1)) ok dX11_put_42 kw290 (lc_kd h) (ll_rf (lc_kd h)) ?_
        refine Z_iload2 (pc := 45) ok dX11_put_45 ?_
        refine Z_lload3 (pc := 46) ok dX11_put_46 ?_
        refine Z_last (pc := 47) ok dX11_put_47 (ll_kd (lc_kd h)) (ll_ln (lc_kd h)) (by first | omega | (simp [sz, uz]; omega)) ?_
        refine Z_iconst (pc := 48) ok dX11_put_48 ?_
        refine Z_iret (pc := 49) ok okr dX11_put_49 ?_
        exact ⟨_, rfl, rfl, Or.inr (Or.inr (Or.inr ⟨h, h3, rfl, rfl⟩))⟩
      · refine Z_bipush (pc := 37) ok dX11_put_37 (by decide) ?_
        refine Z_iret (pc := 39) ok okr dX11_put_39 ?_
        exact ⟨_, rfl, rfl, Or.inr (Or.inr (Or.inl ⟨h, by omega, h3, rfl, rfl⟩))⟩
    · refine Z_bipush (pc := 25) ok dX11_put_25 (by decide) ?_
      refine Z_iret (pc := 27) ok okr dX11_put_27 ?_
      exact ⟨_, rfl, rfl, Or.inr (Or.inl ⟨h, h2, rfl, rfl⟩)⟩
  · refine Z_iconst (pc := 7) ok dX11_put_7 ?_
    refine Z_iret (pc := 8) ok okr dX11_put_8 ?_
    exact ⟨_, rfl, rfl, Or.inl ⟨h, rfl, rfl⟩⟩
theorem c_get {i j : Int} (hi : -2147483648 ≤ i ∧ i ≤ 2147483647) (hj : -2147483648 ≤ j ∧ j ≤ 2147483647) (hl : lsOk I J) : K_X11_get l G [zr G 0, zi i, zi j] I J (fun w I' J' => ∃ r, w = some (zl r) ∧ (I' = I ∧ J' = J ∧ ((¬ ((0 ≤ i ∧ i < 3) ∧ (0 ≤ j ∧ j < I (lc i) 0)) ∧ r = -9223372036854775808) ∨ (((0 ≤ i ∧ i < 3) ∧ (0 ≤ j ∧ j < I (lc i) 0)) ∧ r = J (lc i + 1) j)))) := by
  refine Cz.of rfl (Nat.le_of_ble_eq_true rfl) [some (zr G 0), some (zi i), some (zi j)] rfl (fun E ok okr hE => ?_)
  refine Z_iload1 (pc := 0) ok dX11_get_0 ?_
  refine Z_callSId (pc := 1) ok dX11_get_1 cw_X11_175 (c_isList hi) rfl rfl (by decide) (Nat.le_of_ble_eq_true rfl) ?_
  refine Z_if_eqB (pc := 4) (tgt := 34) ok dX11_get_4 rfl (fun h => ?_) (fun h => ?_)
  · refine Z_ldc2 (pc := 34) (z := -9223372036854775808) ok dX11_get_34 kw446 (by decide) ?_
    refine Z_lret (pc := 37) ok okr dX11_get_37 ?_
    exact ⟨_, rfl, rfl, rfl, Or.inl ⟨fun q => h q.1, rfl⟩⟩
  · obtain ⟨hs, hJ⟩ := hl i h.1 h.2
    refine Z_aload0 (pc := 7) ok dX11_get_7 ?_
    refine g_X11_lists (pc := 8) (t := 103) ok dX11_get_8 kw347 rfl rfl ?_
    refine Z_iload1 (pc := 11) ok dX11_get_11 ?_
    refine Z_aald (pc := 12) (r := (lc i)) (L := 3) ok dX11_get_12 (t := 3) rfl (by decide) rfl rfl (by first | omega | (simp [sz, uz]; omega)) (lc_rf h) ?_
    refine Z_iload2 (pc := 13) ok dX11_get_13 ?_
    refine Z_callVId (pc := 14) ok dX11_get_14 cw_X11_267 rfl (lc_kd h) (by decide) (c_LongList_has (lc_kd h) hs hj) rfl rfl (by decide) (Nat.le_of_ble_eq_true rfl) ?_
    refine Z_if_eqB (pc := 17) (tgt := 34) ok dX11_get_17 rfl (fun h2 => ?_) (fun h2 => ?_)
    · refine Z_ldc2 (pc := 34) (z := -9223372036854775808) ok dX11_get_34 kw446 (by decide) ?_
      refine Z_lret (pc := 37) ok okr dX11_get_37 ?_
      exact ⟨_, rfl, rfl, rfl, Or.inl ⟨fun q => h2 q.2, rfl⟩⟩
    · refine Z_aload0 (pc := 20) ok dX11_get_20 ?_
      refine g_X11_lists (pc := 21) (t := 103) ok dX11_get_21 kw347 rfl rfl ?_
      refine Z_iload1 (pc := 24) ok dX11_get_24 ?_
      refine Z_aald (pc := 25) (r := (lc i)) (L := 3) ok dX11_get_25 (t := 3) rfl (by decide) rfl rfl (by first | omega | (simp [sz, uz]; omega)) (lc_rf h) ?_
      refine g_X2_values (pc := 26) (t := ((lc i) + 1)) ok dX11_get_26 kw290 (lc_kd h) (ll_rf (lc_kd h)) ?_
      refine Z_iload2 (pc := 29) ok dX11_get_29 ?_
      refine Z_lald (pc := 30) ok dX11_get_30 (ll_kd (lc_kd h)) (ll_ln (lc_kd h)) (by first | omega | (simp [sz, uz]; omega)) ?_
      refine Z_goto (pc := 31) (tgt := 37) ok dX11_get_31 rfl ?_
      refine Z_lret (pc := 37) ok okr dX11_get_37 ?_
      exact ⟨_, rfl, rfl, rfl, Or.inr ⟨⟨h, h2⟩, rfl⟩⟩
theorem c_film {i : Int} (hi : -2147483648 ≤ i ∧ i ≤ 2147483647) (h1 : gR (I 2 0) (I 3)) : K_X11_film l G [zr G 0, zi i] I J (fun w I' J' => ∃ r, w = some (zi r) ∧ ((¬ (0 ≤ i ∧ i < 3) ∧ r = -1 ∧ I' = I ∧ J' = J) ∨ ((0 ≤ i ∧ i < 3) ∧ r = I 2 0 ∧ I' = sz I (lc i) (uz (I (lc i)) 0 (I 2 0)) ∧ J' = sz J (lc i + 1) (I 3)))) := by
  have hn := h1.1
  refine Cz.of rfl (Nat.le_of_ble_eq_true rfl) [some (zr G 0), some (zi i), none, none] rfl (fun E ok okr hE => ?_)
  refine Z_iload1 (pc := 0) ok dX11_film_0 ?_
  refine Z_callSId (pc := 1) ok dX11_film_1 cw_X11_175 (c_isList hi) rfl rfl (by decide) (Nat.le_of_ble_eq_true rfl) ?_
  refine Z_if_neB (pc := 4) (tgt := 9) ok dX11_film_4 rfl (fun h => ?_) (fun h => ?_)
  · have e2 : sz I (lc i) (uz (I (lc i)) 0 (I 2 0)) 2 = I 2 := sz_ne _ _ (by simp only [lc]; omega)
    have e3 : sz I (lc i) (uz (I (lc i)) 0 (I 2 0)) 3 = I 3 := sz_ne _ _ (by simp only [lc]; omega)
    refine Z_aload0 (pc := 9) ok dX11_film_9 ?_
    refine g_X11_state (pc := 10) (t := 1) ok dX11_film_10 kw340 rfl rfl ?_
    refine g_X8_row (pc := 13) (t := 2) ok dX11_film_13 kw148 rfl rfl ?_
    refine Z_astore2 (pc := 16) ok (by decide) dX11_film_16 rfl ?_
    refine Z_aload0 (pc := 17) ok dX11_film_17 ?_
    refine g_X11_lists (pc := 18) (t := 103) ok dX11_film_18 kw347 rfl rfl ?_
    refine Z_iload1 (pc := 21) ok dX11_film_21 ?_
    refine Z_aald (pc := 22) (r := (lc i)) (L := 3) ok dX11_film_22 (t := 3) rfl (by decide) rfl rfl (by first | omega | (simp [sz, uz]; omega)) (lc_rf h) ?_
    refine Z_aload2 (pc := 23) ok dX11_film_23 ?_
    refine g_X5_n (pc := 24) ok dX11_film_24 kw96 rfl ?_
    refine Z_callVVd (pc := 27) ok dX11_film_27 cw_X11_266 rfl (lc_kd h) (by decide) (c_LongList_renew (lc_kd h) (I 2 0)) rfl rfl (by decide) (Nat.le_of_ble_eq_true rfl) ?_
    refine Z_iconst (pc := 30) ok dX11_film_30 ?_
    refine Z_istore3 (pc := 31) ok (by decide) dX11_film_31 rfl ?_
    generalize hT : sz I (lc i) (uz (I (lc i)) 0 (I 2 0)) = T at *
    have e20 := congrFun e2 0
    have H : ∀ e : Int, 0 ≤ e → e ≤ I 2 0 → ∀ f : Int → Int, (∀ j, 0 ≤ j → j < e → f j = I 3 j) → (∀ j, e ≤ j → f j = 0) → Xz E G T (sz J (lc i + 1) f) 32 [some (zr G 0), some (zi i), some (zr G 2), some (zi e)] [] := by
      refine zUp ?_ ?_
      · intro f a1 a2
        refine Z_ext1J (g := I 3) (fun j j0 j1 => ?_) ?_
        · by_cases hj : j < I 2 0
          · exact a1 j j0 hj
          · rw [a2 j (by omega), h1.2.2 j (by omega)]
        · refine Z_iload3 (pc := 32) ok dX11_film_32 ?_
          refine Z_aload2 (pc := 33) ok dX11_film_33 ?_
          refine g_X5_n (pc := 34) ok dX11_film_34 kw96 rfl ?_
          refine Z_icmp_ge (pc := 37) (tgt := 64) ok dX11_film_37 rfl (by first | omega | (simp [sz, uz]; omega)) (by first | omega | (simp [sz, uz]; omega)) (fun _ => ?_) (fun h => by exfalso; omega)
          refine Z_aload2 (pc := 64) ok dX11_film_64 ?_
          refine g_X5_n (pc := 65) ok dX11_film_65 kw96 rfl ?_
          refine Z_iret (pc := 68) ok okr dX11_film_68 ?_
          exact ⟨_, rfl, Or.inr ⟨h, e20, rfl, rfl⟩⟩
      · intro e e0 e1 ih f a1 a2
        have hc := h1.2.1 e
        have e3e := congrFun e3 e
        refine Z_iload3 (pc := 32) ok dX11_film_32 ?_
        refine Z_aload2 (pc := 33) ok dX11_film_33 ?_
        refine g_X5_n (pc := 34) ok dX11_film_34 kw96 rfl ?_
        refine Z_icmp_ge (pc := 37) (tgt := 64) ok dX11_film_37 rfl (by first | omega | (simp [sz, uz]; omega)) (by first | omega | (simp [sz, uz]; omega)) (fun h => by exfalso; omega) (fun _ => ?_)
        refine Z_aload0 (pc := 40) ok dX11_film_40 ?_
        refine g_X11_lists (pc := 41) (t := 103) ok dX11_film_41 kw347 rfl rfl ?_
        refine Z_iload1 (pc := 44) ok dX11_film_44 ?_
        refine Z_aald (pc := 45) (r := (lc i)) (L := 3) ok dX11_film_45 (t := 3) rfl (by decide) rfl rfl (by first | omega | (simp [sz, uz]; omega)) (lc_rf h) ?_
        refine g_X2_values (pc := 46) (t := ((lc i) + 1)) ok dX11_film_46 kw290 (lc_kd h) (ll_rf (lc_kd h)) ?_
        refine Z_iload3 (pc := 49) ok dX11_film_49 ?_
        refine Z_aload2 (pc := 50) ok dX11_film_50 ?_
        refine g_X5_counts (pc := 51) (t := 3) ok dX11_film_51 kw101 rfl rfl ?_
        refine Z_iload3 (pc := 54) ok dX11_film_54 ?_
        refine Z_iald (pc := 55) (L := 30) ok dX11_film_55 rfl rfl (by first | omega | (simp [sz, uz]; omega)) ?_
        refine Z_i2l (pc := 56) ok dX11_film_56 (by first | omega | (simp [sz, uz]; omega)) ?_
        refine Z_last (pc := 57) ok dX11_film_57 (ll_kd (lc_kd h)) (ll_ln (lc_kd h)) (by first | omega | (simp [sz, uz]; omega)) ?_
        refine Z_iinc3 (pc := 58) ok (by decide) dX11_film_58 rfl ?_
        refine Z_goto (pc := 61) (tgt := 32) ok dX11_film_61 rfl ?_
        rw [sz_sz, sz_eq, e3]
        refine ih _ (upto_s (p := fun j x => x = I 3 j) a1 rfl) (fun j hj => ?_)
        rw [uz_ne _ _ (by omega)]; exact a2 j (by omega)
    exact H 0 (by omega) (by omega) _ (fun j j0 j1 => by omega) (fun _ _ => rfl)
  · refine Z_iconst (pc := 7) ok dX11_film_7 ?_
    refine Z_iret (pc := 8) ok okr dX11_film_8 ?_
    exact ⟨_, rfl, Or.inl ⟨h, rfl, rfl, rfl⟩⟩
theorem c_Tape_append (hs : 0 ≤ I 110 2 ∧ I 110 2 < 100) (a : Int) : K_X9_append l G [zr G 110, zi a] I J (pR none (sz (sz I 111 (uz (I 111) (I 110 2) a)) 110 (uz (I 110) 2 (I 110 2 + 1))) J) := by
  refine Cz.of rfl (Nat.le_of_ble_eq_true rfl) [some (zr G 110), some (zi a)] rfl (fun E ok okr hE => ?_)
  refine Z_aload0 (pc := 0) ok dX9_append_0 ?_
  refine g_X9_size (pc := 1) ok dX9_append_1 kw306 rfl ?_
  refine Z_bipush (pc := 4) ok dX9_append_4 (by decide) ?_
  refine Z_icmp_ge (pc := 6) (tgt := 29) ok dX9_append_6 rfl (by first | omega | (simp [sz, uz]; omega)) (by first | omega | (simp [sz, uz]; omega)) (fun h => by exfalso; omega) (fun _ => ?_)
  refine Z_aload0 (pc := 9) ok dX9_append_9 ?_
  refine g_X9_bytes (pc := 10) (t := 111) ok dX9_append_10 kw304 rfl rfl ?_
  refine Z_aload0 (pc := 13) ok dX9_append_13 ?_
  refine g_X9_size (pc := 14) ok dX9_append_14 kw306 rfl ?_
  refine Z_iload1 (pc := 17) ok dX9_append_17 ?_
  refine Z_iast (pc := 18) (L := 100) ok dX9_append_18 rfl rfl (by first | omega | (simp [sz, uz]; omega)) ?_
  refine Z_aload0 (pc := 19) ok dX9_append_19 ?_
  refine Z_dup (pc := 20) ok dX9_append_20 rfl ?_
  refine g_X9_size (pc := 21) ok dX9_append_21 kw306 rfl ?_
  refine Z_iconst (pc := 24) ok dX9_append_24 ?_
  refine Z_iadd (pc := 25) ok dX9_append_25 ?_
  refine p_X9_size (pc := 26) ok dX9_append_26 kw306 rfl ?_
  refine Z_vret (pc := 29) ok okr dX9_append_29 ?_
  exact ⟨rfl, by simp only [sz_ne _ _ (show (110 : Nat) ≠ 111 by decide)], rfl⟩
theorem c_feed {a : Int} (ha : -2147483648 ≤ a ∧ a ≤ 2147483647) (hs : 0 ≤ I 110 2 ∧ I 110 2 ≤ 100) : K_X11_feed l G [zr G 0, zi a] I J (fun w I' J' => ∃ r, w = some (zi r) ∧ (J' = J ∧ ((¬ (32 ≤ a ∧ a ≤ 126) ∧ r = -2 ∧ I' = I) ∨ ((32 ≤ a ∧ a ≤ 126) ∧ I 110 2 = 100 ∧ r = -4 ∧ I' = I) ∨ ((32 ≤ a ∧ a ≤ 126) ∧ I 110 2 < 100 ∧ r = I 110 2 + 1 ∧ I' = sz (sz I 111 (uz (I 111) (I 110 2) a)) 110 (uz (I 110) 2 (I 110 2 + 1)))))) := by
  refine Cz.of rfl (Nat.le_of_ble_eq_true rfl) [some (zr G 0), some (zi a)] rfl (fun E ok okr hE => ?_)
  refine Z_iload1 (pc := 0) ok dX11_feed_0 ?_
  refine Z_bipush (pc := 1) ok dX11_feed_1 (by decide) ?_
  refine Z_icmp_lt (pc := 3) (tgt := 12) ok dX11_feed_3 rfl (by first | omega | (simp [sz, uz]; omega)) (by first | omega | (simp [sz, uz]; omega)) (fun h => ?_) (fun h => ?_)
  · refine Z_bipush (pc := 12) ok dX11_feed_12 (by decide) ?_
    refine Z_iret (pc := 14) ok okr dX11_feed_14 ?_
    exact ⟨_, rfl, rfl, Or.inl ⟨by omega, rfl, rfl⟩⟩
  · refine Z_iload1 (pc := 6) ok dX11_feed_6 ?_
    refine Z_bipush (pc := 7) ok dX11_feed_7 (by decide) ?_
    refine Z_icmp_le (pc := 9) (tgt := 15) ok dX11_feed_9 rfl (by first | omega | (simp [sz, uz]; omega)) (by first | omega | (simp [sz, uz]; omega)) (fun h2 => ?_) (fun h2 => ?_)
    · refine Z_aload0 (pc := 15) ok dX11_feed_15 ?_
      refine g_X11_tape (pc := 16) (t := 110) ok dX11_feed_16 kw348 rfl rfl ?_
      refine g_X9_size (pc := 19) ok dX11_feed_19 kw307 rfl ?_
      refine Z_bipush (pc := 22) ok dX11_feed_22 (by decide) ?_
      refine Z_icmp_lt (pc := 24) (tgt := 30) ok dX11_feed_24 rfl (by first | omega | (simp [sz, uz]; omega)) (by first | omega | (simp [sz, uz]; omega)) (fun h3 => ?_) (fun h3 => ?_)
      · refine Z_aload0 (pc := 30) ok dX11_feed_30 ?_
        refine g_X11_tape (pc := 31) (t := 110) ok dX11_feed_31 kw348 rfl rfl ?_
        refine Z_iload1 (pc := 34) ok dX11_feed_34 ?_
        refine Z_callVVd (pc := 35) ok dX11_feed_35 cw_X11_269 rfl rfl (by decide) (c_Tape_append ⟨hs.1, h3⟩ a) rfl rfl (by decide) (Nat.le_of_ble_eq_true rfl) ?_
        refine Z_aload0 (pc := 38) ok dX11_feed_38 ?_
        refine g_X11_tape (pc := 39) (t := 110) ok dX11_feed_39 kw348 rfl rfl ?_
        refine g_X9_size (pc := 42) ok dX11_feed_42 kw307 rfl ?_
        refine Z_iret (pc := 45) ok okr dX11_feed_45 ?_
        exact ⟨_, rfl, rfl, Or.inr (Or.inr ⟨by omega, h3, by rw [sz_eq, uz_eq], rfl⟩)⟩
      · refine Z_bipush (pc := 27) ok dX11_feed_27 (by decide) ?_
        refine Z_iret (pc := 29) ok okr dX11_feed_29 ?_
        exact ⟨_, rfl, rfl, Or.inr (Or.inl ⟨by omega, by omega, rfl, rfl⟩)⟩
    · refine Z_bipush (pc := 12) ok dX11_feed_12 (by decide) ?_
      refine Z_iret (pc := 14) ok okr dX11_feed_14 ?_
      exact ⟨_, rfl, rfl, Or.inl ⟨by omega, rfl, rfl⟩⟩
theorem c_wipe : K_X11_wipe l G [zr G 0] I J (pR (some (zi (I 110 2))) (sz I 110 (uz (I 110) 2 0)) J) := by
  refine Cz.of rfl (Nat.le_of_ble_eq_true rfl) [some (zr G 0), none] rfl (fun E ok okr hE => ?_)
  refine Z_aload0 (pc := 0) ok dX11_wipe_0 ?_
  refine g_X11_tape (pc := 1) (t := 110) ok dX11_wipe_1 kw348 rfl rfl ?_
  refine g_X9_size (pc := 4) ok dX11_wipe_4 kw307 rfl ?_
  refine Z_istore1 (pc := 7) ok (by decide) dX11_wipe_7 rfl ?_
  refine Z_aload0 (pc := 8) ok dX11_wipe_8 ?_
  refine g_X11_tape (pc := 9) (t := 110) ok dX11_wipe_9 kw348 rfl rfl ?_
  refine Z_iconst (pc := 12) ok dX11_wipe_12 ?_
  refine p_X9_size (pc := 13) ok dX11_wipe_13 kw307 rfl ?_
  refine Z_iload1 (pc := 16) ok dX11_wipe_16 ?_
  refine Z_iret (pc := 17) ok okr dX11_wipe_17 ?_
  exact ⟨rfl, rfl, rfl⟩
theorem c_listsThere (hl : lsOk I J) : K_X11_listsThere l G [zr G 0] I J (pR (some (zi (su (fun i => zb (0 ≤ I (lc i) 0)) 3))) I J) := by
  refine Cz.of rfl (Nat.le_of_ble_eq_true rfl) [some (zr G 0), none, none] rfl (fun E ok okr hE => ?_)
  refine Z_iconst (pc := 0) ok dX11_listsThere_0 ?_
  refine Z_istore1 (pc := 1) ok (by decide) dX11_listsThere_1 rfl ?_
  refine Z_iconst (pc := 2) ok dX11_listsThere_2 ?_
  refine Z_istore2 (pc := 3) ok (by decide) dX11_listsThere_3 rfl ?_
  have H : ∀ i : Int, 0 ≤ i → i ≤ 3 → Xz E G I J 4 [some (zr G 0), some (zi (su (fun i => zb (0 ≤ I (lc i) 0)) i)), some (zi i)] [] := by
    refine zUp ?_ ?_
    · refine Z_iload2 (pc := 4) ok dX11_listsThere_4 ?_
      refine Z_iconst (pc := 5) ok dX11_listsThere_5 ?_
      refine Z_icmp_ge (pc := 6) (tgt := 30) ok dX11_listsThere_6 rfl (by first | omega | (simp [sz, uz]; omega)) (by first | omega | (simp [sz, uz]; omega)) (fun _ => ?_) (fun h => by exfalso; omega)
      refine Z_iload1 (pc := 30) ok dX11_listsThere_30 ?_
      refine Z_iret (pc := 31) ok okr dX11_listsThere_31 ?_
      exact ⟨rfl, rfl, rfl⟩
    · intro i i0 i1 ih
      rw [su_s _ i0] at ih
      refine Z_iload2 (pc := 4) ok dX11_listsThere_4 ?_
      refine Z_iconst (pc := 5) ok dX11_listsThere_5 ?_
      refine Z_icmp_ge (pc := 6) (tgt := 30) ok dX11_listsThere_6 rfl (by first | omega | (simp [sz, uz]; omega)) (by first | omega | (simp [sz, uz]; omega)) (fun h => by exfalso; omega) (fun _ => ?_)
      refine Z_aload0 (pc := 9) ok dX11_listsThere_9 ?_
      refine g_X11_lists (pc := 10) (t := 103) ok dX11_listsThere_10 kw347 rfl rfl ?_
      refine Z_iload2 (pc := 13) ok dX11_listsThere_13 ?_
      refine Z_aald (pc := 14) (r := (lc i)) (L := 3) ok dX11_listsThere_14 (t := 3) rfl (by decide) rfl rfl (by first | omega | (simp [sz, uz]; omega)) (lc_rf ⟨i0, i1⟩) ?_
      refine Z_callVId (pc := 15) ok dX11_listsThere_15 cw_X11_178 rfl (lc_kd ⟨i0, i1⟩) (by decide) (c_LongList_isMissing (lc_kd ⟨i0, i1⟩) (hl i i0 i1).1) rfl rfl (by decide) (Nat.le_of_ble_eq_true rfl) ?_
      refine Z_if_neB (pc := 18) (tgt := 24) ok dX11_listsThere_18 rfl (fun h => ?_) (fun h => ?_)
      · refine Z_iinc2 (pc := 24) ok (by decide) dX11_listsThere_24 rfl ?_
        refine Z_goto (pc := 27) (tgt := 4) ok dX11_listsThere_27 rfl ?_
        rw [zb_f (by omega), Int.add_zero] at ih
        exact ih
      · refine Z_iinc1 (pc := 21) ok (by decide) dX11_listsThere_21 rfl ?_
        refine Z_iinc2 (pc := 24) ok (by decide) dX11_listsThere_24 rfl ?_
        refine Z_goto (pc := 27) (tgt := 4) ok dX11_listsThere_27 rfl ?_
        rw [zb_t (by omega)] at ih
        exact ih
  exact H 0 (by omega) (by omega)
theorem c_count {w : Int} (hw : -2147483648 ≤ w ∧ w ≤ 2147483647) (h1 : gR (I 2 0) (I 3)) (hl : lsOk I J) : K_X11_count l G [zr G 0, zi w] I J (fun v I' J' => ∃ r, v = some (zi r) ∧ (I' = I ∧ J' = J ∧ ((w = 0 ∧ r = I 2 0) ∨ (w = 1 ∧ r = su (fun j => zb (0 < I 3 j)) (I 2 0)) ∨ (w = 2 ∧ r = I 4 0) ∨ (w = 3 ∧ r = I 110 2) ∨ (w = 4 ∧ r = I 8 0 + I 26 0) ∨ (w = 5 ∧ r = su (fun i => zb (0 ≤ I (lc i) 0)) 3) ∨ (¬ (0 ≤ w ∧ w ≤ 5) ∧ r = -1)))) := by
  by_cases hc : 0 ≤ w ∧ w ≤ 5
  · have : w = 0 ∨ w = 1 ∨ w = 2 ∨ w = 3 ∨ w = 4 ∨ w = 5 := by omega
    rcases this with rfl | rfl | rfl | rfl | rfl | rfl
    · refine Cz.of rfl (Nat.le_of_ble_eq_true rfl) [some (zr G 0), some (zi 0)] rfl (fun E ok okr hE => ?_)
      refine Z_iload1 (pc := 0) ok dX11_count_0 ?_
      refine Z_tabI (pc := 1) (off := 39) (tgt := 40) ok dX11_count_1 (by decide) (by decide) (by decide) rfl rfl ?_
      refine Z_aload0 (pc := 40) ok dX11_count_40 ?_
      refine g_X11_state (pc := 41) (t := 1) ok dX11_count_41 kw340 rfl rfl ?_
      refine g_X8_row (pc := 44) (t := 2) ok dX11_count_44 kw148 rfl rfl ?_
      refine g_X5_n (pc := 47) ok dX11_count_47 kw96 rfl ?_
      refine Z_iret (pc := 50) ok okr dX11_count_50 ?_
      exact ⟨_, rfl, rfl, rfl, Or.inl ⟨rfl, rfl⟩⟩
    · refine Cz.of rfl (Nat.le_of_ble_eq_true rfl) [some (zr G 0), some (zi 1)] rfl (fun E ok okr hE => ?_)
      refine Z_iload1 (pc := 0) ok dX11_count_0 ?_
      refine Z_tabI (pc := 1) (off := 50) (tgt := 51) ok dX11_count_1 (by decide) (by decide) (by decide) rfl rfl ?_
      refine Z_aload0 (pc := 51) ok dX11_count_51 ?_
      refine g_X11_state (pc := 52) (t := 1) ok dX11_count_52 kw340 rfl rfl ?_
      refine g_X8_row (pc := 55) (t := 2) ok dX11_count_55 kw148 rfl rfl ?_
      refine Z_callVId (pc := 58) ok dX11_count_58 cw_X11_297 rfl rfl (by decide) (c_Row_rootsTaken rfl h1) rfl rfl (by decide) (Nat.le_of_ble_eq_true rfl) ?_
      refine Z_iret (pc := 61) ok okr dX11_count_61 ?_
      exact ⟨_, rfl, rfl, rfl, Or.inr (Or.inl ⟨rfl, rfl⟩)⟩
    · refine Cz.of rfl (Nat.le_of_ble_eq_true rfl) [some (zr G 0), some (zi 2)] rfl (fun E ok okr hE => ?_)
      refine Z_iload1 (pc := 0) ok dX11_count_0 ?_
      refine Z_tabI (pc := 1) (off := 61) (tgt := 62) ok dX11_count_1 (by decide) (by decide) (by decide) rfl rfl ?_
      refine Z_aload0 (pc := 62) ok dX11_count_62 ?_
      refine g_X11_state (pc := 63) (t := 1) ok dX11_count_63 kw340 rfl rfl ?_
      refine g_X8_plan (pc := 66) (t := 4) ok dX11_count_66 kw150 rfl rfl ?_
      refine g_X4_size (pc := 69) ok dX11_count_69 kw116 rfl ?_
      refine Z_iret (pc := 72) ok okr dX11_count_72 ?_
      exact ⟨_, rfl, rfl, rfl, Or.inr (Or.inr (Or.inl ⟨rfl, rfl⟩))⟩
    · refine Cz.of rfl (Nat.le_of_ble_eq_true rfl) [some (zr G 0), some (zi 3)] rfl (fun E ok okr hE => ?_)
      refine Z_iload1 (pc := 0) ok dX11_count_0 ?_
      refine Z_tabI (pc := 1) (off := 72) (tgt := 73) ok dX11_count_1 (by decide) (by decide) (by decide) rfl rfl ?_
      refine Z_aload0 (pc := 73) ok dX11_count_73 ?_
      refine g_X11_tape (pc := 74) (t := 110) ok dX11_count_74 kw348 rfl rfl ?_
      refine g_X9_size (pc := 77) ok dX11_count_77 kw307 rfl ?_
      refine Z_iret (pc := 80) ok okr dX11_count_80 ?_
      exact ⟨_, rfl, rfl, rfl, Or.inr (Or.inr (Or.inr (Or.inl ⟨rfl, rfl⟩)))⟩
    · refine Cz.of rfl (Nat.le_of_ble_eq_true rfl) [some (zr G 0), some (zi 4)] rfl (fun E ok okr hE => ?_)
      refine Z_iload1 (pc := 0) ok dX11_count_0 ?_
      refine Z_tabI (pc := 1) (off := 80) (tgt := 81) ok dX11_count_1 (by decide) (by decide) (by decide) rfl rfl ?_
      refine Z_aload0 (pc := 81) ok dX11_count_81 ?_
      refine g_X11_state (pc := 82) (t := 1) ok dX11_count_82 kw340 rfl rfl ?_
      refine g_X8_shelves (pc := 85) (t := 7) ok dX11_count_85 kw152 rfl rfl ?_
      refine Z_iconst (pc := 88) ok dX11_count_88 ?_
      refine Z_aald (pc := 89) (r := 8) (L := 2) ok dX11_count_89 (t := 5) rfl (by decide) rfl rfl (by first | omega | (simp [sz, uz]; omega)) rfl ?_
      refine g_X6_size (pc := 90) ok dX11_count_90 kw139 rfl ?_
      refine Z_aload0 (pc := 93) ok dX11_count_93 ?_
      refine g_X11_state (pc := 94) (t := 1) ok dX11_count_94 kw340 rfl rfl ?_
      refine g_X8_shelves (pc := 97) (t := 7) ok dX11_count_97 kw152 rfl rfl ?_
      refine Z_iconst (pc := 100) ok dX11_count_100 ?_
      refine Z_aald (pc := 101) (r := 26) (L := 2) ok dX11_count_101 (t := 5) rfl (by decide) rfl rfl (by first | omega | (simp [sz, uz]; omega)) rfl ?_
      refine g_X6_size (pc := 102) ok dX11_count_102 kw139 rfl ?_
      refine Z_iadd (pc := 105) ok dX11_count_105 ?_
      refine Z_iret (pc := 106) ok okr dX11_count_106 ?_
      exact ⟨_, rfl, rfl, rfl, Or.inr (Or.inr (Or.inr (Or.inr (Or.inl ⟨rfl, rfl⟩))))⟩
    · refine Cz.of rfl (Nat.le_of_ble_eq_true rfl) [some (zr G 0), some (zi 5)] rfl (fun E ok okr hE => ?_)
      refine Z_iload1 (pc := 0) ok dX11_count_0 ?_
      refine Z_tabI (pc := 1) (off := 106) (tgt := 107) ok dX11_count_1 (by decide) (by decide) (by decide) rfl rfl ?_
      refine Z_aload0 (pc := 107) ok dX11_count_107 ?_
      refine Z_callVId (pc := 108) ok dX11_count_108 cw_X11_300 rfl rfl (by decide) (c_listsThere hl) rfl rfl (by decide) (Nat.le_of_ble_eq_true rfl) ?_
      refine Z_iret (pc := 111) ok okr dX11_count_111 ?_
      exact ⟨_, rfl, rfl, rfl, Or.inr (Or.inr (Or.inr (Or.inr (Or.inr (Or.inl ⟨rfl, rfl⟩)))))⟩
  · refine Cz.of rfl (Nat.le_of_ble_eq_true rfl) [some (zr G 0), some (zi w)] rfl (fun E ok okr hE => ?_)
    refine Z_iload1 (pc := 0) ok dX11_count_0 ?_
    refine Z_tabO (pc := 1) (tgt := 112) ok dX11_count_1 (by first | omega | (simp [sz, uz]; omega)) (by omega) rfl ?_
    refine Z_iconst (pc := 112) ok dX11_count_112 ?_
    refine Z_iret (pc := 113) ok okr dX11_count_113 ?_
    exact ⟨_, rfl, rfl, rfl, Or.inr (Or.inr (Or.inr (Or.inr (Or.inr (Or.inr ⟨hc, rfl⟩)))))⟩
theorem c_State_become_44 (h0 : 0 ≤ I 8 0 ∧ I 8 0 ≤ 8) (h1 : 0 ≤ I 26 0 ∧ I 26 0 ≤ 8) : K_X8_become l G [zr G 44, zr G 1] I J (fun v I' J' => v = none ∧ (I' 45 0 = I 2 0 ∧ I' 46 = I 3 ∧ I' 47 0 = I 4 0 ∧ I' 48 = I 5 ∧ I' 49 = I 6 ∧ (I' 51 0 = I 8 0 ∧ ∀ m, 0 ≤ m → m < I 8 0 → I' (rc 51 m) 0 = I (rc 8 m) 0 ∧ I' (rc 51 m + 1) = I (rc 8 m + 1)) ∧ (I' 69 0 = I 26 0 ∧ ∀ m, 0 ≤ m → m < I 26 0 → I' (rc 69 m) 0 = I (rc 26 m) 0 ∧ I' (rc 69 m + 1) = I (rc 26 m + 1)) ∧ (∀ a, a < 44 ∨ 87 ≤ a → I' a = I a) ∧ J' = J)) := by
  refine Cz.of rfl (Nat.le_of_ble_eq_true rfl) [some (zr G 44), some (zr G 1), none] rfl (fun E ok okr hE => ?_)
  refine Z_aload0 (pc := 0) ok dX8_become_0 ?_
  refine g_X8_row (pc := 1) (t := 45) ok dX8_become_1 kw147 rfl rfl ?_
  refine Z_aload1 (pc := 4) ok dX8_become_4 ?_
  refine g_X8_row (pc := 5) (t := 2) ok dX8_become_5 kw147 rfl rfl ?_
  refine Z_callVVd (pc := 8) ok dX8_become_8 cw_X8_32 rfl rfl (by decide) (c_Row_become rfl rfl) rfl rfl (by decide) (Nat.le_of_ble_eq_true rfl) ?_
  refine Z_aload0 (pc := 11) ok dX8_become_11 ?_
  refine g_X8_plan (pc := 12) (t := 47) ok dX8_become_12 kw149 rfl rfl ?_
  refine Z_aload1 (pc := 15) ok dX8_become_15 ?_
  refine g_X8_plan (pc := 16) (t := 4) ok dX8_become_16 kw149 rfl rfl ?_
  refine Z_callVVd (pc := 19) ok dX8_become_19 cw_X8_36 rfl rfl (by decide) (c_Plan_become rfl rfl) rfl rfl (by decide) (Nat.le_of_ble_eq_true rfl) ?_
  refine Z_iconst (pc := 22) ok dX8_become_22 ?_
  refine Z_istore2 (pc := 23) ok (by decide) dX8_become_23 rfl ?_
  refine Z_gen (fun T hT => ?_)
  have b1 : T 45 0 = I 2 0 := by rw [hT]; simp [sz, uz]
  have b2 : T 46 = I 3 := by rw [hT]; simp [sz]
  have b3 : T 47 0 = I 4 0 := by rw [hT]; simp [sz, uz]
  have b4 : T 48 = I 5 := by rw [hT]; simp [sz]
  have b5 : T 49 = I 6 := by rw [hT]; simp [sz]
  have fT : ∀ a, a < 45 ∨ 50 ≤ a → T a = I a := fun a ha => by rw [hT]; simp only [sz]; repeat rw [if_neg (by omega)]
  clear hT
  have e0 : T 8 = I 8 := fT 8 (by omega)
  have e1 : T 26 = I 26 := fT 26 (by omega)
  refine Z_iload2 (pc := 24) ok dX8_become_24 ?_
  refine Z_iconst (pc := 25) ok dX8_become_25 ?_
  refine Z_icmp_ge (pc := 26) (tgt := 50) ok dX8_become_26 rfl (by first | omega | (simp [sz, uz]; omega)) (by first | omega | (simp [sz, uz]; omega)) (fun h => by exfalso; omega) (fun _ => ?_)
  refine Z_aload0 (pc := 29) ok dX8_become_29 ?_
  refine g_X8_shelves (pc := 30) (t := 50) ok dX8_become_30 kw151 rfl rfl ?_
  refine Z_iload2 (pc := 33) ok dX8_become_33 ?_
  refine Z_aald (pc := 34) (r := 51) (L := 2) ok dX8_become_34 (t := 5) rfl (by decide) rfl rfl (by first | omega | (simp [sz, uz]; omega)) rfl ?_
  refine Z_aload1 (pc := 35) ok dX8_become_35 ?_
  refine g_X8_shelves (pc := 36) (t := 7) ok dX8_become_36 kw151 rfl rfl ?_
  refine Z_iload2 (pc := 39) ok dX8_become_39 ?_
  refine Z_aald (pc := 40) (r := 8) (L := 2) ok dX8_become_40 (t := 5) rfl (by decide) rfl rfl (by first | omega | (simp [sz, uz]; omega)) rfl ?_
  refine Z_callVV (pc := 41) ok dX8_become_41 cw_X8_39 rfl rfl (by decide) (c_Shelf_become rfl rfl (by omega) (by rw [e0]; exact h0)) rfl rfl (by decide) (Nat.le_of_ble_eq_true rfl) (fun I1 J1 x => ?_)
  obtain ⟨x1, x2, x3, rfl⟩ := x
  have y1 : I1 26 = T 26 := x3 26 (by decide) (fun m m0 m1 => by rw [e0] at m1; simp only [rc]; omega)
  refine Z_iinc2 (pc := 44) ok (by decide) dX8_become_44 rfl ?_
  refine Z_goto (pc := 47) (tgt := 24) ok dX8_become_47 rfl ?_
  refine Z_iload2 (pc := 24) ok dX8_become_24 ?_
  refine Z_iconst (pc := 25) ok dX8_become_25 ?_
  refine Z_icmp_ge (pc := 26) (tgt := 50) ok dX8_become_26 rfl (by first | omega | (simp [sz, uz]; omega)) (by first | omega | (simp [sz, uz]; omega)) (fun h => by exfalso; omega) (fun _ => ?_)
  refine Z_aload0 (pc := 29) ok dX8_become_29 ?_
  refine g_X8_shelves (pc := 30) (t := 50) ok dX8_become_30 kw151 rfl rfl ?_
  refine Z_iload2 (pc := 33) ok dX8_become_33 ?_
  refine Z_aald (pc := 34) (r := 69) (L := 2) ok dX8_become_34 (t := 5) rfl (by decide) rfl rfl (by first | omega | (simp [sz, uz]; omega)) rfl ?_
  refine Z_aload1 (pc := 35) ok dX8_become_35 ?_
  refine g_X8_shelves (pc := 36) (t := 7) ok dX8_become_36 kw151 rfl rfl ?_
  refine Z_iload2 (pc := 39) ok dX8_become_39 ?_
  refine Z_aald (pc := 40) (r := 26) (L := 2) ok dX8_become_40 (t := 5) rfl (by decide) rfl rfl (by first | omega | (simp [sz, uz]; omega)) rfl ?_
  refine Z_callVV (pc := 41) ok dX8_become_41 cw_X8_39 rfl rfl (by decide) (c_Shelf_become rfl rfl (by omega) (by rw [y1, e1]; exact h1)) rfl rfl (by decide) (Nat.le_of_ble_eq_true rfl) (fun I2 J2 z => ?_)
  obtain ⟨z1, z2, z3, rfl⟩ := z
  refine Z_iinc2 (pc := 44) ok (by decide) dX8_become_44 rfl ?_
  refine Z_goto (pc := 47) (tgt := 24) ok dX8_become_47 rfl ?_
  refine Z_iload2 (pc := 24) ok dX8_become_24 ?_
  refine Z_iconst (pc := 25) ok dX8_become_25 ?_
  refine Z_icmp_ge (pc := 26) (tgt := 50) ok dX8_become_26 rfl (by first | omega | (simp [sz, uz]; omega)) (by first | omega | (simp [sz, uz]; omega)) (fun _ => ?_) (fun h => by exfalso; omega)
  refine Z_vret (pc := 50) ok okr dX8_become_50 ?_
  rw [y1, e1] at z1 z2 z3
  rw [e0] at x1 x2 x3
  have fz : ∀ a, a < 69 ∨ 87 ≤ a → I2 a = I1 a := fun a ha => z3 a (by omega) (fun m m0 m1 => by simp only [rc]; omega)
  have fx : ∀ a, a < 51 ∨ 69 ≤ a → I1 a = T a := fun a ha => x3 a (by omega) (fun m m0 m1 => by simp only [rc]; omega)
  refine ⟨rfl, ?_, ?_, ?_, ?_, ?_, ⟨?_, fun m m0 m1 => ?_⟩, ⟨z1, fun m m0 m1 => ?_⟩, fun a ha => ?_, rfl⟩
  · rw [fz _ (by omega), fx _ (by omega)]; exact b1
  · rw [fz _ (by omega), fx _ (by omega)]; exact b2
  · rw [fz _ (by omega), fx _ (by omega)]; exact b3
  · rw [fz _ (by omega), fx _ (by omega)]; exact b4
  · rw [fz _ (by omega), fx _ (by omega)]; exact b5
  · rw [fz _ (by omega)]; exact x1
  · have r1 : rc 51 m < 69 := by simp only [rc]; omega
    have r2 : rc 51 m + 1 < 69 := by simp only [rc]; omega
    rw [fz _ (Or.inl r1), fz _ (Or.inl r2)]
    have := x2 m m0 m1
    rw [fT (rc 8 m) (by simp only [rc]; omega), fT (rc 8 m + 1) (by simp only [rc]; omega)] at this
    exact this
  · have := z2 m m0 m1
    rw [fx (rc 26 m) (by simp only [rc]; omega), fx (rc 26 m + 1) (by simp only [rc]; omega), fT (rc 26 m) (by simp only [rc]; omega), fT (rc 26 m + 1) (by simp only [rc]; omega)] at this
    exact this
  · rw [fz a (by omega), fx a (by omega)]; exact fT a (by omega)
theorem c_State_become_1 (h0 : 0 ≤ I 51 0 ∧ I 51 0 ≤ 8) (h1 : 0 ≤ I 69 0 ∧ I 69 0 ≤ 8) : K_X8_become l G [zr G 1, zr G 44] I J (fun v I' J' => v = none ∧ (I' 2 0 = I 45 0 ∧ I' 3 = I 46 ∧ I' 4 0 = I 47 0 ∧ I' 5 = I 48 ∧ I' 6 = I 49 ∧ (I' 8 0 = I 51 0 ∧ ∀ m, 0 ≤ m → m < I 51 0 → I' (rc 8 m) 0 = I (rc 51 m) 0 ∧ I' (rc 8 m + 1) = I (rc 51 m + 1)) ∧ (I' 26 0 = I 69 0 ∧ ∀ m, 0 ≤ m → m < I 69 0 → I' (rc 26 m) 0 = I (rc 69 m) 0 ∧ I' (rc 26 m + 1) = I (rc 69 m + 1)) ∧ (∀ a, a < 1 ∨ 44 ≤ a → I' a = I a) ∧ J' = J)) := by
  refine Cz.of rfl (Nat.le_of_ble_eq_true rfl) [some (zr G 1), some (zr G 44), none] rfl (fun E ok okr hE => ?_)
  refine Z_aload0 (pc := 0) ok dX8_become_0 ?_
  refine g_X8_row (pc := 1) (t := 2) ok dX8_become_1 kw147 rfl rfl ?_
  refine Z_aload1 (pc := 4) ok dX8_become_4 ?_
  refine g_X8_row (pc := 5) (t := 45) ok dX8_become_5 kw147 rfl rfl ?_
  refine Z_callVVd (pc := 8) ok dX8_become_8 cw_X8_32 rfl rfl (by decide) (c_Row_become rfl rfl) rfl rfl (by decide) (Nat.le_of_ble_eq_true rfl) ?_
  refine Z_aload0 (pc := 11) ok dX8_become_11 ?_
  refine g_X8_plan (pc := 12) (t := 4) ok dX8_become_12 kw149 rfl rfl ?_
  refine Z_aload1 (pc := 15) ok dX8_become_15 ?_
  refine g_X8_plan (pc := 16) (t := 47) ok dX8_become_16 kw149 rfl rfl ?_
  refine Z_callVVd (pc := 19) ok dX8_become_19 cw_X8_36 rfl rfl (by decide) (c_Plan_become rfl rfl) rfl rfl (by decide) (Nat.le_of_ble_eq_true rfl) ?_
  refine Z_iconst (pc := 22) ok dX8_become_22 ?_
  refine Z_istore2 (pc := 23) ok (by decide) dX8_become_23 rfl ?_
  refine Z_gen (fun T hT => ?_)
  have b1 : T 2 0 = I 45 0 := by rw [hT]; simp [sz, uz]
  have b2 : T 3 = I 46 := by rw [hT]; simp [sz]
  have b3 : T 4 0 = I 47 0 := by rw [hT]; simp [sz, uz]
  have b4 : T 5 = I 48 := by rw [hT]; simp [sz]
  have b5 : T 6 = I 49 := by rw [hT]; simp [sz]
  have fT : ∀ a, a < 2 ∨ 7 ≤ a → T a = I a := fun a ha => by rw [hT]; simp only [sz]; repeat rw [if_neg (by omega)]
  clear hT
  have e0 : T 51 = I 51 := fT 51 (by omega)
  have e1 : T 69 = I 69 := fT 69 (by omega)
  refine Z_iload2 (pc := 24) ok dX8_become_24 ?_
  refine Z_iconst (pc := 25) ok dX8_become_25 ?_
  refine Z_icmp_ge (pc := 26) (tgt := 50) ok dX8_become_26 rfl (by first | omega | (simp [sz, uz]; omega)) (by first | omega | (simp [sz, uz]; omega)) (fun h => by exfalso; omega) (fun _ => ?_)
  refine Z_aload0 (pc := 29) ok dX8_become_29 ?_
  refine g_X8_shelves (pc := 30) (t := 7) ok dX8_become_30 kw151 rfl rfl ?_
  refine Z_iload2 (pc := 33) ok dX8_become_33 ?_
  refine Z_aald (pc := 34) (r := 8) (L := 2) ok dX8_become_34 (t := 5) rfl (by decide) rfl rfl (by first | omega | (simp [sz, uz]; omega)) rfl ?_
  refine Z_aload1 (pc := 35) ok dX8_become_35 ?_
  refine g_X8_shelves (pc := 36) (t := 50) ok dX8_become_36 kw151 rfl rfl ?_
  refine Z_iload2 (pc := 39) ok dX8_become_39 ?_
  refine Z_aald (pc := 40) (r := 51) (L := 2) ok dX8_become_40 (t := 5) rfl (by decide) rfl rfl (by first | omega | (simp [sz, uz]; omega)) rfl ?_
  refine Z_callVV (pc := 41) ok dX8_become_41 cw_X8_39 rfl rfl (by decide) (c_Shelf_become rfl rfl (by omega) (by rw [e0]; exact h0)) rfl rfl (by decide) (Nat.le_of_ble_eq_true rfl) (fun I1 J1 x => ?_)
  obtain ⟨x1, x2, x3, rfl⟩ := x
  have y1 : I1 69 = T 69 := x3 69 (by decide) (fun m m0 m1 => by rw [e0] at m1; simp only [rc]; omega)
  refine Z_iinc2 (pc := 44) ok (by decide) dX8_become_44 rfl ?_
  refine Z_goto (pc := 47) (tgt := 24) ok dX8_become_47 rfl ?_
  refine Z_iload2 (pc := 24) ok dX8_become_24 ?_
  refine Z_iconst (pc := 25) ok dX8_become_25 ?_
  refine Z_icmp_ge (pc := 26) (tgt := 50) ok dX8_become_26 rfl (by first | omega | (simp [sz, uz]; omega)) (by first | omega | (simp [sz, uz]; omega)) (fun h => by exfalso; omega) (fun _ => ?_)
  refine Z_aload0 (pc := 29) ok dX8_become_29 ?_
  refine g_X8_shelves (pc := 30) (t := 7) ok dX8_become_30 kw151 rfl rfl ?_
  refine Z_iload2 (pc := 33) ok dX8_become_33 ?_
  refine Z_aald (pc := 34) (r := 26) (L := 2) ok dX8_become_34 (t := 5) rfl (by decide) rfl rfl (by first | omega | (simp [sz, uz]; omega)) rfl ?_
  refine Z_aload1 (pc := 35) ok dX8_become_35 ?_
  refine g_X8_shelves (pc := 36) (t := 50) ok dX8_become_36 kw151 rfl rfl ?_
  refine Z_iload2 (pc := 39) ok dX8_become_39 ?_
  refine Z_aald (pc := 40) (r := 69) (L := 2) ok dX8_become_40 (t := 5) rfl (by decide) rfl rfl (by first | omega | (simp [sz, uz]; omega)) rfl ?_
  refine Z_callVV (pc := 41) ok dX8_become_41 cw_X8_39 rfl rfl (by decide) (c_Shelf_become rfl rfl (by omega) (by rw [y1, e1]; exact h1)) rfl rfl (by decide) (Nat.le_of_ble_eq_true rfl) (fun I2 J2 z => ?_)
  obtain ⟨z1, z2, z3, rfl⟩ := z
  refine Z_iinc2 (pc := 44) ok (by decide) dX8_become_44 rfl ?_
  refine Z_goto (pc := 47) (tgt := 24) ok dX8_become_47 rfl ?_
  refine Z_iload2 (pc := 24) ok dX8_become_24 ?_
  refine Z_iconst (pc := 25) ok dX8_become_25 ?_
  refine Z_icmp_ge (pc := 26) (tgt := 50) ok dX8_become_26 rfl (by first | omega | (simp [sz, uz]; omega)) (by first | omega | (simp [sz, uz]; omega)) (fun _ => ?_) (fun h => by exfalso; omega)
  refine Z_vret (pc := 50) ok okr dX8_become_50 ?_
  rw [y1, e1] at z1 z2 z3
  rw [e0] at x1 x2 x3
  have fz : ∀ a, a < 26 ∨ 44 ≤ a → I2 a = I1 a := fun a ha => z3 a (by omega) (fun m m0 m1 => by simp only [rc]; omega)
  have fx : ∀ a, a < 8 ∨ 26 ≤ a → I1 a = T a := fun a ha => x3 a (by omega) (fun m m0 m1 => by simp only [rc]; omega)
  refine ⟨rfl, ?_, ?_, ?_, ?_, ?_, ⟨?_, fun m m0 m1 => ?_⟩, ⟨z1, fun m m0 m1 => ?_⟩, fun a ha => ?_, rfl⟩
  · rw [fz _ (by omega), fx _ (by omega)]; exact b1
  · rw [fz _ (by omega), fx _ (by omega)]; exact b2
  · rw [fz _ (by omega), fx _ (by omega)]; exact b3
  · rw [fz _ (by omega), fx _ (by omega)]; exact b4
  · rw [fz _ (by omega), fx _ (by omega)]; exact b5
  · rw [fz _ (by omega)]; exact x1
  · have r1 : rc 8 m < 26 := by simp only [rc]; omega
    have r2 : rc 8 m + 1 < 26 := by simp only [rc]; omega
    rw [fz _ (Or.inl r1), fz _ (Or.inl r2)]
    have := x2 m m0 m1
    rw [fT (rc 51 m) (by simp only [rc]; omega), fT (rc 51 m + 1) (by simp only [rc]; omega)] at this
    exact this
  · have := z2 m m0 m1
    rw [fx (rc 69 m) (by simp only [rc]; omega), fx (rc 69 m + 1) (by simp only [rc]; omega), fT (rc 69 m) (by simp only [rc]; omega), fT (rc 69 m + 1) (by simp only [rc]; omega)] at this
    exact this
  · rw [fz a (by omega), fx a (by omega)]; exact fT a (by omega)
theorem c_image (h1 : gR (I 2 0) (I 3)) (h8 : 0 ≤ I 8 0 ∧ I 8 0 ≤ 8) (h26 : 0 ≤ I 26 0 ∧ I 26 0 ≤ 8) : K_X11_image l G [zr G 0] I J (fun v I' J' => ∃ r, v = some (zi r) ∧ (r = su (I 3) (I 2 0) ∧ I' 0 2 = 1 ∧ I' 45 0 = I 2 0 ∧ I' 46 = I 3 ∧ I' 47 0 = I 4 0 ∧ I' 48 = I 5 ∧ I' 49 = I 6 ∧ (I' 51 0 = I 8 0 ∧ ∀ m, 0 ≤ m → m < I 8 0 → I' (rc 51 m) 0 = I (rc 8 m) 0 ∧ I' (rc 51 m + 1) = I (rc 8 m + 1)) ∧ (I' 69 0 = I 26 0 ∧ ∀ m, 0 ≤ m → m < I 26 0 → I' (rc 69 m) 0 = I (rc 26 m) 0 ∧ I' (rc 69 m + 1) = I (rc 26 m + 1)) ∧ (∀ a, (0 < a ∧ a < 44) ∨ 87 ≤ a → I' a = I a) ∧ J' = J)) := by
  have hn := h1.1
  refine Cz.of rfl (Nat.le_of_ble_eq_true rfl) [some (zr G 0)] rfl (fun E ok okr hE => ?_)
  refine Z_aload0 (pc := 0) ok dX11_image_0 ?_
  refine g_X11_kept (pc := 1) (t := 44) ok dX11_image_1 kw341 rfl rfl ?_
  refine Z_aload0 (pc := 4) ok dX11_image_4 ?_
  refine g_X11_state (pc := 5) (t := 1) ok dX11_image_5 kw340 rfl rfl ?_
  refine Z_callVV (pc := 8) ok dX11_image_8 cw_X11_290 rfl rfl (by decide) (c_State_become_44 h8 h26) rfl rfl (by decide) (Nat.le_of_ble_eq_true rfl) (fun I1 J1 x => ?_)
  obtain ⟨x1, x2, x3, x4, x5, x6, x7, x8, rfl⟩ := x
  have e2 : sz I1 0 (uz (I1 0) 2 1) 2 = I 2 := by rw [sz_ne _ _ (by decide)]; exact x8 2 (by omega)
  have e3 : sz I1 0 (uz (I1 0) 2 1) 3 = I 3 := by rw [sz_ne _ _ (by decide)]; exact x8 3 (by omega)
  refine Z_aload0 (pc := 11) ok dX11_image_11 ?_
  refine Z_iconst (pc := 12) ok dX11_image_12 ?_
  refine p_X11_hasImage (pc := 13) ok dX11_image_13 kw342 rfl (by first | exact Or.inl rfl | exact Or.inr rfl | exact zb_01 _ | assumption | omega) ?_
  refine Z_aload0 (pc := 16) ok dX11_image_16 ?_
  refine g_X11_state (pc := 17) (t := 1) ok dX11_image_17 kw340 rfl rfl ?_
  refine g_X8_row (pc := 20) (t := 2) ok dX11_image_20 kw148 rfl rfl ?_
  refine Z_callVId (pc := 23) ok dX11_image_23 cw_X11_112 rfl rfl (by decide) (c_Row_total rfl (by rw [e2]; omega)) rfl rfl (by decide) (Nat.le_of_ble_eq_true rfl) ?_
  refine Z_iret (pc := 26) ok okr dX11_image_26 ?_
  have ne : ∀ a, 0 < a → sz I1 0 (uz (I1 0) 2 1) a = I1 a := fun a ha => sz_ne _ _ (by omega)
  refine ⟨_, rfl, ?_, by rw [sz_eq, uz_eq], ?_, ?_, ?_, ?_, ?_, ⟨?_, fun m m0 m1 => ?_⟩, ⟨?_, fun m m0 m1 => ?_⟩, fun a ha => ?_, rfl⟩
  · show su (sz I1 0 (uz (I1 0) 2 1) 3) (sz I1 0 (uz (I1 0) 2 1) 2 0) = _
    rw [e2, e3]
  · rw [ne _ (by omega)]; exact x1
  · rw [ne _ (by omega)]; exact x2
  · rw [ne _ (by omega)]; exact x3
  · rw [ne _ (by omega)]; exact x4
  · rw [ne _ (by omega)]; exact x5
  · rw [ne _ (by omega)]; exact x6.1
  · rw [ne _ (by simp only [rc]; omega), ne _ (by simp only [rc]; omega)]; exact x6.2 m m0 m1
  · rw [ne _ (by omega)]; exact x7.1
  · rw [ne _ (by simp only [rc]; omega), ne _ (by simp only [rc]; omega)]; exact x7.2 m m0 m1
  · rw [ne _ (by omega)]; exact x8 a (by omega)
theorem c_undo (hi : I 0 2 = 0 ∨ I 0 2 = 1) (h1 : gR (I 45 0) (I 46)) (h8 : 0 ≤ I 51 0 ∧ I 51 0 ≤ 8) (h26 : 0 ≤ I 69 0 ∧ I 69 0 ≤ 8) : K_X11_undo l G [zr G 0] I J (fun v I' J' => ∃ r, v = some (zi r) ∧ (J' = J ∧ ((I 0 2 = 0 ∧ r = -3 ∧ I' = I) ∨ (I 0 2 = 1 ∧ r = su (I 46) (I 45 0) ∧ I' 2 0 = I 45 0 ∧ I' 3 = I 46 ∧ I' 4 0 = I 47 0 ∧ I' 5 = I 48 ∧ I' 6 = I 49 ∧ (I' 8 0 = I 51 0 ∧ ∀ m, 0 ≤ m → m < I 51 0 → I' (rc 8 m) 0 = I (rc 51 m) 0 ∧ I' (rc 8 m + 1) = I (rc 51 m + 1)) ∧ (I' 26 0 = I 69 0 ∧ ∀ m, 0 ≤ m → m < I 69 0 → I' (rc 26 m) 0 = I (rc 69 m) 0 ∧ I' (rc 26 m + 1) = I (rc 69 m + 1)) ∧ (∀ a, a < 1 ∨ 44 ≤ a → I' a = I a))))) := by
  have hn := h1.1
  refine Cz.of rfl (Nat.le_of_ble_eq_true rfl) [some (zr G 0)] rfl (fun E ok okr hE => ?_)
  refine Z_aload0 (pc := 0) ok dX11_undo_0 ?_
  refine g_X11_hasImage (pc := 1) ok dX11_undo_1 kw342 rfl ?_
  refine Z_if_ne (pc := 4) (tgt := 10) ok dX11_undo_4 rfl (by first | omega | (simp [sz, uz]; omega)) (fun h => ?_) (fun h => ?_)
  · refine Z_aload0 (pc := 10) ok dX11_undo_10 ?_
    refine g_X11_state (pc := 11) (t := 1) ok dX11_undo_11 kw340 rfl rfl ?_
    refine Z_aload0 (pc := 14) ok dX11_undo_14 ?_
    refine g_X11_kept (pc := 15) (t := 44) ok dX11_undo_15 kw341 rfl rfl ?_
    refine Z_callVV (pc := 18) ok dX11_undo_18 cw_X11_290 rfl rfl (by decide) (c_State_become_1 h8 h26) rfl rfl (by decide) (Nat.le_of_ble_eq_true rfl) (fun I1 J1 x => ?_)
    obtain ⟨x1, x2, x3, x4, x5, x6, x7, x8, rfl⟩ := x
    refine Z_aload0 (pc := 21) ok dX11_undo_21 ?_
    refine g_X11_state (pc := 22) (t := 1) ok dX11_undo_22 kw340 rfl rfl ?_
    refine g_X8_row (pc := 25) (t := 2) ok dX11_undo_25 kw148 rfl rfl ?_
    refine Z_callVId (pc := 28) ok dX11_undo_28 cw_X11_112 rfl rfl (by decide) (c_Row_total rfl (by rw [x1]; omega)) rfl rfl (by decide) (Nat.le_of_ble_eq_true rfl) ?_
    refine Z_iret (pc := 31) ok okr dX11_undo_31 ?_
    refine ⟨_, rfl, rfl, Or.inr ⟨by omega, ?_, x1, x2, x3, x4, x5, x6, x7, x8⟩⟩
    show su (I1 3) (I1 2 0) = _
    rw [x1, x2]
  · refine Z_bipush (pc := 7) ok dX11_undo_7 (by decide) ?_
    refine Z_iret (pc := 9) ok okr dX11_undo_9 ?_
    exact ⟨_, rfl, rfl, Or.inl ⟨h, rfl, rfl⟩⟩
end
