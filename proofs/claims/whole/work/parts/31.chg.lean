/-! the reference: changes, turned -/
theorem zb_iff {P : Prop} {b : Int} (h : b = 0 ∨ b = 1) (hb : b = 1 ↔ P) : b = zb P := by
  rcases h with rfl | rfl
  · rw [zb_f (fun q => by have := hb.mpr q; omega)]
  · rw [zb_t (hb.mp rfl)]
section
variable {l : Launch} {G : Gw} {I J : Mz}
theorem m_common {v n : Int} (hv : 0 ≤ v ∧ v ≤ 2147483647) (hn : 0 ≤ n ∧ n ≤ 2147483647) : K_X12_common l G [zi v, zi n] I J (pR (some (zi ((Nat.gcd v.toNat n.toNat : Nat) : Int))) I J) := by
  refine Cz.of rfl (Nat.le_of_ble_eq_true rfl) [some (zi v), some (zi n), none, none, none] rfl (fun E ok okr hE => ?_)
  refine Z_iload0 (pc := 0) ok dX12_common_0 ?_
  refine Z_istore2 (pc := 1) ok (by decide) dX12_common_1 rfl ?_
  refine Z_iload1 (pc := 2) ok dX12_common_2 ?_
  refine Z_istore3 (pc := 3) ok (by decide) dX12_common_3 rfl ?_
  have H : ∀ (k a b : Nat), b ≤ k → a ≤ 2147483647 → b ≤ 2147483647 → Nat.gcd a b = Nat.gcd v.toNat n.toNat → ∀ w, Xz E G I J 4 [some (zi v), some (zi n), some (zi (a : Int)), some (zi (b : Int)), w] [] := by
    intro k
    induction k with
    | zero =>
      intro a b hk ha hb hg w
      have hb0 : b = 0 := by omega
      subst hb0
      rw [Nat.gcd_zero_right] at hg
      refine Z_iload3 (pc := 4) ok dX12_common_4 ?_
      refine Z_if_eq (pc := 5) (tgt := 21) ok dX12_common_5 rfl (by first | omega | (simp [sz, uz] <;> omega)) (fun _ => ?_) (fun h => by exfalso; omega)
      refine Z_iload2 (pc := 21) ok dX12_common_21 ?_
      refine Z_iret (pc := 22) ok okr dX12_common_22 ?_
      exact ⟨by rw [hg], rfl, rfl⟩
    | succ k ihk =>
      intro a b hk ha hb hg w
      refine Z_iload3 (pc := 4) ok dX12_common_4 ?_
      refine Z_if_eq (pc := 5) (tgt := 21) ok dX12_common_5 rfl (by first | omega | (simp [sz, uz] <;> omega)) (fun h => ?_) (fun h => ?_)
      · have hb0 : b = 0 := by omega
        subst hb0
        rw [Nat.gcd_zero_right] at hg
        refine Z_iload2 (pc := 21) ok dX12_common_21 ?_
        refine Z_iret (pc := 22) ok okr dX12_common_22 ?_
        exact ⟨by rw [hg], rfl, rfl⟩
      · have hm : a % b < b := Nat.mod_lt _ (by omega)
        have hx := ihk b (a % b) (by omega) (by omega) (by omega) (by rw [← hg, Nat.gcd_comm b (a % b), ← Nat.gcd_rec, Nat.gcd_comm]) (some (zi (((a % b : Nat) : Int))))
        rw [Int.natCast_emod] at hx
        refine Z_iload2 (pc := 8) ok dX12_common_8 ?_
        refine Z_iload3 (pc := 9) ok dX12_common_9 ?_
        refine Z_irem (pc := 10) ok dX12_common_10 (by omega) (by omega) (by omega) (by omega) ?_
        refine Z_istore4 (pc := 11) ok (by decide) dX12_common_11 rfl ?_
        refine Z_iload3 (pc := 13) ok dX12_common_13 ?_
        refine Z_istore2 (pc := 14) ok (by decide) dX12_common_14 rfl ?_
        refine Z_iload4 (pc := 15) ok dX12_common_15 ?_
        refine Z_istore3 (pc := 17) ok (by decide) dX12_common_17 rfl ?_
        refine Z_goto (pc := 18) (tgt := 4) ok dX12_common_18 rfl ?_
        exact hx
  have h0 := H n.toNat v.toNat n.toNat (Nat.le_refl _) (by omega) (by omega) rfl none
  rw [Int.toNat_of_nonneg hv.1, Int.toNat_of_nonneg hn.1] at h0
  exact h0
theorem m_isPrime {p : Int} (hp : -2147483648 ≤ p ∧ p ≤ 2147483647) (hn : 2 ≤ I 121 0 ∧ I 121 0 ≤ 30) : K_X12_isPrime l G [zr G 121, zi p] I J (pR (some (zi (zb (isP p (I 121 0))))) I J) := by
  refine Cz.of rfl (Nat.le_of_ble_eq_true rfl) [some (zr G 121), some (zi p), none, none] rfl (fun E ok okr hE => ?_)
  refine Z_iload1 (pc := 0) ok dX12_isPrime_0 ?_
  refine Z_i2l (pc := 1) ok dX12_isPrime_1 (by first | omega | (simp [sz, uz] <;> omega)) ?_
  refine Z_ldc2 (pc := 2) (z := 2) ok dX12_isPrime_2 kw1022 (by decide) ?_
  refine Z_aload0 (pc := 5) ok dX12_isPrime_5 ?_
  refine g_X12_n (pc := 6) ok dX12_isPrime_6 kw905 rfl ?_
  refine Z_i2l (pc := 9) ok dX12_isPrime_9 (by first | omega | (simp [sz, uz] <;> omega)) ?_
  refine Z_callSId (pc := 10) ok dX12_isPrime_10 cw_X12_97 (m_in (by omega) (by omega) (by omega)) rfl rfl (by first | decide | omega) (Nat.le_of_ble_eq_true rfl) ?_
  refine Z_if_eqB (pc := 13) (tgt := 29) ok dX12_isPrime_13 rfl (fun h => ?_) (fun h => ?_)
  · refine Z_iconst (pc := 29) ok dX12_isPrime_29 ?_
    refine Z_istore2 (pc := 30) ok (by decide) dX12_isPrime_30 rfl ?_
    refine Z_iconst (pc := 31) ok dX12_isPrime_31 ?_
    refine Z_istore3 (pc := 32) ok (by decide) dX12_isPrime_32 rfl ?_
    refine Z_iload2 (pc := 33) ok dX12_isPrime_33 ?_
    refine Z_if_eq (pc := 34) (tgt := 60) ok dX12_isPrime_34 rfl (by first | omega | (simp [sz, uz] <;> omega)) (fun _ => ?_) (fun h => by exfalso; omega)
    refine Z_iload2 (pc := 60) ok dX12_isPrime_60 ?_
    refine Z_bret (pc := 61) ok okr dX12_isPrime_61 (by first | exact Or.inl rfl | exact Or.inr rfl | exact zb_01 _ | assumption | omega) ?_
    exact ⟨by rw [zb_f (fun q => h ⟨q.1, q.2.1⟩)], rfl, rfl⟩
  · refine Z_aload0 (pc := 16) ok dX12_isPrime_16 ?_
    refine g_X12_n (pc := 17) ok dX12_isPrime_17 kw905 rfl ?_
    refine Z_iload1 (pc := 20) ok dX12_isPrime_20 ?_
    refine Z_irem (pc := 21) ok dX12_isPrime_21 (by omega) (by omega) (by omega) (by omega) ?_
    refine Z_if_ne (pc := 22) (tgt := 29) ok dX12_isPrime_22 rfl (em_r (by omega) (by omega)) (fun h2 => ?_) (fun h2 => ?_)
    · refine Z_iconst (pc := 29) ok dX12_isPrime_29 ?_
      refine Z_istore2 (pc := 30) ok (by decide) dX12_isPrime_30 rfl ?_
      refine Z_iconst (pc := 31) ok dX12_isPrime_31 ?_
      refine Z_istore3 (pc := 32) ok (by decide) dX12_isPrime_32 rfl ?_
      refine Z_iload2 (pc := 33) ok dX12_isPrime_33 ?_
      refine Z_if_eq (pc := 34) (tgt := 60) ok dX12_isPrime_34 rfl (by first | omega | (simp [sz, uz] <;> omega)) (fun _ => ?_) (fun h => by exfalso; omega)
      refine Z_iload2 (pc := 60) ok dX12_isPrime_60 ?_
      refine Z_bret (pc := 61) ok okr dX12_isPrime_61 (by first | exact Or.inl rfl | exact Or.inr rfl | exact zb_01 _ | assumption | omega) ?_
      exact ⟨by rw [zb_f (fun q => h2 q.2.2.1)], rfl, rfl⟩
    · refine Z_iconst (pc := 25) ok dX12_isPrime_25 ?_
      refine Z_goto (pc := 26) (tgt := 30) ok dX12_isPrime_26 rfl ?_
      refine Z_istore2 (pc := 30) ok (by decide) dX12_isPrime_30 rfl ?_
      refine Z_iconst (pc := 31) ok dX12_isPrime_31 ?_
      refine Z_istore3 (pc := 32) ok (by decide) dX12_isPrime_32 rfl ?_
      have H : ∀ d : Int, 2 ≤ d → d ≤ p → (∀ j, 2 ≤ j → j < d → p % j ≠ 0) → Xz E G I J 33 [some (zr G 121), some (zi p), some (zi 1), some (zi d)] [] := by
        refine zUp ?_ ?_
        · intro hj
          refine Z_iload2 (pc := 33) ok dX12_isPrime_33 ?_
          refine Z_if_eq (pc := 34) (tgt := 60) ok dX12_isPrime_34 rfl (by first | omega | (simp [sz, uz] <;> omega)) (fun h => by exfalso; omega) (fun _ => ?_)
          refine Z_iload3 (pc := 37) ok dX12_isPrime_37 ?_
          refine Z_iload1 (pc := 38) ok dX12_isPrime_38 ?_
          refine Z_icmp_ge (pc := 39) (tgt := 60) ok dX12_isPrime_39 rfl (by first | omega | (simp [sz, uz] <;> omega)) (by first | omega | (simp [sz, uz] <;> omega)) (fun _ => ?_) (fun h => by exfalso; omega)
          refine Z_iload2 (pc := 60) ok dX12_isPrime_60 ?_
          refine Z_bret (pc := 61) ok okr dX12_isPrime_61 (by first | exact Or.inl rfl | exact Or.inr rfl | exact zb_01 _ | assumption | omega) ?_
          exact ⟨by rw [zb_t ⟨h.1, h.2, h2, hj⟩], rfl, rfl⟩
        · intro d d0 d1 ih hj
          refine Z_iload2 (pc := 33) ok dX12_isPrime_33 ?_
          refine Z_if_eq (pc := 34) (tgt := 60) ok dX12_isPrime_34 rfl (by first | omega | (simp [sz, uz] <;> omega)) (fun h => by exfalso; omega) (fun _ => ?_)
          refine Z_iload3 (pc := 37) ok dX12_isPrime_37 ?_
          refine Z_iload1 (pc := 38) ok dX12_isPrime_38 ?_
          refine Z_icmp_ge (pc := 39) (tgt := 60) ok dX12_isPrime_39 rfl (by first | omega | (simp [sz, uz] <;> omega)) (by first | omega | (simp [sz, uz] <;> omega)) (fun h => by exfalso; omega) (fun _ => ?_)
          refine Z_iload1 (pc := 42) ok dX12_isPrime_42 ?_
          refine Z_iload3 (pc := 43) ok dX12_isPrime_43 ?_
          refine Z_irem (pc := 44) ok dX12_isPrime_44 (by omega) (by omega) (by omega) (by omega) ?_
          refine Z_if_eq (pc := 45) (tgt := 52) ok dX12_isPrime_45 rfl (em_r (by omega) (by omega)) (fun hd => ?_) (fun hd => ?_)
          · refine Z_iconst (pc := 52) ok dX12_isPrime_52 ?_
            refine Z_istore2 (pc := 53) ok (by decide) dX12_isPrime_53 rfl ?_
            refine Z_iinc3 (pc := 54) ok (by decide) dX12_isPrime_54 rfl ?_
            refine Z_goto (pc := 57) (tgt := 33) ok dX12_isPrime_57 rfl ?_
            refine Z_iload2 (pc := 33) ok dX12_isPrime_33 ?_
            refine Z_if_eq (pc := 34) (tgt := 60) ok dX12_isPrime_34 rfl (by first | omega | (simp [sz, uz] <;> omega)) (fun _ => ?_) (fun h => by exfalso; omega)
            refine Z_iload2 (pc := 60) ok dX12_isPrime_60 ?_
            refine Z_bret (pc := 61) ok okr dX12_isPrime_61 (by first | exact Or.inl rfl | exact Or.inr rfl | exact zb_01 _ | assumption | omega) ?_
            exact ⟨by rw [zb_f (fun q => q.2.2.2 d d0 d1 hd)], rfl, rfl⟩
          · refine Z_iconst (pc := 48) ok dX12_isPrime_48 ?_
            refine Z_goto (pc := 49) (tgt := 53) ok dX12_isPrime_49 rfl ?_
            refine Z_istore2 (pc := 53) ok (by decide) dX12_isPrime_53 rfl ?_
            refine Z_iinc3 (pc := 54) ok (by decide) dX12_isPrime_54 rfl ?_
            refine Z_goto (pc := 57) (tgt := 33) ok dX12_isPrime_57 rfl ?_
            exact ih (fun j h3 h4 => by by_cases h5 : j = d; subst h5; exact hd; exact hj j h3 (by omega))
      exact H 2 (by omega) (by omega) (fun j h3 h4 => by omega)
theorem m_can {a v : Int} (ha : 0 ≤ a ∧ a ≤ 3) (hv : -2147483648 ≤ v ∧ v ≤ 2147483647) (hn : 2 ≤ I 121 0 ∧ I 121 0 ≤ 30) : K_X12_can l G [zr G 121, zi a, zi v] I J (pR (some (zi (zb (cCh a v (I 121 0))))) I J) := by
  refine Cz.of rfl (Nat.le_of_ble_eq_true rfl) [some (zr G 121), some (zi a), some (zi v)] rfl (fun E ok okr hE => ?_)
  refine Z_iload1 (pc := 0) ok dX12_can_0 ?_
  refine Z_iconst (pc := 1) ok dX12_can_1 ?_
  refine Z_icmp_ne (pc := 2) (tgt := 37) ok dX12_can_2 rfl (by first | omega | (simp [sz, uz] <;> omega)) (by first | omega | (simp [sz, uz] <;> omega)) (fun h1 => ?_) (fun h1 => ?_)
  · refine Z_iload1 (pc := 37) ok dX12_can_37 ?_
    refine Z_iconst (pc := 38) ok dX12_can_38 ?_
    refine Z_icmp_ne (pc := 39) (tgt := 50) ok dX12_can_39 rfl (by first | omega | (simp [sz, uz] <;> omega)) (by first | omega | (simp [sz, uz] <;> omega)) (fun h2 => ?_) (fun h2 => ?_)
    · refine Z_iconst (pc := 50) ok dX12_can_50 ?_
      refine Z_goto (pc := 51) (tgt := 55) ok dX12_can_51 rfl ?_
      refine Z_bret (pc := 55) ok okr dX12_can_55 (by first | exact Or.inl rfl | exact Or.inr rfl | exact zb_01 _ | assumption | omega) ?_
      exact ⟨by rw [zb_t ⟨fun q => absurd q h1, fun q => absurd q h2⟩], rfl, rfl⟩
    · refine Z_aload0 (pc := 42) ok dX12_can_42 ?_
      refine Z_iload2 (pc := 43) ok dX12_can_43 ?_
      refine Z_callVId (pc := 44) ok dX12_can_44 cw_X12_170 rfl rfl (by decide) (m_isPrime hv hn) rfl rfl (by first | decide | omega) (Nat.le_of_ble_eq_true rfl) ?_
      refine Z_if_eqB (pc := 47) (tgt := 54) ok dX12_can_47 rfl (fun h3 => ?_) (fun h3 => ?_)
      · refine Z_iconst (pc := 54) ok dX12_can_54 ?_
        refine Z_bret (pc := 55) ok okr dX12_can_55 (by first | exact Or.inl rfl | exact Or.inr rfl | exact zb_01 _ | assumption | omega) ?_
        exact ⟨by rw [zb_f (fun q => h3 (q.2 h2))], rfl, rfl⟩
      · refine Z_iconst (pc := 50) ok dX12_can_50 ?_
        refine Z_goto (pc := 51) (tgt := 55) ok dX12_can_51 rfl ?_
        refine Z_bret (pc := 55) ok okr dX12_can_55 (by first | exact Or.inl rfl | exact Or.inr rfl | exact zb_01 _ | assumption | omega) ?_
        exact ⟨by rw [zb_t ⟨fun q => absurd q h1, fun _ => h3⟩], rfl, rfl⟩
  · refine Z_iload2 (pc := 5) ok dX12_can_5 ?_
    refine Z_i2l (pc := 6) ok dX12_can_6 (by first | omega | (simp [sz, uz] <;> omega)) ?_
    refine Z_lconst (pc := 7) (z := 1) ok dX12_can_7 (by decide) ?_
    refine Z_ldc2 (pc := 8) (z := 99) ok dX12_can_8 kw1146 (by decide) ?_
    refine Z_callSId (pc := 11) ok dX12_can_11 cw_X12_97 (m_in (by omega) (by omega) (by omega)) rfl rfl (by first | decide | omega) (Nat.le_of_ble_eq_true rfl) ?_
    refine Z_if_eqB (pc := 14) (tgt := 33) ok dX12_can_14 rfl (fun h2 => ?_) (fun h2 => ?_)
    · refine Z_iconst (pc := 33) ok dX12_can_33 ?_
      refine Z_goto (pc := 34) (tgt := 55) ok dX12_can_34 rfl ?_
      refine Z_bret (pc := 55) ok okr dX12_can_55 (by first | exact Or.inl rfl | exact Or.inr rfl | exact zb_01 _ | assumption | omega) ?_
      exact ⟨by rw [zb_f (fun q => h2 (q.1 h1).1)], rfl, rfl⟩
    · have hs := gcd_shr (v := v) (n := I 121 0) h2.1 hn.1
      have hle := Nat.gcd_le_left (n := (I 121 0).toNat) (show 0 < v.toNat by omega)
      refine Z_iload2 (pc := 17) ok dX12_can_17 ?_
      refine Z_aload0 (pc := 18) ok dX12_can_18 ?_
      refine g_X12_n (pc := 19) ok dX12_can_19 kw905 rfl ?_
      refine Z_callSId (pc := 22) ok dX12_can_22 cw_X12_166 (m_common (by omega) (by omega)) rfl rfl (by first | decide | omega) (Nat.le_of_ble_eq_true rfl) ?_
      refine Z_iconst (pc := 25) ok dX12_can_25 ?_
      refine Z_icmp_ne (pc := 26) (tgt := 33) ok dX12_can_26 rfl (by omega) (by omega) (fun h4 => ?_) (fun h4 => ?_)
      · refine Z_iconst (pc := 33) ok dX12_can_33 ?_
        refine Z_goto (pc := 34) (tgt := 55) ok dX12_can_34 rfl ?_
        refine Z_bret (pc := 55) ok okr dX12_can_55 (by first | exact Or.inl rfl | exact Or.inr rfl | exact zb_01 _ | assumption | omega) ?_
        exact ⟨by rw [zb_f (fun q => h4 (hs.mpr (q.1 h1).2))], rfl, rfl⟩
      · refine Z_iconst (pc := 29) ok dX12_can_29 ?_
        refine Z_goto (pc := 30) (tgt := 55) ok dX12_can_30 rfl ?_
        refine Z_bret (pc := 55) ok okr dX12_can_55 (by first | exact Or.inl rfl | exact Or.inr rfl | exact zb_01 _ | assumption | omega) ?_
        exact ⟨by rw [zb_t ⟨fun _ => ⟨h2, hs.mp h4⟩, fun q => by omega⟩], rfl, rfl⟩
theorem m_comesTo {a v e : Int} (ha : 0 ≤ a ∧ a ≤ 3) (hv : -2147483648 ≤ v ∧ v ≤ 2147483647) (hv2 : a = 1 ∨ a = 3 → 0 ≤ v ∧ v ≤ 99) (hn : 2 ≤ I 121 0 ∧ I 121 0 ≤ 30) (he : 0 ≤ e ∧ e < I 121 0) : K_X12_comesTo l G [zr G 121, zi a, zi v, zi e] I J (pR (some (zi (mv a v (I 121 0) e))) I J) := by
  have h0 : a = 0 ∨ a = 1 ∨ a = 2 ∨ a = 3 := by omega
  rcases h0 with rfl | rfl | rfl | rfl
  · have h1 := tmod_e (x := e + v) (y := I 121 0) (by omega)
    have h2 := em_b (e + v) (show 0 < I 121 0 by omega)
    have h4 : 0 ≤ e + v → 0 ≤ (e + v).tmod (I 121 0) := fun q => by rw [if_pos (Or.inl q)] at h1; omega
    have h3 : -I 121 0 ≤ (e + v).tmod (I 121 0) ∧ (e + v).tmod (I 121 0) < I 121 0 := by
      by_cases h : 0 ≤ e + v ∨ (e + v).tmod (I 121 0) = 0
      · rw [if_pos h] at h1; omega
      · rw [if_neg h] at h1; omega
    refine Cz.of rfl (Nat.le_of_ble_eq_true rfl) [some (zr G 121), some (zi 0), some (zi v), some (zi e), none, none] rfl (fun E ok okr hE => ?_)
    refine Z_iload1 (pc := 0) ok dX12_comesTo_0 ?_
    refine Z_look (pc := 1) (off := 27) (tgt := 28) ok dX12_comesTo_1 (by decide) (by decide) (by decide) rfl ?_
    refine Z_iload3 (pc := 28) ok dX12_comesTo_28 ?_
    refine Z_i2l (pc := 29) ok dX12_comesTo_29 (by first | omega | (simp [sz, uz] <;> omega)) ?_
    refine Z_iload2 (pc := 30) ok dX12_comesTo_30 ?_
    refine Z_i2l (pc := 31) ok dX12_comesTo_31 (by first | omega | (simp [sz, uz] <;> omega)) ?_
    refine Z_ladd (pc := 32) ok dX12_comesTo_32 ?_
    refine Z_aload0 (pc := 33) ok dX12_comesTo_33 ?_
    refine g_X12_n (pc := 34) ok dX12_comesTo_34 kw905 rfl ?_
    refine Z_i2l (pc := 37) ok dX12_comesTo_37 (by first | omega | (simp [sz, uz] <;> omega)) ?_
    refine Z_lremT (pc := 38) ok dX12_comesTo_38 (by omega) (by omega) (by omega) ?_
    refine Z_lstore4 (pc := 39) ok (by decide) dX12_comesTo_39 rfl ?_
    refine Z_lload4 (pc := 41) ok dX12_comesTo_41 ?_
    refine Z_lconst (pc := 43) (z := 0) ok dX12_comesTo_43 (by decide) ?_
    refine Z_lcmp (pc := 44) ok dX12_comesTo_44 (by first | omega | (simp [sz, uz] <;> omega)) (by first | omega | (simp [sz, uz] <;> omega)) ?_
    refine Z_if_geC (pc := 45) (tgt := 59) ok dX12_comesTo_45 rfl (fun h5 => ?_) (fun h5 => ?_)
    · refine Z_lload4 (pc := 59) ok dX12_comesTo_59 ?_
      refine Z_l2i (pc := 61) ok dX12_comesTo_61 ?_
      refine Z_iret (pc := 62) ok okr dX12_comesTo_62 ?_
      refine ⟨?_, rfl, rfl⟩
      rw [mv, if_pos rfl, ← h1]
      by_cases h : 0 ≤ e + v ∨ (e + v).tmod (I 121 0) = 0
      · rw [if_pos h]
      · rw [if_neg h] at h1; omega
    · refine Z_lload4 (pc := 48) ok dX12_comesTo_48 ?_
      refine Z_aload0 (pc := 50) ok dX12_comesTo_50 ?_
      refine g_X12_n (pc := 51) ok dX12_comesTo_51 kw905 rfl ?_
      refine Z_i2l (pc := 54) ok dX12_comesTo_54 (by first | omega | (simp [sz, uz] <;> omega)) ?_
      refine Z_ladd (pc := 55) ok dX12_comesTo_55 ?_
      refine Z_goto (pc := 56) (tgt := 61) ok dX12_comesTo_56 rfl ?_
      refine Z_l2i (pc := 61) ok dX12_comesTo_61 ?_
      refine Z_iret (pc := 62) ok okr dX12_comesTo_62 ?_
      refine ⟨?_, rfl, rfl⟩
      rw [mv, if_pos rfl, ← h1, if_neg (by omega)]
  · have := hv2 (by omega)
    have h6 : 0 ≤ e * v := Int.mul_nonneg he.1 this.1
    have h7 : e * v ≤ 30 * 99 := Int.mul_le_mul (by omega) (by omega) (by omega) (by omega)
    refine Cz.of rfl (Nat.le_of_ble_eq_true rfl) [some (zr G 121), some (zi 1), some (zi v), some (zi e), none, none] rfl (fun E ok okr hE => ?_)
    refine Z_iload1 (pc := 0) ok dX12_comesTo_0 ?_
    refine Z_look (pc := 1) (off := 74) (tgt := 75) ok dX12_comesTo_1 (by decide) (by decide) (by decide) rfl ?_
    refine Z_iload3 (pc := 75) ok dX12_comesTo_75 ?_
    refine Z_iload2 (pc := 76) ok dX12_comesTo_76 ?_
    refine Z_imul (pc := 77) ok dX12_comesTo_77 ?_
    refine Z_aload0 (pc := 78) ok dX12_comesTo_78 ?_
    refine g_X12_n (pc := 79) ok dX12_comesTo_79 kw905 rfl ?_
    refine Z_irem (pc := 82) ok dX12_comesTo_82 (by omega) (by omega) (by omega) (by omega) ?_
    refine Z_iret (pc := 83) ok okr dX12_comesTo_83 ?_
    exact ⟨rfl, rfl, rfl⟩
  · refine Cz.of rfl (Nat.le_of_ble_eq_true rfl) [some (zr G 121), some (zi 2), some (zi v), some (zi e), none, none] rfl (fun E ok okr hE => ?_)
    refine Z_iload1 (pc := 0) ok dX12_comesTo_0 ?_
    refine Z_look (pc := 1) (off := 62) (tgt := 63) ok dX12_comesTo_1 (by decide) (by decide) (by decide) rfl ?_
    refine Z_aload0 (pc := 63) ok dX12_comesTo_63 ?_
    refine g_X12_n (pc := 64) ok dX12_comesTo_64 kw905 rfl ?_
    refine Z_iload3 (pc := 67) ok dX12_comesTo_67 ?_
    refine Z_isub (pc := 68) ok dX12_comesTo_68 ?_
    refine Z_aload0 (pc := 69) ok dX12_comesTo_69 ?_
    refine g_X12_n (pc := 70) ok dX12_comesTo_70 kw905 rfl ?_
    refine Z_irem (pc := 73) ok dX12_comesTo_73 (by omega) (by omega) (by omega) (by omega) ?_
    refine Z_iret (pc := 74) ok okr dX12_comesTo_74 ?_
    exact ⟨rfl, rfl, rfl⟩
  · have := hv2 (by omega)
    have h6 : 0 ≤ e * v := Int.mul_nonneg he.1 this.1
    have h7 : e * v ≤ 30 * 99 := Int.mul_le_mul (by omega) (by omega) (by omega) (by omega)
    refine Cz.of rfl (Nat.le_of_ble_eq_true rfl) [some (zr G 121), some (zi 3), some (zi v), some (zi e), none, none] rfl (fun E ok okr hE => ?_)
    refine Z_iload1 (pc := 0) ok dX12_comesTo_0 ?_
    refine Z_look (pc := 1) (off := 74) (tgt := 75) ok dX12_comesTo_1 (by decide) (by decide) (by decide) rfl ?_
    refine Z_iload3 (pc := 75) ok dX12_comesTo_75 ?_
    refine Z_iload2 (pc := 76) ok dX12_comesTo_76 ?_
    refine Z_imul (pc := 77) ok dX12_comesTo_77 ?_
    refine Z_aload0 (pc := 78) ok dX12_comesTo_78 ?_
    refine g_X12_n (pc := 79) ok dX12_comesTo_79 kw905 rfl ?_
    refine Z_irem (pc := 82) ok dX12_comesTo_82 (by omega) (by omega) (by omega) (by omega) ?_
    refine Z_iret (pc := 83) ok okr dX12_comesTo_83 ?_
    exact ⟨rfl, rfl, rfl⟩
theorem m_changes {a v : Int} (ha : 0 ≤ a ∧ a ≤ 3) (hv : -2147483648 ≤ v ∧ v ≤ 2147483647) (hv2 : a = 1 ∨ a = 3 → 0 ≤ v ∧ v ≤ 99) (h1 : gR (I 121 0) (I 122)) : K_X12_changes l G [zr G 121, zi a, zi v] I J (fun w I' J' => ∃ r, w = some (zi r) ∧ (fr [122, 135] I I' ∧ J' = J ∧ ((r = 1 ∧ (∀ t, chg a v (I 121 0) (I 122) t ≤ 9) ∧ I' 122 = chg a v (I 121 0) (I 122)) ∨ (r = 0 ∧ ¬ (∀ t, chg a v (I 121 0) (I 122) t ≤ 9) ∧ I' 122 = I 122)))) := by
  have hn := h1.1
  have hc0 : ∀ e, 0 ≤ I 122 e := fun e => (h1.2.1 e).1
  refine Cz.of rfl (Nat.le_of_ble_eq_true rfl) [some (zr G 121), some (zi a), some (zi v), none, none, none] rfl (fun E ok okr hE => ?_)
  refine Z_iconst (pc := 0) ok dX12_changes_0 ?_
  refine Z_istore3 (pc := 1) ok (by decide) dX12_changes_1 rfl ?_
  have H1 : ∀ e : Int, 0 ≤ e → e ≤ 30 → ∀ f : Int → Int, (∀ j, 0 ≤ j → j < e → f j = 0) → Xz E G (sz I 135 f) J 2 [some (zr G 121), some (zi a), some (zi v), some (zi e), none, none] [] := by
    refine zUp ?_ ?_
    · intro f hf
      refine Z_ext1 (g := chE a v (I 121 0) (I 122) 0) (by decide) (fun j h0 h1 => by rw [hf j h0 (by have : j < 30 := h1; omega)]; rfl) ?_
      refine Z_iload3 (pc := 2) ok dX12_changes_2 ?_
      refine Z_bipush (pc := 3) ok dX12_changes_3 (by decide) ?_
      refine Z_icmp_ge (pc := 5) (tgt := 21) ok dX12_changes_5 rfl (by first | omega | (simp [sz, uz] <;> omega)) (by first | omega | (simp [sz, uz] <;> omega)) (fun _ => ?_) (fun h => by exfalso; omega)
      refine Z_iconst (pc := 21) ok dX12_changes_21 ?_
      refine Z_istore3 (pc := 22) ok (by decide) dX12_changes_22 rfl ?_
      refine Z_iconst (pc := 23) ok dX12_changes_23 ?_
      refine Z_istore4 (pc := 24) ok (by decide) dX12_changes_24 rfl ?_
      have H2 : ∀ e : Int, 0 ≤ e → e ≤ I 121 0 → ∀ b : Int, (b = 0 ∨ b = 1) → (b = 1 ↔ ∀ t, chE a v (I 121 0) (I 122) e t ≤ 9) → ∀ w, Xz E G (sz I 135 (chE a v (I 121 0) (I 122) e)) J 26 [some (zr G 121), some (zi a), some (zi v), some (zi b), some (zi e), w] [] := by
        refine zUp ?_ ?_
        · intro b b0 b1 w
          have e2 : sz I 135 (chE a v (I 121 0) (I 122) (I 121 0)) 121 = I 121 := sz_ne _ _ (by decide)
          have e20 := congrFun e2 0
          refine Z_iload4 (pc := 26) ok dX12_changes_26 ?_
          refine Z_aload0 (pc := 28) ok dX12_changes_28 ?_
          refine g_X12_n (pc := 29) ok dX12_changes_29 kw905 rfl ?_
          refine Z_icmp_ge (pc := 32) (tgt := 88) ok dX12_changes_32 rfl (by first | omega | (simp [sz, uz] <;> omega)) (by first | omega | (simp [sz, uz] <;> omega)) (fun _ => ?_) (fun h => by exfalso; omega)
          refine Z_iconst (pc := 88) ok dX12_changes_88 ?_
          refine Z_istore4 (pc := 89) ok (by decide) dX12_changes_89 rfl ?_
          have H3 : ∀ e : Int, 0 ≤ e → e ≤ I 121 0 → ∀ f : Int → Int, (∀ j, 0 ≤ j → j < e → f j = if b = 1 then chg a v (I 121 0) (I 122) j else I 122 j) → (∀ j, j < 0 ∨ e ≤ j → f j = I 122 j) → Xz E G (sz (sz I 135 (chE a v (I 121 0) (I 122) (I 121 0))) 122 f) J 91 [some (zr G 121), some (zi a), some (zi v), some (zi b), some (zi e), w] [] := by
            refine zUp ?_ ?_
            · intro f f1 f2
              have z0 : sz (sz I 135 (chE a v (I 121 0) (I 122) (I 121 0))) 122 f 121 0 = I 121 0 := by rw [sz_ne _ _ (by decide)]; exact e20
              refine Z_iload4 (pc := 91) ok dX12_changes_91 ?_
              refine Z_aload0 (pc := 93) ok dX12_changes_93 ?_
              refine g_X12_n (pc := 94) ok dX12_changes_94 kw905 rfl ?_
              refine Z_icmp_ge (pc := 97) (tgt := 134) ok dX12_changes_97 rfl (by first | omega | (simp [sz, uz] <;> omega)) (by first | omega | (simp [sz, uz] <;> omega)) (fun _ => ?_) (fun h => by exfalso; omega)
              refine Z_iload3 (pc := 134) ok dX12_changes_134 ?_
              refine Z_bret (pc := 135) ok okr dX12_changes_135 (by first | exact Or.inl rfl | exact Or.inr rfl | exact zb_01 _ | assumption | omega) ?_
              refine ⟨_, rfl, (fr.rf.st rfl).st rfl, rfl, ?_⟩
              rw [sz_eq]
              rcases b0 with rfl | rfl
              · refine Or.inr ⟨rfl, fun q => by have := b1.mpr q; omega, ?_⟩
                funext j
                by_cases q : 0 ≤ j ∧ j < I 121 0
                · rw [f1 j q.1 q.2, if_neg (by omega)]
                · exact f2 j (by omega)
              · refine Or.inl ⟨rfl, b1.mp rfl, ?_⟩
                funext j
                by_cases q : 0 ≤ j ∧ j < I 121 0
                · rw [f1 j q.1 q.2, if_pos rfl]
                · rw [f2 j (by omega), h1.2.2 j (by omega), (chg_gR h1 (b1.mp rfl)).2.2 j (by omega)]
            · intro e e0 e1 ih f f1 f2
              have z0 : sz (sz I 135 (chE a v (I 121 0) (I 122) (I 121 0))) 122 f 121 0 = I 121 0 := by rw [sz_ne _ _ (by decide)]; exact e20
              have nxt : ∀ j, j < 0 ∨ e + 1 ≤ j → ∀ v, uz f e v j = I 122 j := fun j hj v => by rw [uz_ne _ _ (by omega)]; exact f2 j (by omega)
              refine Z_iload4 (pc := 91) ok dX12_changes_91 ?_
              refine Z_aload0 (pc := 93) ok dX12_changes_93 ?_
              refine g_X12_n (pc := 94) ok dX12_changes_94 kw905 rfl ?_
              refine Z_icmp_ge (pc := 97) (tgt := 134) ok dX12_changes_97 rfl (by first | omega | (simp [sz, uz] <;> omega)) (by first | omega | (simp [sz, uz] <;> omega)) (fun h => by exfalso; omega) (fun _ => ?_)
              refine Z_aload0 (pc := 100) ok dX12_changes_100 ?_
              refine g_X12_row (pc := 101) (t := 122) ok dX12_changes_101 kw906 rfl rfl ?_
              refine Z_iload4 (pc := 104) ok dX12_changes_104 ?_
              refine Z_iload3 (pc := 106) ok dX12_changes_106 ?_
              refine Z_if_eq (pc := 107) (tgt := 120) ok dX12_changes_107 rfl (by first | omega | (simp [sz, uz] <;> omega)) (fun h5 => ?_) (fun h5 => ?_)
              · refine Z_aload0 (pc := 120) ok dX12_changes_120 ?_
                refine g_X12_row (pc := 121) (t := 122) ok dX12_changes_121 kw906 rfl rfl ?_
                refine Z_iload4 (pc := 124) ok dX12_changes_124 ?_
                refine Z_iald (pc := 126) (L := 30) ok dX12_changes_126 rfl rfl (by first | omega | (simp [sz, uz] <;> omega)) ?_
                refine Z_iast (pc := 127) (L := 30) ok dX12_changes_127 rfl rfl (by first | omega | (simp [sz, uz] <;> omega)) ?_
                refine Z_iinc4 (pc := 128) ok (by decide) dX12_changes_128 rfl ?_
                refine Z_goto (pc := 131) (tgt := 91) ok dX12_changes_131 rfl ?_
                rw [sz_sz, sz_eq]
                exact ih _ (upto_s (p := fun j x => x = if b = 1 then chg a v (I 121 0) (I 122) j else I 122 j) f1 (by rw [f2 e (by omega), if_neg (by omega)])) (fun j hj => nxt j hj _)
              · refine Z_aload0 (pc := 110) ok dX12_changes_110 ?_
                refine g_X12_changed (pc := 111) (t := 135) ok dX12_changes_111 kw923 rfl rfl ?_
                refine Z_iload4 (pc := 114) ok dX12_changes_114 ?_
                refine Z_iald (pc := 116) (L := 30) ok dX12_changes_116 rfl rfl (by first | omega | (simp [sz, uz] <;> omega)) ?_
                refine Z_goto (pc := 117) (tgt := 127) ok dX12_changes_117 rfl ?_
                refine Z_iast (pc := 127) (L := 30) ok dX12_changes_127 rfl rfl (by first | omega | (simp [sz, uz] <;> omega)) ?_
                refine Z_iinc4 (pc := 128) ok (by decide) dX12_changes_128 rfl ?_
                refine Z_goto (pc := 131) (tgt := 91) ok dX12_changes_131 rfl ?_
                rw [sz_sz, sz_eq, sz_ne _ _ (show (135 : Nat) ≠ 122 by decide), sz_eq]
                exact ih _ (upto_s (p := fun j x => x = if b = 1 then chg a v (I 121 0) (I 122) j else I 122 j) f1 (by rw [if_pos (by omega)]; rfl)) (fun j hj => nxt j hj _)
          have h0 := H3 0 (by omega) (by omega) (I 122) (fun j j0 j1 => by omega) (fun _ _ => rfl)
          have ez : sz (sz I 135 (chE a v (I 121 0) (I 122) (I 121 0))) 122 (I 122) = sz I 135 (chE a v (I 121 0) (I 122) (I 121 0)) := by
            have := sz_self (sz I 135 (chE a v (I 121 0) (I 122) (I 121 0))) 122
            rwa [sz_ne _ _ (show (122 : Nat) ≠ 135 by decide)] at this
          rw [ez] at h0
          exact h0
        · intro e e0 e1 ih b b0 b1 w
          have e2 : sz I 135 (chE a v (I 121 0) (I 122) e) 121 = I 121 := sz_ne _ _ (by decide)
          have e20 := congrFun e2 0
          have e3 : sz I 135 (chE a v (I 121 0) (I 122) e) 122 = I 122 := sz_ne _ _ (by decide)
          have hb := mv_b a v e (show 0 < I 121 0 by omega)
          have hn0 := chE_nn a v (I 121 0) hc0 e (mv a v (I 121 0) e)
          have hl0 := chE_le (a := a) (v := v) (n := I 121 0) h1.2.1 (e := e) (by omega) (mv a v (I 121 0) e)
          have hce := h1.2.1 e
          have hs := chE_s a v (I 121 0) (I 122) e0
          have hall : (∀ t, chE a v (I 121 0) (I 122) (e + 1) t ≤ 9) ↔ (∀ t, chE a v (I 121 0) (I 122) e t ≤ 9) ∧ chE a v (I 121 0) (I 122) e (mv a v (I 121 0) e) + I 122 e ≤ 9 := by
            constructor
            · intro q
              refine ⟨fun t => Int.le_trans (chE_mono a v (I 121 0) hc0 (e := e) (e' := e + 1) (by omega) e0 t) (q t), ?_⟩
              have := q (mv a v (I 121 0) e)
              rw [hs, uz_eq] at this; exact this
            · intro q t
              rw [hs]
              by_cases ht : t = mv a v (I 121 0) e
              · rw [ht, uz_eq]; exact q.2
              · rw [uz_ne _ _ ht]; exact q.1 t
          rw [hs] at ih
          refine Z_iload4 (pc := 26) ok dX12_changes_26 ?_
          refine Z_aload0 (pc := 28) ok dX12_changes_28 ?_
          refine g_X12_n (pc := 29) ok dX12_changes_29 kw905 rfl ?_
          refine Z_icmp_ge (pc := 32) (tgt := 88) ok dX12_changes_32 rfl (by first | omega | (simp [sz, uz] <;> omega)) (by first | omega | (simp [sz, uz] <;> omega)) (fun h => by exfalso; omega) (fun _ => ?_)
          refine Z_aload0 (pc := 35) ok dX12_changes_35 ?_
          refine Z_iload1 (pc := 36) ok dX12_changes_36 ?_
          refine Z_iload2 (pc := 37) ok dX12_changes_37 ?_
          refine Z_iload4 (pc := 38) ok dX12_changes_38 ?_
          refine Z_callVId (pc := 40) ok dX12_changes_40 cw_X12_173 rfl rfl (by decide) (m_comesTo ha hv hv2 (by rw [e20]; exact hn) (by rw [e20]; exact ⟨e0, e1⟩)) rfl rfl (by first | decide | omega) (Nat.le_of_ble_eq_true rfl) ?_
          refine Z_istore5 (pc := 43) ok (by decide) dX12_changes_43 rfl ?_
          rw [e20]
          refine Z_aload0 (pc := 45) ok dX12_changes_45 ?_
          refine g_X12_changed (pc := 46) (t := 135) ok dX12_changes_46 kw923 rfl rfl ?_
          refine Z_iload5 (pc := 49) ok dX12_changes_49 ?_
          refine Z_dup2 (pc := 51) ok dX12_changes_51 rfl rfl ?_
          refine Z_iald (pc := 52) (L := 30) ok dX12_changes_52 rfl rfl (by first | omega | (simp [sz, uz] <;> omega)) ?_
          refine Z_aload0 (pc := 53) ok dX12_changes_53 ?_
          refine g_X12_row (pc := 54) (t := 122) ok dX12_changes_54 kw906 rfl rfl ?_
          refine Z_iload4 (pc := 57) ok dX12_changes_57 ?_
          refine Z_iald (pc := 59) (L := 30) ok dX12_changes_59 rfl rfl (by first | omega | (simp [sz, uz] <;> omega)) ?_
          refine Z_iadd (pc := 60) ok dX12_changes_60 ?_
          refine Z_iast (pc := 61) (L := 30) ok dX12_changes_61 rfl rfl (by first | omega | (simp [sz, uz] <;> omega)) ?_
          rw [e3, sz_sz, sz_eq]
          refine Z_iload3 (pc := 62) ok dX12_changes_62 ?_
          refine Z_aload0 (pc := 63) ok dX12_changes_63 ?_
          refine g_X12_changed (pc := 64) (t := 135) ok dX12_changes_64 kw923 rfl rfl ?_
          refine Z_iload5 (pc := 67) ok dX12_changes_67 ?_
          refine Z_iald (pc := 69) (L := 30) ok dX12_changes_69 rfl rfl (by first | omega | (simp [sz, uz] <;> omega)) ?_
          refine Z_bipush (pc := 70) ok dX12_changes_70 (by decide) ?_
          refine Z_icmp_gt (pc := 72) (tgt := 79) ok dX12_changes_72 rfl (by rw [sz_eq, uz_eq]; omega) (by omega) (fun h4 => ?_) (fun h4 => ?_)
          · rw [sz_eq, uz_eq] at h4
            refine Z_iconst (pc := 79) ok dX12_changes_79 ?_
            refine Z_iand0 (pc := 80) ok dX12_changes_80 b0 ?_
            refine Z_istore3 (pc := 81) ok (by decide) dX12_changes_81 rfl ?_
            refine Z_iinc4 (pc := 82) ok (by decide) dX12_changes_82 rfl ?_
            refine Z_goto (pc := 85) (tgt := 26) ok dX12_changes_85 rfl ?_
            exact ih 0 (Or.inl rfl) ⟨fun q => by omega, fun q => by have := (hall.mp (by rw [hs]; exact q)).2; omega⟩ _
          · rw [sz_eq, uz_eq] at h4
            refine Z_iconst (pc := 75) ok dX12_changes_75 ?_
            refine Z_goto (pc := 76) (tgt := 80) ok dX12_changes_76 rfl ?_
            refine Z_iand1 (pc := 80) ok dX12_changes_80 b0 ?_
            refine Z_istore3 (pc := 81) ok (by decide) dX12_changes_81 rfl ?_
            refine Z_iinc4 (pc := 82) ok (by decide) dX12_changes_82 rfl ?_
            refine Z_goto (pc := 85) (tgt := 26) ok dX12_changes_85 rfl ?_
            refine ih b b0 ⟨fun q => ?_, fun q => b1.mpr (hall.mp (by rw [hs]; exact q)).1⟩ _
            rw [← hs]
            exact hall.mpr ⟨b1.mp q, by omega⟩
      exact H2 0 (by omega) (by omega) 1 (Or.inr rfl) ⟨fun _ t => by show (0 : Int) ≤ 9; omega, fun _ => rfl⟩ none
    · intro e e0 e1 ih f hf
      refine Z_iload3 (pc := 2) ok dX12_changes_2 ?_
      refine Z_bipush (pc := 3) ok dX12_changes_3 (by decide) ?_
      refine Z_icmp_ge (pc := 5) (tgt := 21) ok dX12_changes_5 rfl (by first | omega | (simp [sz, uz] <;> omega)) (by first | omega | (simp [sz, uz] <;> omega)) (fun h => by exfalso; omega) (fun _ => ?_)
      refine Z_aload0 (pc := 8) ok dX12_changes_8 ?_
      refine g_X12_changed (pc := 9) (t := 135) ok dX12_changes_9 kw923 rfl rfl ?_
      refine Z_iload3 (pc := 12) ok dX12_changes_12 ?_
      refine Z_iconst (pc := 13) ok dX12_changes_13 ?_
      refine Z_iast (pc := 14) (L := 30) ok dX12_changes_14 rfl rfl (by first | omega | (simp [sz, uz] <;> omega)) ?_
      refine Z_iinc3 (pc := 15) ok (by decide) dX12_changes_15 rfl ?_
      refine Z_goto (pc := 18) (tgt := 2) ok dX12_changes_18 rfl ?_
      rw [sz_sz, sz_eq]
      exact ih _ (upto_s (p := fun _ x => x = 0) hf rfl)
  have h0 := H1 0 (by omega) (by omega) (I 135) (fun j j0 j1 => by omega)
  rw [sz_self] at h0
  exact h0
theorem m_turn {k : Int} (hk : -2147483648 ≤ k ∧ k ≤ 2147483647) (h1 : gR (I 121 0) (I 122)) : K_X12_turn l G [zr G 121, zi k] I J (fun v I' J' => ∃ r, v = some (zi r) ∧ (fr [122, 135] I I' ∧ J' = J ∧ r = I' 122 0 ∧ (((∀ t, chg 0 k (I 121 0) (I 122) t ≤ 9) ∧ I' 122 = chg 0 k (I 121 0) (I 122)) ∨ (¬ (∀ t, chg 0 k (I 121 0) (I 122) t ≤ 9) ∧ I' 122 = I 122)))) := by
  refine Cz.of rfl (Nat.le_of_ble_eq_true rfl) [some (zr G 121), some (zi k), none] rfl (fun E ok okr hE => ?_)
  refine Z_aload0 (pc := 0) ok dX12_turn_0 ?_
  refine Z_iconst (pc := 1) ok dX12_turn_1 ?_
  refine Z_iload1 (pc := 2) ok dX12_turn_2 ?_
  refine Z_callVI (pc := 3) ok dX12_turn_3 cw_X12_177 rfl rfl (by decide) (m_changes (by omega) hk (fun q => by omega) h1) rfl rfl (by first | decide | omega) (Nat.le_of_ble_eq_true rfl) (fun r I1 J1 q => ?_)
  refine Z_istore2 (pc := 6) ok (by decide) dX12_turn_6 rfl ?_
  refine Z_aload0 (pc := 7) ok dX12_turn_7 ?_
  refine g_X12_row (pc := 8) (t := 122) ok dX12_turn_8 kw906 rfl rfl ?_
  refine Z_iconst (pc := 11) ok dX12_turn_11 ?_
  refine Z_iald (pc := 12) (L := 30) ok dX12_turn_12 rfl rfl (by first | omega | (simp [sz, uz] <;> omega)) ?_
  refine Z_iret (pc := 13) ok okr dX12_turn_13 ?_
  obtain ⟨q1, q2, q3⟩ := q
  refine ⟨_, rfl, q1, q2, rfl, ?_⟩
  rcases q3 with ⟨_, a1, a2⟩ | ⟨_, a1, a2⟩
  · exact Or.inl ⟨a1, a2⟩
  · exact Or.inr ⟨a1, a2⟩
theorem m_mirror (h1 : gR (I 121 0) (I 122)) : K_X12_mirror l G [zr G 121] I J (fun v I' J' => ∃ r, v = some (zi r) ∧ (fr [122, 135] I I' ∧ J' = J ∧ r = I' 122 0 ∧ (((∀ t, chg 2 0 (I 121 0) (I 122) t ≤ 9) ∧ I' 122 = chg 2 0 (I 121 0) (I 122)) ∨ (¬ (∀ t, chg 2 0 (I 121 0) (I 122) t ≤ 9) ∧ I' 122 = I 122)))) := by
  refine Cz.of rfl (Nat.le_of_ble_eq_true rfl) [some (zr G 121), none] rfl (fun E ok okr hE => ?_)
  refine Z_aload0 (pc := 0) ok dX12_mirror_0 ?_
  refine Z_iconst (pc := 1) ok dX12_mirror_1 ?_
  refine Z_iconst (pc := 2) ok dX12_mirror_2 ?_
  refine Z_callVI (pc := 3) ok dX12_mirror_3 cw_X12_177 rfl rfl (by decide) (m_changes (by omega) (by omega) (fun q => by omega) h1) rfl rfl (by first | decide | omega) (Nat.le_of_ble_eq_true rfl) (fun r I1 J1 q => ?_)
  refine Z_istore1 (pc := 6) ok (by decide) dX12_mirror_6 rfl ?_
  refine Z_aload0 (pc := 7) ok dX12_mirror_7 ?_
  refine g_X12_row (pc := 8) (t := 122) ok dX12_mirror_8 kw906 rfl rfl ?_
  refine Z_iconst (pc := 11) ok dX12_mirror_11 ?_
  refine Z_iald (pc := 12) (L := 30) ok dX12_mirror_12 rfl rfl (by first | omega | (simp [sz, uz] <;> omega)) ?_
  refine Z_iret (pc := 13) ok okr dX12_mirror_13 ?_
  obtain ⟨q1, q2, q3⟩ := q
  refine ⟨_, rfl, q1, q2, rfl, ?_⟩
  rcases q3 with ⟨_, a1, a2⟩ | ⟨_, a1, a2⟩
  · exact Or.inl ⟨a1, a2⟩
  · exact Or.inr ⟨a1, a2⟩
theorem m_times {u : Int} (hu : -2147483648 ≤ u ∧ u ≤ 2147483647) (h1 : gR (I 121 0) (I 122)) : K_X12_times l G [zr G 121, zi u] I J (fun v I' J' => ∃ r, v = some (zi r) ∧ ((¬ (1 ≤ u ∧ u ≤ 99) ∧ r = -2 ∧ I' = I ∧ J' = J) ∨ ((1 ≤ u ∧ u ≤ 99) ∧ ¬ cCh 1 u (I 121 0) ∧ r = -3 ∧ I' = I ∧ J' = J) ∨ ((1 ≤ u ∧ u ≤ 99) ∧ cCh 1 u (I 121 0) ∧ fr [122, 135] I I' ∧ J' = J ∧ r = I' 122 0 ∧ (((∀ t, chg 1 u (I 121 0) (I 122) t ≤ 9) ∧ I' 122 = chg 1 u (I 121 0) (I 122)) ∨ (¬ (∀ t, chg 1 u (I 121 0) (I 122) t ≤ 9) ∧ I' 122 = I 122))))) := by
  refine Cz.of rfl (Nat.le_of_ble_eq_true rfl) [some (zr G 121), some (zi u), none] rfl (fun E ok okr hE => ?_)
  refine Z_iload1 (pc := 0) ok dX12_times_0 ?_
  refine Z_i2l (pc := 1) ok dX12_times_1 (by first | omega | (simp [sz, uz] <;> omega)) ?_
  refine Z_lconst (pc := 2) (z := 1) ok dX12_times_2 (by decide) ?_
  refine Z_ldc2 (pc := 3) (z := 99) ok dX12_times_3 kw1146 (by decide) ?_
  refine Z_callSId (pc := 6) ok dX12_times_6 cw_X12_97 (m_in (by omega) (by omega) (by omega)) rfl rfl (by first | decide | omega) (Nat.le_of_ble_eq_true rfl) ?_
  refine Z_if_neB (pc := 9) (tgt := 15) ok dX12_times_9 rfl (fun h => ?_) (fun h => ?_)
  · refine Z_aload0 (pc := 15) ok dX12_times_15 ?_
    refine Z_iconst (pc := 16) ok dX12_times_16 ?_
    refine Z_iload1 (pc := 17) ok dX12_times_17 ?_
    refine Z_callVId (pc := 18) ok dX12_times_18 cw_X12_181 rfl rfl (by decide) (m_can (by omega) hu h1.1) rfl rfl (by first | decide | omega) (Nat.le_of_ble_eq_true rfl) ?_
    refine Z_if_neB (pc := 21) (tgt := 27) ok dX12_times_21 rfl (fun h2 => ?_) (fun h2 => ?_)
    · refine Z_aload0 (pc := 27) ok dX12_times_27 ?_
      refine Z_iconst (pc := 28) ok dX12_times_28 ?_
      refine Z_iload1 (pc := 29) ok dX12_times_29 ?_
      refine Z_callVI (pc := 30) ok dX12_times_30 cw_X12_177 rfl rfl (by decide) (m_changes (by omega) hu (fun _ => by omega) h1) rfl rfl (by first | decide | omega) (Nat.le_of_ble_eq_true rfl) (fun r I1 J1 q => ?_)
      refine Z_istore2 (pc := 33) ok (by decide) dX12_times_33 rfl ?_
      refine Z_aload0 (pc := 34) ok dX12_times_34 ?_
      refine g_X12_row (pc := 35) (t := 122) ok dX12_times_35 kw906 rfl rfl ?_
      refine Z_iconst (pc := 38) ok dX12_times_38 ?_
      refine Z_iald (pc := 39) (L := 30) ok dX12_times_39 rfl rfl (by first | omega | (simp [sz, uz] <;> omega)) ?_
      refine Z_iret (pc := 40) ok okr dX12_times_40 ?_
      obtain ⟨q1, q2, q3⟩ := q
      refine ⟨_, rfl, Or.inr (Or.inr ⟨h, h2, q1, q2, rfl, ?_⟩)⟩
      rcases q3 with ⟨_, a1, a2⟩ | ⟨_, a1, a2⟩
      · exact Or.inl ⟨a1, a2⟩
      · exact Or.inr ⟨a1, a2⟩
    · refine Z_bipush (pc := 24) ok dX12_times_24 (by decide) ?_
      refine Z_iret (pc := 26) ok okr dX12_times_26 ?_
      exact ⟨_, rfl, Or.inr (Or.inl ⟨h, h2, rfl, rfl, rfl⟩)⟩
  · refine Z_bipush (pc := 12) ok dX12_times_12 (by decide) ?_
    refine Z_iret (pc := 14) ok okr dX12_times_14 ?_
    exact ⟨_, rfl, Or.inl ⟨h, rfl, rfl, rfl⟩⟩
theorem m_raise {u : Int} (hu : -2147483648 ≤ u ∧ u ≤ 2147483647) (h1 : gR (I 121 0) (I 122)) : K_X12_raise l G [zr G 121, zi u] I J (fun v I' J' => ∃ r, v = some (zi r) ∧ ((¬ isP u (I 121 0) ∧ r = -1 ∧ I' = I ∧ J' = J) ∨ (isP u (I 121 0) ∧ fr [122, 135] I I' ∧ J' = J ∧ (((∀ t, chg 3 u (I 121 0) (I 122) t ≤ 9) ∧ r = I' 122 0 ∧ I' 122 = chg 3 u (I 121 0) (I 122)) ∨ (¬ (∀ t, chg 3 u (I 121 0) (I 122) t ≤ 9) ∧ r = -4 ∧ I' 122 = I 122))))) := by
  have hn := h1.1
  refine Cz.of rfl (Nat.le_of_ble_eq_true rfl) [some (zr G 121), some (zi u)] rfl (fun E ok okr hE => ?_)
  refine Z_aload0 (pc := 0) ok dX12_raise_0 ?_
  refine Z_iload1 (pc := 1) ok dX12_raise_1 ?_
  refine Z_callVId (pc := 2) ok dX12_raise_2 cw_X12_170 rfl rfl (by decide) (m_isPrime hu h1.1) rfl rfl (by first | decide | omega) (Nat.le_of_ble_eq_true rfl) ?_
  refine Z_if_neB (pc := 5) (tgt := 10) ok dX12_raise_5 rfl (fun h => ?_) (fun h => ?_)
  · refine Z_aload0 (pc := 10) ok dX12_raise_10 ?_
    refine Z_iconst (pc := 11) ok dX12_raise_11 ?_
    refine Z_iload1 (pc := 12) ok dX12_raise_12 ?_
    refine Z_callVI (pc := 13) ok dX12_raise_13 cw_X12_177 rfl rfl (by decide) (m_changes (by omega) hu (fun _ => by have := h.1; have := h.2.1; omega) h1) rfl rfl (by first | decide | omega) (Nat.le_of_ble_eq_true rfl) (fun r I1 J1 q => ?_)
    obtain ⟨q1, q2, q3⟩ := q
    rcases q3 with ⟨rfl, a1, a2⟩ | ⟨rfl, a1, a2⟩
    · refine Z_if_eq (pc := 16) (tgt := 28) ok dX12_raise_16 rfl (by first | omega | (simp [sz, uz] <;> omega)) (fun h => by exfalso; omega) (fun _ => ?_)
      refine Z_aload0 (pc := 19) ok dX12_raise_19 ?_
      refine g_X12_row (pc := 20) (t := 122) ok dX12_raise_20 kw906 rfl rfl ?_
      refine Z_iconst (pc := 23) ok dX12_raise_23 ?_
      refine Z_iald (pc := 24) (L := 30) ok dX12_raise_24 rfl rfl (by first | omega | (simp [sz, uz] <;> omega)) ?_
      refine Z_goto (pc := 25) (tgt := 30) ok dX12_raise_25 rfl ?_
      refine Z_iret (pc := 30) ok okr dX12_raise_30 ?_
      exact ⟨_, rfl, Or.inr ⟨h, q1, q2, Or.inl ⟨a1, rfl, a2⟩⟩⟩
    · refine Z_if_eq (pc := 16) (tgt := 28) ok dX12_raise_16 rfl (by first | omega | (simp [sz, uz] <;> omega)) (fun _ => ?_) (fun h => by exfalso; omega)
      refine Z_bipush (pc := 28) ok dX12_raise_28 (by decide) ?_
      refine Z_iret (pc := 30) ok okr dX12_raise_30 ?_
      exact ⟨_, rfl, Or.inr ⟨h, q1, q2, Or.inr ⟨a1, rfl, a2⟩⟩⟩
  · refine Z_iconst (pc := 8) ok dX12_raise_8 ?_
    refine Z_iret (pc := 9) ok okr dX12_raise_9 ?_
    exact ⟨_, rfl, Or.inl ⟨h, rfl, rfl, rfl⟩⟩
theorem m_turned {k e : Int} (hk : 0 ≤ k ∧ k < I 121 0) (he : 0 ≤ e ∧ e < I 121 0) (hn : 2 ≤ I 121 0 ∧ I 121 0 ≤ 30) : K_X12_turned l G [zr G 121, zi k, zi e] I J (pR (some (zi (tn (I 122) (I 121 0) k e))) I J) := by
  have hm := em_b (e - k % I 121 0 + I 121 0) (show 0 < I 121 0 by omega)
  have hm2 := em_b k (show 0 < I 121 0 by omega)
  refine Cz.of rfl (Nat.le_of_ble_eq_true rfl) [some (zr G 121), some (zi k), some (zi e)] rfl (fun E ok okr hE => ?_)
  refine Z_aload0 (pc := 0) ok dX12_turned_0 ?_
  refine g_X12_row (pc := 1) (t := 122) ok dX12_turned_1 kw906 rfl rfl ?_
  refine Z_iload2 (pc := 4) ok dX12_turned_4 ?_
  refine Z_iload1 (pc := 5) ok dX12_turned_5 ?_
  refine Z_aload0 (pc := 6) ok dX12_turned_6 ?_
  refine g_X12_n (pc := 7) ok dX12_turned_7 kw905 rfl ?_
  refine Z_irem (pc := 10) ok dX12_turned_10 (by omega) (by omega) (by omega) (by omega) ?_
  refine Z_isub (pc := 11) ok dX12_turned_11 ?_
  refine Z_aload0 (pc := 12) ok dX12_turned_12 ?_
  refine g_X12_n (pc := 13) ok dX12_turned_13 kw905 rfl ?_
  refine Z_iadd (pc := 16) ok dX12_turned_16 ?_
  refine Z_aload0 (pc := 17) ok dX12_turned_17 ?_
  refine g_X12_n (pc := 18) ok dX12_turned_18 kw905 rfl ?_
  refine Z_irem (pc := 21) ok dX12_turned_21 (by omega) (by omega) (by omega) (by omega) ?_
  refine Z_iald (pc := 22) (L := 30) ok dX12_turned_22 rfl rfl (by first | omega | (simp [sz, uz] <;> omega)) ?_
  refine Z_iret (pc := 23) ok okr dX12_turned_23 ?_
  exact ⟨by rw [tn_ix (c := I 122) hk he], rfl, rfl⟩
end
