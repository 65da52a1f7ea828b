/-! the reference: part, take, pieces, changes, turned -/
theorem gcd_shr {v n : Int} (hv : 1 ≤ v) (hn : 2 ≤ n) : ((Nat.gcd v.toNat n.toNat : Nat) : Int) = 1 ↔ ¬ shr v n := by
  obtain ⟨V, rfl⟩ := Int.eq_ofNat_of_zero_le (show 0 ≤ v by omega)
  obtain ⟨N, rfl⟩ := Int.eq_ofNat_of_zero_le (show 0 ≤ n by omega)
  show ((Nat.gcd V N : Nat) : Int) = 1 ↔ _
  constructor
  · intro h ⟨d, d0, d1, d2, d3⟩
    obtain ⟨D, rfl⟩ := Int.eq_ofNat_of_zero_le (show 0 ≤ d by omega)
    have h1 : D ∣ V := Int.natCast_dvd_natCast.mp (Int.dvd_of_emod_eq_zero d2)
    have h2 : D ∣ N := Int.natCast_dvd_natCast.mp (Int.dvd_of_emod_eq_zero d3)
    have h3 := Nat.dvd_gcd h1 h2
    rw [show Nat.gcd V N = 1 by omega] at h3
    have := Nat.le_of_dvd (by omega) h3
    omega
  · intro h
    have hp : 0 < Nat.gcd V N := Nat.gcd_pos_of_pos_right _ (by omega)
    by_cases h1 : Nat.gcd V N = 1
    · omega
    · exfalso
      refine h ⟨(Nat.gcd V N : Nat), by omega, ?_, ?_, ?_⟩
      · have := Nat.le_of_dvd (by omega) (Nat.gcd_dvd_right V N); omega
      · exact Int.emod_eq_zero_of_dvd (Int.natCast_dvd_natCast.mpr (Nat.gcd_dvd_left V N))
      · exact Int.emod_eq_zero_of_dvd (Int.natCast_dvd_natCast.mpr (Nat.gcd_dvd_right V N))
theorem chE_le {a v n : Int} {c : Int → Int} (hc : ∀ e, 0 ≤ c e ∧ c e ≤ 9) {e : Int} (he : 0 ≤ e ∧ e ≤ 30) (t : Int) : chE a v n c e t ≤ 270 := by
  have h1 := su_le (f := fun j => if mv a v n j = t then c j else 0) (g := fun _ => 9) (e := e) (fun j _ _ => by
    show (if mv a v n j = t then c j else 0) ≤ 9
    split
    · exact (hc j).2
    · omega)
  rw [su_k _ he.1] at h1
  show su (fun j => if mv a v n j = t then c j else 0) e ≤ 270
  omega
theorem tn_ix {c : Int → Int} {n k e : Int} (hk : 0 ≤ k ∧ k < n) (he : 0 ≤ e ∧ e < n) : c ((e - k % n + n) % n) = tn c n k e := by
  rw [Int.emod_eq_of_lt hk.1 hk.2]
  simp only [tn]; split
  · rw [Int.emod_eq_of_lt (by omega) (by omega)]
  · rw [Int.add_emod_right, Int.emod_eq_of_lt (by omega) (by omega)]
theorem tn_0 (c : Int → Int) {n e : Int} (he : 0 ≤ e) : tn c n 0 e = c e := by
  rw [tn, if_neg (by omega), Int.sub_zero]
theorem mL_17 {n al le ofl : Int} {c fi : Int → Int} (hc : ∀ e, 0 ≤ c e) (hpr : pr c n ≤ 20000) (y2 : PSp n c al le ofl fi) (y3 : al = 0 ↔ ofl = 0) : ofl ≤ 20000 ∧ (0 < al → 0 ≤ ofl) := by
  have hal := PSp_al hc y2
  by_cases q : 0 < al
  · obtain ⟨a1, a2, a3, a4, a5⟩ := y2.2.2 q
    have hp := prR_pos hc n.toNat 0
    have := su_zb (fun k => good n (dcv c n.toNat 0 k) ∧ su (dcv c n.toNat 0 k) n = le) (e := prR c n.toNat 0) (by omega)
    rw [SV_su hc n.toNat 0 (fun t => zb (good n t ∧ su t n = le)), ← a5, ← pr_R] at this
    exact ⟨by omega, fun _ => by omega⟩
  · have := y3.mp (by omega)
    exact ⟨by omega, fun x => absurd x q⟩
section
variable {l : Launch} {G : Gw} {I J : Mz}
theorem m_part {e : Int} (he : -2147483648 ≤ e ∧ e ≤ 2147483647) (h1 : gR (I 121 0) (I 122)) (hT : mT I) : K_X12_part l G [zr G 121, zi e] I J (fun v I' J' => ∃ r, v = some (zi r) ∧ (J' = J ∧ fr [121, 128, 129, 130, 131, 132, 133, 134] I I' ∧ (∀ q, q ≠ 15 → q ≠ 16 → q ≠ 17 → I' 121 q = I 121 q) ∧ ((¬ (0 ≤ e ∧ e < I 121 0) ∧ r = -1) ∨ ((0 ≤ e ∧ e < I 121 0) ∧ 20000 < pr (I 122) (I 121 0) ∧ r = -8) ∨ ((0 ≤ e ∧ e < I 121 0) ∧ pr (I 122) (I 121 0) ≤ 20000 ∧ ∃ al le ofl fi, PSp (I 121 0) (I 122) al le ofl fi ∧ ((al = 0 ∧ r = -5) ∨ (0 < al ∧ r = fi e)))))) := by
  have hn := h1.1
  have hc0 : ∀ e, 0 ≤ I 122 e := fun e => (h1.2.1 e).1
  refine Cz.of rfl (Nat.le_of_ble_eq_true rfl) [some (zr G 121), some (zi e)] rfl (fun E ok okr hE => ?_)
  refine Z_aload0 (pc := 0) ok dX12_part_0 ?_
  refine Z_iload1 (pc := 1) ok dX12_part_1 ?_
  refine Z_callVId (pc := 2) ok dX12_part_2 cw_X12_105 rfl rfl (by decide) (m_isRoot he hn) rfl rfl (by first | decide | omega) (Nat.le_of_ble_eq_true rfl) ?_
  refine Z_if_neB (pc := 5) (tgt := 10) ok dX12_part_5 rfl (fun h0 => ?_) (fun h0 => ?_)
  · refine Z_aload0 (pc := 10) ok dX12_part_10 ?_
    refine Z_callVId (pc := 11) ok dX12_part_11 cw_X12_158 rfl rfl (by decide) (m_isDear h1) rfl rfl (by first | decide | omega) (Nat.le_of_ble_eq_true rfl) ?_
    refine Z_if_eqB (pc := 14) (tgt := 20) ok dX12_part_14 rfl (fun h => ?_) (fun h => ?_)
    · refine Z_aload0 (pc := 20) ok dX12_part_20 ?_
      refine Z_callVV (pc := 21) ok dX12_part_21 cw_X12_161 rfl rfl (by decide) (m_looksAtRow h1 hT (by omega)) rfl rfl (by first | decide | omega) (Nat.le_of_ble_eq_true rfl) (fun I1 J1 x => ?_)
      obtain ⟨rfl, x1, x2, x3, x4, fi, y1, y2, y3, y4⟩ := x
      have hal := PSp_al hc0 y2
      have hbm := mL_17 hc0 (by omega) y2 y3
      refine Z_aload0 (pc := 24) ok dX12_part_24 ?_
      refine g_X12_bestMany (pc := 25) ok dX12_part_25 kw922 rfl ?_
      refine Z_if_ne (pc := 28) (tgt := 36) ok dX12_part_28 rfl (by first | omega | (simp [sz, uz] <;> omega)) (fun h2 => ?_) (fun h2 => ?_)
      · refine Z_aload0 (pc := 36) ok dX12_part_36 ?_
        refine g_X12_best (pc := 37) (t := 133) ok dX12_part_37 kw918 rfl rfl ?_
        refine Z_iload1 (pc := 40) ok dX12_part_40 ?_
        refine Z_iald (pc := 41) (L := 30) ok dX12_part_41 rfl rfl (by first | omega | (simp [sz, uz] <;> omega)) ?_
        refine Z_iret (pc := 42) ok okr dX12_part_42 ?_
        have hp : 0 < I1 121 15 := by have := y3; omega
        exact ⟨_, rfl, rfl, x1, x2, Or.inr (Or.inr ⟨by omega, by omega, _, _, _, _, y2, Or.inr ⟨hp, y1 hp e h0.1 (by omega)⟩⟩)⟩
      · refine Z_bipush (pc := 31) ok dX12_part_31 (by decide) ?_
        refine Z_goto (pc := 33) (tgt := 42) ok dX12_part_33 rfl ?_
        refine Z_iret (pc := 42) ok okr dX12_part_42 ?_
        exact ⟨_, rfl, rfl, x1, x2, Or.inr (Or.inr ⟨by omega, by omega, _, _, _, _, y2, Or.inl ⟨y3.mpr h2, rfl⟩⟩)⟩
    · refine Z_bipush (pc := 17) ok dX12_part_17 (by decide) ?_
      refine Z_iret (pc := 19) ok okr dX12_part_19 ?_
      exact ⟨_, rfl, rfl, fr.rf, fun _ _ _ _ => rfl, Or.inr (Or.inl ⟨by omega, h, rfl⟩)⟩
  · refine Z_iconst (pc := 8) ok dX12_part_8 ?_
    refine Z_iret (pc := 9) ok okr dX12_part_9 ?_
    exact ⟨_, rfl, rfl, fr.rf, fun _ _ _ _ => rfl, Or.inl ⟨by omega, rfl⟩⟩
theorem m_take (h1 : gR (I 121 0) (I 122)) (hT : mT I) : K_X12_take l G [zr G 121] I J (fun v I' J' => ∃ r, v = some (zi r) ∧ (J' = J ∧ fr [121, 122, 128, 129, 130, 131, 132, 133, 134] I I' ∧ (∀ q, q ≠ 15 → q ≠ 16 → q ≠ 17 → I' 121 q = I 121 q) ∧ ((20000 < pr (I 122) (I 121 0) ∧ r = -8 ∧ I' 122 = I 122) ∨ (pr (I 122) (I 121 0) ≤ 20000 ∧ ∃ al le ofl fi, PSp (I 121 0) (I 122) al le ofl fi ∧ ((al = 0 ∧ r = -5 ∧ I' 122 = I 122) ∨ (0 < al ∧ r = le ∧ I' 122 = fun e => I 122 e - fi e)))))) := by
  have hn := h1.1
  have hc0 : ∀ e, 0 ≤ I 122 e := fun e => (h1.2.1 e).1
  refine Cz.of rfl (Nat.le_of_ble_eq_true rfl) [some (zr G 121), none] rfl (fun E ok okr hE => ?_)
  refine Z_aload0 (pc := 0) ok dX12_take_0 ?_
  refine Z_callVId (pc := 1) ok dX12_take_1 cw_X12_158 rfl rfl (by decide) (m_isDear h1) rfl rfl (by first | decide | omega) (Nat.le_of_ble_eq_true rfl) ?_
  refine Z_if_eqB (pc := 4) (tgt := 10) ok dX12_take_4 rfl (fun h => ?_) (fun h => ?_)
  · refine Z_aload0 (pc := 10) ok dX12_take_10 ?_
    refine Z_callVV (pc := 11) ok dX12_take_11 cw_X12_161 rfl rfl (by decide) (m_looksAtRow h1 hT (by omega)) rfl rfl (by first | decide | omega) (Nat.le_of_ble_eq_true rfl) (fun I1 J1 x => ?_)
    obtain ⟨rfl, x1, x2, x3, x4, fi, y1, y2, y3, y4⟩ := x
    have hal := PSp_al hc0 y2
    have hbm := mL_17 hc0 (by omega) y2 y3
    have e0 := x2 0 (by decide) (by decide) (by decide)
    have e122 : I1 122 = I 122 := x1.at 122 rfl
    have x1' : fr [121, 122, 128, 129, 130, 131, 132, 133, 134] I I1 := x1.sub rfl
    refine Z_iconst (pc := 14) ok dX12_take_14 ?_
    refine Z_istore1 (pc := 15) ok (by decide) dX12_take_15 rfl ?_
    have H : ∀ e : Int, 0 ≤ e → e ≤ I 121 0 → ∀ f : Int → Int, (∀ j, 0 ≤ j → j < e → f j = I 122 j - (if I1 121 17 = 0 then 0 else I1 133 j)) → (∀ j, j < 0 ∨ e ≤ j → f j = I 122 j) → Xz E G (sz I1 122 f) J1 16 [some (zr G 121), some (zi e)] [] := by
      refine zUp ?_ ?_
      · intro f f1 f2
        have z0 : sz I1 122 f 121 = I1 121 := sz_ne _ _ (by decide)
        have z00 := congrFun z0 0
        have z17 := congrFun z0 17
        refine Z_iload1 (pc := 16) ok dX12_take_16 ?_
        refine Z_aload0 (pc := 17) ok dX12_take_17 ?_
        refine g_X12_n (pc := 18) ok dX12_take_18 kw905 rfl ?_
        refine Z_icmp_ge (pc := 21) (tgt := 56) ok dX12_take_21 rfl (by first | omega | (simp [sz, uz] <;> omega)) (by first | omega | (simp [sz, uz] <;> omega)) (fun _ => ?_) (fun h => by exfalso; omega)
        refine Z_aload0 (pc := 56) ok dX12_take_56 ?_
        refine g_X12_bestMany (pc := 57) ok dX12_take_57 kw922 rfl ?_
        refine Z_if_ne (pc := 60) (tgt := 68) ok dX12_take_60 rfl (by first | omega | (simp [sz, uz] <;> omega)) (fun h2 => ?_) (fun h2 => ?_)
        · rw [z17] at h2
          have hp : 0 < I1 121 15 := by have := y3; omega
          obtain ⟨g1, g2, g3, g4, g5⟩ := y2.2.2 hp
          refine Z_aload0 (pc := 68) ok dX12_take_68 ?_
          refine g_X12_bestWeight (pc := 69) ok dX12_take_69 kw921 rfl ?_
          refine Z_iret (pc := 72) ok okr dX12_take_72 ?_
          refine ⟨_, rfl, rfl, x1'.st rfl, fun q a b d => by rw [z0]; exact x2 q a b d, Or.inr ⟨by omega, _, _, _, _, y2, Or.inr ⟨hp, by rw [z0], ?_⟩⟩⟩
          rw [sz_eq]
          funext j
          by_cases q : 0 ≤ j ∧ j < I 121 0
          · rw [f1 j q.1 q.2, if_neg h2, y1 hp j q.1 q.2]
          · rw [f2 j (by omega), g3.2 j (by omega), Int.sub_zero]
        · rw [z17] at h2
          refine Z_bipush (pc := 63) ok dX12_take_63 (by decide) ?_
          refine Z_goto (pc := 65) (tgt := 72) ok dX12_take_65 rfl ?_
          refine Z_iret (pc := 72) ok okr dX12_take_72 ?_
          refine ⟨_, rfl, rfl, x1'.st rfl, fun q a b d => by rw [z0]; exact x2 q a b d, Or.inr ⟨by omega, _, _, _, _, y2, Or.inl ⟨y3.mpr h2, rfl, ?_⟩⟩⟩
          rw [sz_eq]
          funext j
          by_cases q : 0 ≤ j ∧ j < I 121 0
          · rw [f1 j q.1 q.2, if_pos h2, Int.sub_zero]
          · rw [f2 j (by omega)]
      · intro e e0' e1 ih f f1 f2
        have z0 : sz I1 122 f 121 = I1 121 := sz_ne _ _ (by decide)
        have z00 := congrFun z0 0
        have z17 := congrFun z0 17
        have nxt : ∀ j, j < 0 ∨ e + 1 ≤ j → ∀ v, uz f e v j = I 122 j := fun j hj v => by rw [uz_ne _ _ (by omega)]; exact f2 j (by omega)
        refine Z_iload1 (pc := 16) ok dX12_take_16 ?_
        refine Z_aload0 (pc := 17) ok dX12_take_17 ?_
        refine g_X12_n (pc := 18) ok dX12_take_18 kw905 rfl ?_
        refine Z_icmp_ge (pc := 21) (tgt := 56) ok dX12_take_21 rfl (by first | omega | (simp [sz, uz] <;> omega)) (by first | omega | (simp [sz, uz] <;> omega)) (fun h => by exfalso; omega) (fun _ => ?_)
        refine Z_aload0 (pc := 24) ok dX12_take_24 ?_
        refine g_X12_row (pc := 25) (t := 122) ok dX12_take_25 kw906 rfl rfl ?_
        refine Z_iload1 (pc := 28) ok dX12_take_28 ?_
        refine Z_dup2 (pc := 29) ok dX12_take_29 rfl rfl ?_
        refine Z_iald (pc := 30) (L := 30) ok dX12_take_30 rfl rfl (by first | omega | (simp [sz, uz] <;> omega)) ?_
        refine Z_aload0 (pc := 31) ok dX12_take_31 ?_
        refine g_X12_bestMany (pc := 32) ok dX12_take_32 kw922 rfl ?_
        refine Z_if_ne (pc := 35) (tgt := 42) ok dX12_take_35 rfl (by first | omega | (simp [sz, uz] <;> omega)) (fun h2 => ?_) (fun h2 => ?_)
        · rw [z17] at h2
          refine Z_aload0 (pc := 42) ok dX12_take_42 ?_
          refine g_X12_best (pc := 43) (t := 133) ok dX12_take_43 kw918 rfl rfl ?_
          refine Z_iload1 (pc := 46) ok dX12_take_46 ?_
          refine Z_iald (pc := 47) (L := 30) ok dX12_take_47 rfl rfl (by first | omega | (simp [sz, uz] <;> omega)) ?_
          refine Z_isub (pc := 48) ok dX12_take_48 ?_
          refine Z_iast (pc := 49) (L := 30) ok dX12_take_49 rfl rfl (by first | omega | (simp [sz, uz] <;> omega)) ?_
          refine Z_iinc1 (pc := 50) ok (by decide) dX12_take_50 rfl ?_
          refine Z_goto (pc := 53) (tgt := 16) ok dX12_take_53 rfl ?_
          rw [sz_sz, sz_eq, sz_ne _ _ (show (133 : Nat) ≠ 122 by decide)]
          exact ih _ (upto_s (p := fun j x => x = I 122 j - (if I1 121 17 = 0 then 0 else I1 133 j)) f1 (by rw [f2 e (by omega), if_neg h2])) (fun j hj => nxt j hj _)
        · rw [z17] at h2
          refine Z_iconst (pc := 38) ok dX12_take_38 ?_
          refine Z_goto (pc := 39) (tgt := 48) ok dX12_take_39 rfl ?_
          refine Z_isub (pc := 48) ok dX12_take_48 ?_
          refine Z_iast (pc := 49) (L := 30) ok dX12_take_49 rfl rfl (by first | omega | (simp [sz, uz] <;> omega)) ?_
          refine Z_iinc1 (pc := 50) ok (by decide) dX12_take_50 rfl ?_
          refine Z_goto (pc := 53) (tgt := 16) ok dX12_take_53 rfl ?_
          rw [sz_sz, sz_eq]
          exact ih _ (upto_s (p := fun j x => x = I 122 j - (if I1 121 17 = 0 then 0 else I1 133 j)) f1 (by rw [f2 e (by omega), if_pos h2])) (fun j hj => nxt j hj _)
    have h0 := H 0 (by omega) (by omega) (I 122) (fun j j0 j1 => by omega) (fun _ _ => rfl)
    rw [← e122, sz_self] at h0
    exact h0
  · refine Z_bipush (pc := 7) ok dX12_take_7 (by decide) ?_
    refine Z_iret (pc := 9) ok okr dX12_take_9 ?_
    exact ⟨_, rfl, rfl, fr.rf, fun _ _ _ _ => rfl, Or.inl ⟨h, rfl, rfl⟩⟩
theorem m_pieces (h1 : gR (I 121 0) (I 122)) (hT : mT I) : K_X12_pieces l G [zr G 121] I J (fun v I' J' => ∃ r, v = some (zi r) ∧ (J' = J ∧ fr [121, 128, 129, 130, 131, 132, 133, 134] I I' ∧ (∀ q, q ≠ 15 → q ≠ 16 → q ≠ 17 → I' 121 q = I 121 q) ∧ ((20000 < pr (I 122) (I 121 0) ∧ r = -8) ∨ (pr (I 122) (I 121 0) ≤ 20000 ∧ ∃ (m : Nat) (x : Int → Int), r = m ∧ rch (I 121 0) m (I 122) x ∧ noP (I 121 0) x)))) := by
  have hn := h1.1
  refine Cz.of rfl (Nat.le_of_ble_eq_true rfl) [some (zr G 121), none, none] rfl (fun E ok okr hE => ?_)
  refine Z_aload0 (pc := 0) ok dX12_pieces_0 ?_
  refine Z_callVId (pc := 1) ok dX12_pieces_1 cw_X12_158 rfl rfl (by decide) (m_isDear h1) rfl rfl (by first | decide | omega) (Nat.le_of_ble_eq_true rfl) ?_
  refine Z_if_eqB (pc := 4) (tgt := 10) ok dX12_pieces_4 rfl (fun h => ?_) (fun h => ?_)
  · refine Z_aload0 (pc := 10) ok dX12_pieces_10 ?_
    refine Z_callVV (pc := 11) ok dX12_pieces_11 cw_X12_161 rfl rfl (by decide) (m_looksAtRow h1 hT (by omega)) rfl rfl (by first | decide | omega) (Nat.le_of_ble_eq_true rfl) (fun I1 J1 x => ?_)
    refine Z_iconst (pc := 14) ok dX12_pieces_14 ?_
    refine Z_istore1 (pc := 15) ok (by decide) dX12_pieces_15 rfl ?_
    obtain ⟨rfl, x1, x2, x3, x4, x5⟩ := x
    have hu := gR_su h1
    have H : ∀ k : Nat, ∀ (i : Nat) (I2 : Mz) (c : Int → Int), gR (I 121 0) c → (∀ e, c e ≤ I 122 e) → su c (I 121 0) ≤ k → rch (I 121 0) i (I 122) c → fr [121, 128, 129, 130, 131, 132, 133, 134] I I2 → (∀ q, q ≠ 15 → q ≠ 16 → q ≠ 17 → I2 121 q = I 121 q) → lvO I2 (I 121 0) → (∀ j, 0 ≤ j → j < I 121 0 → I2 134 j = c j) → mL (I 121 0) c I2 → ∀ w, Xz E G I2 J1 16 [some (zr G 121), some (zi (i : Int)), w] [] := by
      intro k
      induction k with
      | zero =>
        intro i I2 c c1 c2 c3 c4 k1 k2 k3 k4 ⟨fi, y1, y2, y3, y4⟩ w
        have hc0 : ∀ e, 0 ≤ c e := fun e => (c1.2.1 e).1
        have hpl := pr_le hc0 c2 (I 121 0)
        have hal := PSp_al hc0 y2
        have hbm := mL_17 hc0 (by omega) y2 y3
        have hz : I2 121 15 = 0 := by
          by_cases q : 0 < I2 121 15
          · obtain ⟨g1, g2, g3, g4, g5⟩ := y2.2.2 q
            have := su_le (f := fi) (g := c) (e := I 121 0) (fun j _ _ => (g3.1 j).2)
            have := g1.1
            omega
          · omega
        have h17 := y3.mp hz
        refine Z_aload0 (pc := 16) ok dX12_pieces_16 ?_
        refine g_X12_bestMany (pc := 17) ok dX12_pieces_17 kw922 rfl ?_
        refine Z_if_le (pc := 20) (tgt := 64) ok dX12_pieces_20 rfl (by first | omega | (simp [sz, uz] <;> omega)) (fun _ => ?_) (fun h => by exfalso; omega)
        refine Z_iload1 (pc := 64) ok dX12_pieces_64 ?_
        refine Z_iret (pc := 65) ok okr dX12_pieces_65 ?_
        refine ⟨_, rfl, rfl, k1, k2, Or.inr ⟨by omega, i, c, rfl, c4, I2 121 16, I2 121 17, fi, ?_⟩⟩
        rw [hz] at y2; exact y2
      | succ k ihk =>
        intro i I2 c c1 c2 c3 c4 k1 k2 k3 k4 ⟨fi, y1, y2, y3, y4⟩ w
        have hc0 : ∀ e, 0 ≤ c e := fun e => (c1.2.1 e).1
        have hpl := pr_le hc0 c2 (I 121 0)
        have hal := PSp_al hc0 y2
        have hbm := mL_17 hc0 (by omega) y2 y3
        refine Z_aload0 (pc := 16) ok dX12_pieces_16 ?_
        refine g_X12_bestMany (pc := 17) ok dX12_pieces_17 kw922 rfl ?_
        refine Z_if_le (pc := 20) (tgt := 64) ok dX12_pieces_20 rfl (by first | omega | (simp [sz, uz] <;> omega)) (fun h2 => ?_) (fun h2 => ?_)
        · have hz : I2 121 15 = 0 := y3.mpr (by omega)
          refine Z_iload1 (pc := 64) ok dX12_pieces_64 ?_
          refine Z_iret (pc := 65) ok okr dX12_pieces_65 ?_
          refine ⟨_, rfl, rfl, k1, k2, Or.inr ⟨by omega, i, c, rfl, c4, I2 121 16, I2 121 17, fi, ?_⟩⟩
          rw [hz] at y2; exact y2
        · have hp : 0 < I2 121 15 := by have := y3; omega
          obtain ⟨g1, g2, g3, g4, g5⟩ := y2.2.2 hp
          have hsub : su (fun e => c e - fi e) (I 121 0) = su c (I 121 0) - su fi (I 121 0) := by
            have := su_add (fun e => c e - fi e) fi (I 121 0)
            rw [su_c (g := c) (fun j _ _ => by show c j - fi j + fi j = c j; omega)] at this
            omega
          have cg : gR (I 121 0) (fun e => c e - fi e) := by
            refine ⟨hn, fun e => ?_, fun e he => ?_⟩
            · have := g3.1 e; have := (c1.2.1 e); show 0 ≤ c e - fi e ∧ c e - fi e ≤ 9; omega
            · show c e - fi e = 0
              rw [c1.2.2 e he, g3.2 e he]; rfl
          have e0 := k2 0 (by decide) (by decide) (by decide)
          refine Z_iinc1 (pc := 23) ok (by decide) dX12_pieces_23 rfl ?_
          refine Z_iconst (pc := 26) ok dX12_pieces_26 ?_
          refine Z_istore2 (pc := 27) ok (by decide) dX12_pieces_27 rfl ?_
          have H2 : ∀ e : Int, 0 ≤ e → e ≤ I 121 0 → ∀ f : Int → Int, (∀ j, 0 ≤ j → j < e → f j = c j - fi j) → (∀ j, e ≤ j → j < I 121 0 → f j = c j) → Xz E G (sz I2 134 f) J1 28 [some (zr G 121), some (zi ((i : Int) + 1)), some (zi e)] [] := by
            refine zUp ?_ ?_
            · intro f f1 f2
              have z0 : sz I2 134 f 121 0 = I 121 0 := by rw [sz_ne _ _ (by decide)]; exact e0
              have hcl : ∀ e, c e - fi e ≤ c e := fun e => by have := (g3.1 e).1; omega
              have hpl2 := pr_le (f := fun e => c e - fi e) (g := c) (fun e => (cg.2.1 e).1) hcl (I 121 0)
              refine Z_iload2 (pc := 28) ok dX12_pieces_28 ?_
              refine Z_aload0 (pc := 29) ok dX12_pieces_29 ?_
              refine g_X12_n (pc := 30) ok dX12_pieces_30 kw905 rfl ?_
              refine Z_icmp_ge (pc := 33) (tgt := 57) ok dX12_pieces_33 rfl (by first | omega | (simp [sz, uz] <;> omega)) (by first | omega | (simp [sz, uz] <;> omega)) (fun _ => ?_) (fun h => by exfalso; omega)
              refine Z_aload0 (pc := 57) ok dX12_pieces_57 ?_
              refine Z_callVV (pc := 58) ok dX12_pieces_58 cw_X12_155 rfl rfl (by decide) (m_looks cg z0 (mT_c hT (by rw [sz_ne _ _ (by decide)]; exact k1.at 126 rfl) (by rw [sz_ne _ _ (by decide)]; exact k1.at 127 rfl)) (lvO_c k3 (by rw [sz_ne _ _ (by decide)])) (by rw [sz_eq]; exact f1) (by omega)) rfl rfl (by first | decide | omega) (Nat.le_of_ble_eq_true rfl) (fun I3 J3 z => ?_)
              refine Z_goto (pc := 61) (tgt := 16) ok dX12_pieces_61 rfl ?_
              obtain ⟨rfl, z1, z2, z3⟩ := z
              refine ihk (i + 1) I3 (fun e => c e - fi e) cg (fun e => ?_) ?_ ⟨c, c4, _, _, _, fi, y2, hp, rfl⟩ ((k1.st (k := 134) rfl).tr (z1.sub rfl)) (fun q a b d => by rw [z2 q a b d, sz_ne _ _ (by decide)]; exact k2 q a b d) (lvO_c k3 (by rw [z1.at 129 rfl, sz_ne _ _ (by decide)])) (fun j j0 j1 => by rw [z1.at 134 rfl, sz_eq]; exact f1 j j0 j1) z3 _
              · have := (g3.1 e).1; have := c2 e; show c e - fi e ≤ I 122 e; omega
              · have := g1.1; omega
            · intro e e0' e1 ih f f1 f2
              have z0 : sz I2 134 f 121 0 = I 121 0 := by rw [sz_ne _ _ (by decide)]; exact e0
              refine Z_iload2 (pc := 28) ok dX12_pieces_28 ?_
              refine Z_aload0 (pc := 29) ok dX12_pieces_29 ?_
              refine g_X12_n (pc := 30) ok dX12_pieces_30 kw905 rfl ?_
              refine Z_icmp_ge (pc := 33) (tgt := 57) ok dX12_pieces_33 rfl (by first | omega | (simp [sz, uz] <;> omega)) (by first | omega | (simp [sz, uz] <;> omega)) (fun h => by exfalso; omega) (fun _ => ?_)
              refine Z_aload0 (pc := 36) ok dX12_pieces_36 ?_
              refine g_X12_from (pc := 37) (t := 134) ok dX12_pieces_37 kw919 rfl rfl ?_
              refine Z_iload2 (pc := 40) ok dX12_pieces_40 ?_
              refine Z_dup2 (pc := 41) ok dX12_pieces_41 rfl rfl ?_
              refine Z_iald (pc := 42) (L := 30) ok dX12_pieces_42 rfl rfl (by first | omega | (simp [sz, uz] <;> omega)) ?_
              refine Z_aload0 (pc := 43) ok dX12_pieces_43 ?_
              refine g_X12_best (pc := 44) (t := 133) ok dX12_pieces_44 kw918 rfl rfl ?_
              refine Z_iload2 (pc := 47) ok dX12_pieces_47 ?_
              refine Z_iald (pc := 48) (L := 30) ok dX12_pieces_48 rfl rfl (by first | omega | (simp [sz, uz] <;> omega)) ?_
              refine Z_isub (pc := 49) ok dX12_pieces_49 ?_
              refine Z_iast (pc := 50) (L := 30) ok dX12_pieces_50 rfl rfl (by first | omega | (simp [sz, uz] <;> omega)) ?_
              refine Z_iinc2 (pc := 51) ok (by decide) dX12_pieces_51 rfl ?_
              refine Z_goto (pc := 54) (tgt := 28) ok dX12_pieces_54 rfl ?_
              rw [sz_sz, sz_eq, sz_ne _ _ (show (133 : Nat) ≠ 134 by decide)]
              exact ih _ (upto_s (p := fun j x => x = c j - fi j) f1 (by rw [f2 e (by omega) e1, y1 hp e e0' e1])) (fun j a b => by rw [uz_ne _ _ (by omega)]; exact f2 j (by omega) b)
          have h0 := H2 0 (by omega) (by omega) (I2 134) (fun j j0 j1 => by omega) (fun j j0 j1 => k4 j j0 j1)
          rw [sz_self] at h0
          exact h0
    exact H (su (I 122) (I 121 0)).toNat 0 I1 (I 122) h1 (fun _ => Int.le_refl _) (by omega) rfl x1 x2 x3 x4 x5 none
  · refine Z_bipush (pc := 7) ok dX12_pieces_7 (by decide) ?_
    refine Z_iret (pc := 9) ok okr dX12_pieces_9 ?_
    exact ⟨_, rfl, rfl, fr.rf, fun _ _ _ _ => rfl, Or.inl ⟨h, rfl⟩⟩
end
