/-! the reference: layers, ways -/
def uOk (n p : Nat) : Bool := !((List.range p).all (fun d => decide (d < 2 ∨ p % d ≠ 0))) || decide (n % p ≠ 0) || decide (n % (p * p) = 0) || (decide (1 ≤ lst n p ∧ lst n p % p = 1 ∧ lst n p % ((n : Int) / p) = 0) && (List.range (lst n p).toNat).all (fun w => decide (w = 0 ∨ w % p ≠ 1 ∨ w % (n / p) ≠ 0)))
theorem u_all : (List.range 29).all (fun n => (List.range 29).all (fun p => uOk (n + 2) (p + 2))) = true := by decide +kernel
theorem u_ok {n p : Int} (hn : 2 ≤ n ∧ n ≤ 30) (hp : isP p n) (hs : n % (p * p) ≠ 0) : 1 ≤ lst n p ∧ lst n p % p = 1 ∧ lst n p % (n / p) = 0 ∧ ∀ w, 1 ≤ w → w < lst n p → ¬ (w % p = 1 ∧ w % (n / p) = 0) := by
  obtain ⟨p1, p2, p3, p4⟩ := hp
  obtain ⟨N, rfl⟩ := Int.eq_ofNat_of_zero_le (show 0 ≤ n by omega)
  obtain ⟨P, rfl⟩ := Int.eq_ofNat_of_zero_le (show 0 ≤ p by omega)
  have h := List.all_eq_true.mp (List.all_eq_true.mp u_all (N - 2) (List.mem_range.mpr (by omega))) (P - 2) (List.mem_range.mpr (by omega))
  rw [show N - 2 + 2 = N by omega, show P - 2 + 2 = P by omega] at h
  simp only [uOk, Bool.or_eq_true, Bool.and_eq_true, Bool.not_eq_true', decide_eq_true_eq] at h
  rcases h with ((h | h) | h) | h
  · exfalso
    have : (List.range P).all (fun d => decide (d < 2 ∨ P % d ≠ 0)) = true := by
      refine List.all_eq_true.mpr (fun d hd => ?_)
      rw [List.mem_range] at hd
      rw [decide_eq_true_eq]
      by_cases q : d < 2
      · exact Or.inl q
      · have := p4 (d : Int) (by omega) (by omega)
        refine Or.inr (fun q2 => this ?_)
        rw [← Int.natCast_emod, q2]; rfl
    rw [this] at h; cases h
  · exfalso
    rw [← Int.natCast_emod] at p3
    omega
  · exfalso
    rw [← Int.natCast_mul, ← Int.natCast_emod] at hs
    omega
  · obtain ⟨⟨a1, a2, a3⟩, a4⟩ := h
    refine ⟨a1, a2, a3, fun w w0 w1 q => ?_⟩
    obtain ⟨W, rfl⟩ := Int.eq_ofNat_of_zero_le (show 0 ≤ w by omega)
    have := List.all_eq_true.mp a4 W (List.mem_range.mpr (by omega))
    rw [decide_eq_true_eq] at this
    rw [← Int.natCast_ediv, ← Int.natCast_emod, ← Int.natCast_emod] at q
    omega
theorem lst_m {n p : Int} (hn : 2 ≤ n ∧ n ≤ 30) (hp : isP p n) : lst n p % p = 1 := by
  by_cases h : n % (p * p) = 0
  · rw [lst, if_pos h]; exact Int.emod_eq_of_lt (by omega) (by have := hp.1; omega)
  · exact (u_ok hn hp h).2.1
theorem lyU {n p j : Int} (hn : 2 ≤ n ∧ n ≤ 30) (hp : isP p n) : (j * lst n p % n) % p = j % p := by
  rw [Int.emod_emod_of_dvd _ (Int.dvd_of_emod_eq_zero hp.2.2.1), Int.mul_emod, lst_m hn hp, Int.mul_one, Int.emod_emod]
theorem lyI {n p u j k i : Int} (hp0 : 0 < p) (hpn : n % p = 0) (hu : u % p = j % p) (hi : 0 ≤ i ∧ i < n) (hip : i % p = 0) (hy : j + p * k ≤ (i + u) % n ∧ (i + u) % n < j + p * k + p) : i = (j + p * k - u + n) % n := by
  have y1 : (i + u) % n % p = j % p := by
    rw [Int.emod_emod_of_dvd _ (Int.dvd_of_emod_eq_zero hpn), Int.add_emod, hip, Int.zero_add, Int.emod_emod, hu]
  have y2 : ((i + u) % n - (j + p * k)) % p = 0 := by
    rw [Int.sub_emod, y1, Int.add_mul_emod_self_left, Int.sub_self]; rfl
  have y3 : ((i + u) % n - (j + p * k)) % p = (i + u) % n - (j + p * k) := Int.emod_eq_of_lt (by omega) (by omega)
  have y4 : (i + u) % n = j + p * k := by omega
  rw [← y4]
  have e : (i + u) % n - u + n = i + n * (1 - (i + u) / n) := by
    rw [Int.emod_def, Int.mul_sub, Int.mul_one]; omega
  rw [e, Int.add_mul_emod_self_left, Int.emod_eq_of_lt hi.1 hi.2]
theorem lyX {n u a : Int} (ha : 0 ≤ a ∧ a < n) : ((a - u + n) % n + u) % n = a := by
  have e : (a - u + n) % n + u = a + n * (1 - (a - u + n) / n) := by
    rw [Int.emod_def, Int.mul_sub, Int.mul_one]; omega
  rw [e, Int.add_mul_emod_self_left, Int.emod_eq_of_lt ha.1 ha.2]
theorem lyP {n p u j k : Int} (hpn : n % p = 0) (hu : u % p = j % p) : (j + p * k - u + n) % n % p = 0 := by
  have d := Int.dvd_of_emod_eq_zero hpn
  have h1 : p ∣ j - u := Int.dvd_of_emod_eq_zero (by rw [Int.sub_emod, hu, Int.sub_self]; rfl)
  rw [Int.emod_emod_of_dvd _ d]
  refine Int.emod_eq_zero_of_dvd ?_
  rw [show j + p * k - u + n = (j - u) + p * k + n by omega]
  exact Int.dvd_add (Int.dvd_add h1 (Int.dvd_mul_right p k)) d
theorem fz_b {P : Int → Prop} {i N : Int} (h0 : 0 ≤ i) (h1 : i ≤ N) (h2 : N ≤ 30) : -5 ≤ fz P (-5) i N ∧ fz P (-5) i N ≤ 30 := by
  have hfz : ∀ (m : Nat) (i : Int), 0 ≤ i → i + m ≤ 30 → -5 ≤ fzN P (-5) m i ∧ fzN P (-5) m i ≤ 30 := by
    intro m
    induction m with
    | zero => intro i _ _; simp only [fzN]; omega
    | succ m ih =>
      intro i h0 h1
      simp only [fzN]
      by_cases hp : P i
      · rw [if_pos hp]; omega
      · rw [if_neg hp]; exact ih (i + 1) (by omega) (by omega)
  exact hfz _ i h0 (by omega)
theorem LY_z {n p j e : Int} {c : Int → Int} (h : e < 0 ∨ n ≤ e) : LY n p c j e = 0 := by
  rw [LY, if_neg (by omega)]
section
variable {l : Launch} {G : Gw} {I J : Mz}
theorem m_unit {p : Int} (hn : 2 ≤ I 121 0 ∧ I 121 0 ≤ 30) (hp : isP p (I 121 0)) (hs : I 121 0 % (p * p) ≠ 0) : K_X12_unit l G [zr G 121, zi p] I J (pR (some (zi (lst (I 121 0) p))) I J) := by
  obtain ⟨u1, u2, u3, u4⟩ := u_ok hn hp hs
  have h2 : 2 ≤ p ∧ p ≤ 30 := by have := hp.1; have := hp.2.1; omega
  have hb := lst_b hn h2
  have hd := di_b (a := I 121 0) (b := p) (by omega) (by omega)
  have hd0 : 0 < I 121 0 / p := by
    have := Int.mul_ediv_add_emod (I 121 0) p
    rw [hp.2.2.1] at this
    by_cases q : I 121 0 / p = 0
    · rw [q, Int.mul_zero] at this; omega
    · omega
  refine Cz.of rfl (Nat.le_of_ble_eq_true rfl) [some (zr G 121), some (zi p), none] rfl (fun E ok okr hE => ?_)
  refine Z_iconst (pc := 0) ok dX12_unit_0 ?_
  refine Z_istore2 (pc := 1) ok (by decide) dX12_unit_1 rfl ?_
  have H : ∀ w : Int, 1 ≤ w → w ≤ lst (I 121 0) p → Xz E G I J 2 [some (zr G 121), some (zi p), some (zi w)] [] := by
    refine zUp ?_ ?_
    · refine Z_iload2 (pc := 2) ok dX12_unit_2 ?_
      refine Z_iload1 (pc := 3) ok dX12_unit_3 ?_
      refine Z_irem (pc := 4) ok dX12_unit_4 (by omega) (by omega) (by omega) (by omega) ?_
      refine Z_iconst (pc := 5) ok dX12_unit_5 ?_
      refine Z_icmp_ne (pc := 6) (tgt := 20) ok dX12_unit_6 rfl (em_r (by omega) (by omega)) (by omega) (fun h => absurd h (fun q => q u2)) (fun h => ?_)
      refine Z_iload2 (pc := 9) ok dX12_unit_9 ?_
      refine Z_aload0 (pc := 10) ok dX12_unit_10 ?_
      refine g_X12_n (pc := 11) ok dX12_unit_11 kw905 rfl ?_
      refine Z_iload1 (pc := 14) ok dX12_unit_14 ?_
      refine Z_idiv (pc := 15) ok dX12_unit_15 (by omega) (by omega) (by omega) (by omega) ?_
      refine Z_irem (pc := 16) ok dX12_unit_16 (by omega) (by omega) (by omega) (by omega) ?_
      refine Z_if_eq (pc := 17) (tgt := 26) ok dX12_unit_17 rfl (em_r (by omega) (by omega)) (fun h => ?_) (fun h => absurd h (fun q => q u3))
      refine Z_iload2 (pc := 26) ok dX12_unit_26 ?_
      refine Z_iret (pc := 27) ok okr dX12_unit_27 ?_
      exact ⟨rfl, rfl, rfl⟩
    · intro w w0 w1 ih
      refine Z_iload2 (pc := 2) ok dX12_unit_2 ?_
      refine Z_iload1 (pc := 3) ok dX12_unit_3 ?_
      refine Z_irem (pc := 4) ok dX12_unit_4 (by omega) (by omega) (by omega) (by omega) ?_
      refine Z_iconst (pc := 5) ok dX12_unit_5 ?_
      refine Z_icmp_ne (pc := 6) (tgt := 20) ok dX12_unit_6 rfl (em_r (by omega) (by omega)) (by omega) (fun h0 => ?_) (fun h0 => ?_)
      · refine Z_iinc2 (pc := 20) ok (by decide) dX12_unit_20 rfl ?_
        refine Z_goto (pc := 23) (tgt := 2) ok dX12_unit_23 rfl ?_
        exact ih
      · refine Z_iload2 (pc := 9) ok dX12_unit_9 ?_
        refine Z_aload0 (pc := 10) ok dX12_unit_10 ?_
        refine g_X12_n (pc := 11) ok dX12_unit_11 kw905 rfl ?_
        refine Z_iload1 (pc := 14) ok dX12_unit_14 ?_
        refine Z_idiv (pc := 15) ok dX12_unit_15 (by omega) (by omega) (by omega) (by omega) ?_
        refine Z_irem (pc := 16) ok dX12_unit_16 (by omega) (by omega) (by omega) (by omega) ?_
        refine Z_if_eq (pc := 17) (tgt := 26) ok dX12_unit_17 rfl (em_r (by omega) (by omega)) (fun h => absurd h (fun q => u4 w w0 w1 ⟨h0, q⟩)) (fun h => ?_)
        refine Z_iinc2 (pc := 20) ok (by decide) dX12_unit_20 rfl ?_
        refine Z_goto (pc := 23) (tgt := 2) ok dX12_unit_23 rfl ?_
        exact ih
  exact H 1 (by omega) u1
theorem m_tellsLayer {p j n : Int} (h121 : I 121 0 = n) (h1 : gR n (I 122)) (hp : isP p n) (hj : 0 ≤ j ∧ j < p) : K_X12_tellsLayer l G [zr G 121, zi p, zi j] I J (pR none (sz I 138 (LY n p (I 122) j)) J) := by
  have hn := h1.1
  have h2 : 2 ≤ p ∧ p ≤ n := ⟨hp.1, hp.2.1⟩
  have hb := lst_b hn (show 2 ≤ p ∧ p ≤ 30 by omega)
  have hm : 0 ≤ j * lst n p := Int.mul_nonneg hj.1 hb.1
  have hm2 : j * lst n p ≤ 30 * 1000 := Int.mul_le_mul (by omega) hb.2 hb.1 (by omega)
  have hq1 : 2 * 2 ≤ p * p := Int.mul_le_mul hp.1 hp.1 (by omega) (by omega)
  have hq2 : p * p ≤ 30 * 30 := Int.mul_le_mul (by omega) (by omega) (by omega) (by omega)
  have hub := em_b (j * lst n p) (show 0 < n by omega)
  have hu := lyU (j := j) hn hp
  have hK : n = p * (n / p) := by
    have := Int.mul_ediv_add_emod n p
    rw [hp.2.2.1] at this; omega
  have hdv := di_b (a := n) (b := p) (by omega) (by omega)
  have e0 : ∀ f : Int → Int, sz I 138 f 121 0 = n := fun f => by rw [sz_ne _ _ (by decide)]; exact h121
  have e122 : ∀ f : Int → Int, sz I 138 f 122 = I 122 := fun f => sz_ne _ _ (by decide)
  refine Cz.of rfl (Nat.le_of_ble_eq_true rfl) [some (zr G 121), some (zi p), some (zi j), none, none] rfl (fun E ok okr hE => ?_)
  have H2 : ∀ k : Int, 0 ≤ k → k ≤ n / p → ∀ f : Int → Int, (∀ i, 0 ≤ i → i < 30 → f i = if ((0 ≤ i ∧ i < n) ∧ i % p = 0) ∧ (i + j * lst n p % n) % n < j + p * k then I 122 ((i + j * lst n p % n) % n) else 0) → Xz E G (sz I 138 f) J 52 [some (zr G 121), some (zi p), some (zi j), some (zi (j * lst n p % n)), some (zi (j + p * k))] [] := by
    refine zUp ?_ ?_
    · intro f f1
      have q0 := e0 f
      refine Z_ext1 (g := LY n p (I 122) j) (by decide) (fun x x0 x1 => ?_) ?_
      · have x1 : x < 30 := x1
        have hx := em_b (x + j * lst n p % n) (show 0 < n by omega)
        rw [f1 x x0 x1, LY, ← hK]
        by_cases q : (0 ≤ x ∧ x < n) ∧ x % p = 0
        · rw [if_pos ⟨q, by omega⟩, if_pos q, Int.add_emod_emod]
        · rw [if_neg (fun q2 => q q2.1), if_neg q]
      · have q0 := e0 (LY n p (I 122) j)
        rw [← hK]
        refine Z_iload4 (pc := 52) ok dX12_tellsLayer_52 ?_
        refine Z_aload0 (pc := 54) ok dX12_tellsLayer_54 ?_
        refine g_X12_n (pc := 55) ok dX12_tellsLayer_55 kw905 rfl ?_
        refine Z_icmp_ge (pc := 58) (tgt := 96) ok dX12_tellsLayer_58 rfl (by first | omega | (simp [sz, uz] <;> omega)) (by first | omega | (simp [sz, uz] <;> omega)) (fun _ => ?_) (fun h => by exfalso; omega)
        refine Z_vret (pc := 96) ok okr dX12_tellsLayer_96 ?_
        exact ⟨rfl, rfl, rfl⟩
    · intro k k0 k1 ih f f1
      have q0 := e0 f
      have hpq : p * (k + 1) ≤ p * (n / p) := Int.mul_le_mul_of_nonneg_left (by omega) (by omega)
      have hpq0 : 0 ≤ p * k := Int.mul_nonneg (by omega) k0
      rw [Int.mul_add, Int.mul_one, ← hK] at hpq
      rw [Int.mul_add, Int.mul_one, ← Int.add_assoc] at ih
      have hx := em_b (j + p * k - j * lst n p % n + n) (show 0 < n by omega)
      have hX := lyX (n := n) (u := j * lst n p % n) (a := j + p * k) (by omega)
      have hP := lyP (n := n) (k := k) hp.2.2.1 hu
      refine Z_iload4 (pc := 52) ok dX12_tellsLayer_52 ?_
      refine Z_aload0 (pc := 54) ok dX12_tellsLayer_54 ?_
      refine g_X12_n (pc := 55) ok dX12_tellsLayer_55 kw905 rfl ?_
      refine Z_icmp_ge (pc := 58) (tgt := 96) ok dX12_tellsLayer_58 rfl (by first | omega | (simp [sz, uz] <;> omega)) (by first | omega | (simp [sz, uz] <;> omega)) (fun h => by exfalso; omega) (fun _ => ?_)
      refine Z_aload0 (pc := 61) ok dX12_tellsLayer_61 ?_
      refine g_X12_layered (pc := 62) (t := 138) ok dX12_tellsLayer_62 kw926 rfl rfl ?_
      refine Z_iload4 (pc := 65) ok dX12_tellsLayer_65 ?_
      refine Z_iload3 (pc := 67) ok dX12_tellsLayer_67 ?_
      refine Z_isub (pc := 68) ok dX12_tellsLayer_68 ?_
      refine Z_aload0 (pc := 69) ok dX12_tellsLayer_69 ?_
      refine g_X12_n (pc := 70) ok dX12_tellsLayer_70 kw905 rfl ?_
      refine Z_iadd (pc := 73) ok dX12_tellsLayer_73 ?_
      refine Z_aload0 (pc := 74) ok dX12_tellsLayer_74 ?_
      refine g_X12_n (pc := 75) ok dX12_tellsLayer_75 kw905 rfl ?_
      rw [q0]
      refine Z_irem (pc := 78) ok dX12_tellsLayer_78 (by omega) (by omega) (by omega) (by omega) ?_
      refine Z_aload0 (pc := 79) ok dX12_tellsLayer_79 ?_
      refine g_X12_row (pc := 80) (t := 122) ok dX12_tellsLayer_80 kw906 rfl rfl ?_
      refine Z_iload4 (pc := 83) ok dX12_tellsLayer_83 ?_
      refine Z_iald (pc := 85) (L := 30) ok dX12_tellsLayer_85 rfl rfl (by first | omega | (simp [sz, uz] <;> omega)) ?_
      refine Z_iast (pc := 86) (L := 30) ok dX12_tellsLayer_86 rfl rfl (by first | omega | (simp [sz, uz] <;> omega)) ?_
      refine Z_iload4 (pc := 87) ok dX12_tellsLayer_87 ?_
      refine Z_iload1 (pc := 89) ok dX12_tellsLayer_89 ?_
      refine Z_iadd (pc := 90) ok dX12_tellsLayer_90 ?_
      refine Z_istore4 (pc := 91) ok (by decide) dX12_tellsLayer_91 rfl ?_
      refine Z_goto (pc := 93) (tgt := 52) ok dX12_tellsLayer_93 rfl ?_
      rw [sz_sz, sz_eq, e122]
      refine ih _ (fun i i0 i1 => ?_)
      by_cases q : i = (j + p * k - j * lst n p % n + n) % n
      · rw [q, uz_eq, hX, if_pos ⟨⟨hx, hP⟩, by omega⟩]
      · rw [uz_ne _ _ q, f1 i i0 i1]
        by_cases q2 : ((0 ≤ i ∧ i < n) ∧ i % p = 0) ∧ (i + j * lst n p % n) % n < j + p * k
        · rw [if_pos q2, if_pos ⟨q2.1, by have := q2.2; omega⟩]
        · rw [if_neg q2, if_neg (fun q3 => ?_)]
          by_cases q4 : (i + j * lst n p % n) % n < j + p * k
          · exact q2 ⟨q3.1, q4⟩
          · exact q (lyI (by omega) hp.2.2.1 hu q3.1.1 q3.1.2 ⟨by omega, q3.2⟩)
  have H3 :  Xz E G (sz I 138 (fun _ => 0)) J 49 [some (zr G 121), some (zi p), some (zi j), some (zi (j * lst n p % n)), none] [] := by
    have h0 := H2 0 (by omega) (by omega) (fun _ => 0) (fun i i0 i1 => by
      rw [if_neg (fun q => ?_)]
      have y := em_b (i + j * lst n p % n) (show 0 < n by omega)
      have y1 : (i + j * lst n p % n) % n % p = j % p := by
        rw [Int.emod_emod_of_dvd _ (Int.dvd_of_emod_eq_zero hp.2.2.1), Int.add_emod, q.1.2, Int.zero_add, Int.emod_emod, hu]
      have y2 := q.2
      rw [Int.mul_zero, Int.add_zero] at y2
      rw [Int.emod_eq_of_lt y.1 (by omega), Int.emod_eq_of_lt hj.1 hj.2] at y1
      omega)
    rw [Int.mul_zero, Int.add_zero] at h0
    refine Z_iload2 (pc := 49) ok dX12_tellsLayer_49 ?_
    refine Z_istore4 (pc := 50) ok (by decide) dX12_tellsLayer_50 rfl ?_
    exact h0
  refine Z_iconst (pc := 0) ok dX12_tellsLayer_0 ?_
  refine Z_istore3 (pc := 1) ok (by decide) dX12_tellsLayer_1 rfl ?_
  have H1 : ∀ e : Int, 0 ≤ e → e ≤ 30 → ∀ f : Int → Int, (∀ j, 0 ≤ j → j < e → f j = 0) → Xz E G (sz I 138 f) J 2 [some (zr G 121), some (zi p), some (zi j), some (zi e), none] [] := by
    refine zUp ?_ ?_
    · intro f hf
      refine Z_ext1 (g := fun _ => 0) (by decide) (fun j h0 h1 => hf j h0 (by have : j < 30 := h1; omega)) ?_
      have q0 := e0 (fun _ => 0)
      refine Z_iload3 (pc := 2) ok dX12_tellsLayer_2 ?_
      refine Z_bipush (pc := 3) ok dX12_tellsLayer_3 (by decide) ?_
      refine Z_icmp_ge (pc := 5) (tgt := 21) ok dX12_tellsLayer_5 rfl (by first | omega | (simp [sz, uz] <;> omega)) (by first | omega | (simp [sz, uz] <;> omega)) (fun _ => ?_) (fun h => by exfalso; omega)
      refine Z_aload0 (pc := 21) ok dX12_tellsLayer_21 ?_
      refine g_X12_n (pc := 22) ok dX12_tellsLayer_22 kw905 rfl ?_
      refine Z_iload1 (pc := 25) ok dX12_tellsLayer_25 ?_
      refine Z_iload1 (pc := 26) ok dX12_tellsLayer_26 ?_
      refine Z_imul (pc := 27) ok dX12_tellsLayer_27 ?_
      rw [q0]
      refine Z_irem (pc := 28) ok dX12_tellsLayer_28 (by omega) (by omega) (by omega) (by omega) ?_
      refine Z_if_ne (pc := 29) (tgt := 36) ok dX12_tellsLayer_29 rfl (em_r (by omega) (by omega)) (fun h => ?_) (fun h => ?_)
      · refine Z_iload2 (pc := 36) ok dX12_tellsLayer_36 ?_
        refine Z_aload0 (pc := 37) ok dX12_tellsLayer_37 ?_
        refine Z_iload1 (pc := 38) ok dX12_tellsLayer_38 ?_
        refine Z_callVId (pc := 39) ok dX12_tellsLayer_39 cw_X12_197 rfl rfl (by decide) (m_unit (by rw [q0]; exact hn) (by rw [q0]; exact hp) (by rw [q0]; exact h)) rfl rfl (by first | decide | omega) (Nat.le_of_ble_eq_true rfl) ?_
        rw [q0]
        refine Z_imul (pc := 42) ok dX12_tellsLayer_42 ?_
        refine Z_aload0 (pc := 43) ok dX12_tellsLayer_43 ?_
        refine g_X12_n (pc := 44) ok dX12_tellsLayer_44 kw905 rfl ?_
        rw [q0]
        refine Z_irem (pc := 47) ok dX12_tellsLayer_47 (by omega) (by omega) (by omega) (by omega) ?_
        refine Z_istore3 (pc := 48) ok (by decide) dX12_tellsLayer_48 rfl ?_
        exact H3
      · refine Z_iload2 (pc := 32) ok dX12_tellsLayer_32 ?_
        refine Z_goto (pc := 33) (tgt := 48) ok dX12_tellsLayer_33 rfl ?_
        refine Z_istore3 (pc := 48) ok (by decide) dX12_tellsLayer_48 rfl ?_
        have hl : lst n p = 1 := by rw [lst, if_pos h]
        have H3 := H3
        rw [hl, Int.mul_one, Int.emod_eq_of_lt hj.1 (by omega)] at H3
        exact H3
    · intro e e0 e1 ih f hf
      refine Z_iload3 (pc := 2) ok dX12_tellsLayer_2 ?_
      refine Z_bipush (pc := 3) ok dX12_tellsLayer_3 (by decide) ?_
      refine Z_icmp_ge (pc := 5) (tgt := 21) ok dX12_tellsLayer_5 rfl (by first | omega | (simp [sz, uz] <;> omega)) (by first | omega | (simp [sz, uz] <;> omega)) (fun h => by exfalso; omega) (fun _ => ?_)
      refine Z_aload0 (pc := 8) ok dX12_tellsLayer_8 ?_
      refine g_X12_layered (pc := 9) (t := 138) ok dX12_tellsLayer_9 kw926 rfl rfl ?_
      refine Z_iload3 (pc := 12) ok dX12_tellsLayer_12 ?_
      refine Z_iconst (pc := 13) ok dX12_tellsLayer_13 ?_
      refine Z_iast (pc := 14) (L := 30) ok dX12_tellsLayer_14 rfl rfl (by first | omega | (simp [sz, uz] <;> omega)) ?_
      refine Z_iinc3 (pc := 15) ok (by decide) dX12_tellsLayer_15 rfl ?_
      refine Z_goto (pc := 18) (tgt := 2) ok dX12_tellsLayer_18 rfl ?_
      rw [sz_sz, sz_eq]
      exact ih _ (upto_s (p := fun _ x => x = 0) hf rfl)
  have h0 := H1 0 (by omega) (by omega) (I 138) (fun j j0 j1 => by omega)
  rw [sz_self] at h0
  exact h0
theorem m_layer {p j e : Int} (hp : -2147483648 ≤ p ∧ p ≤ 2147483647) (hj : -2147483648 ≤ j ∧ j ≤ 2147483647) (he : -2147483648 ≤ e ∧ e ≤ 2147483647) (h1 : gR (I 121 0) (I 122)) : K_X12_layer l G [zr G 121, zi p, zi j, zi e] I J (fun v I' J' => ∃ r, v = some (zi r) ∧ (fr [138] I I' ∧ J' = J ∧ ((¬ (isP p (I 121 0) ∧ (0 ≤ j ∧ j < p) ∧ (0 ≤ e ∧ e < I 121 0)) ∧ r = -1) ∨ ((isP p (I 121 0) ∧ (0 ≤ j ∧ j < p) ∧ (0 ≤ e ∧ e < I 121 0)) ∧ r = LY (I 121 0) p (I 122) j e)))) := by
  have hn := h1.1
  refine Cz.of rfl (Nat.le_of_ble_eq_true rfl) [some (zr G 121), some (zi p), some (zi j), some (zi e)] rfl (fun E ok okr hE => ?_)
  refine Z_aload0 (pc := 0) ok dX12_layer_0 ?_
  refine Z_iload1 (pc := 1) ok dX12_layer_1 ?_
  refine Z_callVId (pc := 2) ok dX12_layer_2 cw_X12_170 rfl rfl (by decide) (m_isPrime hp hn) rfl rfl (by first | decide | omega) (Nat.le_of_ble_eq_true rfl) ?_
  refine Z_if_eqB (pc := 5) (tgt := 29) ok dX12_layer_5 rfl (fun h => ?_) (fun h => ?_)
  · refine Z_iconst (pc := 29) ok dX12_layer_29 ?_
    refine Z_iret (pc := 30) ok okr dX12_layer_30 ?_
    exact ⟨_, rfl, fr.rf, rfl, Or.inl ⟨fun q => h q.1, rfl⟩⟩
  · have h2 : 2 ≤ p ∧ p ≤ 30 := by have := h.1; have := h.2.1; omega
    refine Z_iload2 (pc := 8) ok dX12_layer_8 ?_
    refine Z_i2l (pc := 9) ok dX12_layer_9 (by first | omega | (simp [sz, uz] <;> omega)) ?_
    refine Z_lconst (pc := 10) (z := 0) ok dX12_layer_10 (by decide) ?_
    refine Z_iload1 (pc := 11) ok dX12_layer_11 ?_
    refine Z_iconst (pc := 12) ok dX12_layer_12 ?_
    refine Z_isub (pc := 13) ok dX12_layer_13 ?_
    refine Z_i2l (pc := 14) ok dX12_layer_14 (by first | omega | (simp [sz, uz] <;> omega)) ?_
    refine Z_callSId (pc := 15) ok dX12_layer_15 cw_X12_97 (m_in (by omega) (by omega) (by omega)) rfl rfl (by first | decide | omega) (Nat.le_of_ble_eq_true rfl) ?_
    refine Z_if_eqB (pc := 18) (tgt := 29) ok dX12_layer_18 rfl (fun h3 => ?_) (fun h3 => ?_)
    · refine Z_iconst (pc := 29) ok dX12_layer_29 ?_
      refine Z_iret (pc := 30) ok okr dX12_layer_30 ?_
      exact ⟨_, rfl, fr.rf, rfl, Or.inl ⟨fun q => h3 (by have := q.2.1; omega), rfl⟩⟩
    · refine Z_aload0 (pc := 21) ok dX12_layer_21 ?_
      refine Z_iload3 (pc := 22) ok dX12_layer_22 ?_
      refine Z_callVId (pc := 23) ok dX12_layer_23 cw_X12_105 rfl rfl (by decide) (m_isRoot he hn) rfl rfl (by first | decide | omega) (Nat.le_of_ble_eq_true rfl) ?_
      refine Z_if_neB (pc := 26) (tgt := 31) ok dX12_layer_26 rfl (fun h4 => ?_) (fun h4 => ?_)
      · refine Z_aload0 (pc := 31) ok dX12_layer_31 ?_
        refine Z_iload1 (pc := 32) ok dX12_layer_32 ?_
        refine Z_iload2 (pc := 33) ok dX12_layer_33 ?_
        refine Z_callVVd (pc := 34) ok dX12_layer_34 cw_X12_201 rfl rfl (by decide) (m_tellsLayer rfl h1 h (by omega)) rfl rfl (by first | decide | omega) (Nat.le_of_ble_eq_true rfl) ?_
        refine Z_aload0 (pc := 37) ok dX12_layer_37 ?_
        refine g_X12_layered (pc := 38) (t := 138) ok dX12_layer_38 kw926 rfl rfl ?_
        refine Z_iload3 (pc := 41) ok dX12_layer_41 ?_
        refine Z_iald (pc := 42) (L := 30) ok dX12_layer_42 rfl rfl (by first | omega | (simp [sz, uz] <;> omega)) ?_
        rw [sz_eq]
        refine Z_iret (pc := 43) ok okr dX12_layer_43 ?_
        exact ⟨_, rfl, fr.rf.st rfl, rfl, Or.inr ⟨⟨h, by omega, by omega⟩, rfl⟩⟩
      · refine Z_iconst (pc := 29) ok dX12_layer_29 ?_
        refine Z_iret (pc := 30) ok okr dX12_layer_30 ?_
        exact ⟨_, rfl, fr.rf, rfl, Or.inl ⟨fun q => h4 (by have := q.2.2; omega), rfl⟩⟩
theorem m_layers {p w : Int} (hp : -2147483648 ≤ p ∧ p ≤ 2147483647) (hw : -2147483648 ≤ w ∧ w ≤ 2147483647) (h1 : gR (I 121 0) (I 122)) (hT : mT I) : K_X12_layers l G [zr G 121, zi p, zi w] I J (fun v I' J' => ∃ r, v = some (zi r) ∧ (fr [128, 130, 138] I I' ∧ J' = J ∧ ((¬ (isP p (I 121 0) ∧ 0 ≤ w ∧ w ≤ 1) ∧ r = -1) ∨ ((isP p (I 121 0) ∧ w = 1) ∧ r = fz (oddL (I 121 0) p (I 122)) (-5) 0 p) ∨ ((isP p (I 121 0) ∧ w = 0) ∧ r = zb (fz (oddL (I 121 0) p (I 122)) (-5) 0 p = -5))))) := by
  have hn := h1.1
  have hdg := dg_b hn
  refine Cz.of rfl (Nat.le_of_ble_eq_true rfl) [some (zr G 121), some (zi p), some (zi w), none, none, none, none, none] rfl (fun E ok okr hE => ?_)
  refine Z_aload0 (pc := 0) ok dX12_layers_0 ?_
  refine Z_iload1 (pc := 1) ok dX12_layers_1 ?_
  refine Z_callVId (pc := 2) ok dX12_layers_2 cw_X12_170 rfl rfl (by decide) (m_isPrime hp hn) rfl rfl (by first | decide | omega) (Nat.le_of_ble_eq_true rfl) ?_
  refine Z_if_eqB (pc := 5) (tgt := 18) ok dX12_layers_5 rfl (fun h => ?_) (fun h => ?_)
  · refine Z_iconst (pc := 18) ok dX12_layers_18 ?_
    refine Z_iret (pc := 19) ok okr dX12_layers_19 ?_
    exact ⟨_, rfl, fr.rf, rfl, Or.inl ⟨fun q => h q.1, rfl⟩⟩
  · have h2 : 2 ≤ p ∧ p ≤ 30 := by have := h.1; have := h.2.1; omega
    have hq1 : 2 * 2 ≤ p * p := Int.mul_le_mul h2.1 h2.1 (by omega) (by omega)
    have hq2 : p * p ≤ 30 * 30 := Int.mul_le_mul (by omega) (by omega) (by omega) (by omega)
    have hr9 : ∀ j x, -9 ≤ LY (I 121 0) p (I 122) j x ∧ LY (I 121 0) p (I 122) j x ≤ 9 := fun j x => by have := LY_9 (p := p) h1 j x; omega
    have hrd : ∀ j i, _ := fun j => rd_c hn (hr9 j)
    have M : ∀ s : Int, (s = 0 ∨ s = 1) → (s = 1 ↔ I 121 0 % (p * p) = 0) → (w = 0 ∨ w = 1) → Xz E G I J 37 [some (zr G 121), some (zi p), some (zi w), some (zi s), none, none, none, none] [] := by
      intro s s0 s1 hw2
      have z0 : ∀ f : Int → Int, sz I 138 f 121 0 = I 121 0 := fun f => by rw [sz_ne _ _ (by decide)]
      refine Z_bipush (pc := 37) ok dX12_layers_37 (by decide) ?_
      refine Z_istore4 (pc := 39) ok (by decide) dX12_layers_39 rfl ?_
      refine Z_aload0 (pc := 41) ok dX12_layers_41 ?_
      refine Z_iload1 (pc := 42) ok dX12_layers_42 ?_
      refine Z_iconst (pc := 43) ok dX12_layers_43 ?_
      refine Z_callVVd (pc := 44) ok dX12_layers_44 cw_X12_201 rfl rfl (by decide) (m_tellsLayer rfl h1 h (by omega)) rfl rfl (by first | decide | omega) (Nat.le_of_ble_eq_true rfl) ?_
      refine Z_aload0 (pc := 47) ok dX12_layers_47 ?_
      refine Z_aload0 (pc := 48) ok dX12_layers_48 ?_
      refine g_X12_layered (pc := 49) (t := 138) ok dX12_layers_49 kw926 rfl rfl ?_
      refine Z_callVVd (pc := 52) ok dX12_layers_52 cw_X12_121 rfl rfl (by decide) (m_divided rfl rfl (by decide) (by rw [sz_ne _ _ (by decide)]) hn (mT_c hT (sz_ne _ _ (by decide)) (sz_ne _ _ (by decide))) (fun e he => by rw [sz_eq]; exact LY_z he)) rfl rfl (by first | decide | omega) (Nat.le_of_ble_eq_true rfl) ?_
      refine Z_iconst (pc := 55) ok dX12_layers_55 ?_
      refine Z_istore5 (pc := 56) ok (by decide) dX12_layers_56 rfl ?_
      rw [sz_eq]
      refine Z_gen (fun T hTe => ?_)
      have t128 : T 128 = rd (I 121 0) (LY (I 121 0) p (I 122) 0) := by rw [hTe, sz_eq]
      have tf : fr [128, 130, 138] I T := by rw [hTe]; exact (fr.rf.st rfl).st rfl
      clear hTe
      have HS : ∀ e : Int, 0 ≤ e → e ≤ 30 → ∀ f : Int → Int, (∀ j, 0 ≤ j → j < e → f j = if s = 1 then 0 else rd (I 121 0) (LY (I 121 0) p (I 122) 0) j) → Xz E G (sz T 130 f) J 58 [some (zr G 121), some (zi p), some (zi w), some (zi s), some (zi (-5)), some (zi e), none, none] [] := by
        refine zUp ?_ ?_
        · intro f f1
          refine Z_iload5 (pc := 58) ok dX12_layers_58 ?_
          refine Z_bipush (pc := 60) ok dX12_layers_60 (by decide) ?_
          refine Z_icmp_ge (pc := 62) (tgt := 93) ok dX12_layers_62 rfl (by first | omega | (simp [sz, uz] <;> omega)) (by first | omega | (simp [sz, uz] <;> omega)) (fun _ => ?_) (fun h => by exfalso; omega)
          refine Z_iload1 (pc := 93) ok dX12_layers_93 ?_
          refine Z_iconst (pc := 94) ok dX12_layers_94 ?_
          refine Z_isub (pc := 95) ok dX12_layers_95 ?_
          refine Z_istore5 (pc := 96) ok (by decide) dX12_layers_96 rfl ?_
          have HM : ∀ j : Int, -1 ≤ j → j ≤ p - 1 → ∀ T : Mz, fr [128, 130, 138] I T → (∀ j, 0 ≤ j → j < 30 → T 130 j = if s = 1 then 0 else rd (I 121 0) (LY (I 121 0) p (I 122) 0) j) → ∀ w1 w2, Xz E G T J 98 [some (zr G 121), some (zi p), some (zi w), some (zi s), some (zi (fz (oddL (I 121 0) p (I 122)) (-5) (j + 1) p)), some (zi j), w1, w2] [] := by
            refine zDown ?_ ?_
            · intro _ T tf t130 w1 w2
              have hb := fz_b (P := oddL (I 121 0) p (I 122)) (i := 0) (N := p) (by omega) (by omega) (by omega)
              rw [show (-1 : Int) + 1 = 0 from rfl]
              refine Z_iload5 (pc := 98) ok dX12_layers_98 ?_
              refine Z_if_lt (pc := 100) (tgt := 191) ok dX12_layers_100 rfl (by first | omega | (simp [sz, uz] <;> omega)) (fun _ => ?_) (fun h => by exfalso; omega)
              refine Z_iload2 (pc := 191) ok dX12_layers_191 ?_
              refine Z_iconst (pc := 192) ok dX12_layers_192 ?_
              refine Z_icmp_ne (pc := 193) (tgt := 201) ok dX12_layers_193 rfl (by first | omega | (simp [sz, uz] <;> omega)) (by first | omega | (simp [sz, uz] <;> omega)) (fun h4 => ?_) (fun h4 => ?_)
              · refine Z_iload4 (pc := 201) ok dX12_layers_201 ?_
                refine Z_bipush (pc := 203) ok dX12_layers_203 (by decide) ?_
                refine Z_icmp_ne (pc := 205) (tgt := 212) ok dX12_layers_205 rfl (by first | omega | (simp [sz, uz] <;> omega)) (by first | omega | (simp [sz, uz] <;> omega)) (fun h5 => ?_) (fun h5 => ?_)
                · refine Z_iconst (pc := 212) ok dX12_layers_212 ?_
                  refine Z_iret (pc := 213) ok okr dX12_layers_213 ?_
                  exact ⟨_, rfl, tf, rfl, Or.inr (Or.inr ⟨⟨h, by omega⟩, by rw [zb_f h5]⟩)⟩
                · refine Z_iconst (pc := 208) ok dX12_layers_208 ?_
                  refine Z_goto (pc := 209) (tgt := 213) ok dX12_layers_209 rfl ?_
                  refine Z_iret (pc := 213) ok okr dX12_layers_213 ?_
                  exact ⟨_, rfl, tf, rfl, Or.inr (Or.inr ⟨⟨h, by omega⟩, by rw [zb_t h5]⟩)⟩
              · refine Z_iload4 (pc := 196) ok dX12_layers_196 ?_
                refine Z_goto (pc := 198) (tgt := 213) ok dX12_layers_198 rfl ?_
                refine Z_iret (pc := 213) ok okr dX12_layers_213 ?_
                exact ⟨_, rfl, tf, rfl, Or.inr (Or.inl ⟨⟨h, h4⟩, rfl⟩)⟩
            · intro j j0 ih j1 T tf t130 w1 w2
              have ih := ih (by omega)
              rw [show j - 1 + 1 = j by omega] at ih
              have e121 := congrFun (tf.at 121 rfl) 0
              have e122 := tf.at 122 rfl
              have e127 : T 127 (I 121 0) = DG (I 121 0) := by rw [tf.at 127 rfl]; exact hT.2 _ hn.1 hn.2
              refine Z_iload5 (pc := 98) ok dX12_layers_98 ?_
              refine Z_if_lt (pc := 100) (tgt := 191) ok dX12_layers_100 rfl (by first | omega | (simp [sz, uz] <;> omega)) (fun h => by exfalso; omega) (fun _ => ?_)
              refine Z_aload0 (pc := 103) ok dX12_layers_103 ?_
              refine Z_iload1 (pc := 104) ok dX12_layers_104 ?_
              refine Z_iload5 (pc := 105) ok dX12_layers_105 ?_
              refine Z_callVVd (pc := 107) ok dX12_layers_107 cw_X12_201 rfl rfl (by decide) (m_tellsLayer (n := I 121 0) e121 (by rw [e122]; exact h1) h (by omega)) rfl rfl (by first | decide | omega) (Nat.le_of_ble_eq_true rfl) ?_
              refine Z_aload0 (pc := 110) ok dX12_layers_110 ?_
              refine Z_aload0 (pc := 111) ok dX12_layers_111 ?_
              refine g_X12_layered (pc := 112) (t := 138) ok dX12_layers_112 kw926 rfl rfl ?_
              refine Z_callVVd (pc := 115) ok dX12_layers_115 cw_X12_121 rfl rfl (by decide) (m_divided (n := I 121 0) rfl rfl (by decide) (by rw [sz_ne _ _ (by decide)]; exact e121) hn (mT_c hT (by rw [sz_ne _ _ (by decide)]; exact tf.at 126 rfl) (by rw [sz_ne _ _ (by decide)]; exact tf.at 127 rfl)) (fun e he => by rw [sz_eq]; exact LY_z he)) rfl rfl (by first | decide | omega) (Nat.le_of_ble_eq_true rfl) ?_
              refine Z_iconst (pc := 118) ok dX12_layers_118 ?_
              refine Z_istore6 (pc := 119) ok (by decide) dX12_layers_119 rfl ?_
              refine Z_iconst (pc := 121) ok dX12_layers_121 ?_
              refine Z_istore7 (pc := 122) ok (by decide) dX12_layers_122 rfl ?_
              rw [sz_eq, e122]
              refine Z_gen (fun T2 hTe => ?_)
              have u128 : T2 128 = rd (I 121 0) (LY (I 121 0) p (I 122) j) := by rw [hTe, sz_eq]
              have u130 : T2 130 = T 130 := by rw [hTe]; simp [sz]
              have u121 : T2 121 0 = I 121 0 := by rw [hTe, ← e121]; simp [sz]
              have u127 : T2 127 (I 121 0) = DG (I 121 0) := by rw [hTe, ← e127]; simp [sz]
              have uf : fr [128, 130, 138] I T2 := by rw [hTe]; exact (tf.st rfl).st rfl
              clear hTe
              have HC : ∀ e : Int, 0 ≤ e → e ≤ DG (I 121 0) → ∀ b : Int, (b = 0 ∨ b = 1) → (b = 1 ↔ ∀ i, 0 ≤ i → i < e → rd (I 121 0) (LY (I 121 0) p (I 122) j) i = T 130 i) → Xz E G T2 J 124 [some (zr G 121), some (zi p), some (zi w), some (zi s), some (zi (fz (oddL (I 121 0) p (I 122)) (-5) (j + 1) p)), some (zi j), some (zi b), some (zi e)] [] := by
                refine zUp ?_ ?_
                · intro b b0 b1
                  have ho : b = 1 ↔ ¬ oddL (I 121 0) p (I 122) j := by
                    rw [b1]
                    constructor
                    · intro q q2
                      refine q2 ⟨fun a i i0 i1 => ?_, fun a i i0 i1 => ?_⟩
                      · rw [q i i0 i1, t130 i i0 (by omega), if_pos (s1.mpr a)]
                      · rw [q i i0 i1, t130 i i0 (by omega), if_neg (fun x => a (s1.mp x))]
                    · intro q i i0 i1
                      have q := Classical.not_not.mp q
                      rw [t130 i i0 (by omega)]
                      by_cases a : s = 1
                      · rw [if_pos a]; exact q.1 (s1.mp a) i i0 i1
                      · rw [if_neg a]; exact q.2 (fun x => a (s1.mpr x)) i i0 i1
                  have hb := fz_b (P := oddL (I 121 0) p (I 122)) (i := j + 1) (N := p) (by omega) (by omega) (by omega)
                  refine Z_iload7 (pc := 124) ok dX12_layers_124 ?_
                  refine Z_aload0 (pc := 126) ok dX12_layers_126 ?_
                  refine g_X12_degrees (pc := 127) (t := 127) ok dX12_layers_127 kw912 rfl rfl ?_
                  refine Z_aload0 (pc := 130) ok dX12_layers_130 ?_
                  refine g_X12_n (pc := 131) ok dX12_layers_131 kw905 rfl ?_
                  rw [u121]
                  refine Z_iald (pc := 134) (L := 31) ok dX12_layers_134 rfl rfl (by first | omega | (simp [sz, uz] <;> omega)) ?_
                  rw [u127]
                  refine Z_icmp_ge (pc := 135) (tgt := 171) ok dX12_layers_135 rfl (by first | omega | (simp [sz, uz] <;> omega)) (by first | omega | (simp [sz, uz] <;> omega)) (fun _ => ?_) (fun h => by exfalso; omega)
                  refine Z_iload6 (pc := 171) ok dX12_layers_171 ?_
                  refine Z_if_eq (pc := 173) (tgt := 181) ok dX12_layers_173 rfl (by first | omega | (simp [sz, uz] <;> omega)) (fun h6 => ?_) (fun h6 => ?_)
                  · have h7 : oddL (I 121 0) p (I 122) j := Classical.byContradiction (fun q => by have := ho.mpr q; omega)
                    rw [fz_hit (by omega) h7] at ih
                    refine Z_iload5 (pc := 181) ok dX12_layers_181 ?_
                    refine Z_istore4 (pc := 183) ok (by decide) dX12_layers_183 rfl ?_
                    refine Z_iinc5 (pc := 185) ok (by decide) dX12_layers_185 rfl ?_
                    refine Z_goto (pc := 188) (tgt := 98) ok dX12_layers_188 rfl ?_
                    exact ih T2 uf (by rw [u130]; exact t130) _ _
                  · rw [fz_miss (by omega) (ho.mp (by omega))] at ih
                    refine Z_iload4 (pc := 176) ok dX12_layers_176 ?_
                    refine Z_goto (pc := 178) (tgt := 183) ok dX12_layers_178 rfl ?_
                    refine Z_istore4 (pc := 183) ok (by decide) dX12_layers_183 rfl ?_
                    refine Z_iinc5 (pc := 185) ok (by decide) dX12_layers_185 rfl ?_
                    refine Z_goto (pc := 188) (tgt := 98) ok dX12_layers_188 rfl ?_
                    exact ih T2 uf (by rw [u130]; exact t130) _ _
                · intro e e0 e1 ih2 b b0 b1
                  have v1 := hrd j e
                  have v2 : -40000000 ≤ T 130 e ∧ T 130 e ≤ 40000000 := by
                    rw [t130 e e0 (by omega)]
                    have := hrd 0 e
                    split <;> omega
                  refine Z_iload7 (pc := 124) ok dX12_layers_124 ?_
                  refine Z_aload0 (pc := 126) ok dX12_layers_126 ?_
                  refine g_X12_degrees (pc := 127) (t := 127) ok dX12_layers_127 kw912 rfl rfl ?_
                  refine Z_aload0 (pc := 130) ok dX12_layers_130 ?_
                  refine g_X12_n (pc := 131) ok dX12_layers_131 kw905 rfl ?_
                  rw [u121]
                  refine Z_iald (pc := 134) (L := 31) ok dX12_layers_134 rfl rfl (by first | omega | (simp [sz, uz] <;> omega)) ?_
                  rw [u127]
                  refine Z_icmp_ge (pc := 135) (tgt := 171) ok dX12_layers_135 rfl (by first | omega | (simp [sz, uz] <;> omega)) (by first | omega | (simp [sz, uz] <;> omega)) (fun h => by exfalso; omega) (fun _ => ?_)
                  refine Z_iload6 (pc := 138) ok dX12_layers_138 ?_
                  refine Z_aload0 (pc := 140) ok dX12_layers_140 ?_
                  refine g_X12_left (pc := 141) (t := 128) ok dX12_layers_141 kw913 rfl rfl ?_
                  refine Z_iload7 (pc := 144) ok dX12_layers_144 ?_
                  refine Z_iald (pc := 146) (L := 62) ok dX12_layers_146 rfl rfl (by first | omega | (simp [sz, uz] <;> omega)) ?_
                  refine Z_aload0 (pc := 147) ok dX12_layers_147 ?_
                  refine g_X12_sums (pc := 148) (t := 130) ok dX12_layers_148 kw915 rfl rfl ?_
                  refine Z_iload7 (pc := 151) ok dX12_layers_151 ?_
                  refine Z_iald (pc := 153) (L := 30) ok dX12_layers_153 rfl rfl (by first | omega | (simp [sz, uz] <;> omega)) ?_
                  rw [u128, u130]
                  refine Z_icmp_ne (pc := 154) (tgt := 161) ok dX12_layers_154 rfl (by first | omega | (simp [sz, uz] <;> omega)) (by first | omega | (simp [sz, uz] <;> omega)) (fun h6 => ?_) (fun h6 => ?_)
                  · refine Z_iconst (pc := 161) ok dX12_layers_161 ?_
                    refine Z_iand0 (pc := 162) ok dX12_layers_162 b0 ?_
                    refine Z_istore6 (pc := 163) ok (by decide) dX12_layers_163 rfl ?_
                    refine Z_iinc7 (pc := 165) ok (by decide) dX12_layers_165 rfl ?_
                    refine Z_goto (pc := 168) (tgt := 124) ok dX12_layers_168 rfl ?_
                    exact ih2 0 (Or.inl rfl) (by rw [upI e0]; exact ⟨fun q => by omega, fun q => absurd q.2 h6⟩)
                  · refine Z_iconst (pc := 157) ok dX12_layers_157 ?_
                    refine Z_goto (pc := 158) (tgt := 162) ok dX12_layers_158 rfl ?_
                    refine Z_iand1 (pc := 162) ok dX12_layers_162 b0 ?_
                    refine Z_istore6 (pc := 163) ok (by decide) dX12_layers_163 rfl ?_
                    refine Z_iinc7 (pc := 165) ok (by decide) dX12_layers_165 rfl ?_
                    refine Z_goto (pc := 168) (tgt := 124) ok dX12_layers_168 rfl ?_
                    exact ih2 b b0 (by rw [upI e0, b1]; exact ⟨fun q => ⟨q, h6⟩, fun q => q.1⟩)
              exact HC 0 (by omega) (by omega) 1 (Or.inr rfl) ⟨fun _ j j0 j1 => by omega, fun _ => rfl⟩
          have h0 := HM (p - 1) (by omega) (by omega) (sz T 130 f) (tf.st rfl) (fun j a b => by rw [sz_eq]; exact f1 j a b) none none
          rw [show p - 1 + 1 = p by omega, fz_end _ _ (Int.le_refl _)] at h0
          exact h0
        · intro e e0 e1 ih f f1
          have z128 : sz T 130 f 128 = T 128 := sz_ne _ _ (by decide)
          refine Z_iload5 (pc := 58) ok dX12_layers_58 ?_
          refine Z_bipush (pc := 60) ok dX12_layers_60 (by decide) ?_
          refine Z_icmp_ge (pc := 62) (tgt := 93) ok dX12_layers_62 rfl (by first | omega | (simp [sz, uz] <;> omega)) (by first | omega | (simp [sz, uz] <;> omega)) (fun h => by exfalso; omega) (fun _ => ?_)
          refine Z_aload0 (pc := 65) ok dX12_layers_65 ?_
          refine g_X12_sums (pc := 66) (t := 130) ok dX12_layers_66 kw915 rfl rfl ?_
          refine Z_iload5 (pc := 69) ok dX12_layers_69 ?_
          refine Z_iload3 (pc := 71) ok dX12_layers_71 ?_
          refine Z_if_eq (pc := 72) (tgt := 79) ok dX12_layers_72 rfl (by first | omega | (simp [sz, uz] <;> omega)) (fun h5 => ?_) (fun h5 => ?_)
          · refine Z_aload0 (pc := 79) ok dX12_layers_79 ?_
            refine g_X12_left (pc := 80) (t := 128) ok dX12_layers_80 kw913 rfl rfl ?_
            refine Z_iload5 (pc := 83) ok dX12_layers_83 ?_
            refine Z_iald (pc := 85) (L := 62) ok dX12_layers_85 rfl rfl (by first | omega | (simp [sz, uz] <;> omega)) ?_
            refine Z_iast (pc := 86) (L := 30) ok dX12_layers_86 rfl rfl (by first | omega | (simp [sz, uz] <;> omega)) ?_
            refine Z_iinc5 (pc := 87) ok (by decide) dX12_layers_87 rfl ?_
            refine Z_goto (pc := 90) (tgt := 58) ok dX12_layers_90 rfl ?_
            rw [sz_sz, sz_eq, z128, t128]
            exact ih _ (upto_s (p := fun j x => x = if s = 1 then 0 else rd (I 121 0) (LY (I 121 0) p (I 122) 0) j) f1 (by rw [if_neg (by omega)]))
          · refine Z_iconst (pc := 75) ok dX12_layers_75 ?_
            refine Z_goto (pc := 76) (tgt := 86) ok dX12_layers_76 rfl ?_
            refine Z_iast (pc := 86) (L := 30) ok dX12_layers_86 rfl rfl (by first | omega | (simp [sz, uz] <;> omega)) ?_
            refine Z_iinc5 (pc := 87) ok (by decide) dX12_layers_87 rfl ?_
            refine Z_goto (pc := 90) (tgt := 58) ok dX12_layers_90 rfl ?_
            rw [sz_sz, sz_eq]
            exact ih _ (upto_s (p := fun j x => x = if s = 1 then 0 else rd (I 121 0) (LY (I 121 0) p (I 122) 0) j) f1 (by rw [if_pos (by omega)]))
      have h0 := HS 0 (by omega) (by omega) (T 130) (fun j j0 j1 => by omega)
      rw [sz_self] at h0
      exact h0
    refine Z_iload2 (pc := 8) ok dX12_layers_8 ?_
    refine Z_i2l (pc := 9) ok dX12_layers_9 (by first | omega | (simp [sz, uz] <;> omega)) ?_
    refine Z_lconst (pc := 10) (z := 0) ok dX12_layers_10 (by decide) ?_
    refine Z_lconst (pc := 11) (z := 1) ok dX12_layers_11 (by decide) ?_
    refine Z_callSId (pc := 12) ok dX12_layers_12 cw_X12_97 (m_in (by omega) (by omega) (by omega)) rfl rfl (by first | decide | omega) (Nat.le_of_ble_eq_true rfl) ?_
    refine Z_if_neB (pc := 15) (tgt := 20) ok dX12_layers_15 rfl (fun h3 => ?_) (fun h3 => ?_)
    · refine Z_aload0 (pc := 20) ok dX12_layers_20 ?_
      refine g_X12_n (pc := 21) ok dX12_layers_21 kw905 rfl ?_
      refine Z_iload1 (pc := 24) ok dX12_layers_24 ?_
      refine Z_iload1 (pc := 25) ok dX12_layers_25 ?_
      refine Z_imul (pc := 26) ok dX12_layers_26 ?_
      refine Z_irem (pc := 27) ok dX12_layers_27 (by omega) (by omega) (by omega) (by omega) ?_
      refine Z_if_ne (pc := 28) (tgt := 35) ok dX12_layers_28 rfl (em_r (by omega) (by omega)) (fun h4 => ?_) (fun h4 => ?_)
      · refine Z_iconst (pc := 35) ok dX12_layers_35 ?_
        refine Z_istore3 (pc := 36) ok (by decide) dX12_layers_36 rfl ?_
        exact M 0 (Or.inl rfl) ⟨fun q => by omega, fun q => absurd q h4⟩ (by omega)
      · refine Z_iconst (pc := 31) ok dX12_layers_31 ?_
        refine Z_goto (pc := 32) (tgt := 36) ok dX12_layers_32 rfl ?_
        refine Z_istore3 (pc := 36) ok (by decide) dX12_layers_36 rfl ?_
        exact M 1 (Or.inr rfl) ⟨fun _ => h4, fun _ => rfl⟩ (by omega)
    · refine Z_iconst (pc := 18) ok dX12_layers_18 ?_
      refine Z_iret (pc := 19) ok okr dX12_layers_19 ?_
      exact ⟨_, rfl, fr.rf, rfl, Or.inl ⟨fun q => by omega, rfl⟩⟩
theorem m_tellsWays (hn : 2 ≤ I 121 0 ∧ I 121 0 ≤ 30) : K_X12_tellsWays l G [zr G 121] I J (pR none (sz I 139 (WY (I 121 0))) J) := by
  have e0 : ∀ f : Int → Int, sz I 139 f 121 0 = I 121 0 := fun f => by rw [sz_ne _ _ (by decide)]
  refine Cz.of rfl (Nat.le_of_ble_eq_true rfl) [some (zr G 121), none, none] rfl (fun E ok okr hE => ?_)
  refine Z_iconst (pc := 0) ok dX12_tellsWays_0 ?_
  refine Z_istore1 (pc := 1) ok (by decide) dX12_tellsWays_1 rfl ?_
  have H1 : ∀ e : Int, 0 ≤ e → e ≤ 201 → ∀ f : Int → Int, (∀ j, 0 ≤ j → j < e → f j = uz (fun _ => 0) 0 1 j) → Xz E G (sz I 139 f) J 2 [some (zr G 121), some (zi e), none] [] := by
    refine zUp ?_ ?_
    · intro f hf
      refine Z_ext1 (g := uz (fun _ => 0) 0 1) (by decide) (fun j h0 h1 => hf j h0 (by have : j < 201 := h1; omega)) ?_
      refine Z_iload1 (pc := 2) ok dX12_tellsWays_2 ?_
      refine Z_sipush (pc := 3) ok dX12_tellsWays_3 (by decide) ?_
      refine Z_icmp_gt (pc := 6) (tgt := 30) ok dX12_tellsWays_6 rfl (by first | omega | (simp [sz, uz] <;> omega)) (by first | omega | (simp [sz, uz] <;> omega)) (fun _ => ?_) (fun h => by exfalso; omega)
      refine Z_iconst (pc := 30) ok dX12_tellsWays_30 ?_
      refine Z_istore1 (pc := 31) ok (by decide) dX12_tellsWays_31 rfl ?_
      have H : ∀ p : Int, 2 ≤ p → p ≤ I 121 0 + 1 → ∀ w, Xz E G (sz I 139 (wyN (I 121 0) (p - 2).toNat)) J 32 [some (zr G 121), some (zi p), w] [] := by
        refine zUp ?_ ?_
        · intro w
          have q0 := e0 (wyN (I 121 0) (I 121 0 + 1 - 2).toNat)
          refine Z_iload1 (pc := 32) ok dX12_tellsWays_32 ?_
          refine Z_aload0 (pc := 33) ok dX12_tellsWays_33 ?_
          refine g_X12_n (pc := 34) ok dX12_tellsWays_34 kw905 rfl ?_
          refine Z_icmp_gt (pc := 37) (tgt := 86) ok dX12_tellsWays_37 rfl (by first | omega | (simp [sz, uz] <;> omega)) (by first | omega | (simp [sz, uz] <;> omega)) (fun _ => ?_) (fun h => by exfalso; omega)
          refine Z_vret (pc := 86) ok okr dX12_tellsWays_86 ?_
          refine ⟨rfl, ?_, rfl⟩
          rw [show I 121 0 + 1 - 2 = I 121 0 - 1 by omega]; rfl
        · intro p p0 p1 ih w
          have q0 := e0 (wyN (I 121 0) (p - 2).toNat)
          rw [show (p + 1 - 2).toNat = (p - 2).toNat + 1 by omega, wyN, show (2 : Int) + (((p - 2).toNat : Nat) : Int) = p by omega] at ih
          by_cases hP : isP p (I 121 0)
          · rw [if_pos hP] at ih
            generalize wyN (I 121 0) (p - 2).toNat = f at *
            refine Z_iload1 (pc := 32) ok dX12_tellsWays_32 ?_
            refine Z_aload0 (pc := 33) ok dX12_tellsWays_33 ?_
            refine g_X12_n (pc := 34) ok dX12_tellsWays_34 kw905 rfl ?_
            refine Z_icmp_gt (pc := 37) (tgt := 86) ok dX12_tellsWays_37 rfl (by first | omega | (simp [sz, uz] <;> omega)) (by first | omega | (simp [sz, uz] <;> omega)) (fun h => by exfalso; omega) (fun _ => ?_)
            refine Z_iload1 (pc := 40) ok dX12_tellsWays_40 ?_
            refine Z_istore2 (pc := 41) ok (by decide) dX12_tellsWays_41 rfl ?_
            have H2 : ∀ x : Int, p ≤ x → x ≤ 201 → Xz E G (sz I 139 (wpN p f (x - p).toNat)) J 42 [some (zr G 121), some (zi p), some (zi x)] [] := by
              refine zUp ?_ ?_
              · refine Z_iload2 (pc := 42) ok dX12_tellsWays_42 ?_
                refine Z_sipush (pc := 43) ok dX12_tellsWays_43 (by decide) ?_
                refine Z_icmp_gt (pc := 46) (tgt := 80) ok dX12_tellsWays_46 rfl (by first | omega | (simp [sz, uz] <;> omega)) (by first | omega | (simp [sz, uz] <;> omega)) (fun _ => ?_) (fun h => by exfalso; omega)
                refine Z_iinc1 (pc := 80) ok (by decide) dX12_tellsWays_80 rfl ?_
                refine Z_goto (pc := 83) (tgt := 32) ok dX12_tellsWays_83 rfl ?_
                exact ih _
              · intro x x0 x1 ih2
                have q0 := e0 (wpN p f (x - p).toNat)
                rw [show (x + 1 - p).toNat = (x - p).toNat + 1 by omega, wpN, show p + (((x - p).toNat : Nat) : Int) = x by omega, show (((x - p).toNat : Nat) : Int) = x - p by omega] at ih2
                refine Z_iload2 (pc := 42) ok dX12_tellsWays_42 ?_
                refine Z_sipush (pc := 43) ok dX12_tellsWays_43 (by decide) ?_
                refine Z_icmp_gt (pc := 46) (tgt := 80) ok dX12_tellsWays_46 rfl (by first | omega | (simp [sz, uz] <;> omega)) (by first | omega | (simp [sz, uz] <;> omega)) (fun h => by exfalso; omega) (fun _ => ?_)
                refine Z_aload0 (pc := 49) ok dX12_tellsWays_49 ?_
                refine Z_iload1 (pc := 50) ok dX12_tellsWays_50 ?_
                refine Z_callVId (pc := 51) ok dX12_tellsWays_51 cw_X12_170 rfl rfl (by decide) (m_isPrime (by omega) (by rw [q0]; exact hn)) rfl rfl (by first | decide | omega) (Nat.le_of_ble_eq_true rfl) ?_
                refine Z_if_eqB (pc := 54) (tgt := 80) ok dX12_tellsWays_54 rfl (fun h => absurd h (fun q => q (by rw [q0]; exact hP))) (fun h => ?_)
                refine Z_aload0 (pc := 57) ok dX12_tellsWays_57 ?_
                refine g_X12_waysOf (pc := 58) (t := 139) ok dX12_tellsWays_58 kw927 rfl rfl ?_
                refine Z_iload2 (pc := 61) ok dX12_tellsWays_61 ?_
                refine Z_dup2 (pc := 62) ok dX12_tellsWays_62 rfl rfl ?_
                refine Z_iald (pc := 63) (L := 201) ok dX12_tellsWays_63 rfl rfl (by first | omega | (simp [sz, uz] <;> omega)) ?_
                refine Z_aload0 (pc := 64) ok dX12_tellsWays_64 ?_
                refine g_X12_waysOf (pc := 65) (t := 139) ok dX12_tellsWays_65 kw927 rfl rfl ?_
                refine Z_iload2 (pc := 68) ok dX12_tellsWays_68 ?_
                refine Z_iload1 (pc := 69) ok dX12_tellsWays_69 ?_
                refine Z_isub (pc := 70) ok dX12_tellsWays_70 ?_
                refine Z_iald (pc := 71) (L := 201) ok dX12_tellsWays_71 rfl rfl (by first | omega | (simp [sz, uz] <;> omega)) ?_
                refine Z_iadd (pc := 72) ok dX12_tellsWays_72 ?_
                refine Z_iast (pc := 73) (L := 201) ok dX12_tellsWays_73 rfl rfl (by first | omega | (simp [sz, uz] <;> omega)) ?_
                refine Z_iinc2 (pc := 74) ok (by decide) dX12_tellsWays_74 rfl ?_
                refine Z_goto (pc := 77) (tgt := 42) ok dX12_tellsWays_77 rfl ?_
                rw [sz_sz, sz_eq]
                exact ih2
            have h0 := H2 p (by omega) (by omega)
            rw [Int.sub_self] at h0
            exact h0
          · rw [if_neg hP] at ih
            refine Z_iload1 (pc := 32) ok dX12_tellsWays_32 ?_
            refine Z_aload0 (pc := 33) ok dX12_tellsWays_33 ?_
            refine g_X12_n (pc := 34) ok dX12_tellsWays_34 kw905 rfl ?_
            refine Z_icmp_gt (pc := 37) (tgt := 86) ok dX12_tellsWays_37 rfl (by first | omega | (simp [sz, uz] <;> omega)) (by first | omega | (simp [sz, uz] <;> omega)) (fun h => by exfalso; omega) (fun _ => ?_)
            refine Z_iload1 (pc := 40) ok dX12_tellsWays_40 ?_
            refine Z_istore2 (pc := 41) ok (by decide) dX12_tellsWays_41 rfl ?_
            refine Z_iload2 (pc := 42) ok dX12_tellsWays_42 ?_
            refine Z_sipush (pc := 43) ok dX12_tellsWays_43 (by decide) ?_
            refine Z_icmp_gt (pc := 46) (tgt := 80) ok dX12_tellsWays_46 rfl (by first | omega | (simp [sz, uz] <;> omega)) (by first | omega | (simp [sz, uz] <;> omega)) (fun h => by exfalso; omega) (fun _ => ?_)
            refine Z_aload0 (pc := 49) ok dX12_tellsWays_49 ?_
            refine Z_iload1 (pc := 50) ok dX12_tellsWays_50 ?_
            refine Z_callVId (pc := 51) ok dX12_tellsWays_51 cw_X12_170 rfl rfl (by decide) (m_isPrime (by omega) (by rw [q0]; exact hn)) rfl rfl (by first | decide | omega) (Nat.le_of_ble_eq_true rfl) ?_
            refine Z_if_eqB (pc := 54) (tgt := 80) ok dX12_tellsWays_54 rfl (fun h => ?_) (fun h => absurd h (fun q => hP (by rw [← q0]; exact q)))
            refine Z_iinc1 (pc := 80) ok (by decide) dX12_tellsWays_80 rfl ?_
            refine Z_goto (pc := 83) (tgt := 32) ok dX12_tellsWays_83 rfl ?_
            exact ih _
      exact H 2 (by omega) (by omega) none
    · intro e e0 e1 ih f hf
      refine Z_iload1 (pc := 2) ok dX12_tellsWays_2 ?_
      refine Z_sipush (pc := 3) ok dX12_tellsWays_3 (by decide) ?_
      refine Z_icmp_gt (pc := 6) (tgt := 30) ok dX12_tellsWays_6 rfl (by first | omega | (simp [sz, uz] <;> omega)) (by first | omega | (simp [sz, uz] <;> omega)) (fun h => by exfalso; omega) (fun _ => ?_)
      refine Z_aload0 (pc := 9) ok dX12_tellsWays_9 ?_
      refine g_X12_waysOf (pc := 10) (t := 139) ok dX12_tellsWays_10 kw927 rfl rfl ?_
      refine Z_iload1 (pc := 13) ok dX12_tellsWays_13 ?_
      refine Z_iload1 (pc := 14) ok dX12_tellsWays_14 ?_
      refine Z_if_ne (pc := 15) (tgt := 22) ok dX12_tellsWays_15 rfl (by first | omega | (simp [sz, uz] <;> omega)) (fun h => ?_) (fun h => ?_)
      · refine Z_iconst (pc := 22) ok dX12_tellsWays_22 ?_
        refine Z_iast (pc := 23) (L := 201) ok dX12_tellsWays_23 rfl rfl (by first | omega | (simp [sz, uz] <;> omega)) ?_
        refine Z_iinc1 (pc := 24) ok (by decide) dX12_tellsWays_24 rfl ?_
        refine Z_goto (pc := 27) (tgt := 2) ok dX12_tellsWays_27 rfl ?_
        rw [sz_sz, sz_eq]
        exact ih _ (upto_s (p := fun j x => x = uz (fun _ => 0) 0 1 j) hf (by rw [uz_ne _ _ h]))
      · refine Z_iconst (pc := 18) ok dX12_tellsWays_18 ?_
        refine Z_goto (pc := 19) (tgt := 23) ok dX12_tellsWays_19 rfl ?_
        refine Z_iast (pc := 23) (L := 201) ok dX12_tellsWays_23 rfl rfl (by first | omega | (simp [sz, uz] <;> omega)) ?_
        refine Z_iinc1 (pc := 24) ok (by decide) dX12_tellsWays_24 rfl ?_
        refine Z_goto (pc := 27) (tgt := 2) ok dX12_tellsWays_27 rfl ?_
        rw [sz_sz, sz_eq]
        exact ih _ (upto_s (p := fun j x => x = uz (fun _ => 0) 0 1 j) hf (by rw [h, uz_eq]))
  have h0 := H1 0 (by omega) (by omega) (I 139) (fun j j0 j1 => by omega)
  rw [sz_self] at h0
  exact h0
theorem m_possible {w : Int} (hw : -2147483648 ≤ w ∧ w ≤ 2147483647) (hn : 2 ≤ I 121 0 ∧ I 121 0 ≤ 30) : K_X12_possible l G [zr G 121, zi w] I J (fun v I' J' => ∃ r, v = some (zi r) ∧ (fr [139] I I' ∧ J' = J ∧ ((¬ (0 ≤ w ∧ w ≤ 200) ∧ r = -2) ∨ ((0 ≤ w ∧ w ≤ 200) ∧ r = zb (0 < tw (WY (I 121 0) w)))))) := by
  refine Cz.of rfl (Nat.le_of_ble_eq_true rfl) [some (zr G 121), some (zi w)] rfl (fun E ok okr hE => ?_)
  refine Z_iload1 (pc := 0) ok dX12_possible_0 ?_
  refine Z_i2l (pc := 1) ok dX12_possible_1 (by first | omega | (simp [sz, uz] <;> omega)) ?_
  refine Z_lconst (pc := 2) (z := 0) ok dX12_possible_2 (by decide) ?_
  refine Z_ldc2 (pc := 3) (z := 200) ok dX12_possible_3 kw1217 (by decide) ?_
  refine Z_callSId (pc := 6) ok dX12_possible_6 cw_X12_97 (m_in (by omega) (by omega) (by omega)) rfl rfl (by first | decide | omega) (Nat.le_of_ble_eq_true rfl) ?_
  refine Z_if_neB (pc := 9) (tgt := 15) ok dX12_possible_9 rfl (fun h => ?_) (fun h => ?_)
  · refine Z_aload0 (pc := 15) ok dX12_possible_15 ?_
    refine Z_callVVd (pc := 16) ok dX12_possible_16 cw_X12_206 rfl rfl (by decide) (m_tellsWays hn) rfl rfl (by first | decide | omega) (Nat.le_of_ble_eq_true rfl) ?_
    refine Z_aload0 (pc := 19) ok dX12_possible_19 ?_
    refine g_X12_waysOf (pc := 20) (t := 139) ok dX12_possible_20 kw927 rfl rfl ?_
    refine Z_iload1 (pc := 23) ok dX12_possible_23 ?_
    refine Z_iald (pc := 24) (L := 201) ok dX12_possible_24 rfl rfl (by first | omega | (simp [sz, uz] <;> omega)) ?_
    rw [sz_eq, zi_tw (WY (I 121 0) w)]
    have := tw_r (WY (I 121 0) w)
    refine Z_if_le (pc := 25) (tgt := 32) ok dX12_possible_25 rfl (by first | omega | (simp [sz, uz] <;> omega)) (fun h3 => ?_) (fun h3 => ?_)
    · refine Z_iconst (pc := 32) ok dX12_possible_32 ?_
      refine Z_iret (pc := 33) ok okr dX12_possible_33 ?_
      exact ⟨_, rfl, fr.rf.st rfl, rfl, Or.inr ⟨h, by rw [zb_f (by omega)]⟩⟩
    · refine Z_iconst (pc := 28) ok dX12_possible_28 ?_
      refine Z_goto (pc := 29) (tgt := 33) ok dX12_possible_29 rfl ?_
      refine Z_iret (pc := 33) ok okr dX12_possible_33 ?_
      exact ⟨_, rfl, fr.rf.st rfl, rfl, Or.inr ⟨h, by rw [zb_t h3]⟩⟩
  · refine Z_bipush (pc := 12) ok dX12_possible_12 (by decide) ?_
    refine Z_iret (pc := 14) ok okr dX12_possible_14 ?_
    exact ⟨_, rfl, fr.rf, rfl, Or.inl ⟨h, rfl⟩⟩
theorem m_ways {w : Int} (hw : -2147483648 ≤ w ∧ w ≤ 2147483647) (hn : 2 ≤ I 121 0 ∧ I 121 0 ≤ 30) : K_X12_ways l G [zr G 121, zi w] I J (fun v I' J' => ∃ r, v = some (zi r) ∧ (fr [139] I I' ∧ J' = J ∧ ((¬ (0 ≤ w ∧ w ≤ 200) ∧ r = -2) ∨ ((0 ≤ w ∧ w ≤ 200) ∧ r = tw (WY (I 121 0) w))))) := by
  refine Cz.of rfl (Nat.le_of_ble_eq_true rfl) [some (zr G 121), some (zi w)] rfl (fun E ok okr hE => ?_)
  refine Z_iload1 (pc := 0) ok dX12_ways_0 ?_
  refine Z_i2l (pc := 1) ok dX12_ways_1 (by first | omega | (simp [sz, uz] <;> omega)) ?_
  refine Z_lconst (pc := 2) (z := 0) ok dX12_ways_2 (by decide) ?_
  refine Z_ldc2 (pc := 3) (z := 200) ok dX12_ways_3 kw1217 (by decide) ?_
  refine Z_callSId (pc := 6) ok dX12_ways_6 cw_X12_97 (m_in (by omega) (by omega) (by omega)) rfl rfl (by first | decide | omega) (Nat.le_of_ble_eq_true rfl) ?_
  refine Z_if_neB (pc := 9) (tgt := 15) ok dX12_ways_9 rfl (fun h => ?_) (fun h => ?_)
  · refine Z_aload0 (pc := 15) ok dX12_ways_15 ?_
    refine Z_callVVd (pc := 16) ok dX12_ways_16 cw_X12_206 rfl rfl (by decide) (m_tellsWays hn) rfl rfl (by first | decide | omega) (Nat.le_of_ble_eq_true rfl) ?_
    refine Z_aload0 (pc := 19) ok dX12_ways_19 ?_
    refine g_X12_waysOf (pc := 20) (t := 139) ok dX12_ways_20 kw927 rfl rfl ?_
    refine Z_iload1 (pc := 23) ok dX12_ways_23 ?_
    refine Z_iald (pc := 24) (L := 201) ok dX12_ways_24 rfl rfl (by first | omega | (simp [sz, uz] <;> omega)) ?_
    rw [sz_eq, zi_tw (WY (I 121 0) w)]
    refine Z_iret (pc := 25) ok okr dX12_ways_25 ?_
    exact ⟨_, rfl, fr.rf.st rfl, rfl, Or.inr ⟨h, rfl⟩⟩
  · refine Z_bipush (pc := 12) ok dX12_ways_12 (by decide) ?_
    refine Z_iret (pc := 14) ok okr dX12_ways_14 ?_
    exact ⟨_, rfl, fr.rf, rfl, Or.inl ⟨h, rfl⟩⟩
theorem m_hole {k : Int} (hk : -2147483648 ≤ k ∧ k ≤ 2147483647) (hn : 2 ≤ I 121 0 ∧ I 121 0 ≤ 30) : K_X12_hole l G [zr G 121, zi k] I J (fun v I' J' => ∃ r, v = some (zi r) ∧ (fr [139] I I' ∧ J' = J ∧ ((k < 0 ∧ r = -1) ∨ (0 ≤ k ∧ r = fz (fun w => tw (WY (I 121 0) w) = 0 ∧ su (fun q => zb (1 ≤ q ∧ tw (WY (I 121 0) q) = 0)) w = k) (-5) 1 201)))) := by
  refine Cz.of rfl (Nat.le_of_ble_eq_true rfl) [some (zr G 121), some (zi k), none, none] rfl (fun E ok okr hE => ?_)
  refine Z_iload1 (pc := 0) ok dX12_hole_0 ?_
  refine Z_if_ge (pc := 1) (tgt := 6) ok dX12_hole_1 rfl (by first | omega | (simp [sz, uz] <;> omega)) (fun h => ?_) (fun h => ?_)
  · refine Z_aload0 (pc := 6) ok dX12_hole_6 ?_
    refine Z_callVVd (pc := 7) ok dX12_hole_7 cw_X12_206 rfl rfl (by decide) (m_tellsWays hn) rfl rfl (by first | decide | omega) (Nat.le_of_ble_eq_true rfl) ?_
    refine Z_iconst (pc := 10) ok dX12_hole_10 ?_
    refine Z_istore2 (pc := 11) ok (by decide) dX12_hole_11 rfl ?_
    refine Z_iconst (pc := 12) ok dX12_hole_12 ?_
    refine Z_istore3 (pc := 13) ok (by decide) dX12_hole_13 rfl ?_
    have H : ∀ w : Int, 1 ≤ w → w ≤ 201 → fz (fun w => tw (WY (I 121 0) w) = 0 ∧ su (fun q => zb (1 ≤ q ∧ tw (WY (I 121 0) q) = 0)) w = k) (-5) w 201 = fz (fun w => tw (WY (I 121 0) w) = 0 ∧ su (fun q => zb (1 ≤ q ∧ tw (WY (I 121 0) q) = 0)) w = k) (-5) 1 201 → Xz E G (sz I 139 (WY (I 121 0))) J 14 [some (zr G 121), some (zi k), some (zi (su (fun q => zb (1 ≤ q ∧ tw (WY (I 121 0) q) = 0)) w)), some (zi w)] [] := by
      refine zUp ?_ ?_
      · intro hf
        refine Z_iload3 (pc := 14) ok dX12_hole_14 ?_
        refine Z_sipush (pc := 15) ok dX12_hole_15 (by decide) ?_
        refine Z_icmp_gt (pc := 18) (tgt := 46) ok dX12_hole_18 rfl (by first | omega | (simp [sz, uz] <;> omega)) (by first | omega | (simp [sz, uz] <;> omega)) (fun _ => ?_) (fun h => by exfalso; omega)
        refine Z_bipush (pc := 46) ok dX12_hole_46 (by decide) ?_
        refine Z_iret (pc := 48) ok okr dX12_hole_48 ?_
        exact ⟨_, rfl, fr.rf.st rfl, rfl, Or.inr ⟨h, by rw [← hf, fz_end _ _ (Int.le_refl _)]⟩⟩
      · intro w w0 w1 ih hf
        have hz := su_zb (fun q => 1 ≤ q ∧ tw (WY (I 121 0) q) = 0) (e := w) (by omega)
        rw [su_s _ (show 0 ≤ w by omega)] at ih
        have := tw_r (WY (I 121 0) w)
        refine Z_iload3 (pc := 14) ok dX12_hole_14 ?_
        refine Z_sipush (pc := 15) ok dX12_hole_15 (by decide) ?_
        refine Z_icmp_gt (pc := 18) (tgt := 46) ok dX12_hole_18 rfl (by first | omega | (simp [sz, uz] <;> omega)) (by first | omega | (simp [sz, uz] <;> omega)) (fun h => by exfalso; omega) (fun _ => ?_)
        refine Z_aload0 (pc := 21) ok dX12_hole_21 ?_
        refine g_X12_waysOf (pc := 22) (t := 139) ok dX12_hole_22 kw927 rfl rfl ?_
        refine Z_iload3 (pc := 25) ok dX12_hole_25 ?_
        refine Z_iald (pc := 26) (L := 201) ok dX12_hole_26 rfl rfl (by first | omega | (simp [sz, uz] <;> omega)) ?_
        rw [sz_eq, zi_tw (WY (I 121 0) w)]
        refine Z_if_ne (pc := 27) (tgt := 40) ok dX12_hole_27 rfl (by first | omega | (simp [sz, uz] <;> omega)) (fun h2 => ?_) (fun h2 => ?_)
        · refine Z_iinc3 (pc := 40) ok (by decide) dX12_hole_40 rfl ?_
          refine Z_goto (pc := 43) (tgt := 14) ok dX12_hole_43 rfl ?_
          rw [zb_f (fun q => h2 q.2), Int.add_zero] at ih
          rw [fz_miss (P := fun w => tw (WY (I 121 0) w) = 0 ∧ su (fun q => zb (1 ≤ q ∧ tw (WY (I 121 0) q) = 0)) w = k) w1 (fun q => h2 q.1)] at hf
          exact ih hf
        · rw [zb_t ⟨w0, h2⟩] at ih
          refine Z_iload2 (pc := 30) ok dX12_hole_30 ?_
          refine Z_iload1 (pc := 31) ok dX12_hole_31 ?_
          refine Z_icmp_ne (pc := 32) (tgt := 37) ok dX12_hole_32 rfl (by first | omega | (simp [sz, uz] <;> omega)) (by first | omega | (simp [sz, uz] <;> omega)) (fun h3 => ?_) (fun h3 => ?_)
          · refine Z_iinc2 (pc := 37) ok (by decide) dX12_hole_37 rfl ?_
            refine Z_iinc3 (pc := 40) ok (by decide) dX12_hole_40 rfl ?_
            refine Z_goto (pc := 43) (tgt := 14) ok dX12_hole_43 rfl ?_
            rw [fz_miss (P := fun w => tw (WY (I 121 0) w) = 0 ∧ su (fun q => zb (1 ≤ q ∧ tw (WY (I 121 0) q) = 0)) w = k) w1 (fun q => h3 q.2)] at hf
            exact ih hf
          · refine Z_iload3 (pc := 35) ok dX12_hole_35 ?_
            refine Z_iret (pc := 36) ok okr dX12_hole_36 ?_
            rw [fz_hit (P := fun w => tw (WY (I 121 0) w) = 0 ∧ su (fun q => zb (1 ≤ q ∧ tw (WY (I 121 0) q) = 0)) w = k) w1 ⟨h2, h3⟩] at hf
            exact ⟨_, rfl, fr.rf.st rfl, rfl, Or.inr ⟨h, hf⟩⟩
    have h0 := H 1 (by omega) (by omega) rfl
    have e1 : su (fun q => zb (1 ≤ q ∧ tw (WY (I 121 0) q) = 0)) 1 = 0 := by
      rw [show (1 : Int) = 0 + 1 from rfl, su_s _ (by omega), su_0, zb_f (fun q => by have := q.1; omega)]; rfl
    rw [e1] at h0
    exact h0
  · refine Z_iconst (pc := 4) ok dX12_hole_4 ?_
    refine Z_iret (pc := 5) ok okr dX12_hole_5 ?_
    exact ⟨_, rfl, fr.rf, rfl, Or.inl ⟨h, rfl⟩⟩
end
