/-! layers, ways -/
theorem lsF_b {n p : Int} (hn : 0 ≤ n / p ∧ n / p ≤ 30) : ∀ (m : Nat) (t : Int), 0 ≤ t → 0 ≤ lsF n p m t ∧ lsF n p m t ≤ t + 30 * m
  | 0, t, h => by simp only [lsF]; omega
  | m + 1, t, h => by
    simp only [lsF]; split
    · omega
    · have := lsF_b hn m (t + n / p) (by omega)
      omega
theorem lst_b {n p : Int} (hn : 2 ≤ n ∧ n ≤ 30) (hp : 2 ≤ p ∧ p ≤ 30) : 0 ≤ lst n p ∧ lst n p ≤ 1000 := by
  have hd := di_b (a := n) (b := p) (by omega) (by omega)
  simp only [lst]; split
  · omega
  · have := lsF_b (n := n) (p := p) (by omega) (p - 1).toNat (n / p) hd.1
    omega
/-- LAYER j by p -/
def LY (n p : Int) (c : Int → Int) (j : Int) : Int → Int := fun e => if (0 ≤ e ∧ e < n) ∧ e % p = 0 then c ((e + j * lst n p) % n) else 0
def oddL (n p : Int) (c : Int → Int) (j : Int) : Prop := ¬ ((n % (p * p) = 0 → ∀ i, 0 ≤ i → i < DG n → rd n (LY n p c j) i = 0) ∧ (n % (p * p) ≠ 0 → ∀ i, 0 ≤ i → i < DG n → rd n (LY n p c j) i = rd n (LY n p c 0) i))
theorem LY_9 {n p : Int} {c : Int → Int} (h : gR n c) (j e : Int) : 0 ≤ LY n p c j e ∧ LY n p c j e ≤ 9 := by
  simp only [LY]; split
  · exact h.2.1 _
  · omega
def tw (a : Int) : Int := (Int32.ofInt a).toInt
theorem zi_tw (a : Int) : zi a = zi (tw a) := by
  show Value.int _ = Value.int _
  rw [tw, Int32.ofInt_toInt]
theorem tw_r (a : Int) : -2147483648 ≤ tw a ∧ tw a ≤ 2147483647 := ⟨Int32.le_toInt _, Int.le_of_lt_add_one (Int32.toInt_lt _)⟩
def wpN (p : Int) (f : Int → Int) : Nat → (Int → Int)
  | 0 => f
  | k + 1 => uz (wpN p f k) (p + k) (wpN p f k (p + k) + wpN p f k k)
noncomputable def wyN (n : Int) : Nat → (Int → Int)
  | 0 => uz (fun _ => 0) 0 1
  | k + 1 => @ite (Int → Int) (isP (2 + (k : Int)) n) (Classical.propDecidable _) (wpN (2 + (k : Int)) (wyN n k) (201 - (2 + (k : Int))).toNat) (wyN n k)
noncomputable def WY (n : Int) : Int → Int := wyN n (n - 1).toNat
section
variable {l : Launch} {G : Gw} {I J : Mz}
theorem c_layer {p j e : Int} (hp : -2147483648 ≤ p ∧ p ≤ 2147483647) (hj : -2147483648 ≤ j ∧ j ≤ 2147483647) (he : -2147483648 ≤ e ∧ e ≤ 2147483647) (h1 : gR (I 2 0) (I 3)) : K_X11_layer l G [zr G 0, zi p, zi j, zi e] I J (fun v I' J' => ∃ r, v = some (zi r) ∧ (I' = I ∧ J' = J ∧ ((¬ (isP p (I 2 0) ∧ (0 ≤ j ∧ j < p) ∧ (0 ≤ e ∧ e < I 2 0)) ∧ r = -1) ∨ ((isP p (I 2 0) ∧ (0 ≤ j ∧ j < p) ∧ (0 ≤ e ∧ e < I 2 0)) ∧ r = LY (I 2 0) p (I 3) j e)))) := by
  have hn := h1.1
  refine Cz.of rfl (Nat.le_of_ble_eq_true rfl) [some (zr G 0), some (zi p), some (zi j), some (zi e), none] rfl (fun E ok okr hE => ?_)
  refine Z_aload0 (pc := 0) ok dX11_layer_0 ?_
  refine g_X11_state (pc := 1) (t := 1) ok dX11_layer_1 kw340 rfl rfl ?_
  refine g_X8_row (pc := 4) (t := 2) ok dX11_layer_4 kw148 rfl rfl ?_
  refine Z_astore4 (pc := 7) ok (by decide) dX11_layer_7 rfl ?_
  refine Z_iload1 (pc := 9) ok dX11_layer_9 ?_
  refine Z_aload4 (pc := 10) ok dX11_layer_10 ?_
  refine g_X5_n (pc := 12) ok dX11_layer_12 kw96 rfl ?_
  refine Z_callSId (pc := 15) ok dX11_layer_15 cw_X11_168 (c_isPrimeOf hp hn) rfl rfl (by decide) (Nat.le_of_ble_eq_true rfl) ?_
  refine Z_if_eqB (pc := 18) (tgt := 39) ok dX11_layer_18 rfl (fun h => ?_) (fun h => ?_)
  · refine Z_iconst (pc := 39) ok dX11_layer_39 ?_
    refine Z_iret (pc := 40) ok okr dX11_layer_40 ?_
    exact ⟨_, rfl, rfl, rfl, Or.inl ⟨fun q => h q.1, rfl⟩⟩
  · have h2 : 2 ≤ p ∧ p ≤ 30 := by have := h.1; have := h.2.1; omega
    refine Z_iload2 (pc := 21) ok dX11_layer_21 ?_
    refine Z_if_lt (pc := 22) (tgt := 39) ok dX11_layer_22 rfl (by first | omega | (simp [sz, uz]; omega)) (fun h3 => ?_) (fun h3 => ?_)
    · refine Z_iconst (pc := 39) ok dX11_layer_39 ?_
      refine Z_iret (pc := 40) ok okr dX11_layer_40 ?_
      exact ⟨_, rfl, rfl, rfl, Or.inl ⟨fun q => by have := q.2.1; omega, rfl⟩⟩
    · refine Z_iload2 (pc := 25) ok dX11_layer_25 ?_
      refine Z_iload1 (pc := 26) ok dX11_layer_26 ?_
      refine Z_icmp_ge (pc := 27) (tgt := 39) ok dX11_layer_27 rfl (by first | omega | (simp [sz, uz]; omega)) (by first | omega | (simp [sz, uz]; omega)) (fun h4 => ?_) (fun h4 => ?_)
      · refine Z_iconst (pc := 39) ok dX11_layer_39 ?_
        refine Z_iret (pc := 40) ok okr dX11_layer_40 ?_
        exact ⟨_, rfl, rfl, rfl, Or.inl ⟨fun q => by have := q.2.1; omega, rfl⟩⟩
      · refine Z_aload4 (pc := 30) ok dX11_layer_30 ?_
        refine Z_iload3 (pc := 32) ok dX11_layer_32 ?_
        refine Z_callVId (pc := 33) ok dX11_layer_33 cw_X11_106 rfl rfl (by decide) (c_Row_has rfl he (by omega)) rfl rfl (by decide) (Nat.le_of_ble_eq_true rfl) ?_
        refine Z_if_neB (pc := 36) (tgt := 41) ok dX11_layer_36 rfl (fun h5 => ?_) (fun h5 => ?_)
        · have hb := lst_b hn h2
          have hm : 0 ≤ j * lst (I 2 0) p := Int.mul_nonneg h3 hb.1
          have hm2 : j * lst (I 2 0) p ≤ 30 * 1000 := Int.mul_le_mul (by omega) hb.2 hb.1 (by omega)
          refine Z_aload4 (pc := 41) ok dX11_layer_41 ?_
          refine Z_iload1 (pc := 43) ok dX11_layer_43 ?_
          refine Z_iload2 (pc := 44) ok dX11_layer_44 ?_
          refine Z_aload4 (pc := 45) ok dX11_layer_45 ?_
          refine g_X5_n (pc := 47) ok dX11_layer_47 kw96 rfl ?_
          refine Z_iload1 (pc := 50) ok dX11_layer_50 ?_
          refine Z_callSId (pc := 51) ok dX11_layer_51 cw_X11_192 (c_layerStep hn h2) rfl rfl (by decide) (Nat.le_of_ble_eq_true rfl) ?_
          refine Z_imul (pc := 54) ok dX11_layer_54 ?_
          refine Z_iload3 (pc := 55) ok dX11_layer_55 ?_
          refine Z_callSId (pc := 56) ok dX11_layer_56 cw_X11_195 (c_countInLayer rfl hn h2 (by omega) (by omega)) rfl rfl (by decide) (Nat.le_of_ble_eq_true rfl) ?_
          refine Z_iret (pc := 59) ok okr dX11_layer_59 ?_
          refine ⟨_, rfl, rfl, rfl, Or.inr ⟨⟨h, by omega, h5⟩, ?_⟩⟩
          simp only [LY]
          by_cases hq : e % p = 0
          · rw [if_pos hq, if_pos ⟨h5, hq⟩]
          · rw [if_neg hq, if_neg (fun q => hq q.2)]
        · refine Z_iconst (pc := 39) ok dX11_layer_39 ?_
          refine Z_iret (pc := 40) ok okr dX11_layer_40 ?_
          exact ⟨_, rfl, rfl, rfl, Or.inl ⟨fun q => h5 q.2.2, rfl⟩⟩
theorem c_firstOdd {p : Int} (hp : isP p (I 2 0)) (h1 : gR (I 2 0) (I 3)) (hd : dOk I) (hpk : pkOk I J) : K_X11_firstOddLayer l G [zr G 0, zr G 2, zi p] I J (fun v I' J' => ∃ r, v = some (zi r) ∧ (fr [87, 88, 89, 118, 119] I I' ∧ dOk I' ∧ pkOk I' J' ∧ J' = J ∧ r = fz (oddL (I 2 0) p (I 3)) (-5) 0 p)) := by
  have hn := h1.1
  have h2 : 2 ≤ p ∧ p ≤ 30 := by have := hp.1; have := hp.2.1; omega
  have hb := lst_b hn h2
  have hpn := hp.2.1
  refine Cz.of rfl (Nat.le_of_ble_eq_true rfl) [some (zr G 0), some (zr G 2), some (zi p), none, none, none, none] rfl (fun E ok okr hE => ?_)
  refine Z_aload1 (pc := 0) ok dX11_firstOddLayer_0 ?_
  refine g_X5_n (pc := 1) ok dX11_firstOddLayer_1 kw96 rfl ?_
  refine Z_iload2 (pc := 4) ok dX11_firstOddLayer_4 ?_
  refine Z_callSId (pc := 5) ok dX11_firstOddLayer_5 cw_X11_326 (c_squareDivides hn h2) rfl rfl (by decide) (Nat.le_of_ble_eq_true rfl) ?_
  refine Z_istore3 (pc := 8) ok (by decide) dX11_firstOddLayer_8 rfl ?_
  refine Z_aload1 (pc := 9) ok dX11_firstOddLayer_9 ?_
  refine g_X5_n (pc := 10) ok dX11_firstOddLayer_10 kw96 rfl ?_
  refine Z_iload2 (pc := 13) ok dX11_firstOddLayer_13 ?_
  refine Z_callSId (pc := 14) ok dX11_firstOddLayer_14 cw_X11_192 (c_layerStep hn h2) rfl rfl (by decide) (Nat.le_of_ble_eq_true rfl) ?_
  refine Z_istore4 (pc := 17) ok (by decide) dX11_firstOddLayer_17 rfl ?_
  refine Z_aload0 (pc := 19) ok dX11_firstOddLayer_19 ?_
  refine g_X11_division (pc := 20) (t := 87) ok dX11_firstOddLayer_20 kw343 rfl rfl ?_
  refine Z_aload1 (pc := 23) ok dX11_firstOddLayer_23 ?_
  refine g_X5_n (pc := 24) ok dX11_firstOddLayer_24 kw96 rfl ?_
  refine Z_callVV (pc := 27) ok dX11_firstOddLayer_27 cw_X11_116 rfl rfl (by decide) (c_prepare hn hd) rfl rfl (by decide) (Nat.le_of_ble_eq_true rfl) (fun I1 J1 q => ?_)
  refine Z_iconst (pc := 30) ok dX11_firstOddLayer_30 ?_
  refine Z_istore5 (pc := 31) ok (by decide) dX11_firstOddLayer_31 rfl ?_
  obtain ⟨q1, q2, q3, rfl⟩ := q
  generalize hA : I 2 0 % (p * p) = A at *
  have f1 : fr [87, 88, 89, 118, 119] I I1 := fun q hq => q3 q (fun e => hq (by simp [e])) (fun e => hq (by simp [e]))
  have hK : I 2 0 = p * (I 2 0 / p) := by
    have := Int.mul_ediv_add_emod (I 2 0) p
    rw [hp.2.2.1] at this; omega
  have hdv := di_b (a := I 2 0) (b := p) (by omega) (by omega)
  have H : ∀ j : Int, 0 ≤ j → j ≤ p → fz (oddL (I 2 0) p (I 3)) (-5) j p = fz (oddL (I 2 0) p (I 3)) (-5) 0 p → ∀ I2 : Mz, fr [87, 88, 89, 118, 119] I I2 → dP I2 (I 2 0) → I2 87 1 = I 87 1 → (0 < j → A ≠ 0 → I2 119 = rd (I 2 0) (LY (I 2 0) p (I 3) 0)) → ∀ w, Xz E G I2 J1 33 [some (zr G 0), some (zr G 2), some (zi p), some (zi (zb (A = 0))), some (zi (lst (I 2 0) p)), some (zi j), w] [] := by
    refine zUp ?_ ?_
    · intro hf I2 g1 g2 g3 g4 w
      refine Z_iload5 (pc := 33) ok dX11_firstOddLayer_33 ?_
      refine Z_iload2 (pc := 35) ok dX11_firstOddLayer_35 ?_
      refine Z_icmp_ge (pc := 36) (tgt := 166) ok dX11_firstOddLayer_36 rfl (by first | omega | (simp [sz, uz]; omega)) (by first | omega | (simp [sz, uz]; omega)) (fun _ => ?_) (fun h => by exfalso; omega)
      refine Z_bipush (pc := 166) ok dX11_firstOddLayer_166 (by decide) ?_
      refine Z_iret (pc := 168) ok okr dX11_firstOddLayer_168 ?_
      refine ⟨_, rfl, g1, Or.inr (by rw [g2.1]; exact ⟨hn, g2⟩), by unfold pkOk at *; rw [g3]; exact hpk, rfl, by rw [← hf, fz_end _ _ (Int.le_refl _)]⟩
    · intro j j0 j1 ih hf I2 g1 g2 g3 g4 w
      have e2 : I2 2 = I 2 := g1.at 2 rfl
      have e3 : I2 3 = I 3 := g1.at 3 rfl
      have hm : 0 ≤ j * lst (I 2 0) p := Int.mul_nonneg j0 hb.1
      have hm2 : j * lst (I 2 0) p ≤ 30 * 1000 := Int.mul_le_mul (by omega) hb.2 hb.1 (by omega)
      refine Z_iload5 (pc := 33) ok dX11_firstOddLayer_33 ?_
      refine Z_iload2 (pc := 35) ok dX11_firstOddLayer_35 ?_
      refine Z_icmp_ge (pc := 36) (tgt := 166) ok dX11_firstOddLayer_36 rfl (by first | omega | (simp [sz, uz]; omega)) (by first | omega | (simp [sz, uz]; omega)) (fun h => by exfalso; omega) (fun _ => ?_)
      refine Z_aload0 (pc := 39) ok dX11_firstOddLayer_39 ?_
      refine g_X11_spare (pc := 40) (t := 118) ok dX11_firstOddLayer_40 kw351 rfl rfl ?_
      refine Z_iconst (pc := 43) ok dX11_firstOddLayer_43 ?_
      refine Z_callSVd (pc := 44) ok dX11_firstOddLayer_44 cw_X11_314 (c_fill rfl rfl 0) rfl rfl (by decide) (Nat.le_of_ble_eq_true rfl) ?_
      refine Z_iconst (pc := 47) ok dX11_firstOddLayer_47 ?_
      refine Z_istore6 (pc := 48) ok (by decide) dX11_firstOddLayer_48 rfl ?_
      have H2 : ∀ q : Int, 0 ≤ q → q ≤ I 2 0 / p → ∀ f : Int → Int, (∀ x, 0 ≤ x → x < p * q → f x = LY (I 2 0) p (I 3) j x) → (∀ x, p * q ≤ x → f x = 0) → Xz E G (sz I2 118 f) J1 50 [some (zr G 0), some (zr G 2), some (zi p), some (zi (zb (A = 0))), some (zi (lst (I 2 0) p)), some (zi j), some (zi (p * q))] [] := by
        refine zUp ?_ ?_
        · intro f a1 a2
          rw [← hK] at a1 a2 ⊢
          have e20 : sz I2 118 f 2 0 = I 2 0 := by rw [sz_ne _ _ (by decide), e2]
          refine Z_ext1 (g := LY (I 2 0) p (I 3) j) (by decide) (fun x x0 x1 => ?_) ?_
          · by_cases hx : x < I 2 0
            · exact a1 x x0 hx
            · rw [a2 x (by omega), LY, if_neg (fun q => hx q.1.2)]
          · have e20 : sz I2 118 (LY (I 2 0) p (I 3) j) 2 0 = I 2 0 := by rw [sz_ne _ _ (by decide), e2]
            have h9 : ∀ x, -9 ≤ LY (I 2 0) p (I 3) j x ∧ LY (I 2 0) p (I 3) j x ≤ 9 := fun x => by have := LY_9 (p := p) h1 j x; omega
            have g2' : dP (sz I2 118 (LY (I 2 0) p (I 3) j)) (I 2 0) := dP_c g2 (sz_ne _ _ (by decide)) (sz_ne _ _ (by decide))
            refine Z_iload6 (pc := 50) ok dX11_firstOddLayer_50 ?_
            refine Z_aload1 (pc := 52) ok dX11_firstOddLayer_52 ?_
            refine g_X5_n (pc := 53) ok dX11_firstOddLayer_53 kw96 rfl ?_
            refine Z_icmp_ge (pc := 56) (tgt := 87) ok dX11_firstOddLayer_56 rfl (by first | omega | (simp [sz, uz]; omega)) (by first | omega | (simp [sz, uz]; omega)) (fun _ => ?_) (fun h => by exfalso; omega)
            refine Z_aload0 (pc := 87) ok dX11_firstOddLayer_87 ?_
            refine g_X11_division (pc := 88) (t := 87) ok dX11_firstOddLayer_88 kw343 rfl rfl ?_
            refine Z_aload0 (pc := 91) ok dX11_firstOddLayer_91 ?_
            refine g_X11_spare (pc := 92) (t := 118) ok dX11_firstOddLayer_92 kw351 rfl rfl ?_
            refine Z_callVVd (pc := 95) ok dX11_firstOddLayer_95 cw_X11_127 rfl rfl (by decide) (c_divide rfl rfl hn g2' (by rw [sz_eq]; exact h9)) rfl rfl (by decide) (Nat.le_of_ble_eq_true rfl) ?_
            rw [sz_eq]
            refine Z_gen (fun T hT => ?_)
            have t89 : T 89 = rd (I 2 0) (LY (I 2 0) p (I 3) j) := by rw [hT, sz_eq]
            have t119 : T 119 = I2 119 := by rw [hT]; simp [sz]
            have t87 : T 87 = I2 87 := by rw [hT]; simp [sz]
            have t88 : T 88 = I2 88 := by rw [hT]; simp [sz]
            have tf : fr [87, 88, 89, 118, 119] I T := by rw [hT]; exact (g1.st rfl).st rfl
            clear hT
            have g5 : dP T (I 2 0) := dP_c g2 t87 t88
            have hrd := rd_c hn h9
            have h90 : ∀ x, -9 ≤ LY (I 2 0) p (I 3) 0 x ∧ LY (I 2 0) p (I 3) 0 x ≤ 9 := fun x => by have := LY_9 (p := p) h1 0 x; omega
            have hrd0 := rd_c hn h90
            -- from 125 on, A nought
            have A1 : A = 0 → Xz E G T J1 125 [some (zr G 0), some (zr G 2), some (zi p), some (zi (zb (A = 0))), some (zi (lst (I 2 0) p)), some (zi j), (some (zi (I 2 0)))] [] := by
              intro hA0
              refine Z_iload3 (pc := 125) ok dX11_firstOddLayer_125 ?_
              refine Z_if_eqB (pc := 126) (tgt := 139) ok dX11_firstOddLayer_126 rfl (fun h => absurd h ((fun q => q hA0))) (fun h => ?_)
              refine Z_aload0 (pc := 129) ok dX11_firstOddLayer_129 ?_
              refine g_X11_division (pc := 130) (t := 87) ok dX11_firstOddLayer_130 kw343 rfl rfl ?_
              refine Z_callVId (pc := 133) ok dX11_firstOddLayer_133 cw_X11_303 rfl rfl (by decide) (c_leavesNothing hn g5 (by rw [t89]; exact hrd)) rfl rfl (by decide) (Nat.le_of_ble_eq_true rfl) ?_
              refine Z_goto (pc := 136) (tgt := 150) ok dX11_firstOddLayer_136 rfl ?_
              refine Z_istore6 (pc := 150) ok (by decide) dX11_firstOddLayer_150 rfl ?_
              refine Z_iload6 (pc := 152) ok dX11_firstOddLayer_152 ?_
              refine Z_if_neB (pc := 154) (tgt := 160) ok dX11_firstOddLayer_154 rfl (fun h5 => ?_) (fun h5 => ?_)
              · refine Z_iinc5 (pc := 160) ok (by decide) dX11_firstOddLayer_160 rfl ?_
                refine Z_goto (pc := 163) (tgt := 33) ok dX11_firstOddLayer_163 rfl ?_
                rw [t89] at h5
                rw [fz_miss (P := oddL (I 2 0) p (I 3)) j1 (fun q => q ⟨fun _ => h5, fun q2 => absurd (by rw [hA]; exact hA0) q2⟩)] at hf
                exact ih hf T tf g5 (by rw [t87]; exact g3) (fun _ q => absurd hA0 q) _
              · refine Z_iload5 (pc := 157) ok dX11_firstOddLayer_157 ?_
                refine Z_iret (pc := 159) ok okr dX11_firstOddLayer_159 ?_
                rw [t89] at h5
                rw [fz_hit (P := oddL (I 2 0) p (I 3)) j1 (fun q => h5 (q.1 (by rw [hA]; exact hA0)))] at hf
                exact ⟨_, rfl, tf, Or.inr (by rw [g5.1]; exact ⟨hn, g5⟩), by unfold pkOk at *; rw [t87, g3]; exact hpk, rfl, hf⟩
            have A2 : ∀ T : Mz, A ≠ 0 → T 89 = rd (I 2 0) (LY (I 2 0) p (I 3) j) → T 119 = rd (I 2 0) (LY (I 2 0) p (I 3) 0) → fr [87, 88, 89, 118, 119] I T → dP T (I 2 0) → T 87 1 = I 87 1 → Xz E G T J1 125 [some (zr G 0), some (zr G 2), some (zi p), some (zi (zb (A = 0))), some (zi (lst (I 2 0) p)), some (zi j), (some (zi (I 2 0)))] [] := by
              intro T hA0 t89 t119 tf g5 t87
              refine Z_iload3 (pc := 125) ok dX11_firstOddLayer_125 ?_
              refine Z_if_eqB (pc := 126) (tgt := 139) ok dX11_firstOddLayer_126 rfl (fun h => ?_) (fun h => absurd h ((fun q => hA0 q)))
              refine Z_aload0 (pc := 139) ok dX11_firstOddLayer_139 ?_
              refine g_X11_division (pc := 140) (t := 87) ok dX11_firstOddLayer_140 kw343 rfl rfl ?_
              refine Z_aload0 (pc := 143) ok dX11_firstOddLayer_143 ?_
              refine g_X11_leftByFirst (pc := 144) (t := 119) ok dX11_firstOddLayer_144 kw352 rfl rfl ?_
              refine Z_callVId (pc := 147) ok dX11_firstOddLayer_147 cw_X11_329 rfl rfl (by decide) (c_leaves rfl rfl hn g5 (by rw [t89]; exact hrd) (by rw [t119]; exact hrd0)) rfl rfl (by decide) (Nat.le_of_ble_eq_true rfl) ?_
              refine Z_istore6 (pc := 150) ok (by decide) dX11_firstOddLayer_150 rfl ?_
              refine Z_iload6 (pc := 152) ok dX11_firstOddLayer_152 ?_
              refine Z_if_neB (pc := 154) (tgt := 160) ok dX11_firstOddLayer_154 rfl (fun h5 => ?_) (fun h5 => ?_)
              · refine Z_iinc5 (pc := 160) ok (by decide) dX11_firstOddLayer_160 rfl ?_
                refine Z_goto (pc := 163) (tgt := 33) ok dX11_firstOddLayer_163 rfl ?_
                rw [t89, t119] at h5
                rw [fz_miss (P := oddL (I 2 0) p (I 3)) j1 (fun q => q ⟨fun q2 => absurd (by rw [← hA]; exact q2) hA0, fun _ => h5⟩)] at hf
                exact ih hf T tf g5 t87 (fun _ _ => t119) _
              · refine Z_iload5 (pc := 157) ok dX11_firstOddLayer_157 ?_
                refine Z_iret (pc := 159) ok okr dX11_firstOddLayer_159 ?_
                rw [t89, t119] at h5
                rw [fz_hit (P := oddL (I 2 0) p (I 3)) j1 (fun q => h5 (q.2 (by rw [hA]; exact hA0)))] at hf
                exact ⟨_, rfl, tf, Or.inr (by rw [g5.1]; exact ⟨hn, g5⟩), by unfold pkOk at *; rw [t87]; exact hpk, rfl, hf⟩
            have A3 :  Xz E G T J1 98 [some (zr G 0), some (zr G 2), some (zi p), some (zi (zb (A = 0))), some (zi (lst (I 2 0) p)), some (zi j), (some (zi (I 2 0)))] [] := by
              refine Z_iload3 (pc := 98) ok dX11_firstOddLayer_98 ?_
              refine Z_if_neB (pc := 99) (tgt := 125) ok dX11_firstOddLayer_99 rfl (fun h6 => ?_) (fun h6 => ?_)
              · exact A1 h6
              · refine Z_iload5 (pc := 102) ok dX11_firstOddLayer_102 ?_
                refine Z_if_ne (pc := 104) (tgt := 125) ok dX11_firstOddLayer_104 rfl (by first | omega | (simp [sz, uz]; omega)) (fun h7 => ?_) (fun h7 => ?_)
                · refine A2 T h6 t89 ?_ tf g5 (by rw [t87]; exact g3)
                  rw [t119]; exact g4 (by omega) h6
                · refine Z_aload0 (pc := 107) ok dX11_firstOddLayer_107 ?_
                  refine g_X11_division (pc := 108) (t := 87) ok dX11_firstOddLayer_108 kw343 rfl rfl ?_
                  refine g_X1_left (pc := 111) (t := 89) ok dX11_firstOddLayer_111 kw174 rfl rfl ?_
                  refine Z_iconst (pc := 114) ok dX11_firstOddLayer_114 ?_
                  refine Z_aload0 (pc := 115) ok dX11_firstOddLayer_115 ?_
                  refine g_X11_leftByFirst (pc := 116) (t := 119) ok dX11_firstOddLayer_116 kw352 rfl rfl ?_
                  refine Z_iconst (pc := 119) ok dX11_firstOddLayer_119 ?_
                  refine Z_bipush (pc := 120) ok dX11_firstOddLayer_120 (by decide) ?_
                  refine Z_copy (pc := 122) (N := 30) ok dX11_firstOddLayer_122 kw583 kw457 kw456 kw71 rfl rfl rfl rfl (by decide) (by decide) (Nat.le_of_ble_eq_true rfl) ?_
                  refine A2 _ h6 ?_ ?_ (tf.st rfl) (dP_c g5 (sz_ne _ _ (by decide)) (sz_ne _ _ (by decide))) ?_
                  · rw [sz_ne _ _ (by decide)]; exact t89
                  · rw [sz_eq, t89, h7]
                  · rw [sz_ne _ _ (by decide), t87]; exact g3
            exact A3
        · intro q q0 q1 ih2 f a1 a2
          have e20 : sz I2 118 f 2 0 = I 2 0 := by rw [sz_ne _ _ (by decide), e2]
          have e30 : sz I2 118 f 3 = I 3 := by rw [sz_ne _ _ (by decide), e3]
          have hpq : p * (q + 1) ≤ p * (I 2 0 / p) := Int.mul_le_mul_of_nonneg_left (by omega) (by omega)
          have hpq0 : 0 ≤ p * q := Int.mul_nonneg (by omega) q0
          rw [Int.mul_add, Int.mul_one, ← hK] at hpq
          rw [Int.mul_add, Int.mul_one] at ih2
          refine Z_iload6 (pc := 50) ok dX11_firstOddLayer_50 ?_
          refine Z_aload1 (pc := 52) ok dX11_firstOddLayer_52 ?_
          refine g_X5_n (pc := 53) ok dX11_firstOddLayer_53 kw96 rfl ?_
          refine Z_icmp_ge (pc := 56) (tgt := 87) ok dX11_firstOddLayer_56 rfl (by first | omega | (simp [sz, uz]; omega)) (by first | omega | (simp [sz, uz]; omega)) (fun h => by exfalso; omega) (fun _ => ?_)
          refine Z_aload0 (pc := 59) ok dX11_firstOddLayer_59 ?_
          refine g_X11_spare (pc := 60) (t := 118) ok dX11_firstOddLayer_60 kw351 rfl rfl ?_
          refine Z_iload6 (pc := 63) ok dX11_firstOddLayer_63 ?_
          refine Z_aload1 (pc := 65) ok dX11_firstOddLayer_65 ?_
          refine Z_iload2 (pc := 66) ok dX11_firstOddLayer_66 ?_
          refine Z_iload5 (pc := 67) ok dX11_firstOddLayer_67 ?_
          refine Z_iload4 (pc := 69) ok dX11_firstOddLayer_69 ?_
          refine Z_imul (pc := 71) ok dX11_firstOddLayer_71 ?_
          refine Z_iload6 (pc := 72) ok dX11_firstOddLayer_72 ?_
          refine Z_callSId (pc := 74) ok dX11_firstOddLayer_74 cw_X11_195 (c_countInLayer rfl (by rw [e20]; exact hn) h2 (by omega) (by omega)) rfl rfl (by decide) (Nat.le_of_ble_eq_true rfl) ?_
          refine Z_iast (pc := 77) (L := 30) ok dX11_firstOddLayer_77 rfl rfl (by first | omega | (simp [sz, uz]; omega)) ?_
          refine Z_iload6 (pc := 78) ok dX11_firstOddLayer_78 ?_
          refine Z_iload2 (pc := 80) ok dX11_firstOddLayer_80 ?_
          refine Z_iadd (pc := 81) ok dX11_firstOddLayer_81 ?_
          refine Z_istore6 (pc := 82) ok (by decide) dX11_firstOddLayer_82 rfl ?_
          refine Z_goto (pc := 84) (tgt := 50) ok dX11_firstOddLayer_84 rfl ?_
          rw [sz_sz, sz_eq]
          have hmod : p * q % p = 0 := Int.mul_emod_right p q
          refine ih2 _ (fun x x0 x1 => ?_) (fun x x0 => ?_)
          · by_cases hx : x = p * q
            · rw [hx, uz_eq, if_pos hmod, LY, if_pos ⟨by omega, hmod⟩]
              show sz I2 118 f 3 ((p * q + j * lst (I 2 0) p) % sz I2 118 f 2 0) = _
              rw [e20, e30]
            · rw [uz_ne _ _ hx]
              by_cases hx2 : x < p * q
              · exact a1 x x0 hx2
              · rw [a2 x (by omega), LY, if_neg (fun q' => ?_)]
                have h5 := q'.2
                have h6 : (x - p * q) % p = 0 := by rw [Int.sub_emod, h5, hmod]; simp
                have h7 : (x - p * q) % p = x - p * q := Int.emod_eq_of_lt (by omega) (by omega)
                omega
          · rw [uz_ne _ _ (by omega)]; exact a2 x (by omega)
      have h0 := H2 0 (by omega) (by omega) (fun _ => 0) (fun x x0 x1 => by rw [Int.mul_zero] at x1; omega) (fun _ _ => rfl)
      rw [Int.mul_zero] at h0
      exact h0
  exact H 0 (by omega) (by omega) rfl I1 f1 q1 q2 (fun q => by omega) none
theorem c_layers {p w : Int} (hp : -2147483648 ≤ p ∧ p ≤ 2147483647) (hw : -2147483648 ≤ w ∧ w ≤ 2147483647) (h1 : gR (I 2 0) (I 3)) (hd : dOk I) (hpk : pkOk I J) : K_X11_layers l G [zr G 0, zi p, zi w] I J (fun v I' J' => ∃ r, v = some (zi r) ∧ (fr [87, 88, 89, 118, 119] I I' ∧ dOk I' ∧ pkOk I' J' ∧ J' = J ∧ ((¬ (isP p (I 2 0) ∧ 0 ≤ w ∧ w ≤ 1) ∧ r = -1) ∨ ((isP p (I 2 0) ∧ w = 1) ∧ r = fz (oddL (I 2 0) p (I 3)) (-5) 0 p) ∨ ((isP p (I 2 0) ∧ w = 0) ∧ r = zb (fz (oddL (I 2 0) p (I 3)) (-5) 0 p = -5))))) := by
  have hn := h1.1
  refine Cz.of rfl (Nat.le_of_ble_eq_true rfl) [some (zr G 0), some (zi p), some (zi w), none] rfl (fun E ok okr hE => ?_)
  refine Z_iload1 (pc := 0) ok dX11_layers_0 ?_
  refine Z_aload0 (pc := 1) ok dX11_layers_1 ?_
  refine g_X11_state (pc := 2) (t := 1) ok dX11_layers_2 kw340 rfl rfl ?_
  refine g_X8_row (pc := 5) (t := 2) ok dX11_layers_5 kw148 rfl rfl ?_
  refine g_X5_n (pc := 8) ok dX11_layers_8 kw96 rfl ?_
  refine Z_callSId (pc := 11) ok dX11_layers_11 cw_X11_168 (c_isPrimeOf hp hn) rfl rfl (by decide) (Nat.le_of_ble_eq_true rfl) ?_
  refine Z_if_eqB (pc := 14) (tgt := 26) ok dX11_layers_14 rfl (fun h => ?_) (fun h => ?_)
  · refine Z_iconst (pc := 26) ok dX11_layers_26 ?_
    refine Z_iret (pc := 27) ok okr dX11_layers_27 ?_
    exact ⟨_, rfl, fr.rf, hd, hpk, rfl, Or.inl ⟨fun q => h q.1, rfl⟩⟩
  · refine Z_iload2 (pc := 17) ok dX11_layers_17 ?_
    refine Z_if_lt (pc := 18) (tgt := 26) ok dX11_layers_18 rfl (by first | omega | (simp [sz, uz]; omega)) (fun h2 => ?_) (fun h2 => ?_)
    · refine Z_iconst (pc := 26) ok dX11_layers_26 ?_
      refine Z_iret (pc := 27) ok okr dX11_layers_27 ?_
      exact ⟨_, rfl, fr.rf, hd, hpk, rfl, Or.inl ⟨fun q => by omega, rfl⟩⟩
    · refine Z_iload2 (pc := 21) ok dX11_layers_21 ?_
      refine Z_iconst (pc := 22) ok dX11_layers_22 ?_
      refine Z_icmp_le (pc := 23) (tgt := 28) ok dX11_layers_23 rfl (by first | omega | (simp [sz, uz]; omega)) (by first | omega | (simp [sz, uz]; omega)) (fun h3 => ?_) (fun h3 => ?_)
      · refine Z_aload0 (pc := 28) ok dX11_layers_28 ?_
        refine Z_aload0 (pc := 29) ok dX11_layers_29 ?_
        refine g_X11_state (pc := 30) (t := 1) ok dX11_layers_30 kw340 rfl rfl ?_
        refine g_X8_row (pc := 33) (t := 2) ok dX11_layers_33 kw148 rfl rfl ?_
        refine Z_iload1 (pc := 36) ok dX11_layers_36 ?_
        refine Z_callVI (pc := 37) ok dX11_layers_37 cw_X11_199 rfl rfl (by decide) (c_firstOdd h h1 hd hpk) rfl rfl (by decide) (Nat.le_of_ble_eq_true rfl) (fun r I1 J1 q => ?_)
        refine Z_istore3 (pc := 40) ok (by decide) dX11_layers_40 rfl ?_
        obtain ⟨q1, q2, q3, q4, q5⟩ := q
        have hb : -5 ≤ r ∧ r ≤ 30 := by
          have hfz : ∀ (P : Int → Prop) (m : Nat) (i : Int), 0 ≤ i → i + m ≤ 30 → -5 ≤ fzN P (-5) m i ∧ fzN P (-5) m i ≤ 30 := by
            intro P m
            induction m with
            | zero => intro i _ _; simp only [fzN]; omega
            | succ m ih =>
              intro i h0 h1
              simp only [fzN]
              by_cases hp : P i
              · rw [if_pos hp]; omega
              · rw [if_neg hp]; exact ih (i + 1) (by omega) (by omega)
          rw [q5, fz]
          have := h.2.1
          have := h.1
          exact hfz _ _ 0 (by omega) (by omega)
        refine Z_iload2 (pc := 41) ok dX11_layers_41 ?_
        refine Z_iconst (pc := 42) ok dX11_layers_42 ?_
        refine Z_icmp_ne (pc := 43) (tgt := 48) ok dX11_layers_43 rfl (by first | omega | (simp [sz, uz]; omega)) (by first | omega | (simp [sz, uz]; omega)) (fun h4 => ?_) (fun h4 => ?_)
        · refine Z_iload3 (pc := 48) ok dX11_layers_48 ?_
          refine Z_bipush (pc := 49) ok dX11_layers_49 (by decide) ?_
          refine Z_icmp_ne (pc := 51) (tgt := 58) ok dX11_layers_51 rfl (by first | omega | (simp [sz, uz]; omega)) (by first | omega | (simp [sz, uz]; omega)) (fun h5 => ?_) (fun h5 => ?_)
          · refine Z_iconst (pc := 58) ok dX11_layers_58 ?_
            refine Z_iret (pc := 59) ok okr dX11_layers_59 ?_
            exact ⟨_, rfl, q1, q2, q3, q4, Or.inr (Or.inr ⟨⟨h, by omega⟩, by rw [← q5, zb_f h5]⟩)⟩
          · refine Z_iconst (pc := 54) ok dX11_layers_54 ?_
            refine Z_goto (pc := 55) (tgt := 59) ok dX11_layers_55 rfl ?_
            refine Z_iret (pc := 59) ok okr dX11_layers_59 ?_
            exact ⟨_, rfl, q1, q2, q3, q4, Or.inr (Or.inr ⟨⟨h, by omega⟩, by rw [← q5, zb_t h5]⟩)⟩
        · refine Z_iload3 (pc := 46) ok dX11_layers_46 ?_
          refine Z_iret (pc := 47) ok okr dX11_layers_47 ?_
          exact ⟨_, rfl, q1, q2, q3, q4, Or.inr (Or.inl ⟨⟨h, h4⟩, q5⟩)⟩
      · refine Z_iconst (pc := 26) ok dX11_layers_26 ?_
        refine Z_iret (pc := 27) ok okr dX11_layers_27 ?_
        exact ⟨_, rfl, fr.rf, hd, hpk, rfl, Or.inl ⟨fun q => by omega, rfl⟩⟩
theorem c_countWays (h1 : gR (I 2 0) (I 3)) : K_X11_countWays l G [zr G 0] I J (pR none (sz I 120 (WY (I 2 0))) J) := by
  have hn := h1.1
  refine Cz.of rfl (Nat.le_of_ble_eq_true rfl) [some (zr G 0), none, none, none] rfl (fun E ok okr hE => ?_)
  refine Z_aload0 (pc := 0) ok dX11_countWays_0 ?_
  refine g_X11_state (pc := 1) (t := 1) ok dX11_countWays_1 kw340 rfl rfl ?_
  refine g_X8_row (pc := 4) (t := 2) ok dX11_countWays_4 kw148 rfl rfl ?_
  refine g_X5_n (pc := 7) ok dX11_countWays_7 kw96 rfl ?_
  refine Z_istore1 (pc := 10) ok (by decide) dX11_countWays_10 rfl ?_
  refine Z_aload0 (pc := 11) ok dX11_countWays_11 ?_
  refine g_X11_waysTo (pc := 12) (t := 120) ok dX11_countWays_12 kw353 rfl rfl ?_
  refine Z_iconst (pc := 15) ok dX11_countWays_15 ?_
  refine Z_callSVd (pc := 16) ok dX11_countWays_16 cw_X11_314 (c_fill rfl rfl 0) rfl rfl (by decide) (Nat.le_of_ble_eq_true rfl) ?_
  refine Z_aload0 (pc := 19) ok dX11_countWays_19 ?_
  refine g_X11_waysTo (pc := 20) (t := 120) ok dX11_countWays_20 kw353 rfl rfl ?_
  refine Z_iconst (pc := 23) ok dX11_countWays_23 ?_
  refine Z_iconst (pc := 24) ok dX11_countWays_24 ?_
  refine Z_iast (pc := 25) (L := 201) ok dX11_countWays_25 rfl rfl (by first | omega | (simp [sz, uz]; omega)) ?_
  refine Z_iconst (pc := 26) ok dX11_countWays_26 ?_
  refine Z_istore2 (pc := 27) ok (by decide) dX11_countWays_27 rfl ?_
  rw [sz_sz, sz_eq]
  have H : ∀ p : Int, 2 ≤ p → p ≤ I 2 0 + 1 → ∀ w, Xz E G (sz I 120 (wyN (I 2 0) (p - 2).toNat)) J 28 [some (zr G 0), some (zi (I 2 0)), some (zi p), w] [] := by
    refine zUp ?_ ?_
    · intro w
      refine Z_iload2 (pc := 28) ok dX11_countWays_28 ?_
      refine Z_iload1 (pc := 29) ok dX11_countWays_29 ?_
      refine Z_icmp_gt (pc := 30) (tgt := 79) ok dX11_countWays_30 rfl (by first | omega | (simp [sz, uz]; omega)) (by first | omega | (simp [sz, uz]; omega)) (fun _ => ?_) (fun h => by exfalso; omega)
      refine Z_vret (pc := 79) ok okr dX11_countWays_79 ?_
      refine ⟨rfl, ?_, rfl⟩
      rw [show I 2 0 + 1 - 2 = I 2 0 - 1 by omega]; rfl
    · intro p p0 p1 ih w
      rw [show (p + 1 - 2).toNat = (p - 2).toNat + 1 by omega, wyN, show (2 : Int) + (((p - 2).toNat : Nat) : Int) = p by omega] at ih
      refine Z_iload2 (pc := 28) ok dX11_countWays_28 ?_
      refine Z_iload1 (pc := 29) ok dX11_countWays_29 ?_
      refine Z_icmp_gt (pc := 30) (tgt := 79) ok dX11_countWays_30 rfl (by first | omega | (simp [sz, uz]; omega)) (by first | omega | (simp [sz, uz]; omega)) (fun h => by exfalso; omega) (fun _ => ?_)
      refine Z_iload2 (pc := 33) ok dX11_countWays_33 ?_
      refine Z_iload1 (pc := 34) ok dX11_countWays_34 ?_
      refine Z_callSId (pc := 35) ok dX11_countWays_35 cw_X11_168 (c_isPrimeOf (by omega) hn) rfl rfl (by decide) (Nat.le_of_ble_eq_true rfl) ?_
      refine Z_if_eqB (pc := 38) (tgt := 73) ok dX11_countWays_38 rfl (fun h => ?_) (fun h => ?_)
      · refine Z_iinc2 (pc := 73) ok (by decide) dX11_countWays_73 rfl ?_
        refine Z_goto (pc := 76) (tgt := 28) ok dX11_countWays_76 rfl ?_
        rw [if_neg h] at ih
        exact ih _
      · rw [if_pos h] at ih
        generalize wyN (I 2 0) (p - 2).toNat = f at *
        refine Z_iload2 (pc := 41) ok dX11_countWays_41 ?_
        refine Z_istore3 (pc := 42) ok (by decide) dX11_countWays_42 rfl ?_
        have H2 : ∀ x : Int, p ≤ x → x ≤ 201 → Xz E G (sz I 120 (wpN p f (x - p).toNat)) J 43 [some (zr G 0), some (zi (I 2 0)), some (zi p), some (zi x)] [] := by
          refine zUp ?_ ?_
          · refine Z_iload3 (pc := 43) ok dX11_countWays_43 ?_
            refine Z_sipush (pc := 44) ok dX11_countWays_44 (by decide) ?_
            refine Z_icmp_gt (pc := 47) (tgt := 73) ok dX11_countWays_47 rfl (by first | omega | (simp [sz, uz]; omega)) (by first | omega | (simp [sz, uz]; omega)) (fun _ => ?_) (fun h => by exfalso; omega)
            refine Z_iinc2 (pc := 73) ok (by decide) dX11_countWays_73 rfl ?_
            refine Z_goto (pc := 76) (tgt := 28) ok dX11_countWays_76 rfl ?_
            exact ih _
          · intro x x0 x1 ih2
            rw [show (x + 1 - p).toNat = (x - p).toNat + 1 by omega, wpN, show p + (((x - p).toNat : Nat) : Int) = x by omega, show (((x - p).toNat : Nat) : Int) = x - p by omega] at ih2
            refine Z_iload3 (pc := 43) ok dX11_countWays_43 ?_
            refine Z_sipush (pc := 44) ok dX11_countWays_44 (by decide) ?_
            refine Z_icmp_gt (pc := 47) (tgt := 73) ok dX11_countWays_47 rfl (by first | omega | (simp [sz, uz]; omega)) (by first | omega | (simp [sz, uz]; omega)) (fun h => by exfalso; omega) (fun _ => ?_)
            refine Z_aload0 (pc := 50) ok dX11_countWays_50 ?_
            refine g_X11_waysTo (pc := 51) (t := 120) ok dX11_countWays_51 kw353 rfl rfl ?_
            refine Z_iload3 (pc := 54) ok dX11_countWays_54 ?_
            refine Z_dup2 (pc := 55) ok dX11_countWays_55 rfl rfl ?_
            refine Z_iald (pc := 56) (L := 201) ok dX11_countWays_56 rfl rfl (by first | omega | (simp [sz, uz]; omega)) ?_
            refine Z_aload0 (pc := 57) ok dX11_countWays_57 ?_
            refine g_X11_waysTo (pc := 58) (t := 120) ok dX11_countWays_58 kw353 rfl rfl ?_
            refine Z_iload3 (pc := 61) ok dX11_countWays_61 ?_
            refine Z_iload2 (pc := 62) ok dX11_countWays_62 ?_
            refine Z_isub (pc := 63) ok dX11_countWays_63 ?_
            refine Z_iald (pc := 64) (L := 201) ok dX11_countWays_64 rfl rfl (by first | omega | (simp [sz, uz]; omega)) ?_
            refine Z_iadd (pc := 65) ok dX11_countWays_65 ?_
            refine Z_iast (pc := 66) (L := 201) ok dX11_countWays_66 rfl rfl (by first | omega | (simp [sz, uz]; omega)) ?_
            refine Z_iinc3 (pc := 67) ok (by decide) dX11_countWays_67 rfl ?_
            refine Z_goto (pc := 70) (tgt := 43) ok dX11_countWays_70 rfl ?_
            rw [sz_sz, sz_eq]
            exact ih2
        have h0 := H2 p (by omega) (by omega)
        rw [Int.sub_self] at h0
        exact h0
  exact H 2 (by omega) (by omega) none
theorem c_possible {w : Int} (hw : -2147483648 ≤ w ∧ w ≤ 2147483647) (h1 : gR (I 2 0) (I 3)) : K_X11_possible l G [zr G 0, zi w] I J (fun v I' J' => ∃ r, v = some (zi r) ∧ (fr [120] I I' ∧ J' = J ∧ ((¬ (0 ≤ w ∧ w ≤ 200) ∧ r = -2) ∨ ((0 ≤ w ∧ w ≤ 200) ∧ r = zb (0 < tw (WY (I 2 0) w)))))) := by
  refine Cz.of rfl (Nat.le_of_ble_eq_true rfl) [some (zr G 0), some (zi w)] rfl (fun E ok okr hE => ?_)
  refine Z_iload1 (pc := 0) ok dX11_possible_0 ?_
  refine Z_if_lt (pc := 1) (tgt := 11) ok dX11_possible_1 rfl (by first | omega | (simp [sz, uz]; omega)) (fun h => ?_) (fun h => ?_)
  · refine Z_bipush (pc := 11) ok dX11_possible_11 (by decide) ?_
    refine Z_iret (pc := 13) ok okr dX11_possible_13 ?_
    exact ⟨_, rfl, fr.rf, rfl, Or.inl ⟨by omega, rfl⟩⟩
  · refine Z_iload1 (pc := 4) ok dX11_possible_4 ?_
    refine Z_sipush (pc := 5) ok dX11_possible_5 (by decide) ?_
    refine Z_icmp_le (pc := 8) (tgt := 14) ok dX11_possible_8 rfl (by first | omega | (simp [sz, uz]; omega)) (by first | omega | (simp [sz, uz]; omega)) (fun h2 => ?_) (fun h2 => ?_)
    · refine Z_aload0 (pc := 14) ok dX11_possible_14 ?_
      refine Z_callVVd (pc := 15) ok dX11_possible_15 cw_X11_203 rfl rfl (by decide) (c_countWays h1) rfl rfl (by decide) (Nat.le_of_ble_eq_true rfl) ?_
      refine Z_aload0 (pc := 18) ok dX11_possible_18 ?_
      refine g_X11_waysTo (pc := 19) (t := 120) ok dX11_possible_19 kw353 rfl rfl ?_
      refine Z_iload1 (pc := 22) ok dX11_possible_22 ?_
      refine Z_iald (pc := 23) (L := 201) ok dX11_possible_23 rfl rfl (by first | omega | (simp [sz, uz]; omega)) ?_
      rw [sz_eq, zi_tw (WY (I 2 0) w)]
      have := tw_r (WY (I 2 0) w)
      refine Z_if_le (pc := 24) (tgt := 31) ok dX11_possible_24 rfl (by first | omega | (simp [sz, uz]; omega)) (fun h3 => ?_) (fun h3 => ?_)
      · refine Z_iconst (pc := 31) ok dX11_possible_31 ?_
        refine Z_iret (pc := 32) ok okr dX11_possible_32 ?_
        exact ⟨_, rfl, fr.rf.st rfl, rfl, Or.inr ⟨by omega, by rw [zb_f (by omega)]⟩⟩
      · refine Z_iconst (pc := 27) ok dX11_possible_27 ?_
        refine Z_goto (pc := 28) (tgt := 32) ok dX11_possible_28 rfl ?_
        refine Z_iret (pc := 32) ok okr dX11_possible_32 ?_
        exact ⟨_, rfl, fr.rf.st rfl, rfl, Or.inr ⟨by omega, by rw [zb_t h3]⟩⟩
    · refine Z_bipush (pc := 11) ok dX11_possible_11 (by decide) ?_
      refine Z_iret (pc := 13) ok okr dX11_possible_13 ?_
      exact ⟨_, rfl, fr.rf, rfl, Or.inl ⟨by omega, rfl⟩⟩
theorem c_ways {w : Int} (hw : -2147483648 ≤ w ∧ w ≤ 2147483647) (h1 : gR (I 2 0) (I 3)) : K_X11_ways l G [zr G 0, zi w] I J (fun v I' J' => ∃ r, v = some (zi r) ∧ (fr [120] I I' ∧ J' = J ∧ ((¬ (0 ≤ w ∧ w ≤ 200) ∧ r = -2) ∨ ((0 ≤ w ∧ w ≤ 200) ∧ r = tw (WY (I 2 0) w))))) := by
  refine Cz.of rfl (Nat.le_of_ble_eq_true rfl) [some (zr G 0), some (zi w)] rfl (fun E ok okr hE => ?_)
  refine Z_iload1 (pc := 0) ok dX11_ways_0 ?_
  refine Z_if_lt (pc := 1) (tgt := 11) ok dX11_ways_1 rfl (by first | omega | (simp [sz, uz]; omega)) (fun h => ?_) (fun h => ?_)
  · refine Z_bipush (pc := 11) ok dX11_ways_11 (by decide) ?_
    refine Z_iret (pc := 13) ok okr dX11_ways_13 ?_
    exact ⟨_, rfl, fr.rf, rfl, Or.inl ⟨by omega, rfl⟩⟩
  · refine Z_iload1 (pc := 4) ok dX11_ways_4 ?_
    refine Z_sipush (pc := 5) ok dX11_ways_5 (by decide) ?_
    refine Z_icmp_le (pc := 8) (tgt := 14) ok dX11_ways_8 rfl (by first | omega | (simp [sz, uz]; omega)) (by first | omega | (simp [sz, uz]; omega)) (fun h2 => ?_) (fun h2 => ?_)
    · refine Z_aload0 (pc := 14) ok dX11_ways_14 ?_
      refine Z_callVVd (pc := 15) ok dX11_ways_15 cw_X11_203 rfl rfl (by decide) (c_countWays h1) rfl rfl (by decide) (Nat.le_of_ble_eq_true rfl) ?_
      refine Z_aload0 (pc := 18) ok dX11_ways_18 ?_
      refine g_X11_waysTo (pc := 19) (t := 120) ok dX11_ways_19 kw353 rfl rfl ?_
      refine Z_iload1 (pc := 22) ok dX11_ways_22 ?_
      refine Z_iald (pc := 23) (L := 201) ok dX11_ways_23 rfl rfl (by first | omega | (simp [sz, uz]; omega)) ?_
      rw [sz_eq, zi_tw (WY (I 2 0) w)]
      refine Z_iret (pc := 24) ok okr dX11_ways_24 ?_
      exact ⟨_, rfl, fr.rf.st rfl, rfl, Or.inr ⟨by omega, rfl⟩⟩
    · refine Z_bipush (pc := 11) ok dX11_ways_11 (by decide) ?_
      refine Z_iret (pc := 13) ok okr dX11_ways_13 ?_
      exact ⟨_, rfl, fr.rf, rfl, Or.inl ⟨by omega, rfl⟩⟩
theorem c_hole {k : Int} (hk : -2147483648 ≤ k ∧ k ≤ 2147483647) (h1 : gR (I 2 0) (I 3)) : K_X11_hole l G [zr G 0, zi k] I J (fun v I' J' => ∃ r, v = some (zi r) ∧ (fr [120] I I' ∧ J' = J ∧ ((k < 0 ∧ r = -1) ∨ (0 ≤ k ∧ r = fz (fun w => tw (WY (I 2 0) w) = 0 ∧ su (fun q => zb (1 ≤ q ∧ tw (WY (I 2 0) q) = 0)) w = k) (-5) 1 201)))) := by
  refine Cz.of rfl (Nat.le_of_ble_eq_true rfl) [some (zr G 0), some (zi k), none, none] rfl (fun E ok okr hE => ?_)
  refine Z_iload1 (pc := 0) ok dX11_hole_0 ?_
  refine Z_if_ge (pc := 1) (tgt := 6) ok dX11_hole_1 rfl (by first | omega | (simp [sz, uz]; omega)) (fun h => ?_) (fun h => ?_)
  · refine Z_aload0 (pc := 6) ok dX11_hole_6 ?_
    refine Z_callVVd (pc := 7) ok dX11_hole_7 cw_X11_203 rfl rfl (by decide) (c_countWays h1) rfl rfl (by decide) (Nat.le_of_ble_eq_true rfl) ?_
    refine Z_iconst (pc := 10) ok dX11_hole_10 ?_
    refine Z_istore2 (pc := 11) ok (by decide) dX11_hole_11 rfl ?_
    refine Z_iconst (pc := 12) ok dX11_hole_12 ?_
    refine Z_istore3 (pc := 13) ok (by decide) dX11_hole_13 rfl ?_
    have H : ∀ w : Int, 1 ≤ w → w ≤ 201 → fz (fun w => tw (WY (I 2 0) w) = 0 ∧ su (fun q => zb (1 ≤ q ∧ tw (WY (I 2 0) q) = 0)) w = k) (-5) w 201 = fz (fun w => tw (WY (I 2 0) w) = 0 ∧ su (fun q => zb (1 ≤ q ∧ tw (WY (I 2 0) q) = 0)) w = k) (-5) 1 201 → Xz E G (sz I 120 (WY (I 2 0))) J 14 [some (zr G 0), some (zi k), some (zi (su (fun q => zb (1 ≤ q ∧ tw (WY (I 2 0) q) = 0)) w)), some (zi w)] [] := by
      refine zUp ?_ ?_
      · intro hf
        refine Z_iload3 (pc := 14) ok dX11_hole_14 ?_
        refine Z_sipush (pc := 15) ok dX11_hole_15 (by decide) ?_
        refine Z_icmp_gt (pc := 18) (tgt := 46) ok dX11_hole_18 rfl (by first | omega | (simp [sz, uz]; omega)) (by first | omega | (simp [sz, uz]; omega)) (fun _ => ?_) (fun h => by exfalso; omega)
        refine Z_bipush (pc := 46) ok dX11_hole_46 (by decide) ?_
        refine Z_iret (pc := 48) ok okr dX11_hole_48 ?_
        exact ⟨_, rfl, fr.rf.st rfl, rfl, Or.inr ⟨h, by rw [← hf, fz_end _ _ (Int.le_refl _)]⟩⟩
      · intro w w0 w1 ih hf
        have hz := su_zb (fun q => 1 ≤ q ∧ tw (WY (I 2 0) q) = 0) (e := w) (by omega)
        rw [su_s _ (show 0 ≤ w by omega)] at ih
        have := tw_r (WY (I 2 0) w)
        refine Z_iload3 (pc := 14) ok dX11_hole_14 ?_
        refine Z_sipush (pc := 15) ok dX11_hole_15 (by decide) ?_
        refine Z_icmp_gt (pc := 18) (tgt := 46) ok dX11_hole_18 rfl (by first | omega | (simp [sz, uz]; omega)) (by first | omega | (simp [sz, uz]; omega)) (fun h => by exfalso; omega) (fun _ => ?_)
        refine Z_aload0 (pc := 21) ok dX11_hole_21 ?_
        refine g_X11_waysTo (pc := 22) (t := 120) ok dX11_hole_22 kw353 rfl rfl ?_
        refine Z_iload3 (pc := 25) ok dX11_hole_25 ?_
        refine Z_iald (pc := 26) (L := 201) ok dX11_hole_26 rfl rfl (by first | omega | (simp [sz, uz]; omega)) ?_
        rw [sz_eq, zi_tw (WY (I 2 0) w)]
        refine Z_if_ne (pc := 27) (tgt := 40) ok dX11_hole_27 rfl (by first | omega | (simp [sz, uz]; omega)) (fun h2 => ?_) (fun h2 => ?_)
        · refine Z_iinc3 (pc := 40) ok (by decide) dX11_hole_40 rfl ?_
          refine Z_goto (pc := 43) (tgt := 14) ok dX11_hole_43 rfl ?_
          rw [zb_f (fun q => h2 q.2), Int.add_zero] at ih
          rw [fz_miss (P := fun w => tw (WY (I 2 0) w) = 0 ∧ su (fun q => zb (1 ≤ q ∧ tw (WY (I 2 0) q) = 0)) w = k) w1 (fun q => h2 q.1)] at hf
          exact ih hf
        · rw [zb_t ⟨w0, h2⟩] at ih
          refine Z_iload2 (pc := 30) ok dX11_hole_30 ?_
          refine Z_iload1 (pc := 31) ok dX11_hole_31 ?_
          refine Z_icmp_ne (pc := 32) (tgt := 37) ok dX11_hole_32 rfl (by first | omega | (simp [sz, uz]; omega)) (by first | omega | (simp [sz, uz]; omega)) (fun h3 => ?_) (fun h3 => ?_)
          · refine Z_iinc2 (pc := 37) ok (by decide) dX11_hole_37 rfl ?_
            refine Z_iinc3 (pc := 40) ok (by decide) dX11_hole_40 rfl ?_
            refine Z_goto (pc := 43) (tgt := 14) ok dX11_hole_43 rfl ?_
            rw [fz_miss (P := fun w => tw (WY (I 2 0) w) = 0 ∧ su (fun q => zb (1 ≤ q ∧ tw (WY (I 2 0) q) = 0)) w = k) w1 (fun q => h3 q.2)] at hf
            exact ih hf
          · refine Z_iload3 (pc := 35) ok dX11_hole_35 ?_
            refine Z_iret (pc := 36) ok okr dX11_hole_36 ?_
            rw [fz_hit (P := fun w => tw (WY (I 2 0) w) = 0 ∧ su (fun q => zb (1 ≤ q ∧ tw (WY (I 2 0) q) = 0)) w = k) w1 ⟨h2, h3⟩] at hf
            exact ⟨_, rfl, fr.rf.st rfl, rfl, Or.inr ⟨h, hf⟩⟩
    have h0 := H 1 (by omega) (by omega) rfl
    have e1 : su (fun q => zb (1 ≤ q ∧ tw (WY (I 2 0) q) = 0)) 1 = 0 := by
      rw [show (1 : Int) = 0 + 1 from rfl, su_s _ (by omega), su_0, zb_f (fun q => by have := q.1; omega)]; rfl
    rw [e1] at h0
    exact h0
  · refine Z_iconst (pc := 4) ok dX11_hole_4 ?_
    refine Z_iret (pc := 5) ok okr dX11_hole_5 ?_
    exact ⟨_, rfl, fr.rf, rfl, Or.inl ⟨h, rfl⟩⟩
end
