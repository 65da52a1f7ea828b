/-! BitRows, listed, filled -/
def r1 (n t : Int) : Int := zand (zor (t * 2 ^ (1 : Int).toNat) (t / 2 ^ (n - 1).toNat)) (1 * 2 ^ n.toNat - 1)
def rtN (n x : Int) : Nat → Int
  | 0 => x
  | k + 1 => r1 n (rtN n x k)
theorem zand_b (a b : Int) (hb : 0 ≤ b) : 0 ≤ zand a b ∧ zand a b ≤ b := by
  have := Nat.and_le_right (n := a.toNat) (m := b.toNat)
  simp only [zand]; omega
theorem rtN_b {n x : Int} (h : 2 ≤ n ∧ n ≤ 12) (hx : 0 ≤ x ∧ x < 2 ^ n.toNat) : ∀ k, 0 ≤ rtN n x k ∧ rtN n x k < 2 ^ n.toNat
  | 0 => hx
  | k + 1 => by
    have hp := p2_b h
    have := zand_b (zor (rtN n x k * 2 ^ (1 : Int).toNat) (rtN n x k / 2 ^ (n - 1).toNat)) (1 * 2 ^ n.toNat - 1) (by omega)
    simp only [rtN, r1]; omega
def bR (I : Mz) (n : Int) : Prop := (0 ≤ I 100 4 ∧ I 100 4 ≤ 128) ∧ (∀ i, 0 ≤ i → i < I 100 4 → (0 ≤ I 102 i ∧ I 102 i < 2 ^ n.toNat) ∧ NB n (I 102 i)) ∧ (∀ i j, 0 ≤ i → i < j → j < I 100 4 → I 102 i < I 102 j) ∧ (∀ b, 0 ≤ b → b < 2 ^ n.toNat → NB n b → ∃ i, 0 ≤ i ∧ i < I 100 4 ∧ I 102 i = b)
def bOk (I : Mz) : Prop := I 100 2 = 0 ∨ ((2 ≤ I 100 2 ∧ I 100 2 ≤ 12) ∧ bR I (I 100 2))
def spl (n b : Int) : Prop := ∃ p, (0 ≤ p ∧ p < 2 ^ n.toNat) ∧ NB n p ∧ p ≠ 0 ∧ p ≠ b ∧ zand p b = p
def lst1 (n b : Int) : Prop := ∀ k, 1 ≤ k → k < n → b ≤ rtN n b k.toNat
def lsd (n w b : Int) : Prop := bc b = w ∧ ¬ spl n b ∧ lst1 n b
def cand (n s b : Int) : Prop := (0 ≤ b ∧ b < 2 ^ n.toNat) ∧ NB n b ∧ zand b s = s
theorem fz_skip {P : Int → Prop} {d a a' N : Int} (h : a ≤ a') (hN : a' ≤ N) (hp : ∀ b, a ≤ b → b < a' → ¬ P b) : fz P d a N = fz P d a' N := by
  obtain ⟨k, hk⟩ := Int.eq_ofNat_of_zero_le (show 0 ≤ a' - a by omega)
  have : ∀ k : Nat, (k : Int) ≤ a' - a → fz P d a N = fz P d (a + k) N := by
    intro k
    induction k with
    | zero => intro _; rw [show a + ((0 : Nat) : Int) = a by omega]
    | succ k ih =>
      intro hk
      rw [ih (by omega), fz_miss (by omega) (hp _ (by omega) (by omega)), show a + ((k + 1 : Nat) : Int) = a + k + 1 by omega]
  have h2 := this k (by omega)
  rwa [show a + (k : Int) = a' by omega] at h2
section
variable {l : Launch} {G : Gw} {I J : Mz}
theorem c_bitCount {x : Int} (hx : 0 ≤ x ∧ x < 4096) : K_J6_bitCount_0f7a4 l G [zi x] I J (pR (some (zi (bc x))) I J) := by
  refine Cz.of rfl (Nat.le_of_ble_eq_true rfl) [some (zi x)] rfl (fun E ok okr hE => ?_)
  show V E G (zI I) (zJ J) 0 [some (.int (Int32.ofInt x))] []
  refine V_iload0 (pc := 0) ok dJ6_bitCount_0f7a4_0 ?_
  refine V_iload0 (pc := 1) ok dJ6_bitCount_0f7a4_1 ?_
  refine V_iconst (pc := 2) ok dJ6_bitCount_0f7a4_2 rfl ?_
  refine V_iushr (pc := 3) ok dJ6_bitCount_0f7a4_3 rfl ?_
  refine V_ldcw (pc := 4) ok dJ6_bitCount_0f7a4_4 kw692 ?_
  refine V_iand (pc := 7) ok dJ6_bitCount_0f7a4_7 ?_
  refine V_isub (pc := 8) ok dJ6_bitCount_0f7a4_8 ?_
  refine V_istore0 (pc := 9) ok (by decide) dJ6_bitCount_0f7a4_9 ?_
  refine V_iload0 (pc := 10) ok dJ6_bitCount_0f7a4_10 ?_
  refine V_ldcw (pc := 11) ok dJ6_bitCount_0f7a4_11 kw693 ?_
  refine V_iand (pc := 14) ok dJ6_bitCount_0f7a4_14 ?_
  refine V_iload0 (pc := 15) ok dJ6_bitCount_0f7a4_15 ?_
  refine V_iconst (pc := 16) ok dJ6_bitCount_0f7a4_16 rfl ?_
  refine V_iushr (pc := 17) ok dJ6_bitCount_0f7a4_17 rfl ?_
  refine V_ldcw (pc := 18) ok dJ6_bitCount_0f7a4_18 kw693 ?_
  refine V_iand (pc := 21) ok dJ6_bitCount_0f7a4_21 ?_
  refine V_iadd (pc := 22) ok dJ6_bitCount_0f7a4_22 ?_
  refine V_istore0 (pc := 23) ok (by decide) dJ6_bitCount_0f7a4_23 ?_
  refine V_iload0 (pc := 24) ok dJ6_bitCount_0f7a4_24 ?_
  refine V_iload0 (pc := 25) ok dJ6_bitCount_0f7a4_25 ?_
  refine V_iconst (pc := 26) ok dJ6_bitCount_0f7a4_26 rfl ?_
  refine V_iushr (pc := 27) ok dJ6_bitCount_0f7a4_27 rfl ?_
  refine V_iadd (pc := 28) ok dJ6_bitCount_0f7a4_28 ?_
  refine V_ldcw (pc := 29) ok dJ6_bitCount_0f7a4_29 kw694 ?_
  refine V_iand (pc := 32) ok dJ6_bitCount_0f7a4_32 ?_
  refine V_istore0 (pc := 33) ok (by decide) dJ6_bitCount_0f7a4_33 ?_
  refine V_iload0 (pc := 34) ok dJ6_bitCount_0f7a4_34 ?_
  refine V_iload0 (pc := 35) ok dJ6_bitCount_0f7a4_35 ?_
  refine V_bipush (pc := 36) ok dJ6_bitCount_0f7a4_36 rfl ?_
  refine V_iushr (pc := 38) ok dJ6_bitCount_0f7a4_38 rfl ?_
  refine V_iadd (pc := 39) ok dJ6_bitCount_0f7a4_39 ?_
  refine V_istore0 (pc := 40) ok (by decide) dJ6_bitCount_0f7a4_40 ?_
  refine V_iload0 (pc := 41) ok dJ6_bitCount_0f7a4_41 ?_
  refine V_iload0 (pc := 42) ok dJ6_bitCount_0f7a4_42 ?_
  refine V_bipush (pc := 43) ok dJ6_bitCount_0f7a4_43 rfl ?_
  refine V_iushr (pc := 45) ok dJ6_bitCount_0f7a4_45 rfl ?_
  refine V_iadd (pc := 46) ok dJ6_bitCount_0f7a4_46 ?_
  refine V_istore0 (pc := 47) ok (by decide) dJ6_bitCount_0f7a4_47 ?_
  refine V_iload0 (pc := 48) ok dJ6_bitCount_0f7a4_48 ?_
  refine V_bipush (pc := 49) ok dJ6_bitCount_0f7a4_49 rfl ?_
  refine V_iand (pc := 51) ok dJ6_bitCount_0f7a4_51 ?_
  refine V_iret (pc := 52) ok okr dJ6_bitCount_0f7a4_52 rfl ⟨I, J, rfl, rfl, ?_, rfl, rfl⟩
  have h := bc_eq hx
  show some (Value.int (bcI (Int32.ofInt x))) = some (zi (bc x))
  rw [h]; rfl
theorem c_bprep {b : Int} (hb : 2 ≤ b ∧ b ≤ 12) (hbo : bOk I) (hd : dOk I) (hp : pkOk I J) : K_X0_prepare l G [zr G 100, zi b] I J (fun v I' J' => v = none ∧ (I' 100 2 = b ∧ bR I' b ∧ dOk I' ∧ pkOk I' J' ∧ fr [87, 88, 89, 91, 92, 93, 95, 100, 101, 102] I I' ∧ fr [90, 94] J J')) := by
  have hp2 := p2_b hb
  have hr : 0 ≤ I 100 2 ∧ I 100 2 ≤ 12 := by rcases hbo with h | h <;> omega
  refine Cz.of rfl (Nat.le_of_ble_eq_true rfl) [some (zr G 100), some (zi b), none] rfl (fun E ok okr hE => ?_)
  refine Z_aload0 (pc := 0) ok dX0_prepare_0 ?_
  refine g_X0_n (pc := 1) ok dX0_prepare_1 kw264 rfl ?_
  refine Z_iload1 (pc := 4) ok dX0_prepare_4 ?_
  refine Z_icmp_eq (pc := 5) (tgt := 21) ok dX0_prepare_5 rfl (by first | omega | (simp [sz, uz] <;> omega)) (by first | omega | (simp [sz, uz] <;> omega)) (fun h => ?_) (fun h => ?_)
  · refine Z_vret (pc := 21) ok okr dX0_prepare_21 ?_
    rcases hbo with h1 | h1
    · omega
    · exact ⟨rfl, h, by rw [← h]; exact h1.2, hd, hp, fr.rf, fr.rf⟩
  · refine Z_iload1 (pc := 8) ok dX0_prepare_8 ?_
    refine Z_callNId (pc := 9) ok dX0_prepare_9 cw_X0_26 (c_isBase (by omega)) rfl rfl (by decide) (Nat.le_of_ble_eq_true rfl) ?_
    refine Z_if_eqB (pc := 12) (tgt := 21) ok dX0_prepare_12 rfl (fun h => absurd h ((fun q => q ⟨hb.1, by omega⟩))) (fun h => ?_)
    refine Z_iload1 (pc := 15) ok dX0_prepare_15 ?_
    refine Z_bipush (pc := 16) ok dX0_prepare_16 (by decide) ?_
    refine Z_icmp_le (pc := 18) (tgt := 22) ok dX0_prepare_18 rfl (by first | omega | (simp [sz, uz] <;> omega)) (by first | omega | (simp [sz, uz] <;> omega)) (fun _ => ?_) (fun h => by exfalso; omega)
    refine Z_aload0 (pc := 22) ok dX0_prepare_22 ?_
    refine Z_iload1 (pc := 23) ok dX0_prepare_23 ?_
    refine p_X0_n (pc := 24) ok dX0_prepare_24 kw264 rfl ?_
    refine Z_aload0 (pc := 27) ok dX0_prepare_27 ?_
    refine Z_iconst (pc := 28) ok dX0_prepare_28 ?_
    refine p_X0_size (pc := 29) ok dX0_prepare_29 kw267 rfl ?_
    refine Z_aload0 (pc := 32) ok dX0_prepare_32 ?_
    refine g_X0_ones (pc := 33) (t := 101) ok dX0_prepare_33 kw263 rfl rfl ?_
    refine Z_iconst (pc := 36) ok dX0_prepare_36 ?_
    refine Z_callSVd (pc := 37) ok dX0_prepare_37 cw_X0_33 (c_fill rfl rfl 1) rfl rfl (by decide) (Nat.le_of_ble_eq_true rfl) ?_
    refine Z_gen (fun T hT => ?_)
    have t2 : T 100 2 = b := by rw [hT]; simp [sz, uz]
    have t4 : T 100 4 = 0 := by rw [hT]; simp [sz, uz]
    have t101 : T 101 = one1 := by rw [hT, sz_eq]; rfl
    have t87 : T 87 = I 87 := by rw [hT]; simp [sz]
    have t88 : T 88 = I 88 := by rw [hT]; simp [sz]
    have fT : fr [87, 88, 89, 91, 92, 93, 95, 100, 101, 102] I T := by rw [hT]; exact ((fr.rf.st rfl).st rfl).st rfl
    clear hT
    refine Z_aload0 (pc := 40) ok dX0_prepare_40 ?_
    refine g_X0_walk (pc := 41) (t := 91) ok dX0_prepare_41 kw262 rfl rfl ?_
    refine Z_aload0 (pc := 44) ok dX0_prepare_44 ?_
    refine g_X0_n (pc := 45) ok dX0_prepare_45 kw264 rfl ?_
    refine Z_aload0 (pc := 48) ok dX0_prepare_48 ?_
    refine g_X0_ones (pc := 49) (t := 101) ok dX0_prepare_49 kw263 rfl rfl ?_
    rw [t2]
    refine Z_callVV (pc := 52) ok dX0_prepare_52 cw_X0_39 rfl rfl (by decide) (c_begin rfl rfl (by decide) ⟨hb.1, by omega⟩ (by rw [t101]; exact fun _ => by show (0 : Int) ≤ 1 ∧ (1 : Int) ≤ 9; omega) (dOk_c hd t87 t88) (by unfold pkOk at *; rw [t87]; exact hp)) rfl rfl (by decide) (Nat.le_of_ble_eq_true rfl) (fun I1 J1 q => ?_)
    refine Z_iconst (pc := 55) ok dX0_prepare_55 ?_
    refine Z_istore2 (pc := 56) ok (by decide) dX0_prepare_56 rfl ?_
    obtain ⟨q1, q2, q3⟩ := q
    rw [t101] at q1
    have f1 : fr [87, 88, 89, 91, 92, 93, 95, 100, 101, 102] I I1 := fun a ha => by
      rw [q2 a (by simp at ha; omega) (by simp at ha; omega) (by simp at ha; omega)]; exact fT a ha
    have fJ1 : fr [90, 94] J J1 := fun a ha => q3 a (by simp at ha; omega) (by simp at ha; omega)
    have a100 : I1 100 = T 100 := q2 100 (by decide) (by decide) (by decide)
    have hc0 : ∀ e, 0 ≤ one1 e := fun _ => by show (0 : Int) ≤ 1; omega
    have hc9 : ∀ e, one1 e ≤ 9 := fun _ => by show (1 : Int) ≤ 9; omega
    have hn : 2 ≤ b ∧ b ≤ 30 := ⟨hb.1, by omega⟩
    have hPR : prR one1 b.toNat 0 = 2 ^ b.toNat := prR1 _ _
    have hcb := cb_le hb
    have H : ∀ i : Int, 0 ≤ i → i ≤ 2 ^ b.toNat → ∀ I2 J2 : Mz, (i < 2 ^ b.toNat → WI I2 J2 b one1 (dcv one1 b.toNat 0 i)) → dP I2 b → I2 87 1 = b → J2 90 = PK b → I2 100 2 = b → I2 100 4 = su (fun k => zb (NB b k)) i → (∀ j, 0 ≤ j → j < I2 100 4 → (0 ≤ I2 102 j ∧ I2 102 j < i) ∧ NB b (I2 102 j)) → (∀ j k, 0 ≤ j → j < k → k < I2 100 4 → I2 102 j < I2 102 k) → (∀ k, 0 ≤ k → k < i → NB b k → ∃ j, 0 ≤ j ∧ j < I2 100 4 ∧ I2 102 j = k) → fr [87, 88, 89, 91, 92, 93, 95, 100, 101, 102] I I2 → fr [90, 94] J J2 → Xz E G I2 J2 57 [some (zr G 100), some (zi b), some (zi i)] [] := by
      refine zUp ?_ ?_
      · intro I2 J2 hW hdp h871 h90 h2 h4 r2 r3 r4 f2 fJ2
        refine Z_iload2 (pc := 57) ok dX0_prepare_57 ?_
        refine Z_iconst (pc := 58) ok dX0_prepare_58 ?_
        refine Z_aload0 (pc := 59) ok dX0_prepare_59 ?_
        refine g_X0_n (pc := 60) ok dX0_prepare_60 kw264 rfl ?_
        refine Z_ishl (pc := 63) ok dX0_prepare_63 (by omega) ?_
        rw [h2, Int.one_mul]
        refine Z_icmp_ge (pc := 64) (tgt := 121) ok dX0_prepare_64 rfl (by first | omega | (simp [sz, uz] <;> omega)) (by first | omega | (simp [sz, uz] <;> omega)) (fun _ => ?_) (fun h => by exfalso; omega)
        refine Z_vret (pc := 121) ok okr dX0_prepare_121 ?_
        have hz := su_zb (fun k => NB b k) (e := 2 ^ b.toNat) (by omega)
        refine ⟨rfl, h2, ⟨by omega, r2, r3, r4⟩, Or.inr (by rw [hdp.1]; exact ⟨hn, hdp⟩), Or.inr (by rw [h871]; exact ⟨hn, h90⟩), f2, fJ2⟩
      · intro i i0 i1 ih I2 J2 hW hdp h871 h90 h2 h4 r2 r3 r4 f2 fJ2
        have hW := hW i1
        have hz := su_zb (fun k => NB b k) (e := i) i0
        have hmono := su_mono (f := fun k => zb (NB b k)) (a := i + 1) (b := 2 ^ b.toNat) (by omega) (by omega) (fun j => by rcases zb_01 (NB b j) with q | q <;> rw [q] <;> decide)
        rw [su_s _ i0] at hmono
        have hb9 : ∀ e, 0 ≤ dcv one1 b.toNat 0 i e ∧ dcv one1 b.toNat 0 i e ≤ 9 := fun e => by have := dcv_b hc0 b.toNat 0 i e; have := hc9 e; omega
        -- the step on
        have stp : ∀ I3 : Mz, I3 100 2 = b → I3 100 4 = su (fun k => zb (NB b k)) (i + 1) → (∀ j, 0 ≤ j → j < I3 100 4 → (0 ≤ I3 102 j ∧ I3 102 j < i + 1) ∧ NB b (I3 102 j)) → (∀ j k, 0 ≤ j → j < k → k < I3 100 4 → I3 102 j < I3 102 k) → (∀ k, 0 ≤ k → k < i + 1 → NB b k → ∃ j, 0 ≤ j ∧ j < I3 100 4 ∧ I3 102 j = k) → (∀ a, a ≠ 100 → a ≠ 102 → I3 a = I2 a) → Xz E G I3 J2 107 [some (zr G 100), some (zi b), some (zi i)] [] := by
          intro I3 k2 k4 s2 s3 s4 fe
          have hW3 : WI I3 J2 b one1 (dcv one1 b.toNat 0 i) := by
            obtain ⟨w1, w2, w3, w4, w5, w6, w7⟩ := hW
            refine ⟨dP_c w1 (fe 87 (by decide) (by decide)) (fe 88 (by decide) (by decide)), by rw [fe 87 (by decide) (by decide)]; exact w2, w3, ?_, by rw [fe 95 (by decide) (by decide)]; exact w5, by rw [fe 91 (by decide) (by decide)]; exact w6, w7⟩
            simp only [rtOk, fe 91 (by decide) (by decide), fe 92 (by decide) (by decide), fe 93 (by decide) (by decide)]
            exact w4
          have f3 : fr [87, 88, 89, 91, 92, 93, 95, 100, 101, 102] I I3 := fun a ha => by rw [fe a (by simp at ha; omega) (by simp at ha; omega)]; exact f2 a ha
          have dp3 : dP I3 b := hW3.1
          refine Z_aload0 (pc := 107) ok dX0_prepare_107 ?_
          refine g_X0_walk (pc := 108) (t := 91) ok dX0_prepare_108 kw262 rfl rfl ?_
          refine Z_callVI (pc := 111) ok dX0_prepare_111 cw_X0_49 rfl rfl (by decide) (c_goesOn hn hc9 (dcv_b hc0 _ _ _) (dcv_v (by omega) hc0 _).2 hW3) rfl rfl (by decide) (Nat.le_of_ble_eq_true rfl) (fun r I4 J4 hq => ?_)
          refine Z_pop (pc := 114) ok dX0_prepare_114 rfl ?_
          refine Z_iinc2 (pc := 115) ok (by decide) dX0_prepare_115 rfl ?_
          refine Z_goto (pc := 118) (tgt := 57) ok dX0_prepare_118 rfl ?_
          obtain ⟨⟨fi, fj⟩, hq⟩ := hq
          have e100 : I4 100 = I3 100 := fi 100 (by decide) (by decide)
          have e102 : I4 102 = I3 102 := fi 102 (by decide) (by decide)
          have e87 : I4 87 = I3 87 := fi 87 (by decide) (by decide)
          have e88 : I4 88 = I3 88 := fi 88 (by decide) (by decide)
          refine ih I4 J4 (fun hlt => ?_) (dP_c dp3 e87 e88) (by rw [e87, fe 87 (by decide) (by decide)]; exact h871) (by rw [fj 90 (by decide)]; exact h90) (by rw [e100]; exact k2) (by rw [e100]; exact k4) (by rw [e100, e102]; exact s2) (by rw [e100, e102]; exact s3) (by rw [e100, e102]; exact s4) (fun a ha => by rw [fi a (by simp at ha; omega) (by simp at ha; omega)]; exact f3 a ha) (fun a ha => by rw [fj a (by simp at ha; omega)]; exact fJ2 a ha)
          rcases dcv_nx hc0 b.toNat 0 i i0 (by omega) with ⟨e', a1, a2, a3, a4, a5⟩ | ⟨a1, a2⟩
          · rcases hq with ⟨_, e, b2, b3, b4, b5⟩ | ⟨_, b2⟩
            · have hee : e = e' := by
                rcases Int.lt_trichotomy e e' with q | q | q
                · have := a2 e b2.1 q; omega
                · exact q
                · have := b3 e' a1.1 q; omega
              rw [a5, ← hee]; exact b5
            · have := b2 e' a1.1 (by omega); omega
          · omega
        refine Z_iload2 (pc := 57) ok dX0_prepare_57 ?_
        refine Z_iconst (pc := 58) ok dX0_prepare_58 ?_
        refine Z_aload0 (pc := 59) ok dX0_prepare_59 ?_
        refine g_X0_n (pc := 60) ok dX0_prepare_60 kw264 rfl ?_
        refine Z_ishl (pc := 63) ok dX0_prepare_63 (by omega) ?_
        rw [h2, Int.one_mul]
        refine Z_icmp_ge (pc := 64) (tgt := 121) ok dX0_prepare_64 rfl (by first | omega | (simp [sz, uz] <;> omega)) (by first | omega | (simp [sz, uz] <;> omega)) (fun h => by exfalso; omega) (fun _ => ?_)
        refine Z_aload0 (pc := 67) ok dX0_prepare_67 ?_
        refine g_X0_walk (pc := 68) (t := 91) ok dX0_prepare_68 kw262 rfl rfl ?_
        refine Z_callVId (pc := 71) ok dX0_prepare_71 cw_X0_45 rfl rfl (by decide) (c_isAtNought hn hb9 hW.2.2.2.2.2.2) rfl rfl (by decide) (Nat.le_of_ble_eq_true rfl) ?_
        refine Z_if_eqB (pc := 74) (tgt := 107) ok dX0_prepare_74 rfl (fun h5 => ?_) (fun h5 => ?_)
        · have h5 : ¬ NB b i := h5
          refine stp I2 h2 (by rw [su_s _ i0, zb_f h5, Int.add_zero]; exact h4) (fun j j0 j1 => ?_) r3 (fun k k0 k1 hk => ?_) (fun _ _ _ => rfl)
          · have := r2 j j0 j1; exact ⟨by omega, this.2⟩
          · by_cases q : k = i
            · rw [q] at hk; exact absurd hk h5
            · exact r4 k k0 (by omega) hk
        · have h5 : NB b i := h5
          rw [zb_t h5] at hmono
          refine Z_aload0 (pc := 77) ok dX0_prepare_77 ?_
          refine g_X0_size (pc := 78) ok dX0_prepare_78 kw267 rfl ?_
          refine Z_sipush (pc := 81) ok dX0_prepare_81 (by decide) ?_
          refine Z_icmp_ge (pc := 84) (tgt := 107) ok dX0_prepare_84 rfl (by first | omega | (simp [sz, uz] <;> omega)) (by first | omega | (simp [sz, uz] <;> omega)) (fun h => by exfalso; omega) (fun _ => ?_)
          refine Z_aload0 (pc := 87) ok dX0_prepare_87 ?_
          refine g_X0_rows (pc := 88) (t := 102) ok dX0_prepare_88 kw265 rfl rfl ?_
          refine Z_aload0 (pc := 91) ok dX0_prepare_91 ?_
          refine g_X0_size (pc := 92) ok dX0_prepare_92 kw267 rfl ?_
          refine Z_iload2 (pc := 95) ok dX0_prepare_95 ?_
          refine Z_iast (pc := 96) (L := 128) ok dX0_prepare_96 rfl rfl (by first | omega | (simp [sz, uz] <;> omega)) ?_
          refine Z_aload0 (pc := 97) ok dX0_prepare_97 ?_
          refine Z_dup (pc := 98) ok dX0_prepare_98 rfl ?_
          refine g_X0_size (pc := 99) ok dX0_prepare_99 kw267 rfl ?_
          refine Z_iconst (pc := 102) ok dX0_prepare_102 ?_
          refine Z_iadd (pc := 103) ok dX0_prepare_103 ?_
          refine p_X0_size (pc := 104) ok dX0_prepare_104 kw267 rfl ?_
          have e4 : sz I2 102 (uz (I2 102) (I2 100 4) i) 100 = I2 100 := sz_ne _ _ (by decide)
          rw [e4]
          refine stp _ ?_ ?_ (fun j j0 j1 => ?_) (fun j k j0 j1 j2 => ?_) (fun k k0 k1 hk => ?_) (fun a a1 a2 => ?_)
          · rw [sz_eq, uz_ne _ _ (by decide)]; exact h2
          · rw [sz_eq, uz_eq, su_s _ i0, zb_t h5, h4]
          · rw [sz_eq, uz_eq] at j1
            rw [sz_ne _ _ (by decide), sz_eq]
            by_cases q : j = I2 100 4
            · rw [q, uz_eq]; exact ⟨by omega, h5⟩
            · rw [uz_ne _ _ q]; have := r2 j j0 (by omega); exact ⟨by omega, this.2⟩
          · rw [sz_eq, uz_eq] at j2
            rw [sz_ne _ _ (by decide), sz_eq, uz_ne _ _ (show j ≠ I2 100 4 by omega)]
            by_cases q : k = I2 100 4
            · rw [q, uz_eq]; have := (r2 j j0 (by omega)).1; omega
            · rw [uz_ne _ _ q]; exact r3 j k j0 j1 (by omega)
          · rw [sz_eq, uz_eq, sz_ne _ _ (show (102 : Nat) ≠ 100 by decide), sz_eq]
            by_cases q : k = i
            · exact ⟨I2 100 4, by omega, by omega, by rw [uz_eq, q]⟩
            · obtain ⟨j, j0, j1, j2⟩ := r4 k k0 (by omega) hk
              exact ⟨j, j0, by omega, by rw [uz_ne _ _ (by omega)]; exact j2⟩
          · rw [sz_ne _ _ a1, sz_ne _ _ a2]
    have z0 : dcv one1 b.toNat 0 0 = fun _ => 0 := dcv_0 _ _ _
    exact H 0 (by omega) (by omega) I1 J1 (fun _ => by rw [z0]; exact q1) q1.1 q1.2.1 q1.2.2.1 (by rw [a100]; exact t2) (by rw [a100]; exact t4) (fun j j0 j1 => by rw [a100, t4] at j1; omega) (fun j k j0 j1 j2 => by rw [a100, t4] at j2; omega) (fun k k0 k1 => by omega) f1 fJ1
theorem c_splits {n b : Int} (hn : 2 ≤ n ∧ n ≤ 12) (hR : bR I n) (hb : 0 ≤ b ∧ b < 2 ^ n.toNat) : K_X0_splits l G [zr G 100, zi b] I J (pR (some (zi (zb (spl n b)))) I J) := by
  have hp2 := p2_b hn
  obtain ⟨r1, r2, r3, r4⟩ := hR
  refine Cz.of rfl (Nat.le_of_ble_eq_true rfl) [some (zr G 100), some (zi b), none, none] rfl (fun E ok okr hE => ?_)
  refine Z_iconst (pc := 0) ok dX0_splits_0 ?_
  refine Z_istore2 (pc := 1) ok (by decide) dX0_splits_1 rfl ?_
  have H : ∀ i : Int, 0 ≤ i → i ≤ I 100 4 → (∀ j, 0 ≤ j → j < i → ¬ (I 102 j ≠ 0 ∧ I 102 j ≠ b ∧ zand (I 102 j) b = I 102 j)) → ∀ w, Xz E G I J 2 [some (zr G 100), some (zi b), some (zi i), w] [] := by
    refine zUp ?_ ?_
    · intro hj w
      refine Z_iload2 (pc := 2) ok dX0_splits_2 ?_
      refine Z_aload0 (pc := 3) ok dX0_splits_3 ?_
      refine g_X0_size (pc := 4) ok dX0_splits_4 kw267 rfl ?_
      refine Z_icmp_ge (pc := 7) (tgt := 41) ok dX0_splits_7 rfl (by first | omega | (simp [sz, uz] <;> omega)) (by first | omega | (simp [sz, uz] <;> omega)) (fun _ => ?_) (fun h => by exfalso; omega)
      refine Z_iconst (pc := 41) ok dX0_splits_41 ?_
      refine Z_bret (pc := 42) ok okr dX0_splits_42 (by first | exact Or.inl rfl | exact Or.inr rfl | exact zb_01 _ | assumption | omega) ?_
      have hq : ¬ spl n b := by
        rintro ⟨p, p1, p2, p3⟩
        obtain ⟨j, j0, j1, j2⟩ := r4 p p1.1 p1.2 p2
        rw [← j2] at p3
        exact hj j j0 j1 p3
      exact ⟨by rw [zb_f hq], rfl, rfl⟩
    · intro i i0 i1 ih hj w
      have hv := (r2 i i0 i1).1
      have hNB := (r2 i i0 i1).2
      have hz := zand_b (I 102 i) b hb.1
      have nxt : (¬ (I 102 i ≠ 0 ∧ I 102 i ≠ b ∧ zand (I 102 i) b = I 102 i)) → ∀ j, 0 ≤ j → j < i + 1 → ¬ (I 102 j ≠ 0 ∧ I 102 j ≠ b ∧ zand (I 102 j) b = I 102 j) := by
        intro hq j j0 j1
        by_cases q : j = i
        · rw [q]; exact hq
        · exact hj j j0 (by omega)
      refine Z_iload2 (pc := 2) ok dX0_splits_2 ?_
      refine Z_aload0 (pc := 3) ok dX0_splits_3 ?_
      refine g_X0_size (pc := 4) ok dX0_splits_4 kw267 rfl ?_
      refine Z_icmp_ge (pc := 7) (tgt := 41) ok dX0_splits_7 rfl (by first | omega | (simp [sz, uz] <;> omega)) (by first | omega | (simp [sz, uz] <;> omega)) (fun h => by exfalso; omega) (fun _ => ?_)
      refine Z_aload0 (pc := 10) ok dX0_splits_10 ?_
      refine g_X0_rows (pc := 11) (t := 102) ok dX0_splits_11 kw265 rfl rfl ?_
      refine Z_iload2 (pc := 14) ok dX0_splits_14 ?_
      refine Z_iald (pc := 15) (L := 128) ok dX0_splits_15 rfl rfl (by first | omega | (simp [sz, uz] <;> omega)) ?_
      refine Z_istore3 (pc := 16) ok (by decide) dX0_splits_16 rfl ?_
      refine Z_iload3 (pc := 17) ok dX0_splits_17 ?_
      refine Z_if_eq (pc := 18) (tgt := 35) ok dX0_splits_18 rfl (by first | omega | (simp [sz, uz] <;> omega)) (fun h1 => ?_) (fun h1 => ?_)
      · refine Z_iinc2 (pc := 35) ok (by decide) dX0_splits_35 rfl ?_
        refine Z_goto (pc := 38) (tgt := 2) ok dX0_splits_38 rfl ?_
        exact ih (nxt (fun q => q.1 h1)) _
      · refine Z_iload3 (pc := 21) ok dX0_splits_21 ?_
        refine Z_iload1 (pc := 22) ok dX0_splits_22 ?_
        refine Z_icmp_eq (pc := 23) (tgt := 35) ok dX0_splits_23 rfl (by first | omega | (simp [sz, uz] <;> omega)) (by first | omega | (simp [sz, uz] <;> omega)) (fun h2 => ?_) (fun h2 => ?_)
        · refine Z_iinc2 (pc := 35) ok (by decide) dX0_splits_35 rfl ?_
          refine Z_goto (pc := 38) (tgt := 2) ok dX0_splits_38 rfl ?_
          exact ih (nxt (fun q => q.2.1 h2)) _
        · refine Z_iload3 (pc := 26) ok dX0_splits_26 ?_
          refine Z_iload1 (pc := 27) ok dX0_splits_27 ?_
          refine Z_iandN (pc := 28) ok dX0_splits_28 hv.1 hb.1 ?_
          refine Z_iload3 (pc := 29) ok dX0_splits_29 ?_
          refine Z_icmp_ne (pc := 30) (tgt := 35) ok dX0_splits_30 rfl (by first | omega | (simp [sz, uz] <;> omega)) (by first | omega | (simp [sz, uz] <;> omega)) (fun h3 => ?_) (fun h3 => ?_)
          · refine Z_iinc2 (pc := 35) ok (by decide) dX0_splits_35 rfl ?_
            refine Z_goto (pc := 38) (tgt := 2) ok dX0_splits_38 rfl ?_
            exact ih (nxt (fun q => h3 q.2.2)) _
          · refine Z_iconst (pc := 33) ok dX0_splits_33 ?_
            refine Z_bret (pc := 34) ok okr dX0_splits_34 (by first | exact Or.inl rfl | exact Or.inr rfl | exact zb_01 _ | assumption | omega) ?_
            exact ⟨by rw [zb_t ⟨I 102 i, hv, hNB, h1, h2, h3⟩], rfl, rfl⟩
  exact H 0 (by omega) (by omega) (fun j j0 j1 => by omega) none
theorem c_isLeastTurned {n b : Int} (hn : 2 ≤ n ∧ n ≤ 12) (h2 : I 100 2 = n) (hb : 0 ≤ b ∧ b < 2 ^ n.toNat) : K_X0_isLeastTurned l G [zr G 100, zi b] I J (pR (some (zi (zb (lst1 n b)))) I J) := by
  have hp2 := p2_b hn
  refine Cz.of rfl (Nat.le_of_ble_eq_true rfl) [some (zr G 100), some (zi b), none, none] rfl (fun E ok okr hE => ?_)
  refine Z_iload1 (pc := 0) ok dX0_isLeastTurned_0 ?_
  refine Z_istore2 (pc := 1) ok (by decide) dX0_isLeastTurned_1 rfl ?_
  refine Z_iconst (pc := 2) ok dX0_isLeastTurned_2 ?_
  refine Z_istore3 (pc := 3) ok (by decide) dX0_isLeastTurned_3 rfl ?_
  have H : ∀ k : Int, 1 ≤ k → k ≤ n → (∀ j, 1 ≤ j → j < k → b ≤ rtN n b j.toNat) → Xz E G I J 4 [some (zr G 100), some (zi b), some (zi (rtN n b (k - 1).toNat)), some (zi k)] [] := by
    refine zUp ?_ ?_
    · intro hj
      refine Z_iload3 (pc := 4) ok dX0_isLeastTurned_4 ?_
      refine Z_aload0 (pc := 5) ok dX0_isLeastTurned_5 ?_
      refine g_X0_n (pc := 6) ok dX0_isLeastTurned_6 kw264 rfl ?_
      refine Z_icmp_ge (pc := 9) (tgt := 47) ok dX0_isLeastTurned_9 rfl (by first | omega | (simp [sz, uz] <;> omega)) (by first | omega | (simp [sz, uz] <;> omega)) (fun _ => ?_) (fun h => by exfalso; omega)
      refine Z_iconst (pc := 47) ok dX0_isLeastTurned_47 ?_
      refine Z_bret (pc := 48) ok okr dX0_isLeastTurned_48 (by first | exact Or.inl rfl | exact Or.inr rfl | exact zb_01 _ | assumption | omega) ?_
      exact ⟨by rw [zb_t (p := lst1 n b) hj], rfl, rfl⟩
    · intro k k0 k1 ih hj
      have hr := rtN_b hn hb (k - 1).toNat
      have hr2 := rtN_b hn hb ((k - 1).toNat + 1)
      rw [show (k + 1 - 1).toNat = (k - 1).toNat + 1 by omega] at ih
      have hd2 : 0 ≤ rtN n b (k - 1).toNat / 2 ^ (n - 1).toNat := (di_b hr.1 (Int.pow_pos (by decide))).1
      refine Z_iload3 (pc := 4) ok dX0_isLeastTurned_4 ?_
      refine Z_aload0 (pc := 5) ok dX0_isLeastTurned_5 ?_
      refine g_X0_n (pc := 6) ok dX0_isLeastTurned_6 kw264 rfl ?_
      refine Z_icmp_ge (pc := 9) (tgt := 47) ok dX0_isLeastTurned_9 rfl (by first | omega | (simp [sz, uz] <;> omega)) (by first | omega | (simp [sz, uz] <;> omega)) (fun h => by exfalso; omega) (fun _ => ?_)
      refine Z_iload2 (pc := 12) ok dX0_isLeastTurned_12 ?_
      refine Z_iconst (pc := 13) ok dX0_isLeastTurned_13 ?_
      refine Z_ishl (pc := 14) ok dX0_isLeastTurned_14 (by omega) ?_
      refine Z_iload2 (pc := 15) ok dX0_isLeastTurned_15 ?_
      refine Z_aload0 (pc := 16) ok dX0_isLeastTurned_16 ?_
      refine g_X0_n (pc := 17) ok dX0_isLeastTurned_17 kw264 rfl ?_
      refine Z_iconst (pc := 20) ok dX0_isLeastTurned_20 ?_
      refine Z_isub (pc := 21) ok dX0_isLeastTurned_21 ?_
      refine Z_ishr (pc := 22) ok dX0_isLeastTurned_22 (by omega) (by omega) ?_
      refine Z_iorN (pc := 23) ok dX0_isLeastTurned_23 (Int.mul_nonneg hr.1 (by decide)) (by rw [h2]; exact hd2) ?_
      refine Z_iconst (pc := 24) ok dX0_isLeastTurned_24 ?_
      refine Z_aload0 (pc := 25) ok dX0_isLeastTurned_25 ?_
      refine g_X0_n (pc := 26) ok dX0_isLeastTurned_26 kw264 rfl ?_
      refine Z_ishl (pc := 29) ok dX0_isLeastTurned_29 (by omega) ?_
      refine Z_iconst (pc := 30) ok dX0_isLeastTurned_30 ?_
      refine Z_isub (pc := 31) ok dX0_isLeastTurned_31 ?_
      refine Z_iandN (pc := 32) ok dX0_isLeastTurned_32 (by simp only [zor]; omega) (by rw [h2]; omega) ?_
      refine Z_istore2 (pc := 33) ok (by decide) dX0_isLeastTurned_33 rfl ?_
      rw [h2]
      show Xz E G I J 34 [some (zr G 100), some (zi b), some (zi (rtN n b ((k - 1).toNat + 1))), some (zi k)] []
      refine Z_iload2 (pc := 34) ok dX0_isLeastTurned_34 ?_
      refine Z_iload1 (pc := 35) ok dX0_isLeastTurned_35 ?_
      refine Z_icmp_ge (pc := 36) (tgt := 41) ok dX0_isLeastTurned_36 rfl (by first | omega | (simp [sz, uz] <;> omega)) (by first | omega | (simp [sz, uz] <;> omega)) (fun h3 => ?_) (fun h3 => ?_)
      · refine Z_iinc3 (pc := 41) ok (by decide) dX0_isLeastTurned_41 rfl ?_
        refine Z_goto (pc := 44) (tgt := 4) ok dX0_isLeastTurned_44 rfl ?_
        exact ih (fun j j0 j1 => by
          by_cases q : j = k
          · rw [q, show k.toNat = (k - 1).toNat + 1 by omega]; exact h3
          · exact hj j j0 (by omega))
      · refine Z_iconst (pc := 39) ok dX0_isLeastTurned_39 ?_
        refine Z_bret (pc := 40) ok okr dX0_isLeastTurned_40 (by first | exact Or.inl rfl | exact Or.inr rfl | exact zb_01 _ | assumption | omega) ?_
        have hq : ¬ lst1 n b := fun q => by
          have := q k k0 k1
          rw [show k.toNat = (k - 1).toNat + 1 by omega] at this
          omega
        exact ⟨by rw [zb_f hq], rfl, rfl⟩
  exact H 1 (by omega) (by omega) (fun j j0 j1 => by omega)
theorem c_isListed {n i w : Int} (hn : 2 ≤ n ∧ n ≤ 12) (h2 : I 100 2 = n) (hR : bR I n) (hi : 0 ≤ i ∧ i < I 100 4) (hw : 1 ≤ w ∧ w ≤ 12) : K_X0_isListed l G [zr G 100, zi i, zi w] I J (pR (some (zi (zb (lsd n w (I 102 i))))) I J) := by
  have hp2 := p2_b hn
  have hv := (hR.2.1 i hi.1 hi.2).1
  have hR1 := hR.1
  have hbc := bc_b (I 102 i)
  refine Cz.of rfl (Nat.le_of_ble_eq_true rfl) [some (zr G 100), some (zi i), some (zi w), none] rfl (fun E ok okr hE => ?_)
  refine Z_aload0 (pc := 0) ok dX0_isListed_0 ?_
  refine g_X0_rows (pc := 1) (t := 102) ok dX0_isListed_1 kw265 rfl rfl ?_
  refine Z_iload1 (pc := 4) ok dX0_isListed_4 ?_
  refine Z_iald (pc := 5) (L := 128) ok dX0_isListed_5 rfl rfl (by first | omega | (simp [sz, uz] <;> omega)) ?_
  refine Z_istore3 (pc := 6) ok (by decide) dX0_isListed_6 rfl ?_
  refine Z_iload3 (pc := 7) ok dX0_isListed_7 ?_
  refine Z_callSId (pc := 8) ok dX0_isListed_8 cw_X0_52 (c_bitCount (by omega)) rfl rfl (by decide) (Nat.le_of_ble_eq_true rfl) ?_
  refine Z_iload2 (pc := 11) ok dX0_isListed_11 ?_
  refine Z_icmp_ne (pc := 12) (tgt := 35) ok dX0_isListed_12 rfl (by first | omega | (simp [sz, uz] <;> omega)) (by first | omega | (simp [sz, uz] <;> omega)) (fun h => ?_) (fun h => ?_)
  · refine Z_iconst (pc := 35) ok dX0_isListed_35 ?_
    refine Z_bret (pc := 36) ok okr dX0_isListed_36 (by first | exact Or.inl rfl | exact Or.inr rfl | exact zb_01 _ | assumption | omega) ?_
    exact ⟨by rw [zb_f (fun q => h q.1)], rfl, rfl⟩
  · refine Z_aload0 (pc := 15) ok dX0_isListed_15 ?_
    refine Z_iload3 (pc := 16) ok dX0_isListed_16 ?_
    refine Z_callVId (pc := 17) ok dX0_isListed_17 cw_X0_58 rfl rfl (by decide) (c_splits hn hR hv) rfl rfl (by decide) (Nat.le_of_ble_eq_true rfl) ?_
    refine Z_if_neB (pc := 20) (tgt := 35) ok dX0_isListed_20 rfl (fun h3 => ?_) (fun h3 => ?_)
    · refine Z_iconst (pc := 35) ok dX0_isListed_35 ?_
      refine Z_bret (pc := 36) ok okr dX0_isListed_36 (by first | exact Or.inl rfl | exact Or.inr rfl | exact zb_01 _ | assumption | omega) ?_
      exact ⟨by rw [zb_f (fun q => q.2.1 h3)], rfl, rfl⟩
    · refine Z_aload0 (pc := 23) ok dX0_isListed_23 ?_
      refine Z_iload3 (pc := 24) ok dX0_isListed_24 ?_
      refine Z_callVId (pc := 25) ok dX0_isListed_25 cw_X0_61 rfl rfl (by decide) (c_isLeastTurned hn h2 hv) rfl rfl (by decide) (Nat.le_of_ble_eq_true rfl) ?_
      refine Z_if_eqB (pc := 28) (tgt := 35) ok dX0_isListed_28 rfl (fun h4 => ?_) (fun h4 => ?_)
      · refine Z_iconst (pc := 35) ok dX0_isListed_35 ?_
        refine Z_bret (pc := 36) ok okr dX0_isListed_36 (by first | exact Or.inl rfl | exact Or.inr rfl | exact zb_01 _ | assumption | omega) ?_
        exact ⟨by rw [zb_f (fun q => h4 q.2.2)], rfl, rfl⟩
      · refine Z_iconst (pc := 31) ok dX0_isListed_31 ?_
        refine Z_goto (pc := 32) (tgt := 36) ok dX0_isListed_32 rfl ?_
        refine Z_bret (pc := 36) ok okr dX0_isListed_36 (by first | exact Or.inl rfl | exact Or.inr rfl | exact zb_01 _ | assumption | omega) ?_
        exact ⟨by rw [zb_t ⟨h, h3, h4⟩], rfl, rfl⟩
/-- what lightestWith answers -/
def LW (n s x : Int) : Prop := (x = 2 ^ n.toNat - 1 ∨ cand n s x) ∧ ∀ b, cand n s b → bc x < bc b ∨ (bc x = bc b ∧ x ≤ b)
theorem c_lightestWith {n s : Int} (hn : 2 ≤ n ∧ n ≤ 12) (h2 : I 100 2 = n) (hR : bR I n) (hs : 0 ≤ s ∧ s < 2 ^ n.toNat) : K_X0_lightestWith l G [zr G 100, zi s] I J (fun v I' J' => ∃ r, v = some (zi r) ∧ (I' = I ∧ J' = J ∧ (0 ≤ r ∧ r < 2 ^ n.toNat) ∧ LW n s r)) := by
  have hp2 := p2_b hn
  obtain ⟨r1, r2, r3, r4⟩ := hR
  refine Cz.of rfl (Nat.le_of_ble_eq_true rfl) [some (zr G 100), some (zi s), none, none, none] rfl (fun E ok okr hE => ?_)
  refine Z_iconst (pc := 0) ok dX0_lightestWith_0 ?_
  refine Z_aload0 (pc := 1) ok dX0_lightestWith_1 ?_
  refine g_X0_n (pc := 2) ok dX0_lightestWith_2 kw264 rfl ?_
  refine Z_ishl (pc := 5) ok dX0_lightestWith_5 (by omega) ?_
  refine Z_iconst (pc := 6) ok dX0_lightestWith_6 ?_
  refine Z_isub (pc := 7) ok dX0_lightestWith_7 ?_
  refine Z_istore2 (pc := 8) ok (by decide) dX0_lightestWith_8 rfl ?_
  refine Z_iconst (pc := 9) ok dX0_lightestWith_9 ?_
  refine Z_istore3 (pc := 10) ok (by decide) dX0_lightestWith_10 rfl ?_
  rw [h2, Int.one_mul]
  have H : ∀ i : Int, 0 ≤ i → i ≤ I 100 4 → ∀ x : Int, (0 ≤ x ∧ x < 2 ^ n.toNat) → (x = 2 ^ n.toNat - 1 ∨ cand n s x) → (∀ j, 0 ≤ j → j < i → zand (I 102 j) s = s → bc x < bc (I 102 j) ∨ (bc x = bc (I 102 j) ∧ x ≤ I 102 j)) → (x = 2 ^ n.toNat - 1 ∨ ∃ j, 0 ≤ j ∧ j < i ∧ x = I 102 j) → ∀ w, Xz E G I J 11 [some (zr G 100), some (zi s), some (zi x), some (zi i), w] [] := by
    refine zUp ?_ ?_
    · intro x x0 x1 x2 x3 w
      refine Z_iload3 (pc := 11) ok dX0_lightestWith_11 ?_
      refine Z_aload0 (pc := 12) ok dX0_lightestWith_12 ?_
      refine g_X0_size (pc := 13) ok dX0_lightestWith_13 kw267 rfl ?_
      refine Z_icmp_ge (pc := 16) (tgt := 56) ok dX0_lightestWith_16 rfl (by first | omega | (simp [sz, uz] <;> omega)) (by first | omega | (simp [sz, uz] <;> omega)) (fun _ => ?_) (fun h => by exfalso; omega)
      refine Z_iload2 (pc := 56) ok dX0_lightestWith_56 ?_
      refine Z_iret (pc := 57) ok okr dX0_lightestWith_57 ?_
      refine ⟨_, rfl, rfl, rfl, x0, x1, ?_⟩
      intro b hb
      obtain ⟨j, j0, j1, j2⟩ := r4 b hb.1.1 hb.1.2 hb.2.1
      have := x2 j j0 j1 (by rw [j2]; exact hb.2.2)
      rwa [j2] at this
    · intro i i0 i1 ih x x0 x1 x2 x3 w
      have hv := (r2 i i0 i1).1
      have hNB := (r2 i i0 i1).2
      have hz := zand_b (I 102 i) s hs.1
      have b1 := bc_b x
      have b2 := bc_b (I 102 i)
      refine Z_iload3 (pc := 11) ok dX0_lightestWith_11 ?_
      refine Z_aload0 (pc := 12) ok dX0_lightestWith_12 ?_
      refine g_X0_size (pc := 13) ok dX0_lightestWith_13 kw267 rfl ?_
      refine Z_icmp_ge (pc := 16) (tgt := 56) ok dX0_lightestWith_16 rfl (by first | omega | (simp [sz, uz] <;> omega)) (by first | omega | (simp [sz, uz] <;> omega)) (fun h => by exfalso; omega) (fun _ => ?_)
      refine Z_aload0 (pc := 19) ok dX0_lightestWith_19 ?_
      refine g_X0_rows (pc := 20) (t := 102) ok dX0_lightestWith_20 kw265 rfl rfl ?_
      refine Z_iload3 (pc := 23) ok dX0_lightestWith_23 ?_
      refine Z_iald (pc := 24) (L := 128) ok dX0_lightestWith_24 rfl rfl (by first | omega | (simp [sz, uz] <;> omega)) ?_
      refine Z_istore4 (pc := 25) ok (by decide) dX0_lightestWith_25 rfl ?_
      refine Z_iload4 (pc := 27) ok dX0_lightestWith_27 ?_
      refine Z_iload1 (pc := 29) ok dX0_lightestWith_29 ?_
      refine Z_iandN (pc := 30) ok dX0_lightestWith_30 hv.1 hs.1 ?_
      refine Z_iload1 (pc := 31) ok dX0_lightestWith_31 ?_
      refine Z_icmp_ne (pc := 32) (tgt := 50) ok dX0_lightestWith_32 rfl (by first | omega | (simp [sz, uz] <;> omega)) (by first | omega | (simp [sz, uz] <;> omega)) (fun h1 => ?_) (fun h1 => ?_)
      · refine Z_iinc3 (pc := 50) ok (by decide) dX0_lightestWith_50 rfl ?_
        refine Z_goto (pc := 53) (tgt := 11) ok dX0_lightestWith_53 rfl ?_
        refine ih x x0 x1 (fun j j0 j1 hj => ?_) ?_ _
        · by_cases q : j = i
          · rw [q] at hj; exact absurd hj h1
          · exact x2 j j0 (by omega) hj
        · rcases x3 with q | ⟨j, j0, j1, j2⟩
          · exact Or.inl q
          · exact Or.inr ⟨j, j0, by omega, j2⟩
      · refine Z_iload4 (pc := 35) ok dX0_lightestWith_35 ?_
        refine Z_callSId (pc := 37) ok dX0_lightestWith_37 cw_X0_52 (c_bitCount (by omega)) rfl rfl (by decide) (Nat.le_of_ble_eq_true rfl) ?_
        refine Z_iload2 (pc := 40) ok dX0_lightestWith_40 ?_
        refine Z_callSId (pc := 41) ok dX0_lightestWith_41 cw_X0_52 (c_bitCount (by omega)) rfl rfl (by decide) (Nat.le_of_ble_eq_true rfl) ?_
        refine Z_icmp_ge (pc := 44) (tgt := 50) ok dX0_lightestWith_44 rfl (by first | omega | (simp [sz, uz] <;> omega)) (by first | omega | (simp [sz, uz] <;> omega)) (fun h3 => ?_) (fun h3 => ?_)
        · refine Z_iinc3 (pc := 50) ok (by decide) dX0_lightestWith_50 rfl ?_
          refine Z_goto (pc := 53) (tgt := 11) ok dX0_lightestWith_53 rfl ?_
          refine ih x x0 x1 (fun j j0 j1 hj => ?_) ?_ _
          · by_cases q : j = i
            · rw [q]
              by_cases q2 : bc x < bc (I 102 i)
              · exact Or.inl q2
              · refine Or.inr ⟨by omega, ?_⟩
                rcases x3 with q3 | ⟨j, j0, j1, j2⟩
                · by_cases q4 : I 102 i < 2 ^ n.toNat - 1
                  · have := bc_full hn hv.1 q4
                    rw [q3] at h3; omega
                  · omega
                · have := r3 j i j0 j1 i1; omega
            · exact x2 j j0 (by omega) hj
          · rcases x3 with q | ⟨j, j0, j1, j2⟩
            · exact Or.inl q
            · exact Or.inr ⟨j, j0, by omega, j2⟩
        · refine Z_iload4 (pc := 47) ok dX0_lightestWith_47 ?_
          refine Z_istore2 (pc := 49) ok (by decide) dX0_lightestWith_49 rfl ?_
          refine Z_iinc3 (pc := 50) ok (by decide) dX0_lightestWith_50 rfl ?_
          refine Z_goto (pc := 53) (tgt := 11) ok dX0_lightestWith_53 rfl ?_
          refine ih (I 102 i) hv (Or.inr ⟨hv, hNB, h1⟩) (fun j j0 j1 hj => ?_) (Or.inr ⟨i, i0, by omega, rfl⟩) _
          by_cases q : j = i
          · rw [q]; exact Or.inr ⟨rfl, Int.le_refl _⟩
          · rcases x2 j j0 (by omega) hj with q2 | q2
            · exact Or.inl (by omega)
            · exact Or.inl (by omega)
  exact H 0 (by omega) (by omega) _ (by omega) (Or.inl rfl) (fun j j0 j1 => by omega) (Or.inl rfl) none
theorem c_listed {w k : Int} (hw : -2147483648 ≤ w ∧ w ≤ 2147483647) (hk : -2147483648 ≤ k ∧ k ≤ 2147483647) (h1 : gR (I 2 0) (I 3)) (hbo : bOk I) (hd : dOk I) (hp : pkOk I J) : K_X11_listed l G [zr G 0, zi w, zi k] I J (fun v I' J' => ∃ r, v = some (zi r) ∧ (bOk I' ∧ dOk I' ∧ pkOk I' J' ∧ fr [87, 88, 89, 91, 92, 93, 95, 100, 101, 102] I I' ∧ fr [90, 94] J J' ∧ ((¬ (1 ≤ w ∧ w ≤ 12) ∧ r = -2) ∨ ((1 ≤ w ∧ w ≤ 12) ∧ 12 < I 2 0 ∧ r = -3) ∨ ((1 ≤ w ∧ w ≤ 12) ∧ I 2 0 ≤ 12 ∧ k < -1 ∧ r = -1) ∨ ((1 ≤ w ∧ w ≤ 12) ∧ I 2 0 ≤ 12 ∧ -1 ≤ k ∧ r = fz (fun b => (NB (I 2 0) b ∧ lsd (I 2 0) w b) ∧ su (fun q => zb (NB (I 2 0) q ∧ lsd (I 2 0) w q)) b = k) (if k = -1 then su (fun q => zb (NB (I 2 0) q ∧ lsd (I 2 0) w q)) (2 ^ (I 2 0).toNat) else -1) 0 (2 ^ (I 2 0).toNat))))) := by
  have hn := h1.1
  refine Cz.of rfl (Nat.le_of_ble_eq_true rfl) [some (zr G 0), some (zi w), some (zi k), none, none] rfl (fun E ok okr hE => ?_)
  refine Z_iload1 (pc := 0) ok dX11_listed_0 ?_
  refine Z_iconst (pc := 1) ok dX11_listed_1 ?_
  refine Z_icmp_lt (pc := 2) (tgt := 11) ok dX11_listed_2 rfl (by first | omega | (simp [sz, uz] <;> omega)) (by first | omega | (simp [sz, uz] <;> omega)) (fun ha => ?_) (fun ha => ?_)
  · refine Z_bipush (pc := 11) ok dX11_listed_11 (by decide) ?_
    refine Z_iret (pc := 13) ok okr dX11_listed_13 ?_
    exact ⟨_, rfl, hbo, hd, hp, fr.rf, fr.rf, Or.inl ⟨by omega, rfl⟩⟩
  · refine Z_iload1 (pc := 5) ok dX11_listed_5 ?_
    refine Z_bipush (pc := 6) ok dX11_listed_6 (by decide) ?_
    refine Z_icmp_le (pc := 8) (tgt := 14) ok dX11_listed_8 rfl (by first | omega | (simp [sz, uz] <;> omega)) (by first | omega | (simp [sz, uz] <;> omega)) (fun hb => ?_) (fun hb => ?_)
    · refine Z_aload0 (pc := 14) ok dX11_listed_14 ?_
      refine g_X11_state (pc := 15) (t := 1) ok dX11_listed_15 kw340 rfl rfl ?_
      refine g_X8_row (pc := 18) (t := 2) ok dX11_listed_18 kw148 rfl rfl ?_
      refine g_X5_n (pc := 21) ok dX11_listed_21 kw96 rfl ?_
      refine Z_bipush (pc := 24) ok dX11_listed_24 (by decide) ?_
      refine Z_icmp_le (pc := 26) (tgt := 32) ok dX11_listed_26 rfl (by first | omega | (simp [sz, uz] <;> omega)) (by first | omega | (simp [sz, uz] <;> omega)) (fun hc => ?_) (fun hc => ?_)
      · have hn12 : 2 ≤ I 2 0 ∧ I 2 0 ≤ 12 := by omega
        have hp2 := p2_b hn12
        refine Z_iload2 (pc := 32) ok dX11_listed_32 ?_
        refine Z_iconst (pc := 33) ok dX11_listed_33 ?_
        refine Z_icmp_ge (pc := 34) (tgt := 39) ok dX11_listed_34 rfl (by first | omega | (simp [sz, uz] <;> omega)) (by first | omega | (simp [sz, uz] <;> omega)) (fun hd2 => ?_) (fun hd2 => ?_)
        · refine Z_aload0 (pc := 39) ok dX11_listed_39 ?_
          refine g_X11_bitRows (pc := 40) (t := 100) ok dX11_listed_40 kw346 rfl rfl ?_
          refine Z_aload0 (pc := 43) ok dX11_listed_43 ?_
          refine g_X11_state (pc := 44) (t := 1) ok dX11_listed_44 kw340 rfl rfl ?_
          refine g_X8_row (pc := 47) (t := 2) ok dX11_listed_47 kw148 rfl rfl ?_
          refine g_X5_n (pc := 50) ok dX11_listed_50 kw96 rfl ?_
          refine Z_callVV (pc := 53) ok dX11_listed_53 cw_X11_206 rfl rfl (by decide) (c_bprep hn12 hbo hd hp) rfl rfl (by decide) (Nat.le_of_ble_eq_true rfl) (fun I1 J1 q => ?_)
          refine Z_iconst (pc := 56) ok dX11_listed_56 ?_
          refine Z_istore3 (pc := 57) ok (by decide) dX11_listed_57 rfl ?_
          refine Z_iconst (pc := 58) ok dX11_listed_58 ?_
          refine Z_istore4 (pc := 59) ok (by decide) dX11_listed_59 rfl ?_
          obtain ⟨q1, q2, q3, q4, q5, q6⟩ := q
          have bo1 : bOk I1 := Or.inr (by rw [q1]; exact ⟨hn12, q2⟩)
          obtain ⟨r1, r2, r3, r4⟩ := id q2
          generalize hN : I 2 0 = n at *
          have H : ∀ i : Int, 0 ≤ i → i ≤ I1 100 4 → ∀ p : Int, (0 ≤ p ∧ p ≤ 2 ^ n.toNat) → (i < I1 100 4 → p ≤ I1 102 i) → (∀ b, p ≤ b → (i < I1 100 4 → b < I1 102 i) → b < 2 ^ n.toNat → ¬ NB n b) → fz (fun b => (NB n b ∧ lsd n w b) ∧ su (fun q => zb (NB n q ∧ lsd n w q)) b = k) (if k = -1 then su (fun q => zb (NB n q ∧ lsd n w q)) (2 ^ n.toNat) else -1) p (2 ^ n.toNat) = fz (fun b => (NB n b ∧ lsd n w b) ∧ su (fun q => zb (NB n q ∧ lsd n w q)) b = k) (if k = -1 then su (fun q => zb (NB n q ∧ lsd n w q)) (2 ^ n.toNat) else -1) 0 (2 ^ n.toNat) → Xz E G I1 J1 61 [some (zr G 0), some (zi w), some (zi k), some (zi (su (fun q => zb (NB n q ∧ lsd n w q)) p)), some (zi i)] [] := by
            refine zUp ?_ ?_
            · intro p p0 p1 p2 hf
              have hnone : ∀ b, p ≤ b → b < 2 ^ n.toNat → ¬ ((NB n b ∧ lsd n w b) ∧ su (fun q => zb (NB n q ∧ lsd n w q)) b = k) := fun b b0 b1 q => p2 b b0 (fun q => by omega) b1 q.1.1
              have hsu : su (fun q => zb (NB n q ∧ lsd n w q)) (2 ^ n.toNat) = su (fun q => zb (NB n q ∧ lsd n w q)) p := su_up p0.1 p0.2 (fun b b0 b1 => zb_f (fun q => p2 b b0 (fun q => by omega) b1 q.1))
              rw [fz_skip p0.2 (Int.le_refl _) hnone, fz_end _ _ (Int.le_refl _)] at hf
              refine Z_iload4 (pc := 61) ok dX11_listed_61 ?_
              refine Z_aload0 (pc := 63) ok dX11_listed_63 ?_
              refine g_X11_bitRows (pc := 64) (t := 100) ok dX11_listed_64 kw346 rfl rfl ?_
              refine g_X0_size (pc := 67) ok dX11_listed_67 kw268 rfl ?_
              refine Z_icmp_ge (pc := 70) (tgt := 111) ok dX11_listed_70 rfl (by first | omega | (simp [sz, uz] <;> omega)) (by first | omega | (simp [sz, uz] <;> omega)) (fun _ => ?_) (fun h => by exfalso; omega)
              refine Z_iload2 (pc := 111) ok dX11_listed_111 ?_
              refine Z_iconst (pc := 112) ok dX11_listed_112 ?_
              refine Z_icmp_ne (pc := 113) (tgt := 120) ok dX11_listed_113 rfl (by first | omega | (simp [sz, uz] <;> omega)) (by first | omega | (simp [sz, uz] <;> omega)) (fun he => ?_) (fun he => ?_)
              · refine Z_iconst (pc := 120) ok dX11_listed_120 ?_
                refine Z_iret (pc := 121) ok okr dX11_listed_121 ?_
                rw [if_neg he] at hf
                rw [if_neg he]
                exact ⟨_, rfl, bo1, q3, q4, q5, q6, Or.inr (Or.inr (Or.inr ⟨by omega, by omega, by omega, hf⟩))⟩
              · refine Z_iload3 (pc := 116) ok dX11_listed_116 ?_
                refine Z_goto (pc := 117) (tgt := 121) ok dX11_listed_117 rfl ?_
                refine Z_iret (pc := 121) ok okr dX11_listed_121 ?_
                rw [if_pos he] at hf
                rw [if_pos he]
                exact ⟨_, rfl, bo1, q3, q4, q5, q6, Or.inr (Or.inr (Or.inr ⟨by omega, by omega, by omega, by rw [← hsu]; exact hf⟩))⟩
            · intro i i0 i1 ih p p0 p1 p2 hf
              have hv := (r2 i i0 i1).1
              have hNB := (r2 i i0 i1).2
              have p1 := p1 i1
              have hz := su_zb (fun q => NB n q ∧ lsd n w q) (e := p) p0.1
              have hsu : su (fun q => zb (NB n q ∧ lsd n w q)) (I1 102 i) = su (fun q => zb (NB n q ∧ lsd n w q)) p := su_up p0.1 p1 (fun b b0 b1 => zb_f (fun q => p2 b b0 (fun _ => b1) (by omega) q.1))
              have hf1 := hf
              rw [fz_skip p1 (by omega) (fun b b0 b1 q => p2 b b0 (fun _ => b1) (by omega) q.1.1)] at hf1
              have nn : i + 1 < I1 100 4 → I1 102 i + 1 ≤ I1 102 (i + 1) := fun q => by have := r3 i (i + 1) i0 (by omega) q; omega
              have np : ∀ b, I1 102 i + 1 ≤ b → (i + 1 < I1 100 4 → b < I1 102 (i + 1)) → b < 2 ^ n.toNat → ¬ NB n b := by
                intro b b0 b1 b2 hq
                obtain ⟨j, j0, j1, j2⟩ := r4 b (by omega) b2 hq
                rcases Int.lt_trichotomy j i with q | q | q
                · have := r3 j i j0 q i1; omega
                · rw [q] at j2; omega
                · have b1 := b1 (by omega)
                  by_cases q2 : j = i + 1
                  · rw [q2] at j2; omega
                  · have := r3 (i + 1) j (by omega) (by omega) j1; omega
              have ih := ih (I1 102 i + 1) (by omega) nn np
              rw [su_s _ hv.1, hsu] at ih
              refine Z_iload4 (pc := 61) ok dX11_listed_61 ?_
              refine Z_aload0 (pc := 63) ok dX11_listed_63 ?_
              refine g_X11_bitRows (pc := 64) (t := 100) ok dX11_listed_64 kw346 rfl rfl ?_
              refine g_X0_size (pc := 67) ok dX11_listed_67 kw268 rfl ?_
              refine Z_icmp_ge (pc := 70) (tgt := 111) ok dX11_listed_70 rfl (by first | omega | (simp [sz, uz] <;> omega)) (by first | omega | (simp [sz, uz] <;> omega)) (fun h => by exfalso; omega) (fun _ => ?_)
              refine Z_aload0 (pc := 73) ok dX11_listed_73 ?_
              refine g_X11_bitRows (pc := 74) (t := 100) ok dX11_listed_74 kw346 rfl rfl ?_
              refine Z_iload4 (pc := 77) ok dX11_listed_77 ?_
              refine Z_iload1 (pc := 79) ok dX11_listed_79 ?_
              refine Z_callVId (pc := 80) ok dX11_listed_80 cw_X11_208 rfl rfl (by decide) (c_isListed hn12 q1 q2 ⟨i0, i1⟩ (by omega)) rfl rfl (by decide) (Nat.le_of_ble_eq_true rfl) ?_
              refine Z_if_eqB (pc := 83) (tgt := 105) ok dX11_listed_83 rfl (fun he => ?_) (fun he => ?_)
              · refine Z_iinc4 (pc := 105) ok (by decide) dX11_listed_105 rfl ?_
                refine Z_goto (pc := 108) (tgt := 61) ok dX11_listed_108 rfl ?_
                rw [zb_f (fun q => he q.2), Int.add_zero] at ih
                refine ih ?_
                rw [fz_miss (P := fun b => (NB n b ∧ lsd n w b) ∧ su (fun q => zb (NB n q ∧ lsd n w q)) b = k) (by omega) (fun q => he q.1.2)] at hf1
                exact hf1
              · rw [zb_t ⟨hNB, he⟩] at ih
                refine Z_iload3 (pc := 86) ok dX11_listed_86 ?_
                refine Z_iload2 (pc := 87) ok dX11_listed_87 ?_
                refine Z_icmp_ne (pc := 88) (tgt := 102) ok dX11_listed_88 rfl (by first | omega | (simp [sz, uz] <;> omega)) (by first | omega | (simp [sz, uz] <;> omega)) (fun hg => ?_) (fun hg => ?_)
                · refine Z_iinc3 (pc := 102) ok (by decide) dX11_listed_102 rfl ?_
                  refine Z_iinc4 (pc := 105) ok (by decide) dX11_listed_105 rfl ?_
                  refine Z_goto (pc := 108) (tgt := 61) ok dX11_listed_108 rfl ?_
                  refine ih ?_
                  rw [fz_miss (P := fun b => (NB n b ∧ lsd n w b) ∧ su (fun q => zb (NB n q ∧ lsd n w q)) b = k) (by omega) (fun q => hg (by rw [← hsu]; exact q.2))] at hf1
                  exact hf1
                · refine Z_aload0 (pc := 91) ok dX11_listed_91 ?_
                  refine g_X11_bitRows (pc := 92) (t := 100) ok dX11_listed_92 kw346 rfl rfl ?_
                  refine g_X0_rows (pc := 95) (t := 102) ok dX11_listed_95 kw266 rfl rfl ?_
                  refine Z_iload4 (pc := 98) ok dX11_listed_98 ?_
                  refine Z_iald (pc := 100) (L := 128) ok dX11_listed_100 rfl rfl (by first | omega | (simp [sz, uz] <;> omega)) ?_
                  refine Z_iret (pc := 101) ok okr dX11_listed_101 ?_
                  rw [fz_hit (P := fun b => (NB n b ∧ lsd n w b) ∧ su (fun q => zb (NB n q ∧ lsd n w q)) b = k) (by omega) ⟨⟨hNB, he⟩, by rw [hsu]; exact hg⟩] at hf1
                  exact ⟨_, rfl, bo1, q3, q4, q5, q6, Or.inr (Or.inr (Or.inr ⟨by omega, by omega, by omega, hf1⟩))⟩
          refine H 0 (by omega) (by omega) 0 (by omega) (fun q => (r2 0 (by omega) q).1.1) (fun b b0 b1 b2 hq => ?_) rfl
          obtain ⟨j, j0, j1, j2⟩ := r4 b b0 b2 hq
          have b1 := b1 (by omega)
          by_cases q2 : j = 0
          · rw [q2] at j2; omega
          · have := r3 0 j (by omega) (by omega) j1; omega
        · refine Z_iconst (pc := 37) ok dX11_listed_37 ?_
          refine Z_iret (pc := 38) ok okr dX11_listed_38 ?_
          exact ⟨_, rfl, hbo, hd, hp, fr.rf, fr.rf, Or.inr (Or.inr (Or.inl ⟨by omega, by omega, by omega, rfl⟩))⟩
      · refine Z_bipush (pc := 29) ok dX11_listed_29 (by decide) ?_
        refine Z_iret (pc := 31) ok okr dX11_listed_31 ?_
        exact ⟨_, rfl, hbo, hd, hp, fr.rf, fr.rf, Or.inr (Or.inl ⟨by omega, by omega, rfl⟩)⟩
    · refine Z_bipush (pc := 11) ok dX11_listed_11 (by decide) ?_
      refine Z_iret (pc := 13) ok okr dX11_listed_13 ?_
      exact ⟨_, rfl, hbo, hd, hp, fr.rf, fr.rf, Or.inl ⟨by omega, rfl⟩⟩
theorem c_filled {s w : Int} (hs : -2147483648 ≤ s ∧ s ≤ 2147483647) (hw : -2147483648 ≤ w ∧ w ≤ 2147483647) (h1 : gR (I 2 0) (I 3)) (hbo : bOk I) (hd : dOk I) (hp : pkOk I J) : K_X11_filled l G [zr G 0, zi s, zi w] I J (fun v I' J' => ∃ r, v = some (zi r) ∧ (bOk I' ∧ dOk I' ∧ pkOk I' J' ∧ fr [87, 88, 89, 91, 92, 93, 95, 100, 101, 102] I I' ∧ fr [90, 94] J J' ∧ ((12 < I 2 0 ∧ r = -3) ∨ (I 2 0 ≤ 12 ∧ ¬ (0 ≤ s ∧ s < 2 ^ (I 2 0).toNat) ∧ r = -2) ∨ (I 2 0 ≤ 12 ∧ (0 ≤ s ∧ s < 2 ^ (I 2 0).toNat) ∧ (w ≠ 0 ∧ w ≠ 1) ∧ r = -1) ∨ (I 2 0 ≤ 12 ∧ (0 ≤ s ∧ s < 2 ^ (I 2 0).toNat) ∧ ∃ x, LW (I 2 0) s x ∧ ((w = 0 ∧ r = bc x) ∨ (w = 1 ∧ r = x)))))) := by
  have hn := h1.1
  refine Cz.of rfl (Nat.le_of_ble_eq_true rfl) [some (zr G 0), some (zi s), some (zi w), none, none] rfl (fun E ok okr hE => ?_)
  refine Z_aload0 (pc := 0) ok dX11_filled_0 ?_
  refine g_X11_state (pc := 1) (t := 1) ok dX11_filled_1 kw340 rfl rfl ?_
  refine g_X8_row (pc := 4) (t := 2) ok dX11_filled_4 kw148 rfl rfl ?_
  refine g_X5_n (pc := 7) ok dX11_filled_7 kw96 rfl ?_
  refine Z_istore3 (pc := 10) ok (by decide) dX11_filled_10 rfl ?_
  refine Z_iload3 (pc := 11) ok dX11_filled_11 ?_
  refine Z_bipush (pc := 12) ok dX11_filled_12 (by decide) ?_
  refine Z_icmp_le (pc := 14) (tgt := 20) ok dX11_filled_14 rfl (by first | omega | (simp [sz, uz] <;> omega)) (by first | omega | (simp [sz, uz] <;> omega)) (fun ha => ?_) (fun ha => ?_)
  · have hn12 : 2 ≤ I 2 0 ∧ I 2 0 ≤ 12 := by omega
    have hp2 := p2_b hn12
    have main : (0 ≤ s ∧ s < 2 ^ (I 2 0).toNat) → (w = 0 ∨ w = 1) → Xz E G I J 45 [some (zr G 0), some (zi s), some (zi w), some (zi (I 2 0)), none] [] := by
      intro hs2 hw2
      refine Z_aload0 (pc := 45) ok dX11_filled_45 ?_
      refine g_X11_bitRows (pc := 46) (t := 100) ok dX11_filled_46 kw346 rfl rfl ?_
      refine Z_iload3 (pc := 49) ok dX11_filled_49 ?_
      refine Z_callVV (pc := 50) ok dX11_filled_50 cw_X11_206 rfl rfl (by decide) (c_bprep hn12 hbo hd hp) rfl rfl (by decide) (Nat.le_of_ble_eq_true rfl) (fun I1 J1 q => ?_)
      obtain ⟨q1, q2, q3, q4, q5, q6⟩ := q
      have bo1 : bOk I1 := Or.inr (by rw [q1]; exact ⟨hn12, q2⟩)
      refine Z_aload0 (pc := 53) ok dX11_filled_53 ?_
      refine g_X11_bitRows (pc := 54) (t := 100) ok dX11_filled_54 kw346 rfl rfl ?_
      refine Z_iload1 (pc := 57) ok dX11_filled_57 ?_
      refine Z_callVI (pc := 58) ok dX11_filled_58 cw_X11_214 rfl rfl (by decide) (c_lightestWith hn12 q1 q2 hs2) rfl rfl (by decide) (Nat.le_of_ble_eq_true rfl) (fun x I2 J2 q => ?_)
      obtain ⟨rfl, rfl, x0, x1⟩ := q
      refine Z_istore4 (pc := 61) ok (by decide) dX11_filled_61 rfl ?_
      refine Z_iload2 (pc := 63) ok dX11_filled_63 ?_
      refine Z_if_ne (pc := 64) (tgt := 75) ok dX11_filled_64 rfl (by first | omega | (simp [sz, uz] <;> omega)) (fun hb => ?_) (fun hb => ?_)
      · refine Z_iload4 (pc := 75) ok dX11_filled_75 ?_
        refine Z_iret (pc := 77) ok okr dX11_filled_77 ?_
        exact ⟨_, rfl, bo1, q3, q4, q5, q6, Or.inr (Or.inr (Or.inr ⟨ha, hs2, x, x1, Or.inr ⟨by omega, rfl⟩⟩))⟩
      · refine Z_iload4 (pc := 67) ok dX11_filled_67 ?_
        refine Z_callSId (pc := 69) ok dX11_filled_69 cw_X11_218 (c_bitCount (by omega)) rfl rfl (by decide) (Nat.le_of_ble_eq_true rfl) ?_
        refine Z_goto (pc := 72) (tgt := 77) ok dX11_filled_72 rfl ?_
        refine Z_iret (pc := 77) ok okr dX11_filled_77 ?_
        exact ⟨_, rfl, bo1, q3, q4, q5, q6, Or.inr (Or.inr (Or.inr ⟨ha, hs2, x, x1, Or.inl ⟨hb, rfl⟩⟩))⟩
    refine Z_iload1 (pc := 20) ok dX11_filled_20 ?_
    refine Z_if_lt (pc := 21) (tgt := 31) ok dX11_filled_21 rfl (by first | omega | (simp [sz, uz] <;> omega)) (fun hb => ?_) (fun hb => ?_)
    · refine Z_bipush (pc := 31) ok dX11_filled_31 (by decide) ?_
      refine Z_iret (pc := 33) ok okr dX11_filled_33 ?_
      exact ⟨_, rfl, hbo, hd, hp, fr.rf, fr.rf, Or.inr (Or.inl ⟨ha, by omega, rfl⟩)⟩
    · refine Z_iload1 (pc := 24) ok dX11_filled_24 ?_
      refine Z_iconst (pc := 25) ok dX11_filled_25 ?_
      refine Z_iload3 (pc := 26) ok dX11_filled_26 ?_
      refine Z_ishl (pc := 27) ok dX11_filled_27 (by omega) ?_
      rw [Int.one_mul]
      refine Z_icmp_lt (pc := 28) (tgt := 34) ok dX11_filled_28 rfl (by first | omega | (simp [sz, uz] <;> omega)) (by first | omega | (simp [sz, uz] <;> omega)) (fun hc => ?_) (fun hc => ?_)
      · refine Z_iload2 (pc := 34) ok dX11_filled_34 ?_
        refine Z_if_eq (pc := 35) (tgt := 45) ok dX11_filled_35 rfl (by first | omega | (simp [sz, uz] <;> omega)) (fun he => ?_) (fun he => ?_)
        · exact main ⟨hb, hc⟩ (Or.inl he)
        · refine Z_iload2 (pc := 38) ok dX11_filled_38 ?_
          refine Z_iconst (pc := 39) ok dX11_filled_39 ?_
          refine Z_icmp_eq (pc := 40) (tgt := 45) ok dX11_filled_40 rfl (by first | omega | (simp [sz, uz] <;> omega)) (by first | omega | (simp [sz, uz] <;> omega)) (fun hg => ?_) (fun hg => ?_)
          · exact main ⟨hb, hc⟩ (Or.inr hg)
          · refine Z_iconst (pc := 43) ok dX11_filled_43 ?_
            refine Z_iret (pc := 44) ok okr dX11_filled_44 ?_
            exact ⟨_, rfl, hbo, hd, hp, fr.rf, fr.rf, Or.inr (Or.inr (Or.inl ⟨ha, ⟨hb, hc⟩, ⟨he, hg⟩, rfl⟩))⟩
      · refine Z_bipush (pc := 31) ok dX11_filled_31 (by decide) ?_
        refine Z_iret (pc := 33) ok okr dX11_filled_33 ?_
        exact ⟨_, rfl, hbo, hd, hp, fr.rf, fr.rf, Or.inr (Or.inl ⟨ha, by omega, rfl⟩)⟩
  · refine Z_bipush (pc := 17) ok dX11_filled_17 (by decide) ?_
    refine Z_iret (pc := 19) ok okr dX11_filled_19 ?_
    exact ⟨_, rfl, hbo, hd, hp, fr.rf, fr.rf, Or.inl ⟨by omega, rfl⟩⟩
end
