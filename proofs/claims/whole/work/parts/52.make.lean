/-! the contracts of the constructors -/
theorem I0_4 {k : Nat} (hk : kd k = 4) : I0 k 0 = 0 := by
  have h1 : k ≠ 121 := (fun q => by rw [q] at hk; revert hk; decide)
  have h2 : k ≠ 136 := (fun q => by rw [q] at hk; revert hk; decide)
  simp [I0, hk, h1, h2]
theorem k_X5 {l : Launch} {G : Gw} {h : Nat} {k : Nat} {c : Nat → va_E} (hk : kd k = 5) (hk1 : kd (k + 1) = 13) (hl1 : ln (k + 1) = 30) (hr : rf k 1 = k + 1) (hc : c k = .inr (5, [.int 0, .null])) : Ck l yX5_init cX5_init 1 1 G h [.ref (G.2.2 k)] (k + 1) c (k + 2) (fin G c k) 30 := by
  refine Ck.of (by decide +kernel) rfl (Nat.le_of_ble_eq_true rfl) [some (.ref (G.2.2 k))] rfl (fun E ok or hi hE _ => ?_)
  have ok : OkC E G h RX5 cX5_init 1 1 (k + 2 - (k + 1)) 30 := ok
  refine N_c (B0_eq (G := G) hc) ?_
  refine N_aload0 ok dX5_init_0 ?_
  refine N_objInit ok dX5_init_1 kw93 (by omega) rfl ?_
  refine N_aload0 ok dX5_init_4 ?_
  refine N_bipush (v := 6) ok dX5_init_5 (by decide) ?_
  refine N_pI (j := 0) (fs' := [.int 6, .null]) ok dX5_init_7 (by omega) rfl inX5 tyX5_ok nmX5 kw94 rfl (by decide) rfl rfl rfl (Nat.le_of_ble_eq_true rfl) rfl ?_
  refine N_aload0 ok dX5_init_10 ?_
  refine N_bipush (v := 30) ok dX5_init_11 (by decide) ?_
  refine N_newI (N := 30) ok hE dX5_init_13 (tl1 (by omega)) hk1 hl1 (fun q => by rw [show k = 135 by omega] at hk; revert hk; decide) (by decide) (by decide) (by decide) (by omega) (by omega) (by omega) ?_
  refine N_pF (j := 1) (fs' := [.int 6, .ref (G.2.2 (k + 1))]) ok hi dX5_init_15 (by omega) rfl inX5 tyX5_ok nmX5 kw98 rfl (by decide) rfl rfl rfl rfl (Nat.le_of_ble_eq_true rfl) rfl ?_
  refine N_e (ud_same ((fin_ge (Nat.le_refl _)).trans ?_)) (N_ret ok hE or dX5_init_18 (by omega))
  rw [cel_o hk (by decide)]; unfold fv; rw [hk]; show (Sum.inr (5, [Value.int (I0 k 0), Value.ref (G.2.2 (rf k 1))]) : va_E) = _; rw [hr, show I0 k 0 = 6 from by simp [I0, hk]]
theorem k_X4 {l : Launch} {G : Gw} {h : Nat} {k : Nat} {c : Nat → va_E} (hk : kd k = 4) (hk1 : kd (k + 1) = 13) (hl1 : ln (k + 1) = 8) (hk2 : kd (k + 2) = 13) (hl2 : ln (k + 2) = 8) (hr : rf k 1 = k + 1) (hr2 : rf k 2 = k + 2) (hc : c k = .inr (4, [.int 0, .null, .null])) : Ck l yX4_init cX4_init 1 1 G h [.ref (G.2.2 k)] (k + 1) c (k + 3) (fin G c k) 16 := by
  refine Ck.of (by decide +kernel) rfl (Nat.le_of_ble_eq_true rfl) [some (.ref (G.2.2 k))] rfl (fun E ok or hi hE _ => ?_)
  have ok : OkC E G h RX4 cX4_init 1 1 (k + 3 - (k + 1)) 16 := ok
  refine N_c (B0_eq (G := G) hc) ?_
  refine N_aload0 ok dX4_init_0 ?_
  refine N_objInit ok dX4_init_1 kw114 (by omega) rfl ?_
  refine N_aload0 ok dX4_init_4 ?_
  refine N_bipush (v := 8) ok dX4_init_5 (by decide) ?_
  refine N_newI (N := 8) ok hE dX4_init_7 (tl1 (by omega)) hk1 hl1 (fun q => by rw [show k = 135 by omega] at hk; revert hk; decide) (by decide) (by decide) (by decide) (by omega) (by omega) (by omega) ?_
  refine N_pF (j := 1) (fs' := [.int 0, .ref (G.2.2 (k + 1)), .null]) ok hi dX4_init_9 (by omega) rfl inX4 tyX4_ok nmX4 kw117 rfl (by decide) rfl rfl rfl rfl (Nat.le_of_ble_eq_true rfl) rfl ?_
  refine N_aload0 ok dX4_init_12 ?_
  refine N_bipush (v := 8) ok dX4_init_13 (by decide) ?_
  refine N_newI (N := 8) ok hE dX4_init_15 (tl1 (by omega)) hk2 hl2 (fun q => by rw [show k = 134 by omega] at hk; revert hk; decide) (by decide) (by decide) (by decide) (by omega) (by omega) (by omega) ?_
  refine N_pF (j := 2) (fs' := [.int 0, .ref (G.2.2 (k + 1)), .ref (G.2.2 (k + 2))]) ok hi dX4_init_17 (by omega) rfl inX4 tyX4_ok nmX4 kw119 rfl (by decide) rfl rfl rfl rfl (Nat.le_of_ble_eq_true rfl) rfl ?_
  refine N_e (ud_same ((fin_ge (Nat.le_refl _)).trans ?_)) (N_ret ok hE or dX4_init_20 (by omega))
  rw [cel_o hk (by decide)]; unfold fv; rw [hk]; show (Sum.inr (4, [Value.int (I0 k 0), Value.ref (G.2.2 (rf k 1)), Value.ref (G.2.2 (rf k 2))]) : va_E) = _; rw [hr, hr2, I0_4 hk]
theorem k_X2 {l : Launch} {G : Gw} {h : Nat} {k : Nat} {c : Nat → va_E} (hk : kd k = 2) (hk1 : kd (k + 1) = 14) (hl1 : ln (k + 1) = 30) (hr : rf k 1 = k + 1) (hc : c k = .inr (2, [.int 0, .null])) : Ck l yX2_init cX2_init 1 1 G h [.ref (G.2.2 k)] (k + 1) c (k + 2) (fin G c k) 30 := by
  refine Ck.of (by decide +kernel) rfl (Nat.le_of_ble_eq_true rfl) [some (.ref (G.2.2 k))] rfl (fun E ok or hi hE _ => ?_)
  have ok : OkC E G h RX2 cX2_init 1 1 (k + 2 - (k + 1)) 30 := ok
  refine N_c (B0_eq (G := G) hc) ?_
  refine N_aload0 ok dX2_init_0 ?_
  refine N_objInit ok dX2_init_1 kw286 (by omega) rfl ?_
  refine N_aload0 ok dX2_init_4 ?_
  refine N_iconst (v := -1) ok dX2_init_5 (by decide) ?_
  refine N_pI (j := 0) (fs' := [.int (-1), .null]) ok dX2_init_6 (by omega) rfl inX2 tyX2_ok nmX2 kw287 rfl (by decide) rfl rfl rfl (Nat.le_of_ble_eq_true rfl) rfl ?_
  refine N_aload0 ok dX2_init_9 ?_
  refine N_bipush (v := 30) ok dX2_init_10 (by decide) ?_
  refine N_newL (N := 30) ok hE dX2_init_12 (tl1 (by omega)) hk1 hl1 (by decide) (by decide) (by decide) (by omega) (by omega) (by omega) ?_
  refine N_pF (j := 1) (fs' := [.int (-1), .ref (G.2.2 (k + 1))]) ok hi dX2_init_14 (by omega) rfl inX2 tyX2_ok nmX2 kw289 rfl (by decide) rfl rfl rfl rfl (Nat.le_of_ble_eq_true rfl) rfl ?_
  refine N_e (ud_same ((fin_ge (Nat.le_refl _)).trans ?_)) (N_ret ok hE or dX2_init_17 (by omega))
  rw [cel_o hk (by decide)]; unfold fv; rw [hk]; show (Sum.inr (2, [Value.int (I0 k 0), Value.ref (G.2.2 (rf k 1))]) : va_E) = _; rw [hr, show I0 k 0 = -1 from by simp [I0, hk]]
theorem cwi_RX6_17 : CwJ RX6 17 yX5_init cX5_init 1 0 RX11 := ⟨List.mem_of_getElem? (i := 7) rfl, kw91, kw59, kw92, ⟨by decide +kernel, by decide +kernel, by decide +kernel⟩, by decide, rfl⟩
def isSh (k : Nat) : Bool := kd k == 6 && kd (k + 1) == 17 && ln (k + 1) == 8 && rf k 1 == k + 1 && (List.range 8).all (fun i => rf (k + 1) i == k + 2 + 2 * i && kd (k + 2 + 2 * i) == 5 && kd (k + 3 + 2 * i) == 13 && ln (k + 3 + 2 * i) == 30 && rf (k + 2 + 2 * i) 1 == k + 3 + 2 * i)
theorem isSh_at {k : Nat} (h : isSh k = true) : kd k = 6 ∧ kd (k + 1) = 17 ∧ ln (k + 1) = 8 ∧ rf k 1 = k + 1 ∧ ∀ i, i < 8 → rf (k + 1) i = k + 2 + 2 * i ∧ kd (k + 2 + 2 * i) = 5 ∧ kd (k + 3 + 2 * i) = 13 ∧ ln (k + 3 + 2 * i) = 30 ∧ rf (k + 2 + 2 * i) 1 = k + 3 + 2 * i := by
  unfold isSh at h
  simp only [Bool.and_eq_true, beq_iff_eq, List.all_eq_true, List.mem_range] at h
  obtain ⟨⟨⟨⟨a, b⟩, c⟩, d⟩, e⟩ := h
  exact ⟨a, b, c, d, fun i hi => ⟨(e i hi).1.1.1.1, (e i hi).1.1.1.2, (e i hi).1.1.2, (e i hi).1.2, (e i hi).2⟩⟩
/-- behind i rounds -/
def shB (G : Gw) (c : Nat → va_E) (k i : Nat) : Nat → va_E := ud (ud (fin G c k) k (.inr (6, [.int 0, .ref (G.2.2 (k + 1))]))) (k + 1) (.inl (G.2.1 4, 8, .inr (.inr (.inr (.inr (fun m => if m < i then some (G.2.2 (k + 2 + 2 * m)) else none))))))
theorem k_X6 {l : Launch} {G : Gw} {h k : Nat} {c : Nat → va_E} (hS : isSh k = true) (hc : c k = .inr (6, [.int 0, .null])) : Ck l yX6_init cX6_init 2 2 G h [.ref (G.2.2 k)] (k + 1) c (k + 18) (fin G c k) 264 := by
  obtain ⟨hk, hk1, hl1, hr, hR⟩ := isSh_at hS
  refine Ck.of (by decide +kernel) rfl (Nat.le_of_ble_eq_true rfl) [some (.ref (G.2.2 k)), none] rfl (fun E ok or hi hE _ => ?_)
  have ok : OkC E G h RX6 cX6_init 2 2 (k + 18 - (k + 1)) 264 := ok
  refine N_c (B0_eq (G := G) hc) ?_
  refine N_aload0 ok dX6_init_0 ?_
  refine N_objInit ok dX6_init_1 kw134 (by omega) rfl ?_
  refine N_aload0 ok dX6_init_4 ?_
  refine N_bipush (v := 8) ok dX6_init_5 (by decide) ?_
  refine N_newq (t := 4) (N := 8) ok dX6_init_7 kw135 (fun _ U => U.2.2.2.1) rfl (by decide) (by decide) (by decide) (by omega) (by omega) (by omega) ?_
  refine N_putF (k := k) (ci := 6) (j := 1) (ty := tyX6 1) (fs := [.int 0, .null]) ok hi dX6_init_10 (by omega) ((ud_ne _ _ (by omega)).trans (ud_eq _ _ _)) rfl inX6 tyX6_ok nmX6 kw140 rfl (by decide) rfl rfl rfl rfl rfl (by decide) ?_
  refine N_iconst (v := 0) ok dX6_init_13 (by decide) ?_
  refine N_istore1 ok (by decide) dX6_init_14 rfl ?_
  refine N_e (c' := shB G c k 0) ?_ ?_
  · unfold shB
    funext j
    by_cases h1 : j = k
    · subst h1; rw [ud_eq, ud_ne _ _ (by omega), ud_eq]; rfl
    · by_cases h2 : j = k + 1
      · subst h2; rw [ud_ne _ _ (by omega), ud_eq, ud_eq]
        congr 2
      · rw [ud_ne _ _ h1, ud_ne _ _ h2, ud_ne _ _ h1, ud_ne _ _ h2, ud_ne _ _ h1]
  have lp : ∀ (r i : Nat), i + r = 8 → Nj E G (k + 2 + 2 * i) (shB G c k i) (8 + 32 * i) 15 [some (.ref (G.2.2 k)), some (.int (nI i))] [] := by
    intro r
    induction r with
    | zero =>
      intro i hi8
      have : i = 8 := by omega
      subst this
      refine N_iload1 ok dX6_init_15 ?_
      refine N_bipush (v := 8) ok dX6_init_16 (by decide) ?_
      refine N_icmp_ge (tgt := 40) ok dX6_init_18 (by decide) (fun _ => ?_) (fun q => absurd (by decide) q)
      refine N_ceq (c' := fin G c k) (fun j _ => ?_) (N_ret ok hE or dX6_init_40 (by omega))
      unfold shB
      by_cases h2 : j = k + 1
      · subst h2
        rw [ud_eq, fin_ge (by omega), cel_q (t := 4) hk1 (by decide), hl1]
        exact ceq.q (fun m hm => by rw [if_pos hm, (hR m hm).1])
      · rw [ud_ne _ _ h2]
        refine ceq.rf ?_
        by_cases h1 : j = k
        · subst h1
          rw [ud_eq, fin_ge (Nat.le_refl _), cel_o hk (by decide)]
          unfold fv; rw [hk]
          show _ = (Sum.inr (6, [Value.int (I0 j 0), Value.ref (G.2.2 (rf j 1))]) : va_E)
          have e1 : j ≠ 121 := (fun q => by rw [q] at hk; revert hk; decide)
          have e2 : j ≠ 136 := (fun q => by rw [q] at hk; revert hk; decide)
          rw [hr, show I0 j 0 = 0 from by simp [I0, hk, e1, e2]]
        · rw [ud_ne _ _ h1]
    | succ r ih =>
      intro i hi8
      have hi7 : i < 8 := by omega
      obtain ⟨q1, q2, q3, q4, q5⟩ := hR i hi7
      have hcmp : ¬ (8 : Int32) ≤ nI i := by
        have : i = 0 ∨ i = 1 ∨ i = 2 ∨ i = 3 ∨ i = 4 ∨ i = 5 ∨ i = 6 ∨ i = 7 := by omega
        rcases this with rfl | rfl | rfl | rfl | rfl | rfl | rfl | rfl <;> decide
      have hinc : nI i + Int32.ofInt 1 = nI (i + 1) := by
        have : i = 0 ∨ i = 1 ∨ i = 2 ∨ i = 3 ∨ i = 4 ∨ i = 5 ∨ i = 6 ∨ i = 7 := by omega
        rcases this with rfl | rfl | rfl | rfl | rfl | rfl | rfl | rfl <;> decide
      refine N_iload1 ok dX6_init_15 ?_
      refine N_bipush (v := 8) ok dX6_init_16 (by decide) ?_
      refine N_icmp_ge (tgt := 40) ok dX6_init_18 (by decide) (fun q => absurd q hcmp) (fun _ => ?_)
      refine N_aload0 ok dX6_init_21 ?_
      refine N_getR (ci := 6) (j := 1) (t := k + 1) (fs := [.int 0, .ref (G.2.2 (k + 1))]) ok dX6_init_22 (by omega) ((ud_ne _ _ (by omega)).trans (ud_eq _ _ _)) rfl inX6 rfl kw140 rfl (by decide) ?_
      refine N_iload1 ok dX6_init_25 ?_
      refine N_new (ci := 5) (fs := [.int 0, .null]) (ty := tyX5) ok dX6_init_26 rfl inX5 tyX5_ok kw135 kw89 kw59 (fun j hj => by
        have : j = 0 ∨ j = 1 := by omega
        rcases this with rfl | rfl <;> rfl) (by omega) (by omega) (by omega) ?_
      refine N_dup ok dX6_init_29 rfl ?_
      refine N_initN (n' := k + 4 + 2 * i) (ms' := 30) (As := []) ok dX6_init_30 cwi_RX6_17 (by
        have := k_X5 (l := E.2.1) (G := G) (h := h) (k := k + 2 + 2 * i) q2 (by rw [show k + 2 + 2 * i + 1 = k + 3 + 2 * i by omega]; exact q3) (by rw [show k + 2 + 2 * i + 1 = k + 3 + 2 * i by omega]; exact q4) (by rw [show k + 2 + 2 * i + 1 = k + 3 + 2 * i by omega]; exact q5) (c := ud (shB G c k i) (k + 2 + 2 * i) (.inr (5, [.int 0, .null]))) (ud_eq _ _ _)
        rw [show k + 2 + 2 * i + 2 = k + 4 + 2 * i by omega] at this
        exact this) rfl rfl (by decide) (Nat.le_of_ble_eq_true rfl) (by omega) (by omega) (by omega) (by omega) (by omega) (N_e (fin_ud (tl2 (by omega) (by omega))) ?_)
      refine N_aQ (ka := k + 1) (kv := k + 2 + 2 * i) (ci := 5) (t := 4) (i := i) ok dX6_init_33 (by omega) (by omega) rfl (by omega) ((tl1 (by omega) _ (Nat.le_refl _)).trans (cel_o q2 (by decide))) rfl rfl hi7 (by decide) ?_
      refine N_iinc1 ok (by decide) dX6_init_34 hinc rfl ?_
      refine N_goto (tgt := 15) ok dX6_init_37 (by decide) ?_
      have hf : va_up (fun m => if m < i then some (G.2.2 (k + 2 + 2 * m)) else none) i (some (G.2.2 (k + 2 + 2 * i))) = (fun m => if m < i + 1 then some (G.2.2 (k + 2 + 2 * m)) else none) := by
        funext m
        by_cases hm : m = i
        · subst hm; simp [va_up]
        · by_cases hm2 : m < i
          · simp [va_up, hm, hm2, show m < i + 1 by omega]
          · simp [va_up, hm, hm2, show ¬ m < i + 1 by omega]
      rw [hf]
      have := ih (i + 1) (by omega)
      unfold shB at this
      rw [show k + 2 + 2 * (i + 1) = k + 4 + 2 * i by omega, show 8 + 32 * (i + 1) = 8 + 32 * i + 2 + 30 by omega] at this
      exact this
  exact lp 8 0 rfl

theorem k_X1_87 {l : Launch} {G : Gw} {h : Nat} {c : Nat → va_E} (hc : c 87 = .inr (1, [.int 0, .int 0, .int 0, .int 0, .null, .null, .null])) : Ck l yX1_init cX1_init 1 1 G h [.ref (G.2.2 87)] (88) c (91) (fin G c 87) 180 := by
  refine Ck.of (by decide +kernel) rfl (Nat.le_of_ble_eq_true rfl) [some (.ref (G.2.2 87))] rfl (fun E ok or hi hE _ => ?_)
  have ok : OkC E G h RX1 cX1_init 1 1 (91 - (88)) 180 := ok
  refine N_c (B0_eq (G := G) hc) ?_
  refine N_aload0 ok dX1_init_0 ?_
  refine N_objInit ok dX1_init_1 kw165 (by omega) rfl ?_
  refine N_aload0 ok dX1_init_4 ?_
  refine N_bipush (v := 30) ok dX1_init_5 (by decide) ?_
  refine N_newI (N := 30) ok hE dX1_init_7 (tl1 (by omega)) rfl rfl (by decide) (by decide) (by decide) (by decide) (by omega) (by omega) (by omega) ?_
  refine N_pF (j := 4) (fs' := [.int 0, .int 0, .int 0, .int 0, .ref (G.2.2 88), .null, .null]) ok hi dX1_init_9 (by omega) rfl inX1 tyX1_ok nmX1 kw171 rfl (by decide) rfl rfl rfl rfl (Nat.le_of_ble_eq_true rfl) rfl ?_
  refine N_aload0 ok dX1_init_12 ?_
  refine N_bipush (v := 30) ok dX1_init_13 (by decide) ?_
  refine N_newI (N := 30) ok hE dX1_init_15 (tl1 (by omega)) rfl rfl (by decide) (by decide) (by decide) (by decide) (by omega) (by omega) (by omega) ?_
  refine N_pF (j := 5) (fs' := [.int 0, .int 0, .int 0, .int 0, .ref (G.2.2 88), .ref (G.2.2 89), .null]) ok hi dX1_init_17 (by omega) rfl inX1 tyX1_ok nmX1 kw173 rfl (by decide) rfl rfl rfl rfl (Nat.le_of_ble_eq_true rfl) rfl ?_
  refine N_aload0 ok dX1_init_20 ?_
  refine N_bipush (v := 120) ok dX1_init_21 (by decide) ?_
  refine N_newL (N := 120) ok hE dX1_init_23 (tl1 (by omega)) rfl rfl (by decide) (by decide) (by decide) (by omega) (by omega) (by omega) ?_
  refine N_pF (j := 6) (fs' := [.int 0, .int 0, .int 0, .int 0, .ref (G.2.2 88), .ref (G.2.2 89), .ref (G.2.2 90)]) ok hi dX1_init_25 (by omega) rfl inX1 tyX1_ok nmX1 kw175 rfl (by decide) rfl rfl rfl rfl (Nat.le_of_ble_eq_true rfl) rfl ?_
  refine N_e (ud_same ((fin_ge (Nat.le_refl _)).trans ?_)) (N_ret ok hE or dX1_init_28 (by omega))
  rfl
theorem k_X10_91 {l : Launch} {G : Gw} {h : Nat} {c : Nat → va_E} (hc : c 91 = .inr (10, [.null, .null, .null, .null, .int 0, .null, .int 0])) : Ck l yX10_init cX10_init 2 1 G h [.ref (G.2.2 91), .ref (G.2.2 87)] (92) c (96) (fin G c 91) 94 := by
  refine Ck.of (by decide +kernel) rfl (Nat.le_of_ble_eq_true rfl) [some (.ref (G.2.2 91)), some (.ref (G.2.2 87))] rfl (fun E ok or hi hE _ => ?_)
  have ok : OkC E G h RX10 cX10_init 2 1 (96 - (92)) 94 := ok
  refine N_c (B0_eq (G := G) hc) ?_
  refine N_aload0 ok dX10_init_0 ?_
  refine N_objInit ok dX10_init_1 kw197 (by omega) rfl ?_
  refine N_aload0 ok dX10_init_4 ?_
  refine N_bipush (v := 30) ok dX10_init_5 (by decide) ?_
  refine N_newI (N := 30) ok hE dX10_init_7 (tl1 (by omega)) rfl rfl (by decide) (by decide) (by decide) (by decide) (by omega) (by omega) (by omega) ?_
  refine N_pF (j := 1) (fs' := [.null, .ref (G.2.2 92), .null, .null, .int 0, .null, .int 0]) ok hi dX10_init_9 (by omega) rfl inX10 tyX10_ok nmX10 kw199 rfl (by decide) rfl rfl rfl rfl (Nat.le_of_ble_eq_true rfl) rfl ?_
  refine N_aload0 ok dX10_init_12 ?_
  refine N_bipush (v := 30) ok dX10_init_13 (by decide) ?_
  refine N_newI (N := 30) ok hE dX10_init_15 (tl1 (by omega)) rfl rfl (by decide) (by decide) (by decide) (by decide) (by omega) (by omega) (by omega) ?_
  refine N_pF (j := 2) (fs' := [.null, .ref (G.2.2 92), .ref (G.2.2 93), .null, .int 0, .null, .int 0]) ok hi dX10_init_17 (by omega) rfl inX10 tyX10_ok nmX10 kw200 rfl (by decide) rfl rfl rfl rfl (Nat.le_of_ble_eq_true rfl) rfl ?_
  refine N_aload0 ok dX10_init_20 ?_
  refine N_iconst (v := 4) ok dX10_init_21 (by decide) ?_
  refine N_newL (N := 4) ok hE dX10_init_22 (tl1 (by omega)) rfl rfl (by decide) (by decide) (by decide) (by omega) (by omega) (by omega) ?_
  refine N_pF (j := 3) (fs' := [.null, .ref (G.2.2 92), .ref (G.2.2 93), .ref (G.2.2 94), .int 0, .null, .int 0]) ok hi dX10_init_24 (by omega) rfl inX10 tyX10_ok nmX10 kw201 rfl (by decide) rfl rfl rfl rfl (Nat.le_of_ble_eq_true rfl) rfl ?_
  refine N_aload0 ok dX10_init_27 ?_
  refine N_bipush (v := 30) ok dX10_init_28 (by decide) ?_
  refine N_newI (N := 30) ok hE dX10_init_30 (tl1 (by omega)) rfl rfl (by decide) (by decide) (by decide) (by decide) (by omega) (by omega) (by omega) ?_
  refine N_pF (j := 5) (fs' := [.null, .ref (G.2.2 92), .ref (G.2.2 93), .ref (G.2.2 94), .int 0, .ref (G.2.2 95), .int 0]) ok hi dX10_init_32 (by omega) rfl inX10 tyX10_ok nmX10 kw203 rfl (by decide) rfl rfl rfl rfl (Nat.le_of_ble_eq_true rfl) rfl ?_
  refine N_aload0 ok dX10_init_35 ?_
  refine N_aload1 ok dX10_init_36 ?_
  refine N_pF (j := 0) (fs' := [.ref (G.2.2 87), .ref (G.2.2 92), .ref (G.2.2 93), .ref (G.2.2 94), .int 0, .ref (G.2.2 95), .int 0]) ok hi dX10_init_37 (by omega) rfl inX10 tyX10_ok nmX10 kw198 rfl (by decide) rfl rfl rfl rfl (Nat.le_of_ble_eq_true rfl) rfl ?_
  refine N_e (ud_same ((fin_ge (Nat.le_refl _)).trans ?_)) (N_ret ok hE or dX10_init_40 (by omega))
  rfl
theorem cwi_RX3_11 : CwJ RX3 11 yX5_init cX5_init 1 0 RX11 := ⟨List.mem_of_getElem? (i := 6) rfl, kw91, kw59, kw92, ⟨by decide +kernel, by decide +kernel, by decide +kernel⟩, by decide, rfl⟩
theorem k_X3_96 {l : Launch} {G : Gw} {h : Nat} {c : Nat → va_E} (hc : c 96 = .inr (3, [.null, .null, .int 0, .null, .int 0, .int 0, .int 0])) : Ck l yX3_init cX3_init 2 2 G h [.ref (G.2.2 96), .ref (G.2.2 91)] (97) c (100) (fin G c 96) 62 := by
  refine Ck.of (by decide +kernel) rfl (Nat.le_of_ble_eq_true rfl) [some (.ref (G.2.2 96)), some (.ref (G.2.2 91))] rfl (fun E ok or hi hE _ => ?_)
  have ok : OkC E G h RX3 cX3_init 2 2 (100 - (97)) 62 := ok
  refine N_c (B0_eq (G := G) hc) ?_
  refine N_aload0 ok dX3_init_0 ?_
  refine N_objInit ok dX3_init_1 kw227 (by omega) rfl ?_
  refine N_aload0 ok dX3_init_4 ?_
  refine N_new (ci := 5) (fs := [.int 0, .null]) (ty := tyX5) ok dX3_init_5 rfl inX5 tyX5_ok kw228 kw89 kw59 (fun j hj => by
    have : j = 0 ∨ j = 1 := by omega
    rcases this with rfl | rfl <;> rfl) (by omega) (by omega) (by omega) ?_
  refine N_dup ok dX3_init_8 rfl ?_
  refine N_initN (n' := 99) (ms' := 30) (As := []) ok dX3_init_9 cwi_RX3_11 (k_X5 (k := 97) rfl rfl rfl rfl (ud_eq _ _ _)) rfl rfl (by decide) (Nat.le_of_ble_eq_true rfl) (by omega) (by omega) (by omega) (by omega) (by omega) (N_e (fin_ud (tl1 (by omega))) ?_)
  refine N_pF (j := 1) (fs' := [.null, .ref (G.2.2 97), .int 0, .null, .int 0, .int 0, .int 0]) ok hi dX3_init_12 (by omega) rfl inX3 tyX3_ok nmX3 kw231 rfl (by decide) rfl rfl rfl rfl (Nat.le_of_ble_eq_true rfl) rfl ?_
  refine N_aload0 ok dX3_init_15 ?_
  refine N_bipush (v := 30) ok dX3_init_16 (by decide) ?_
  refine N_newI (N := 30) ok hE dX3_init_18 (tl1 (by omega)) rfl rfl (by decide) (by decide) (by decide) (by decide) (by omega) (by omega) (by omega) ?_
  refine N_pF (j := 3) (fs' := [.null, .ref (G.2.2 97), .int 0, .ref (G.2.2 99), .int 0, .int 0, .int 0]) ok hi dX3_init_20 (by omega) rfl inX3 tyX3_ok nmX3 kw233 rfl (by decide) rfl rfl rfl rfl (Nat.le_of_ble_eq_true rfl) rfl ?_
  refine N_aload0 ok dX3_init_23 ?_
  refine N_aload1 ok dX3_init_24 ?_
  refine N_pF (j := 0) (fs' := [.ref (G.2.2 91), .ref (G.2.2 97), .int 0, .ref (G.2.2 99), .int 0, .int 0, .int 0]) ok hi dX3_init_25 (by omega) rfl inX3 tyX3_ok nmX3 kw230 rfl (by decide) rfl rfl rfl rfl (Nat.le_of_ble_eq_true rfl) rfl ?_
  refine N_e (ud_same ((fin_ge (Nat.le_refl _)).trans ?_)) (N_ret ok hE or dX3_init_28 (by omega))
  rfl
theorem k_X0_100 {l : Launch} {G : Gw} {h : Nat} {c : Nat → va_E} (hc : c 100 = .inr (0, [.null, .null, .int 0, .null, .int 0])) : Ck l yX0_init cX0_init 2 1 G h [.ref (G.2.2 100), .ref (G.2.2 91)] (101) c (103) (fin G c 100) 158 := by
  refine Ck.of (by decide +kernel) rfl (Nat.le_of_ble_eq_true rfl) [some (.ref (G.2.2 100)), some (.ref (G.2.2 91))] rfl (fun E ok or hi hE _ => ?_)
  have ok : OkC E G h RX0 cX0_init 2 1 (103 - (101)) 158 := ok
  refine N_c (B0_eq (G := G) hc) ?_
  refine N_aload0 ok dX0_init_0 ?_
  refine N_objInit ok dX0_init_1 kw261 (by omega) rfl ?_
  refine N_aload0 ok dX0_init_4 ?_
  refine N_bipush (v := 30) ok dX0_init_5 (by decide) ?_
  refine N_newI (N := 30) ok hE dX0_init_7 (tl1 (by omega)) rfl rfl (by decide) (by decide) (by decide) (by decide) (by omega) (by omega) (by omega) ?_
  refine N_pF (j := 1) (fs' := [.null, .ref (G.2.2 101), .int 0, .null, .int 0]) ok hi dX0_init_9 (by omega) rfl inX0 tyX0_ok nmX0 kw263 rfl (by decide) rfl rfl rfl rfl (Nat.le_of_ble_eq_true rfl) rfl ?_
  refine N_aload0 ok dX0_init_12 ?_
  refine N_sipush (v := 128) ok dX0_init_13 (by decide) ?_
  refine N_newI (N := 128) ok hE dX0_init_16 (tl1 (by omega)) rfl rfl (by decide) (by decide) (by decide) (by decide) (by omega) (by omega) (by omega) ?_
  refine N_pF (j := 3) (fs' := [.null, .ref (G.2.2 101), .int 0, .ref (G.2.2 102), .int 0]) ok hi dX0_init_18 (by omega) rfl inX0 tyX0_ok nmX0 kw265 rfl (by decide) rfl rfl rfl rfl (Nat.le_of_ble_eq_true rfl) rfl ?_
  refine N_aload0 ok dX0_init_21 ?_
  refine N_aload1 ok dX0_init_22 ?_
  refine N_pF (j := 0) (fs' := [.ref (G.2.2 91), .ref (G.2.2 101), .int 0, .ref (G.2.2 102), .int 0]) ok hi dX0_init_23 (by omega) rfl inX0 tyX0_ok nmX0 kw262 rfl (by decide) rfl rfl rfl rfl (Nat.le_of_ble_eq_true rfl) rfl ?_
  refine N_e (ud_same ((fin_ge (Nat.le_refl _)).trans ?_)) (N_ret ok hE or dX0_init_26 (by omega))
  rfl
theorem cwi_RX9_17 : CwJ RX9 17 yX5_init cX5_init 1 0 RX11 := ⟨List.mem_of_getElem? (i := 10) rfl, kw91, kw59, kw92, ⟨by decide +kernel, by decide +kernel, by decide +kernel⟩, by decide, rfl⟩
theorem k_X9_110 {l : Launch} {G : Gw} {h : Nat} {c : Nat → va_E} (hc : c 110 = .inr (9, [.null, .int 0, .int 0, .int 0, .null])) : Ck l yX9_init cX9_init 1 2 G h [.ref (G.2.2 110)] (111) c (114) (fin G c 110) 132 := by
  refine Ck.of (by decide +kernel) rfl (Nat.le_of_ble_eq_true rfl) [some (.ref (G.2.2 110))] rfl (fun E ok or hi hE _ => ?_)
  have ok : OkC E G h RX9 cX9_init 1 2 (114 - (111)) 132 := ok
  refine N_c (B0_eq (G := G) hc) ?_
  refine N_aload0 ok dX9_init_0 ?_
  refine N_objInit ok dX9_init_1 kw301 (by omega) rfl ?_
  refine N_aload0 ok dX9_init_4 ?_
  refine N_bipush (v := 100) ok dX9_init_5 (by decide) ?_
  refine N_newI (N := 100) ok hE dX9_init_7 (tl1 (by omega)) rfl rfl (by decide) (by decide) (by decide) (by decide) (by omega) (by omega) (by omega) ?_
  refine N_pF (j := 0) (fs' := [.ref (G.2.2 111), .int 0, .int 0, .int 0, .null]) ok hi dX9_init_9 (by omega) rfl inX9 tyX9_ok nmX9 kw304 rfl (by decide) rfl rfl rfl rfl (Nat.le_of_ble_eq_true rfl) rfl ?_
  refine N_aload0 ok dX9_init_12 ?_
  refine N_new (ci := 5) (fs := [.int 0, .null]) (ty := tyX5) ok dX9_init_13 rfl inX5 tyX5_ok kw302 kw89 kw59 (fun j hj => by
    have : j = 0 ∨ j = 1 := by omega
    rcases this with rfl | rfl <;> rfl) (by omega) (by omega) (by omega) ?_
  refine N_dup ok dX9_init_16 rfl ?_
  refine N_initN (n' := 114) (ms' := 30) (As := []) ok dX9_init_17 cwi_RX9_17 (k_X5 (k := 112) rfl rfl rfl rfl (ud_eq _ _ _)) rfl rfl (by decide) (Nat.le_of_ble_eq_true rfl) (by omega) (by omega) (by omega) (by omega) (by omega) (N_e (fin_ud (tl1 (by omega))) ?_)
  refine N_pF (j := 4) (fs' := [.ref (G.2.2 111), .int 0, .int 0, .int 0, .ref (G.2.2 112)]) ok hi dX9_init_20 (by omega) rfl inX9 tyX9_ok nmX9 kw310 rfl (by decide) rfl rfl rfl rfl (Nat.le_of_ble_eq_true rfl) rfl ?_
  refine N_e (ud_same ((fin_ge (Nat.le_refl _)).trans ?_)) (N_ret ok hE or dX9_init_23 (by omega))
  rfl
theorem k_X7_114 {l : Launch} {G : Gw} {h : Nat} {c : Nat → va_E} (hc : c 114 = .inr (7, [.int 0, .null])) : Ck l yX7_init cX7_init 1 1 G h [.ref (G.2.2 114)] (115) c (116) (fin G c 114) 160 := by
  refine Ck.of (by decide +kernel) rfl (Nat.le_of_ble_eq_true rfl) [some (.ref (G.2.2 114))] rfl (fun E ok or hi hE _ => ?_)
  have ok : OkC E G h RX7 cX7_init 1 1 (116 - (115)) 160 := ok
  refine N_c (B0_eq (G := G) hc) ?_
  refine N_aload0 ok dX7_init_0 ?_
  refine N_objInit ok dX7_init_1 kw328 (by omega) rfl ?_
  refine N_aload0 ok dX7_init_4 ?_
  refine N_sipush (v := 160) ok dX7_init_5 (by decide) ?_
  refine N_newI (N := 160) ok hE dX7_init_8 (tl1 (by omega)) rfl rfl (by decide) (by decide) (by decide) (by decide) (by omega) (by omega) (by omega) ?_
  refine N_pF (j := 1) (fs' := [.int 0, .ref (G.2.2 115)]) ok hi dX7_init_10 (by omega) rfl inX7 tyX7_ok nmX7 kw331 rfl (by decide) rfl rfl rfl rfl (Nat.le_of_ble_eq_true rfl) rfl ?_
  refine N_e (ud_same ((fin_ge (Nat.le_refl _)).trans ?_)) (N_ret ok hE or dX7_init_13 (by omega))
  rfl
theorem cwi_RX8_11 : CwJ RX8 11 yX5_init cX5_init 1 0 RX11 := ⟨List.mem_of_getElem? (i := 8) rfl, kw91, kw59, kw92, ⟨by decide +kernel, by decide +kernel, by decide +kernel⟩, by decide, rfl⟩
theorem cwi_RX8_20 : CwJ RX8 20 yX4_init cX4_init 1 0 RX11 := ⟨List.mem_of_getElem? (i := 9) rfl, kw112, kw60, kw113, ⟨by decide +kernel, by decide +kernel, by decide +kernel⟩, by decide, rfl⟩
theorem cwi_RX8_27 : CwI RX8 27 yX6_init cX6_init 2 0 := ⟨kw131, kw132, kw61, kw133, ⟨by decide +kernel, by decide +kernel, by decide +kernel⟩, by decide, rfl⟩
theorem k_X8_1 {l : Launch} {G : Gw} {h : Nat} {c : Nat → va_E} (hc : c 1 = .inr (8, [.null, .null, .null])) : Ck l yX8_init cX8_init 1 3 G h [.ref (G.2.2 1)] (2) c (44) (fin G c 1) 585 := by
  refine Ck.of (by decide +kernel) rfl (Nat.le_of_ble_eq_true rfl) [some (.ref (G.2.2 1))] rfl (fun E ok or hi hE _ => ?_)
  have ok : OkC E G h RX8 cX8_init 1 3 (44 - (2)) 585 := ok
  refine N_c (B0_eq (G := G) hc) ?_
  refine N_aload0 ok dX8_init_0 ?_
  refine N_objInit ok dX8_init_1 kw87 (by omega) rfl ?_
  refine N_aload0 ok dX8_init_4 ?_
  refine N_new (ci := 5) (fs := [.int 0, .null]) (ty := tyX5) ok dX8_init_5 rfl inX5 tyX5_ok kw88 kw89 kw59 (fun j hj => by
    have : j = 0 ∨ j = 1 := by omega
    rcases this with rfl | rfl <;> rfl) (by omega) (by omega) (by omega) ?_
  refine N_dup ok dX8_init_8 rfl ?_
  refine N_initN (n' := 4) (ms' := 30) (As := []) ok dX8_init_9 cwi_RX8_11 (k_X5 (k := 2) rfl rfl rfl rfl (ud_eq _ _ _)) rfl rfl (by decide) (Nat.le_of_ble_eq_true rfl) (by omega) (by omega) (by omega) (by omega) (by omega) (N_e (fin_ud (tl1 (by omega))) ?_)
  refine N_pF (j := 0) (fs' := [.ref (G.2.2 2), .null, .null]) ok hi dX8_init_12 (by omega) rfl inX8 tyX8_ok nmX8 kw147 rfl (by decide) rfl rfl rfl rfl (Nat.le_of_ble_eq_true rfl) rfl ?_
  refine N_aload0 ok dX8_init_15 ?_
  refine N_new (ci := 4) (fs := [.int 0, .null, .null]) (ty := tyX4) ok dX8_init_16 rfl inX4 tyX4_ok kw109 kw110 kw60 (fun j hj => by
    have : j = 0 ∨ j = 1 ∨ j = 2 := by omega
    rcases this with rfl | rfl | rfl <;> rfl) (by omega) (by omega) (by omega) ?_
  refine N_dup ok dX8_init_19 rfl ?_
  refine N_initN (n' := 7) (ms' := 16) (As := []) ok dX8_init_20 cwi_RX8_20 (k_X4 (k := 4) rfl rfl rfl rfl rfl rfl rfl (ud_eq _ _ _)) rfl rfl (by decide) (Nat.le_of_ble_eq_true rfl) (by omega) (by omega) (by omega) (by omega) (by omega) (N_e (fin_ud (tl1 (by omega))) ?_)
  refine N_pF (j := 1) (fs' := [.ref (G.2.2 2), .ref (G.2.2 4), .null]) ok hi dX8_init_23 (by omega) rfl inX8 tyX8_ok nmX8 kw149 rfl (by decide) rfl rfl rfl rfl (Nat.le_of_ble_eq_true rfl) rfl ?_
  refine N_aload0 ok dX8_init_26 ?_
  refine N_iconst (v := 2) ok dX8_init_27 (by decide) ?_
  refine N_newq (t := 5) (N := 2) ok dX8_init_28 kw128 (fun _ U => U.2.2.1) rfl (by decide) (by decide) (by decide) (by omega) (by omega) (by omega) ?_
  refine N_dup ok dX8_init_31 rfl ?_
  refine N_iconst (v := 0) ok dX8_init_32 (by decide) ?_
  refine N_new (ci := 6) (fs := [.int 0, .null]) (ty := tyX6) ok dX8_init_33 rfl inX6 tyX6_ok kw128 kw130 kw61 (fun j hj => by
    have : j = 0 ∨ j = 1 := by omega
    rcases this with rfl | rfl <;> rfl) (by omega) (by omega) (by omega) ?_
  refine N_dup ok dX8_init_36 rfl ?_
  refine N_init (n' := 26) (ms' := 264) (As := []) ok dX8_init_37 cwi_RX8_27 (k_X6 (k := 8) (by decide +kernel) (ud_eq _ _ _)) rfl rfl (by decide) (Nat.le_of_ble_eq_true rfl) (by omega) (by omega) (by omega) (by omega) (by omega) (N_e (fin_ud (tl2 (by omega) (by omega))) ?_)
  refine N_aQ (ka := 7) (kv := 8) (ci := 6) (t := 5) (i := 0) ok dX8_init_40 (by omega) (by omega) rfl (by omega) ((tl1 (by omega) _ (Nat.le_refl _)).trans (cel_o rfl (by decide))) rfl rfl (by decide) (by decide) ?_
  refine N_dup ok dX8_init_41 rfl ?_
  refine N_iconst (v := 1) ok dX8_init_42 (by decide) ?_
  refine N_new (ci := 6) (fs := [.int 0, .null]) (ty := tyX6) ok dX8_init_43 rfl inX6 tyX6_ok kw128 kw130 kw61 (fun j hj => by
    have : j = 0 ∨ j = 1 := by omega
    rcases this with rfl | rfl <;> rfl) (by omega) (by omega) (by omega) ?_
  refine N_dup ok dX8_init_46 rfl ?_
  refine N_init (n' := 44) (ms' := 264) (As := []) ok dX8_init_47 cwi_RX8_27 (k_X6 (k := 26) (by decide +kernel) (ud_eq _ _ _)) rfl rfl (by decide) (Nat.le_of_ble_eq_true rfl) (by omega) (by omega) (by omega) (by omega) (by omega) (N_e (fin_ud (tl2 (by omega) (by omega))) ?_)
  refine N_aQ (ka := 7) (kv := 26) (ci := 6) (t := 5) (i := 1) ok dX8_init_50 (by omega) (by omega) rfl (by omega) ((tl1 (by omega) _ (Nat.le_refl _)).trans (cel_o rfl (by decide))) rfl rfl (by decide) (by decide) ?_
  refine N_ceq (c' := ud (fin G c 1) 1 (.inr (8, [.ref (G.2.2 2), .ref (G.2.2 4), .null]))) (fun j _ => ?_) ?_
  · by_cases hj : j = 7
    · subst hj
      rw [ud_eq, ud_ne _ _ (by omega), fin_ge (by omega), cel_q (t := 5) rfl (by decide)]
      exact ceq.q (fun j hj => by
        have : j = 0 ∨ j = 1 := by change j < 2 at hj; omega
        rcases this with rfl | rfl <;> rfl)
    · exact ceq.rf (ud_ne _ _ hj)
  refine N_pF (j := 2) (fs' := [.ref (G.2.2 2), .ref (G.2.2 4), .ref (G.2.2 7)]) ok hi dX8_init_51 (by omega) rfl inX8 tyX8_ok nmX8 kw151 rfl (by decide) rfl rfl rfl rfl (Nat.le_of_ble_eq_true rfl) rfl ?_
  refine N_e (ud_same ((fin_ge (Nat.le_refl _)).trans ?_)) (N_ret ok hE or dX8_init_54 (by omega))
  rfl
theorem k_X8_44 {l : Launch} {G : Gw} {h : Nat} {c : Nat → va_E} (hc : c 44 = .inr (8, [.null, .null, .null])) : Ck l yX8_init cX8_init 1 3 G h [.ref (G.2.2 44)] (45) c (87) (fin G c 44) 585 := by
  refine Ck.of (by decide +kernel) rfl (Nat.le_of_ble_eq_true rfl) [some (.ref (G.2.2 44))] rfl (fun E ok or hi hE _ => ?_)
  have ok : OkC E G h RX8 cX8_init 1 3 (87 - (45)) 585 := ok
  refine N_c (B0_eq (G := G) hc) ?_
  refine N_aload0 ok dX8_init_0 ?_
  refine N_objInit ok dX8_init_1 kw87 (by omega) rfl ?_
  refine N_aload0 ok dX8_init_4 ?_
  refine N_new (ci := 5) (fs := [.int 0, .null]) (ty := tyX5) ok dX8_init_5 rfl inX5 tyX5_ok kw88 kw89 kw59 (fun j hj => by
    have : j = 0 ∨ j = 1 := by omega
    rcases this with rfl | rfl <;> rfl) (by omega) (by omega) (by omega) ?_
  refine N_dup ok dX8_init_8 rfl ?_
  refine N_initN (n' := 47) (ms' := 30) (As := []) ok dX8_init_9 cwi_RX8_11 (k_X5 (k := 45) rfl rfl rfl rfl (ud_eq _ _ _)) rfl rfl (by decide) (Nat.le_of_ble_eq_true rfl) (by omega) (by omega) (by omega) (by omega) (by omega) (N_e (fin_ud (tl1 (by omega))) ?_)
  refine N_pF (j := 0) (fs' := [.ref (G.2.2 45), .null, .null]) ok hi dX8_init_12 (by omega) rfl inX8 tyX8_ok nmX8 kw147 rfl (by decide) rfl rfl rfl rfl (Nat.le_of_ble_eq_true rfl) rfl ?_
  refine N_aload0 ok dX8_init_15 ?_
  refine N_new (ci := 4) (fs := [.int 0, .null, .null]) (ty := tyX4) ok dX8_init_16 rfl inX4 tyX4_ok kw109 kw110 kw60 (fun j hj => by
    have : j = 0 ∨ j = 1 ∨ j = 2 := by omega
    rcases this with rfl | rfl | rfl <;> rfl) (by omega) (by omega) (by omega) ?_
  refine N_dup ok dX8_init_19 rfl ?_
  refine N_initN (n' := 50) (ms' := 16) (As := []) ok dX8_init_20 cwi_RX8_20 (k_X4 (k := 47) rfl rfl rfl rfl rfl rfl rfl (ud_eq _ _ _)) rfl rfl (by decide) (Nat.le_of_ble_eq_true rfl) (by omega) (by omega) (by omega) (by omega) (by omega) (N_e (fin_ud (tl1 (by omega))) ?_)
  refine N_pF (j := 1) (fs' := [.ref (G.2.2 45), .ref (G.2.2 47), .null]) ok hi dX8_init_23 (by omega) rfl inX8 tyX8_ok nmX8 kw149 rfl (by decide) rfl rfl rfl rfl (Nat.le_of_ble_eq_true rfl) rfl ?_
  refine N_aload0 ok dX8_init_26 ?_
  refine N_iconst (v := 2) ok dX8_init_27 (by decide) ?_
  refine N_newq (t := 5) (N := 2) ok dX8_init_28 kw128 (fun _ U => U.2.2.1) rfl (by decide) (by decide) (by decide) (by omega) (by omega) (by omega) ?_
  refine N_dup ok dX8_init_31 rfl ?_
  refine N_iconst (v := 0) ok dX8_init_32 (by decide) ?_
  refine N_new (ci := 6) (fs := [.int 0, .null]) (ty := tyX6) ok dX8_init_33 rfl inX6 tyX6_ok kw128 kw130 kw61 (fun j hj => by
    have : j = 0 ∨ j = 1 := by omega
    rcases this with rfl | rfl <;> rfl) (by omega) (by omega) (by omega) ?_
  refine N_dup ok dX8_init_36 rfl ?_
  refine N_init (n' := 69) (ms' := 264) (As := []) ok dX8_init_37 cwi_RX8_27 (k_X6 (k := 51) (by decide +kernel) (ud_eq _ _ _)) rfl rfl (by decide) (Nat.le_of_ble_eq_true rfl) (by omega) (by omega) (by omega) (by omega) (by omega) (N_e (fin_ud (tl2 (by omega) (by omega))) ?_)
  refine N_aQ (ka := 50) (kv := 51) (ci := 6) (t := 5) (i := 0) ok dX8_init_40 (by omega) (by omega) rfl (by omega) ((tl1 (by omega) _ (Nat.le_refl _)).trans (cel_o rfl (by decide))) rfl rfl (by decide) (by decide) ?_
  refine N_dup ok dX8_init_41 rfl ?_
  refine N_iconst (v := 1) ok dX8_init_42 (by decide) ?_
  refine N_new (ci := 6) (fs := [.int 0, .null]) (ty := tyX6) ok dX8_init_43 rfl inX6 tyX6_ok kw128 kw130 kw61 (fun j hj => by
    have : j = 0 ∨ j = 1 := by omega
    rcases this with rfl | rfl <;> rfl) (by omega) (by omega) (by omega) ?_
  refine N_dup ok dX8_init_46 rfl ?_
  refine N_init (n' := 87) (ms' := 264) (As := []) ok dX8_init_47 cwi_RX8_27 (k_X6 (k := 69) (by decide +kernel) (ud_eq _ _ _)) rfl rfl (by decide) (Nat.le_of_ble_eq_true rfl) (by omega) (by omega) (by omega) (by omega) (by omega) (N_e (fin_ud (tl2 (by omega) (by omega))) ?_)
  refine N_aQ (ka := 50) (kv := 69) (ci := 6) (t := 5) (i := 1) ok dX8_init_50 (by omega) (by omega) rfl (by omega) ((tl1 (by omega) _ (Nat.le_refl _)).trans (cel_o rfl (by decide))) rfl rfl (by decide) (by decide) ?_
  refine N_ceq (c' := ud (fin G c 44) 44 (.inr (8, [.ref (G.2.2 45), .ref (G.2.2 47), .null]))) (fun j _ => ?_) ?_
  · by_cases hj : j = 50
    · subst hj
      rw [ud_eq, ud_ne _ _ (by omega), fin_ge (by omega), cel_q (t := 5) rfl (by decide)]
      exact ceq.q (fun j hj => by
        have : j = 0 ∨ j = 1 := by change j < 2 at hj; omega
        rcases this with rfl | rfl <;> rfl)
    · exact ceq.rf (ud_ne _ _ hj)
  refine N_pF (j := 2) (fs' := [.ref (G.2.2 45), .ref (G.2.2 47), .ref (G.2.2 50)]) ok hi dX8_init_51 (by omega) rfl inX8 tyX8_ok nmX8 kw151 rfl (by decide) rfl rfl rfl rfl (Nat.le_of_ble_eq_true rfl) rfl ?_
  refine N_e (ud_same ((fin_ge (Nat.le_refl _)).trans ?_)) (N_ret ok hE or dX8_init_54 (by omega))
  rfl
theorem cwi_RX11_11 : CwJ RX11 11 yX8_init cX8_init 1 0 RX11 := ⟨List.mem_of_getElem? (i := 0) rfl, kw85, kw58, kw86, ⟨by decide +kernel, by decide +kernel, by decide +kernel⟩, by decide, rfl⟩
theorem cwi_RX11_23 : CwJ RX11 23 yX1_init cX1_init 1 0 RX11 := ⟨List.mem_of_getElem? (i := 1) rfl, kw163, kw62, kw164, ⟨by decide +kernel, by decide +kernel, by decide +kernel⟩, by decide, rfl⟩
theorem cwi_RX11_30 : CwI RX11 30 yX10_init cX10_init 2 1 := ⟨kw194, kw195, kw63, kw196, ⟨by decide +kernel, by decide +kernel, by decide +kernel⟩, by decide, rfl⟩
theorem cwi_RX11_39 : CwI RX11 39 yX3_init cX3_init 2 1 := ⟨kw224, kw225, kw64, kw226, ⟨by decide +kernel, by decide +kernel, by decide +kernel⟩, by decide, rfl⟩
theorem cwi_RX11_48 : CwI RX11 48 yX0_init cX0_init 2 1 := ⟨kw258, kw259, kw65, kw260, ⟨by decide +kernel, by decide +kernel, by decide +kernel⟩, by decide, rfl⟩
theorem cwi_RX11_55 : CwJ RX11 55 yX2_init cX2_init 1 0 RX11 := ⟨List.mem_of_getElem? (i := 2) rfl, kw284, kw66, kw285, ⟨by decide +kernel, by decide +kernel, by decide +kernel⟩, by decide, rfl⟩
theorem cwi_RX11_62 : CwJ RX11 62 yX9_init cX9_init 1 0 RX11 := ⟨List.mem_of_getElem? (i := 3) rfl, kw299, kw67, kw300, ⟨by decide +kernel, by decide +kernel, by decide +kernel⟩, by decide, rfl⟩
theorem cwi_RX11_69 : CwJ RX11 69 yX7_init cX7_init 1 0 RX11 := ⟨List.mem_of_getElem? (i := 4) rfl, kw326, kw68, kw327, ⟨by decide +kernel, by decide +kernel, by decide +kernel⟩, by decide, rfl⟩
theorem cwi_RX11_76 : CwJ RX11 76 yX5_init cX5_init 1 0 RX11 := ⟨List.mem_of_getElem? (i := 5) rfl, kw91, kw59, kw92, ⟨by decide +kernel, by decide +kernel, by decide +kernel⟩, by decide, rfl⟩
theorem k_X11_0 {l : Launch} {G : Gw} {h : Nat} {c : Nat → va_E} (hc : c 0 = .inr (11, [.null, .null, .int 0, .null, .null, .null, .null, .null, .null, .null, .null, .null, .null, .null])) : Ck l yX11_init cX11_init 1 4 G h [.ref (G.2.2 0)] (1) c (121) (fin G c 0) 2387 := by
  refine Ck.of (by decide +kernel) rfl (Nat.le_of_ble_eq_true rfl) [some (.ref (G.2.2 0))] rfl (fun E ok or hi hE _ => ?_)
  have ok : OkC E G h RX11 cX11_init 1 4 (121 - (1)) 2387 := ok
  refine N_c (B0_eq (G := G) hc) ?_
  refine N_aload0 ok dX11_init_0 ?_
  refine N_objInit ok dX11_init_1 kw79 (by omega) rfl ?_
  refine N_aload0 ok dX11_init_4 ?_
  refine N_new (ci := 8) (fs := [.null, .null, .null]) (ty := tyX8) ok dX11_init_5 rfl inX8 tyX8_ok kw82 kw83 kw58 (fun j hj => by
    have : j = 0 ∨ j = 1 ∨ j = 2 := by omega
    rcases this with rfl | rfl | rfl <;> rfl) (by omega) (by omega) (by omega) ?_
  refine N_dup ok dX11_init_8 rfl ?_
  refine N_initN (n' := 44) (ms' := 585) (As := []) ok dX11_init_9 cwi_RX11_11 (k_X8_1 (ud_eq _ _ _)) rfl rfl (by decide) (Nat.le_of_ble_eq_true rfl) (by omega) (by omega) (by omega) (by omega) (by omega) (N_e (fin_ud (tl1 (by omega))) ?_)
  refine N_pF (j := 0) (fs' := [.ref (G.2.2 1), .null, .int 0, .null, .null, .null, .null, .null, .null, .null, .null, .null, .null, .null]) ok hi dX11_init_12 (by omega) rfl inX11 tyX11_ok nmX11 kw340 rfl (by decide) rfl rfl rfl rfl (Nat.le_of_ble_eq_true rfl) rfl ?_
  refine N_aload0 ok dX11_init_15 ?_
  refine N_new (ci := 8) (fs := [.null, .null, .null]) (ty := tyX8) ok dX11_init_16 rfl inX8 tyX8_ok kw82 kw83 kw58 (fun j hj => by
    have : j = 0 ∨ j = 1 ∨ j = 2 := by omega
    rcases this with rfl | rfl | rfl <;> rfl) (by omega) (by omega) (by omega) ?_
  refine N_dup ok dX11_init_19 rfl ?_
  refine N_initN (n' := 87) (ms' := 585) (As := []) ok dX11_init_20 cwi_RX11_11 (k_X8_44 (ud_eq _ _ _)) rfl rfl (by decide) (Nat.le_of_ble_eq_true rfl) (by omega) (by omega) (by omega) (by omega) (by omega) (N_e (fin_ud (tl1 (by omega))) ?_)
  refine N_pF (j := 1) (fs' := [.ref (G.2.2 1), .ref (G.2.2 44), .int 0, .null, .null, .null, .null, .null, .null, .null, .null, .null, .null, .null]) ok hi dX11_init_23 (by omega) rfl inX11 tyX11_ok nmX11 kw341 rfl (by decide) rfl rfl rfl rfl (Nat.le_of_ble_eq_true rfl) rfl ?_
  refine N_aload0 ok dX11_init_26 ?_
  refine N_new (ci := 1) (fs := [.int 0, .int 0, .int 0, .int 0, .null, .null, .null]) (ty := tyX1) ok dX11_init_27 rfl inX1 tyX1_ok kw160 kw161 kw62 (fun j hj => by
    have : j = 0 ∨ j = 1 ∨ j = 2 ∨ j = 3 ∨ j = 4 ∨ j = 5 ∨ j = 6 := by omega
    rcases this with rfl | rfl | rfl | rfl | rfl | rfl | rfl <;> rfl) (by omega) (by omega) (by omega) ?_
  refine N_dup ok dX11_init_30 rfl ?_
  refine N_initN (n' := 91) (ms' := 180) (As := []) ok dX11_init_31 cwi_RX11_23 (k_X1_87 (ud_eq _ _ _)) rfl rfl (by decide) (Nat.le_of_ble_eq_true rfl) (by omega) (by omega) (by omega) (by omega) (by omega) (N_e (fin_ud (tl1 (by omega))) ?_)
  refine N_pF (j := 3) (fs' := [.ref (G.2.2 1), .ref (G.2.2 44), .int 0, .ref (G.2.2 87), .null, .null, .null, .null, .null, .null, .null, .null, .null, .null]) ok hi dX11_init_34 (by omega) rfl inX11 tyX11_ok nmX11 kw343 rfl (by decide) rfl rfl rfl rfl (Nat.le_of_ble_eq_true rfl) rfl ?_
  refine N_aload0 ok dX11_init_37 ?_
  refine N_new (ci := 10) (fs := [.null, .null, .null, .null, .int 0, .null, .int 0]) (ty := tyX10) ok dX11_init_38 rfl inX10 tyX10_ok kw192 kw193 kw63 (fun j hj => by
    have : j = 0 ∨ j = 1 ∨ j = 2 ∨ j = 3 ∨ j = 4 ∨ j = 5 ∨ j = 6 := by omega
    rcases this with rfl | rfl | rfl | rfl | rfl | rfl | rfl <;> rfl) (by omega) (by omega) (by omega) ?_
  refine N_dup ok dX11_init_41 rfl ?_
  refine N_aload0 ok dX11_init_42 ?_
  refine N_getR (ci := 11) (j := 3) (t := 87) (fs := [.ref (G.2.2 1), .ref (G.2.2 44), .int 0, .ref (G.2.2 87), .null, .null, .null, .null, .null, .null, .null, .null, .null, .null]) ok dX11_init_43 (by omega) ((ud_ne _ _ (by omega)).trans (ud_eq _ _ _)) rfl inX11 rfl kw343 rfl (by decide) ?_
  refine N_init (n' := 96) (ms' := 94) (As := [.ref (G.2.2 87)]) ok dX11_init_46 cwi_RX11_30 (k_X10_91 (ud_eq _ _ _)) rfl rfl (by decide) (Nat.le_of_ble_eq_true rfl) (by omega) (by omega) (by omega) (by omega) (by omega) (N_e (fin_ud (tl1 (by omega))) ?_)
  refine N_pF (j := 4) (fs' := [.ref (G.2.2 1), .ref (G.2.2 44), .int 0, .ref (G.2.2 87), .ref (G.2.2 91), .null, .null, .null, .null, .null, .null, .null, .null, .null]) ok hi dX11_init_49 (by omega) rfl inX11 tyX11_ok nmX11 kw344 rfl (by decide) rfl rfl rfl rfl (Nat.le_of_ble_eq_true rfl) rfl ?_
  refine N_aload0 ok dX11_init_52 ?_
  refine N_new (ci := 3) (fs := [.null, .null, .int 0, .null, .int 0, .int 0, .int 0]) (ty := tyX3) ok dX11_init_53 rfl inX3 tyX3_ok kw222 kw223 kw64 (fun j hj => by
    have : j = 0 ∨ j = 1 ∨ j = 2 ∨ j = 3 ∨ j = 4 ∨ j = 5 ∨ j = 6 := by omega
    rcases this with rfl | rfl | rfl | rfl | rfl | rfl | rfl <;> rfl) (by omega) (by omega) (by omega) ?_
  refine N_dup ok dX11_init_56 rfl ?_
  refine N_aload0 ok dX11_init_57 ?_
  refine N_getR (ci := 11) (j := 4) (t := 91) (fs := [.ref (G.2.2 1), .ref (G.2.2 44), .int 0, .ref (G.2.2 87), .ref (G.2.2 91), .null, .null, .null, .null, .null, .null, .null, .null, .null]) ok dX11_init_58 (by omega) ((ud_ne _ _ (by omega)).trans (ud_eq _ _ _)) rfl inX11 rfl kw344 rfl (by decide) ?_
  refine N_init (n' := 100) (ms' := 62) (As := [.ref (G.2.2 91)]) ok dX11_init_61 cwi_RX11_39 (k_X3_96 (ud_eq _ _ _)) rfl rfl (by decide) (Nat.le_of_ble_eq_true rfl) (by omega) (by omega) (by omega) (by omega) (by omega) (N_e (fin_ud (tl1 (by omega))) ?_)
  refine N_pF (j := 5) (fs' := [.ref (G.2.2 1), .ref (G.2.2 44), .int 0, .ref (G.2.2 87), .ref (G.2.2 91), .ref (G.2.2 96), .null, .null, .null, .null, .null, .null, .null, .null]) ok hi dX11_init_64 (by omega) rfl inX11 tyX11_ok nmX11 kw345 rfl (by decide) rfl rfl rfl rfl (Nat.le_of_ble_eq_true rfl) rfl ?_
  refine N_aload0 ok dX11_init_67 ?_
  refine N_new (ci := 0) (fs := [.null, .null, .int 0, .null, .int 0]) (ty := tyX0) ok dX11_init_68 rfl inX0 tyX0_ok kw256 kw257 kw65 (fun j hj => by
    have : j = 0 ∨ j = 1 ∨ j = 2 ∨ j = 3 ∨ j = 4 := by omega
    rcases this with rfl | rfl | rfl | rfl | rfl <;> rfl) (by omega) (by omega) (by omega) ?_
  refine N_dup ok dX11_init_71 rfl ?_
  refine N_aload0 ok dX11_init_72 ?_
  refine N_getR (ci := 11) (j := 4) (t := 91) (fs := [.ref (G.2.2 1), .ref (G.2.2 44), .int 0, .ref (G.2.2 87), .ref (G.2.2 91), .ref (G.2.2 96), .null, .null, .null, .null, .null, .null, .null, .null]) ok dX11_init_73 (by omega) ((ud_ne _ _ (by omega)).trans (ud_eq _ _ _)) rfl inX11 rfl kw344 rfl (by decide) ?_
  refine N_init (n' := 103) (ms' := 158) (As := [.ref (G.2.2 91)]) ok dX11_init_76 cwi_RX11_48 (k_X0_100 (ud_eq _ _ _)) rfl rfl (by decide) (Nat.le_of_ble_eq_true rfl) (by omega) (by omega) (by omega) (by omega) (by omega) (N_e (fin_ud (tl1 (by omega))) ?_)
  refine N_pF (j := 6) (fs' := [.ref (G.2.2 1), .ref (G.2.2 44), .int 0, .ref (G.2.2 87), .ref (G.2.2 91), .ref (G.2.2 96), .ref (G.2.2 100), .null, .null, .null, .null, .null, .null, .null]) ok hi dX11_init_79 (by omega) rfl inX11 tyX11_ok nmX11 kw346 rfl (by decide) rfl rfl rfl rfl (Nat.le_of_ble_eq_true rfl) rfl ?_
  refine N_aload0 ok dX11_init_82 ?_
  refine N_iconst (v := 3) ok dX11_init_83 (by decide) ?_
  refine N_newq (t := 3) (N := 3) ok dX11_init_84 kw280 (fun _ U => U.2.2.2.2) rfl (by decide) (by decide) (by decide) (by omega) (by omega) (by omega) ?_
  refine N_dup ok dX11_init_87 rfl ?_
  refine N_iconst (v := 0) ok dX11_init_88 (by decide) ?_
  refine N_new (ci := 2) (fs := [.int 0, .null]) (ty := tyX2) ok dX11_init_89 rfl inX2 tyX2_ok kw280 kw282 kw66 (fun j hj => by
    have : j = 0 ∨ j = 1 := by omega
    rcases this with rfl | rfl <;> rfl) (by omega) (by omega) (by omega) ?_
  refine N_dup ok dX11_init_92 rfl ?_
  refine N_initN (n' := 106) (ms' := 30) (As := []) ok dX11_init_93 cwi_RX11_55 (k_X2 (k := 104) rfl rfl rfl rfl (ud_eq _ _ _)) rfl rfl (by decide) (Nat.le_of_ble_eq_true rfl) (by omega) (by omega) (by omega) (by omega) (by omega) (N_e (fin_ud (tl2 (by omega) (by omega))) ?_)
  refine N_aQ (ka := 103) (kv := 104) (ci := 2) (t := 3) (i := 0) ok dX11_init_96 (by omega) (by omega) rfl (by omega) ((tl1 (by omega) _ (Nat.le_refl _)).trans (cel_o rfl (by decide))) rfl rfl (by decide) (by decide) ?_
  refine N_dup ok dX11_init_97 rfl ?_
  refine N_iconst (v := 1) ok dX11_init_98 (by decide) ?_
  refine N_new (ci := 2) (fs := [.int 0, .null]) (ty := tyX2) ok dX11_init_99 rfl inX2 tyX2_ok kw280 kw282 kw66 (fun j hj => by
    have : j = 0 ∨ j = 1 := by omega
    rcases this with rfl | rfl <;> rfl) (by omega) (by omega) (by omega) ?_
  refine N_dup ok dX11_init_102 rfl ?_
  refine N_initN (n' := 108) (ms' := 30) (As := []) ok dX11_init_103 cwi_RX11_55 (k_X2 (k := 106) rfl rfl rfl rfl (ud_eq _ _ _)) rfl rfl (by decide) (Nat.le_of_ble_eq_true rfl) (by omega) (by omega) (by omega) (by omega) (by omega) (N_e (fin_ud (tl2 (by omega) (by omega))) ?_)
  refine N_aQ (ka := 103) (kv := 106) (ci := 2) (t := 3) (i := 1) ok dX11_init_106 (by omega) (by omega) rfl (by omega) ((tl1 (by omega) _ (Nat.le_refl _)).trans (cel_o rfl (by decide))) rfl rfl (by decide) (by decide) ?_
  refine N_dup ok dX11_init_107 rfl ?_
  refine N_iconst (v := 2) ok dX11_init_108 (by decide) ?_
  refine N_new (ci := 2) (fs := [.int 0, .null]) (ty := tyX2) ok dX11_init_109 rfl inX2 tyX2_ok kw280 kw282 kw66 (fun j hj => by
    have : j = 0 ∨ j = 1 := by omega
    rcases this with rfl | rfl <;> rfl) (by omega) (by omega) (by omega) ?_
  refine N_dup ok dX11_init_112 rfl ?_
  refine N_initN (n' := 110) (ms' := 30) (As := []) ok dX11_init_113 cwi_RX11_55 (k_X2 (k := 108) rfl rfl rfl rfl (ud_eq _ _ _)) rfl rfl (by decide) (Nat.le_of_ble_eq_true rfl) (by omega) (by omega) (by omega) (by omega) (by omega) (N_e (fin_ud (tl2 (by omega) (by omega))) ?_)
  refine N_aQ (ka := 103) (kv := 108) (ci := 2) (t := 3) (i := 2) ok dX11_init_116 (by omega) (by omega) rfl (by omega) ((tl1 (by omega) _ (Nat.le_refl _)).trans (cel_o rfl (by decide))) rfl rfl (by decide) (by decide) ?_
  refine N_ceq (c' := ud (fin G c 0) 0 (.inr (11, [.ref (G.2.2 1), .ref (G.2.2 44), .int 0, .ref (G.2.2 87), .ref (G.2.2 91), .ref (G.2.2 96), .ref (G.2.2 100), .null, .null, .null, .null, .null, .null, .null]))) (fun j _ => ?_) ?_
  · by_cases hj : j = 103
    · subst hj
      rw [ud_eq, ud_ne _ _ (by omega), fin_ge (by omega), cel_q (t := 3) rfl (by decide)]
      exact ceq.q (fun j hj => by
        have : j = 0 ∨ j = 1 ∨ j = 2 := by change j < 3 at hj; omega
        rcases this with rfl | rfl | rfl <;> rfl)
    · exact ceq.rf (ud_ne _ _ hj)
  refine N_pF (j := 7) (fs' := [.ref (G.2.2 1), .ref (G.2.2 44), .int 0, .ref (G.2.2 87), .ref (G.2.2 91), .ref (G.2.2 96), .ref (G.2.2 100), .ref (G.2.2 103), .null, .null, .null, .null, .null, .null]) ok hi dX11_init_117 (by omega) rfl inX11 tyX11_ok nmX11 kw347 rfl (by decide) rfl rfl rfl rfl (Nat.le_of_ble_eq_true rfl) rfl ?_
  refine N_aload0 ok dX11_init_120 ?_
  refine N_new (ci := 9) (fs := [.null, .int 0, .int 0, .int 0, .null]) (ty := tyX9) ok dX11_init_121 rfl inX9 tyX9_ok kw296 kw297 kw67 (fun j hj => by
    have : j = 0 ∨ j = 1 ∨ j = 2 ∨ j = 3 ∨ j = 4 := by omega
    rcases this with rfl | rfl | rfl | rfl | rfl <;> rfl) (by omega) (by omega) (by omega) ?_
  refine N_dup ok dX11_init_124 rfl ?_
  refine N_initN (n' := 114) (ms' := 132) (As := []) ok dX11_init_125 cwi_RX11_62 (k_X9_110 (ud_eq _ _ _)) rfl rfl (by decide) (Nat.le_of_ble_eq_true rfl) (by omega) (by omega) (by omega) (by omega) (by omega) (N_e (fin_ud (tl1 (by omega))) ?_)
  refine N_pF (j := 8) (fs' := [.ref (G.2.2 1), .ref (G.2.2 44), .int 0, .ref (G.2.2 87), .ref (G.2.2 91), .ref (G.2.2 96), .ref (G.2.2 100), .ref (G.2.2 103), .ref (G.2.2 110), .null, .null, .null, .null, .null]) ok hi dX11_init_128 (by omega) rfl inX11 tyX11_ok nmX11 kw348 rfl (by decide) rfl rfl rfl rfl (Nat.le_of_ble_eq_true rfl) rfl ?_
  refine N_aload0 ok dX11_init_131 ?_
  refine N_new (ci := 7) (fs := [.int 0, .null]) (ty := tyX7) ok dX11_init_132 rfl inX7 tyX7_ok kw323 kw324 kw68 (fun j hj => by
    have : j = 0 ∨ j = 1 := by omega
    rcases this with rfl | rfl <;> rfl) (by omega) (by omega) (by omega) ?_
  refine N_dup ok dX11_init_135 rfl ?_
  refine N_initN (n' := 116) (ms' := 160) (As := []) ok dX11_init_136 cwi_RX11_69 (k_X7_114 (ud_eq _ _ _)) rfl rfl (by decide) (Nat.le_of_ble_eq_true rfl) (by omega) (by omega) (by omega) (by omega) (by omega) (N_e (fin_ud (tl1 (by omega))) ?_)
  refine N_pF (j := 9) (fs' := [.ref (G.2.2 1), .ref (G.2.2 44), .int 0, .ref (G.2.2 87), .ref (G.2.2 91), .ref (G.2.2 96), .ref (G.2.2 100), .ref (G.2.2 103), .ref (G.2.2 110), .ref (G.2.2 114), .null, .null, .null, .null]) ok hi dX11_init_139 (by omega) rfl inX11 tyX11_ok nmX11 kw349 rfl (by decide) rfl rfl rfl rfl (Nat.le_of_ble_eq_true rfl) rfl ?_
  refine N_aload0 ok dX11_init_142 ?_
  refine N_new (ci := 5) (fs := [.int 0, .null]) (ty := tyX5) ok dX11_init_143 rfl inX5 tyX5_ok kw338 kw89 kw59 (fun j hj => by
    have : j = 0 ∨ j = 1 := by omega
    rcases this with rfl | rfl <;> rfl) (by omega) (by omega) (by omega) ?_
  refine N_dup ok dX11_init_146 rfl ?_
  refine N_initN (n' := 118) (ms' := 30) (As := []) ok dX11_init_147 cwi_RX11_76 (k_X5 (k := 116) rfl rfl rfl rfl (ud_eq _ _ _)) rfl rfl (by decide) (Nat.le_of_ble_eq_true rfl) (by omega) (by omega) (by omega) (by omega) (by omega) (N_e (fin_ud (tl1 (by omega))) ?_)
  refine N_pF (j := 10) (fs' := [.ref (G.2.2 1), .ref (G.2.2 44), .int 0, .ref (G.2.2 87), .ref (G.2.2 91), .ref (G.2.2 96), .ref (G.2.2 100), .ref (G.2.2 103), .ref (G.2.2 110), .ref (G.2.2 114), .ref (G.2.2 116), .null, .null, .null]) ok hi dX11_init_150 (by omega) rfl inX11 tyX11_ok nmX11 kw350 rfl (by decide) rfl rfl rfl rfl (Nat.le_of_ble_eq_true rfl) rfl ?_
  refine N_aload0 ok dX11_init_153 ?_
  refine N_bipush (v := 30) ok dX11_init_154 (by decide) ?_
  refine N_newI (N := 30) ok hE dX11_init_156 (tl1 (by omega)) rfl rfl (by decide) (by decide) (by decide) (by decide) (by omega) (by omega) (by omega) ?_
  refine N_pF (j := 11) (fs' := [.ref (G.2.2 1), .ref (G.2.2 44), .int 0, .ref (G.2.2 87), .ref (G.2.2 91), .ref (G.2.2 96), .ref (G.2.2 100), .ref (G.2.2 103), .ref (G.2.2 110), .ref (G.2.2 114), .ref (G.2.2 116), .ref (G.2.2 118), .null, .null]) ok hi dX11_init_158 (by omega) rfl inX11 tyX11_ok nmX11 kw351 rfl (by decide) rfl rfl rfl rfl (Nat.le_of_ble_eq_true rfl) rfl ?_
  refine N_aload0 ok dX11_init_161 ?_
  refine N_bipush (v := 30) ok dX11_init_162 (by decide) ?_
  refine N_newI (N := 30) ok hE dX11_init_164 (tl1 (by omega)) rfl rfl (by decide) (by decide) (by decide) (by decide) (by omega) (by omega) (by omega) ?_
  refine N_pF (j := 12) (fs' := [.ref (G.2.2 1), .ref (G.2.2 44), .int 0, .ref (G.2.2 87), .ref (G.2.2 91), .ref (G.2.2 96), .ref (G.2.2 100), .ref (G.2.2 103), .ref (G.2.2 110), .ref (G.2.2 114), .ref (G.2.2 116), .ref (G.2.2 118), .ref (G.2.2 119), .null]) ok hi dX11_init_166 (by omega) rfl inX11 tyX11_ok nmX11 kw352 rfl (by decide) rfl rfl rfl rfl (Nat.le_of_ble_eq_true rfl) rfl ?_
  refine N_aload0 ok dX11_init_169 ?_
  refine N_sipush (v := 201) ok dX11_init_170 (by decide) ?_
  refine N_newI (N := 201) ok hE dX11_init_173 (tl1 (by omega)) rfl rfl (by decide) (by decide) (by decide) (by decide) (by omega) (by omega) (by omega) ?_
  refine N_pF (j := 13) (fs' := [.ref (G.2.2 1), .ref (G.2.2 44), .int 0, .ref (G.2.2 87), .ref (G.2.2 91), .ref (G.2.2 96), .ref (G.2.2 100), .ref (G.2.2 103), .ref (G.2.2 110), .ref (G.2.2 114), .ref (G.2.2 116), .ref (G.2.2 118), .ref (G.2.2 119), .ref (G.2.2 120)]) ok hi dX11_init_175 (by omega) rfl inX11 tyX11_ok nmX11 kw353 rfl (by decide) rfl rfl rfl rfl (Nat.le_of_ble_eq_true rfl) rfl ?_
  refine N_e (ud_same ((fin_ge (Nat.le_refl _)).trans ?_)) (N_ret ok hE or dX11_init_178 (by omega))
  rfl
