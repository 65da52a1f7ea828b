/-! frames; first things that hold -/
def fr (L : List Nat) (I I' : Mz) : Prop := ∀ q, q ∉ L → I' q = I q
theorem fr.at {L : List Nat} {I I' : Mz} (h : fr L I I') (q : Nat) (hq : L.contains q = false) : I' q = I q := h q (fun hm => by
  have : L.contains q = true := List.contains_iff_mem.mpr hm
  rw [hq] at this; cases this)
theorem fr.sub {L L' : List Nat} {I I' : Mz} (h : fr L I I') (hs : L.all (fun x => L'.contains x) = true) : fr L' I I' := fun q hq => h q (fun hm => hq (List.contains_iff_mem.mp (List.all_eq_true.mp hs q hm)))
theorem fr.tr {L : List Nat} {I I1 I2 : Mz} (h : fr L I I1) (h2 : fr L I1 I2) : fr L I I2 := fun q hq => (h2 q hq).trans (h q hq)
theorem fr.rf {L : List Nat} {I : Mz} : fr L I I := fun _ _ => rfl
theorem fr.st {L : List Nat} {I I1 : Mz} {k : Nat} {f : Int → Int} (h : fr L I I1) (hk : L.contains k = true) : fr L I (sz I1 k f) := fun q hq => by
  have : q ≠ k := fun e => hq (by rw [e]; exact List.contains_iff_mem.mp hk)
  rw [sz_ne _ _ this]; exact h q hq
noncomputable def fzN (P : Int → Prop) (d : Int) : Nat → Int → Int
  | 0, _ => d
  | m + 1, i => @ite Int (P i) (Classical.propDecidable _) i (fzN P d m (i + 1))
noncomputable def fz (P : Int → Prop) (d i N : Int) : Int := fzN P d (N - i).toNat i
theorem fz_end (P : Int → Prop) (d : Int) {i N : Int} (h : N ≤ i) : fz P d i N = d := by
  rw [fz, show (N - i).toNat = 0 by omega]; rfl
theorem fz_hit {P : Int → Prop} {d i N : Int} (h : i < N) (hp : P i) : fz P d i N = i := by
  rw [fz, show (N - i).toNat = (N - (i + 1)).toNat + 1 by omega, fzN, if_pos hp]
theorem fz_miss {P : Int → Prop} {d i N : Int} (h : i < N) (hp : ¬ P i) : fz P d i N = fz P d (i + 1) N := by
  rw [fz, show (N - i).toNat = (N - (i + 1)).toNat + 1 by omega, fzN, if_neg hp]; rfl
theorem fz_c {P Q : Int → Prop} {d i N : Int} (h : ∀ j, i ≤ j → j < N → (P j ↔ Q j)) : fz P d i N = fz Q d i N := by
  have : ∀ (m : Nat) (i : Int), (∀ j, i ≤ j → j < i + m → (P j ↔ Q j)) → fzN P d m i = fzN Q d m i := by
    intro m
    induction m with
    | zero => intro i _; rfl
    | succ m ih =>
      intro i hj
      simp only [fzN]
      by_cases hp : P i
      · rw [if_pos hp, if_pos ((hj i (by omega) (by omega)).mp hp)]
      · rw [if_neg hp, if_neg (fun q => hp ((hj i (by omega) (by omega)).mpr q))]
        exact ih (i + 1) (fun j j0 j1 => hj j (by omega) (by omega))
  exact this _ i (fun j j0 j1 => h j j0 (by omega))
noncomputable def bst (c : Int → Int) (n : Int) : Nat → Int
  | 0 => 0
  | j + 1 => @ite Int (ahd c n ((j : Int) + 1) (bst c n j)) (Classical.propDecidable _) ((j : Int) + 1) (bst c n j)
theorem bst_b (c : Int → Int) (n : Int) : ∀ j : Nat, 0 ≤ bst c n j ∧ bst c n j ≤ j
  | 0 => ⟨Int.le_refl _, Int.le_refl _⟩
  | j + 1 => by
    have := bst_b c n j
    simp only [bst]
    by_cases h : ahd c n ((j : Int) + 1) (bst c n j)
    · rw [if_pos h]; omega
    · rw [if_neg h]; omega
/-- COUNTS behind a CHANGE, of the first e roots -/
def chE (a v n : Int) (c : Int → Int) (e : Int) : Int → Int := fun t => su (fun j => if mv a v n j = t then c j else 0) e
def chg (a v n : Int) (c : Int → Int) : Int → Int := chE a v n c n
theorem chE_s (a v n : Int) (c : Int → Int) {e : Int} (h : 0 ≤ e) : chE a v n c (e + 1) = uz (chE a v n c e) (mv a v n e) (chE a v n c e (mv a v n e) + c e) := by
  funext t
  by_cases ht : t = mv a v n e
  · subst ht; rw [uz_eq]; simp only [chE]; rw [su_s _ h, if_pos rfl]
  · rw [uz_ne _ _ ht]; simp only [chE]; rw [su_s _ h, if_neg (fun q => ht q.symm), Int.add_zero]
theorem su_mono {f : Int → Int} {a b : Int} (h : a ≤ b) (ha : 0 ≤ a) (hf : ∀ j, 0 ≤ f j) : su f a ≤ su f b := by
  rw [show b = a + (b - a) by omega, su_split _ ha (by omega)]
  have := su_nn (f := fun j => f (a + j)) (e := b - a) (fun j _ _ => hf _)
  omega
theorem chE_mono (a v n : Int) {c : Int → Int} (hc : ∀ e, 0 ≤ c e) {e e' : Int} (h : e ≤ e') (h0 : 0 ≤ e) (t : Int) : chE a v n c e t ≤ chE a v n c e' t := su_mono h h0 (fun j => by
  show 0 ≤ if mv a v n j = t then c j else 0
  split
  · exact hc j
  · exact Int.le_refl 0)
theorem chE_nn (a v n : Int) {c : Int → Int} (hc : ∀ e, 0 ≤ c e) (e t : Int) : 0 ≤ chE a v n c e t := su_nn (fun j _ _ => by
  show 0 ≤ if mv a v n j = t then c j else 0
  split
  · exact hc j
  · exact Int.le_refl 0)
theorem mv_b (a v e : Int) {n : Int} (hn : 0 < n) : 0 ≤ mv a v n e ∧ mv a v n e < n := by
  simp only [mv]; split
  · exact em_b _ hn
  · split <;> exact em_b _ hn
theorem chg_gR {a v n : Int} {c : Int → Int} (h : gR n c) (hk : ∀ t, chg a v n c t ≤ 9) : gR n (chg a v n c) := by
  refine ⟨h.1, fun e => ⟨chE_nn a v n (fun e => (h.2.1 e).1) n e, hk e⟩, fun e he => ?_⟩
  simp only [chg, chE]
  rw [su_c (g := fun _ => 0) (fun j _ _ => if_neg (fun q => by have := mv_b a v j (show 0 < n by have := h.1; omega); omega)), su_00]
section
variable {l : Launch} {G : Gw} {I J : Mz}
theorem c_base {a : Int} (ha : -2147483648 ≤ a ∧ a ≤ 2147483647) : K_X11_base l G [zr G 0, zi a] I J (fun v I' J' => ∃ r, v = some (zi r) ∧ (((2 ≤ a ∧ a ≤ 30) ∧ r = I 2 0 ∧ I' = sz (sz I 2 (uz (I 2) 0 a)) 3 (fun _ => 0) ∧ J' = J) ∨ (¬ (2 ≤ a ∧ a ≤ 30) ∧ r = -2 ∧ I' = I ∧ J' = J))) := by
  refine Cz.of rfl (Nat.le_of_ble_eq_true rfl) [some (zr G 0), some (zi a), none] rfl (fun E ok okr hE => ?_)
  refine Z_iload1 (pc := 0) ok dX11_base_0 ?_
  refine Z_callSId (pc := 1) ok dX11_base_1 cw_X11_91 (c_isBase ha) rfl rfl (by decide) (Nat.le_of_ble_eq_true rfl) ?_
  refine Z_if_neB (pc := 4) (tgt := 10) ok dX11_base_4 rfl (fun h => ?_) (fun h => ?_)
  · refine Z_aload0 (pc := 10) ok dX11_base_10 ?_
    refine g_X11_state (pc := 11) (t := 1) ok dX11_base_11 kw340 rfl rfl ?_
    refine g_X8_row (pc := 14) (t := 2) ok dX11_base_14 kw148 rfl rfl ?_
    refine g_X5_n (pc := 17) ok dX11_base_17 kw96 rfl ?_
    refine Z_istore2 (pc := 20) ok (by decide) dX11_base_20 rfl ?_
    refine Z_aload0 (pc := 21) ok dX11_base_21 ?_
    refine g_X11_state (pc := 22) (t := 1) ok dX11_base_22 kw340 rfl rfl ?_
    refine g_X8_row (pc := 25) (t := 2) ok dX11_base_25 kw148 rfl rfl ?_
    refine Z_iload1 (pc := 28) ok dX11_base_28 ?_
    refine Z_callVVd (pc := 29) ok dX11_base_29 cw_X11_102 rfl rfl (by decide) (c_Row_renew rfl a) rfl rfl (by decide) (Nat.le_of_ble_eq_true rfl) ?_
    refine Z_iload2 (pc := 32) ok dX11_base_32 ?_
    refine Z_iret (pc := 33) ok okr dX11_base_33 ?_
    exact ⟨_, rfl, Or.inl ⟨h, rfl, rfl, rfl⟩⟩
  · refine Z_bipush (pc := 7) ok dX11_base_7 (by decide) ?_
    refine Z_iret (pc := 9) ok okr dX11_base_9 ?_
    exact ⟨_, rfl, Or.inr ⟨h, rfl, rfl, rfl⟩⟩
theorem c_set {e c : Int} (he : -2147483648 ≤ e ∧ e ≤ 2147483647) (hc : -2147483648 ≤ c ∧ c ≤ 2147483647) (h1 : gR (I 2 0) (I 3)) : K_X11_set l G [zr G 0, zi e, zi c] I J (fun v I' J' => ∃ r, v = some (zi r) ∧ ((¬ (0 ≤ e ∧ e < I 2 0) ∧ r = -1 ∧ I' = I ∧ J' = J) ∨ ((0 ≤ e ∧ e < I 2 0) ∧ ¬ (0 ≤ c ∧ c ≤ 9) ∧ r = -2 ∧ I' = I ∧ J' = J) ∨ ((0 ≤ e ∧ e < I 2 0) ∧ (0 ≤ c ∧ c ≤ 9) ∧ r = I 3 e ∧ I' = sz I 3 (uz (I 3) e c) ∧ J' = J))) := by
  have hn := h1.1
  refine Cz.of rfl (Nat.le_of_ble_eq_true rfl) [some (zr G 0), some (zi e), some (zi c), none, none] rfl (fun E ok okr hE => ?_)
  refine Z_aload0 (pc := 0) ok dX11_set_0 ?_
  refine g_X11_state (pc := 1) (t := 1) ok dX11_set_1 kw340 rfl rfl ?_
  refine g_X8_row (pc := 4) (t := 2) ok dX11_set_4 kw148 rfl rfl ?_
  refine Z_astore3 (pc := 7) ok (by decide) dX11_set_7 rfl ?_
  refine Z_aload3 (pc := 8) ok dX11_set_8 ?_
  refine Z_iload1 (pc := 9) ok dX11_set_9 ?_
  refine Z_callVId (pc := 10) ok dX11_set_10 cw_X11_106 rfl rfl (by decide) (c_Row_has rfl he (by omega)) rfl rfl (by decide) (Nat.le_of_ble_eq_true rfl) ?_
  refine Z_if_neB (pc := 13) (tgt := 18) ok dX11_set_13 rfl (fun h => ?_) (fun h => ?_)
  · refine Z_iload2 (pc := 18) ok dX11_set_18 ?_
    refine Z_if_lt (pc := 19) (tgt := 28) ok dX11_set_19 rfl (by first | omega | (simp [sz, uz]; omega)) (fun h2 => ?_) (fun h2 => ?_)
    · refine Z_bipush (pc := 28) ok dX11_set_28 (by decide) ?_
      refine Z_iret (pc := 30) ok okr dX11_set_30 ?_
      exact ⟨_, rfl, Or.inr (Or.inl ⟨h, by omega, rfl, rfl, rfl⟩)⟩
    · refine Z_iload2 (pc := 22) ok dX11_set_22 ?_
      refine Z_bipush (pc := 23) ok dX11_set_23 (by decide) ?_
      refine Z_icmp_le (pc := 25) (tgt := 31) ok dX11_set_25 rfl (by first | omega | (simp [sz, uz]; omega)) (by first | omega | (simp [sz, uz]; omega)) (fun h3 => ?_) (fun h3 => ?_)
      · refine Z_aload3 (pc := 31) ok dX11_set_31 ?_
        refine g_X5_counts (pc := 32) (t := 3) ok dX11_set_32 kw101 rfl rfl ?_
        refine Z_iload1 (pc := 35) ok dX11_set_35 ?_
        refine Z_iald (pc := 36) (L := 30) ok dX11_set_36 rfl rfl (by first | omega | (simp [sz, uz]; omega)) ?_
        refine Z_istore4 (pc := 37) ok (by decide) dX11_set_37 rfl ?_
        refine Z_aload3 (pc := 39) ok dX11_set_39 ?_
        refine g_X5_counts (pc := 40) (t := 3) ok dX11_set_40 kw101 rfl rfl ?_
        refine Z_iload1 (pc := 43) ok dX11_set_43 ?_
        refine Z_iload2 (pc := 44) ok dX11_set_44 ?_
        refine Z_iast (pc := 45) (L := 30) ok dX11_set_45 rfl rfl (by first | omega | (simp [sz, uz]; omega)) ?_
        refine Z_iload4 (pc := 46) ok dX11_set_46 ?_
        refine Z_iret (pc := 48) ok okr dX11_set_48 ?_
        exact ⟨_, rfl, Or.inr (Or.inr ⟨h, by omega, rfl, rfl, rfl⟩)⟩
      · refine Z_bipush (pc := 28) ok dX11_set_28 (by decide) ?_
        refine Z_iret (pc := 30) ok okr dX11_set_30 ?_
        exact ⟨_, rfl, Or.inr (Or.inl ⟨h, by omega, rfl, rfl, rfl⟩)⟩
  · refine Z_iconst (pc := 16) ok dX11_set_16 ?_
    refine Z_iret (pc := 17) ok okr dX11_set_17 ?_
    exact ⟨_, rfl, Or.inl ⟨h, rfl, rfl, rfl⟩⟩
theorem c_add {e : Int} (he : -2147483648 ≤ e ∧ e ≤ 2147483647) (h1 : gR (I 2 0) (I 3)) : K_X11_add l G [zr G 0, zi e] I J (fun v I' J' => ∃ r, v = some (zi r) ∧ ((¬ (0 ≤ e ∧ e < I 2 0) ∧ r = -1 ∧ I' = I ∧ J' = J) ∨ ((0 ≤ e ∧ e < I 2 0) ∧ I 3 e = 9 ∧ r = -4 ∧ I' = I ∧ J' = J) ∨ ((0 ≤ e ∧ e < I 2 0) ∧ I 3 e < 9 ∧ r = I 3 e + 1 ∧ I' = sz I 3 (uz (I 3) e (I 3 e + 1)) ∧ J' = J))) := by
  have hn := h1.1
  have hc := h1.2.1 e
  refine Cz.of rfl (Nat.le_of_ble_eq_true rfl) [some (zr G 0), some (zi e), none] rfl (fun E ok okr hE => ?_)
  refine Z_aload0 (pc := 0) ok dX11_add_0 ?_
  refine g_X11_state (pc := 1) (t := 1) ok dX11_add_1 kw340 rfl rfl ?_
  refine g_X8_row (pc := 4) (t := 2) ok dX11_add_4 kw148 rfl rfl ?_
  refine Z_astore2 (pc := 7) ok (by decide) dX11_add_7 rfl ?_
  refine Z_aload2 (pc := 8) ok dX11_add_8 ?_
  refine Z_iload1 (pc := 9) ok dX11_add_9 ?_
  refine Z_callVId (pc := 10) ok dX11_add_10 cw_X11_106 rfl rfl (by decide) (c_Row_has rfl he (by omega)) rfl rfl (by decide) (Nat.le_of_ble_eq_true rfl) ?_
  refine Z_if_neB (pc := 13) (tgt := 18) ok dX11_add_13 rfl (fun h => ?_) (fun h => ?_)
  · refine Z_aload2 (pc := 18) ok dX11_add_18 ?_
    refine g_X5_counts (pc := 19) (t := 3) ok dX11_add_19 kw101 rfl rfl ?_
    refine Z_iload1 (pc := 22) ok dX11_add_22 ?_
    refine Z_iald (pc := 23) (L := 30) ok dX11_add_23 rfl rfl (by first | omega | (simp [sz, uz]; omega)) ?_
    refine Z_bipush (pc := 24) ok dX11_add_24 (by decide) ?_
    refine Z_icmp_lt (pc := 26) (tgt := 32) ok dX11_add_26 rfl (by first | omega | (simp [sz, uz]; omega)) (by first | omega | (simp [sz, uz]; omega)) (fun h2 => ?_) (fun h2 => ?_)
    · refine Z_aload2 (pc := 32) ok dX11_add_32 ?_
      refine g_X5_counts (pc := 33) (t := 3) ok dX11_add_33 kw101 rfl rfl ?_
      refine Z_iload1 (pc := 36) ok dX11_add_36 ?_
      refine Z_dup2 (pc := 37) ok dX11_add_37 rfl rfl ?_
      refine Z_iald (pc := 38) (L := 30) ok dX11_add_38 rfl rfl (by first | omega | (simp [sz, uz]; omega)) ?_
      refine Z_iconst (pc := 39) ok dX11_add_39 ?_
      refine Z_iadd (pc := 40) ok dX11_add_40 ?_
      refine Z_iast (pc := 41) (L := 30) ok dX11_add_41 rfl rfl (by first | omega | (simp [sz, uz]; omega)) ?_
      refine Z_aload2 (pc := 42) ok dX11_add_42 ?_
      refine g_X5_counts (pc := 43) (t := 3) ok dX11_add_43 kw101 rfl rfl ?_
      refine Z_iload1 (pc := 46) ok dX11_add_46 ?_
      refine Z_iald (pc := 47) (L := 30) ok dX11_add_47 rfl rfl (by first | omega | (simp [sz, uz]; omega)) ?_
      refine Z_iret (pc := 48) ok okr dX11_add_48 ?_
      exact ⟨_, rfl, Or.inr (Or.inr ⟨h, h2, by rw [sz_eq, uz_eq], rfl, rfl⟩)⟩
    · refine Z_bipush (pc := 29) ok dX11_add_29 (by decide) ?_
      refine Z_iret (pc := 31) ok okr dX11_add_31 ?_
      exact ⟨_, rfl, Or.inr (Or.inl ⟨h, by omega, rfl, rfl, rfl⟩)⟩
  · refine Z_iconst (pc := 16) ok dX11_add_16 ?_
    refine Z_iret (pc := 17) ok okr dX11_add_17 ?_
    exact ⟨_, rfl, Or.inl ⟨h, rfl, rfl, rfl⟩⟩
theorem c_of {e : Int} (he : -2147483648 ≤ e ∧ e ≤ 2147483647) (h1 : gR (I 2 0) (I 3)) : K_X11_of l G [zr G 0, zi e] I J (fun v I' J' => ∃ r, v = some (zi r) ∧ ((¬ (0 ≤ e ∧ e < I 2 0) ∧ r = -1 ∧ I' = I ∧ J' = J) ∨ ((0 ≤ e ∧ e < I 2 0) ∧ r = I 3 e ∧ I' = I ∧ J' = J))) := by
  have hn := h1.1
  refine Cz.of rfl (Nat.le_of_ble_eq_true rfl) [some (zr G 0), some (zi e)] rfl (fun E ok okr hE => ?_)
  refine Z_aload0 (pc := 0) ok dX11_of_0 ?_
  refine g_X11_state (pc := 1) (t := 1) ok dX11_of_1 kw340 rfl rfl ?_
  refine g_X8_row (pc := 4) (t := 2) ok dX11_of_4 kw148 rfl rfl ?_
  refine Z_iload1 (pc := 7) ok dX11_of_7 ?_
  refine Z_callVId (pc := 8) ok dX11_of_8 cw_X11_106 rfl rfl (by decide) (c_Row_has rfl he (by omega)) rfl rfl (by decide) (Nat.le_of_ble_eq_true rfl) ?_
  refine Z_if_eqB (pc := 11) (tgt := 29) ok dX11_of_11 rfl (fun h => ?_) (fun h => ?_)
  · refine Z_iconst (pc := 29) ok dX11_of_29 ?_
    refine Z_iret (pc := 30) ok okr dX11_of_30 ?_
    exact ⟨_, rfl, Or.inl ⟨h, rfl, rfl, rfl⟩⟩
  · refine Z_aload0 (pc := 14) ok dX11_of_14 ?_
    refine g_X11_state (pc := 15) (t := 1) ok dX11_of_15 kw340 rfl rfl ?_
    refine g_X8_row (pc := 18) (t := 2) ok dX11_of_18 kw148 rfl rfl ?_
    refine g_X5_counts (pc := 21) (t := 3) ok dX11_of_21 kw101 rfl rfl ?_
    refine Z_iload1 (pc := 24) ok dX11_of_24 ?_
    refine Z_iald (pc := 25) (L := 30) ok dX11_of_25 rfl rfl (by first | omega | (simp [sz, uz]; omega)) ?_
    refine Z_goto (pc := 26) (tgt := 30) ok dX11_of_26 rfl ?_
    refine Z_iret (pc := 30) ok okr dX11_of_30 ?_
    exact ⟨_, rfl, Or.inr ⟨h, rfl, rfl, rfl⟩⟩
theorem c_weight (h1 : gR (I 2 0) (I 3)) : K_X11_weight l G [zr G 0] I J (pR (some (zi (su (I 3) (I 2 0)))) I J) := by
  have hn := h1.1
  refine Cz.of rfl (Nat.le_of_ble_eq_true rfl) [some (zr G 0)] rfl (fun E ok okr hE => ?_)
  refine Z_aload0 (pc := 0) ok dX11_weight_0 ?_
  refine g_X11_state (pc := 1) (t := 1) ok dX11_weight_1 kw340 rfl rfl ?_
  refine g_X8_row (pc := 4) (t := 2) ok dX11_weight_4 kw148 rfl rfl ?_
  refine Z_callVId (pc := 7) ok dX11_weight_7 cw_X11_112 rfl rfl (by decide) (c_Row_total rfl (by omega)) rfl rfl (by decide) (Nat.le_of_ble_eq_true rfl) ?_
  refine Z_iret (pc := 10) ok okr dX11_weight_10 ?_
  exact ⟨rfl, rfl, rfl⟩
theorem c_clear (h1 : gR (I 2 0) (I 3)) : K_X11_clear l G [zr G 0] I J (pR (some (zi (su (I 3) (I 2 0)))) (sz I 3 (fun _ => 0)) J) := by
  have hn := h1.1
  refine Cz.of rfl (Nat.le_of_ble_eq_true rfl) [some (zr G 0), none] rfl (fun E ok okr hE => ?_)
  refine Z_aload0 (pc := 0) ok dX11_clear_0 ?_
  refine g_X11_state (pc := 1) (t := 1) ok dX11_clear_1 kw340 rfl rfl ?_
  refine g_X8_row (pc := 4) (t := 2) ok dX11_clear_4 kw148 rfl rfl ?_
  refine Z_callVId (pc := 7) ok dX11_clear_7 cw_X11_112 rfl rfl (by decide) (c_Row_total rfl (by omega)) rfl rfl (by decide) (Nat.le_of_ble_eq_true rfl) ?_
  refine Z_istore1 (pc := 10) ok (by decide) dX11_clear_10 rfl ?_
  refine Z_aload0 (pc := 11) ok dX11_clear_11 ?_
  refine g_X11_state (pc := 12) (t := 1) ok dX11_clear_12 kw340 rfl rfl ?_
  refine g_X8_row (pc := 15) (t := 2) ok dX11_clear_15 kw148 rfl rfl ?_
  refine Z_aload0 (pc := 18) ok dX11_clear_18 ?_
  refine g_X11_state (pc := 19) (t := 1) ok dX11_clear_19 kw340 rfl rfl ?_
  refine g_X8_row (pc := 22) (t := 2) ok dX11_clear_22 kw148 rfl rfl ?_
  refine g_X5_n (pc := 25) ok dX11_clear_25 kw96 rfl ?_
  refine Z_callVVd (pc := 28) ok dX11_clear_28 cw_X11_102 rfl rfl (by decide) (c_Row_renew rfl _) rfl rfl (by decide) (Nat.le_of_ble_eq_true rfl) ?_
  refine Z_iload1 (pc := 31) ok dX11_clear_31 ?_
  refine Z_iret (pc := 32) ok okr dX11_clear_32 ?_
  exact ⟨rfl, by rw [uz_self, sz_self], rfl⟩
theorem c_phi {i : Int} (hi : -2147483648 ≤ i ∧ i ≤ 2147483647) (h1 : gR (I 2 0) (I 3)) (hd : dOk I) (hp : pkOk I J) : K_X11_phi l G [zr G 0, zi i] I J (fun v I' J' => ∃ r, v = some (zl r) ∧ (fr [87, 88] I I' ∧ dOk I' ∧ pkOk I' J' ∧ J' = J ∧ ((i = -1 ∧ r = DG (I 2 0)) ∨ ((i < -1 ∨ DG (I 2 0) < i) ∧ r = -9223372036854775808) ∨ ((0 ≤ i ∧ i ≤ DG (I 2 0)) ∧ r = PH (I 2 0) i)))) := by
  have hn := h1.1
  have hdg := dg_b hn
  refine Cz.of rfl (Nat.le_of_ble_eq_true rfl) [some (zr G 0), some (zi i)] rfl (fun E ok okr hE => ?_)
  refine Z_aload0 (pc := 0) ok dX11_phi_0 ?_
  refine g_X11_division (pc := 1) (t := 87) ok dX11_phi_1 kw343 rfl rfl ?_
  refine Z_aload0 (pc := 4) ok dX11_phi_4 ?_
  refine g_X11_state (pc := 5) (t := 1) ok dX11_phi_5 kw340 rfl rfl ?_
  refine g_X8_row (pc := 8) (t := 2) ok dX11_phi_8 kw148 rfl rfl ?_
  refine g_X5_n (pc := 11) ok dX11_phi_11 kw96 rfl ?_
  refine Z_callVV (pc := 14) ok dX11_phi_14 cw_X11_116 rfl rfl (by decide) (c_prepare hn hd) rfl rfl (by decide) (Nat.le_of_ble_eq_true rfl) (fun I1 J1 q => ?_)
  obtain ⟨q1, q2, q3, rfl⟩ := q
  have f1 : fr [87, 88] I I1 := fun q hq => q3 q (fun e => hq (by simp [e])) (fun e => hq (by simp [e]))
  have f2 : dOk I1 := Or.inr (by rw [q1.1]; exact ⟨hn, q1⟩)
  have f3 : pkOk I1 J1 := by unfold pkOk at *; rw [q2]; exact hp
  have e3 := q1.2.1
  refine Z_iload1 (pc := 17) ok dX11_phi_17 ?_
  refine Z_iconst (pc := 18) ok dX11_phi_18 ?_
  refine Z_icmp_ne (pc := 19) (tgt := 31) ok dX11_phi_19 rfl (by first | omega | (simp [sz, uz]; omega)) (by first | omega | (simp [sz, uz]; omega)) (fun h => ?_) (fun h => ?_)
  · refine Z_iload1 (pc := 31) ok dX11_phi_31 ?_
    refine Z_if_lt (pc := 32) (tgt := 46) ok dX11_phi_32 rfl (by first | omega | (simp [sz, uz]; omega)) (fun h2 => ?_) (fun h2 => ?_)
    · refine Z_ldc2 (pc := 46) (z := -9223372036854775808) ok dX11_phi_46 kw446 (by decide) ?_
      refine Z_goto (pc := 49) (tgt := 62) ok dX11_phi_49 rfl ?_
      refine Z_lret (pc := 62) ok okr dX11_phi_62 ?_
      exact ⟨_, rfl, f1, f2, f3, rfl, Or.inr (Or.inl ⟨by omega, rfl⟩)⟩
    · refine Z_iload1 (pc := 35) ok dX11_phi_35 ?_
      refine Z_aload0 (pc := 36) ok dX11_phi_36 ?_
      refine g_X11_division (pc := 37) (t := 87) ok dX11_phi_37 kw343 rfl rfl ?_
      refine g_X1_degree (pc := 40) ok dX11_phi_40 kw170 rfl ?_
      refine Z_icmp_le (pc := 43) (tgt := 52) ok dX11_phi_43 rfl (by first | omega | (simp [sz, uz]; omega)) (by first | omega | (simp [sz, uz]; omega)) (fun h3 => ?_) (fun h3 => ?_)
      · have b1 := ph_1 hn i
        have e4 : I1 88 i = PH (I 2 0) i := by rw [q1.2.2.2]
        refine Z_aload0 (pc := 52) ok dX11_phi_52 ?_
        refine g_X11_division (pc := 53) (t := 87) ok dX11_phi_53 kw343 rfl rfl ?_
        refine g_X1_divisor (pc := 56) (t := 88) ok dX11_phi_56 kw172 rfl rfl ?_
        refine Z_iload1 (pc := 59) ok dX11_phi_59 ?_
        refine Z_iald (pc := 60) (L := 30) ok dX11_phi_60 rfl rfl (by first | omega | (simp [sz, uz]; omega)) ?_
        refine Z_i2l (pc := 61) ok dX11_phi_61 (by first | omega | (simp [sz, uz]; omega)) ?_
        refine Z_lret (pc := 62) ok okr dX11_phi_62 ?_
        exact ⟨_, rfl, f1, f2, f3, rfl, Or.inr (Or.inr ⟨by omega, e4⟩)⟩
      · refine Z_ldc2 (pc := 46) (z := -9223372036854775808) ok dX11_phi_46 kw446 (by decide) ?_
        refine Z_goto (pc := 49) (tgt := 62) ok dX11_phi_49 rfl ?_
        refine Z_lret (pc := 62) ok okr dX11_phi_62 ?_
        exact ⟨_, rfl, f1, f2, f3, rfl, Or.inr (Or.inl ⟨by omega, rfl⟩)⟩
  · refine Z_aload0 (pc := 22) ok dX11_phi_22 ?_
    refine g_X11_division (pc := 23) (t := 87) ok dX11_phi_23 kw343 rfl rfl ?_
    refine g_X1_degree (pc := 26) ok dX11_phi_26 kw170 rfl ?_
    refine Z_i2l (pc := 29) ok dX11_phi_29 (by first | omega | (simp [sz, uz]; omega)) ?_
    refine Z_lret (pc := 30) ok okr dX11_phi_30 ?_
    exact ⟨_, rfl, f1, f2, f3, rfl, Or.inl ⟨h, e3⟩⟩
theorem c_rest {i : Int} (hi : -2147483648 ≤ i ∧ i ≤ 2147483647) (h1 : gR (I 2 0) (I 3)) (hd : dOk I) (hp : pkOk I J) : K_X11_rest l G [zr G 0, zi i] I J (fun v I' J' => ∃ r, v = some (zl r) ∧ (fr [87, 88, 89] I I' ∧ dOk I' ∧ pkOk I' J' ∧ J' = J ∧ ((¬ (0 ≤ i ∧ i < DG (I 2 0)) ∧ r = -9223372036854775808) ∨ ((0 ≤ i ∧ i < DG (I 2 0)) ∧ r = rd (I 2 0) (I 3) i)))) := by
  have hn := h1.1
  have hdg := dg_b hn
  have h9 : ∀ j, -9 ≤ I 3 j ∧ I 3 j ≤ 9 := fun j => by have := h1.2.1 j; omega
  refine Cz.of rfl (Nat.le_of_ble_eq_true rfl) [some (zr G 0), some (zi i)] rfl (fun E ok okr hE => ?_)
  refine Z_aload0 (pc := 0) ok dX11_rest_0 ?_
  refine g_X11_division (pc := 1) (t := 87) ok dX11_rest_1 kw343 rfl rfl ?_
  refine Z_aload0 (pc := 4) ok dX11_rest_4 ?_
  refine g_X11_state (pc := 5) (t := 1) ok dX11_rest_5 kw340 rfl rfl ?_
  refine g_X8_row (pc := 8) (t := 2) ok dX11_rest_8 kw148 rfl rfl ?_
  refine g_X5_n (pc := 11) ok dX11_rest_11 kw96 rfl ?_
  refine Z_callVV (pc := 14) ok dX11_rest_14 cw_X11_116 rfl rfl (by decide) (c_prepare hn hd) rfl rfl (by decide) (Nat.le_of_ble_eq_true rfl) (fun I1 J1 q => ?_)
  obtain ⟨q1, q2, q3, rfl⟩ := q
  have f1 : fr [87, 88, 89] I I1 := fun q hq => q3 q (fun e => hq (by simp [e])) (fun e => hq (by simp [e]))
  have f2 : dOk I1 := Or.inr (by rw [q1.1]; exact ⟨hn, q1⟩)
  have f3 : pkOk I1 J1 := by unfold pkOk at *; rw [q2]; exact hp
  have e3 := q1.2.1
  have e33 : I1 3 = I 3 := q3 3 (by decide) (by decide)
  refine Z_iload1 (pc := 17) ok dX11_rest_17 ?_
  refine Z_if_lt (pc := 18) (tgt := 32) ok dX11_rest_18 rfl (by first | omega | (simp [sz, uz]; omega)) (fun h => ?_) (fun h => ?_)
  · refine Z_ldc2 (pc := 32) (z := -9223372036854775808) ok dX11_rest_32 kw446 (by decide) ?_
    refine Z_lret (pc := 35) ok okr dX11_rest_35 ?_
    exact ⟨_, rfl, f1, f2, f3, rfl, Or.inl ⟨by omega, rfl⟩⟩
  · refine Z_iload1 (pc := 21) ok dX11_rest_21 ?_
    refine Z_aload0 (pc := 22) ok dX11_rest_22 ?_
    refine g_X11_division (pc := 23) (t := 87) ok dX11_rest_23 kw343 rfl rfl ?_
    refine g_X1_degree (pc := 26) ok dX11_rest_26 kw170 rfl ?_
    refine Z_icmp_lt (pc := 29) (tgt := 36) ok dX11_rest_29 rfl (by first | omega | (simp [sz, uz]; omega)) (by first | omega | (simp [sz, uz]; omega)) (fun h3 => ?_) (fun h3 => ?_)
    · have b1 := rd_c hn h9 i
      have e4 : sz I1 89 (rd (I 2 0) (I1 3)) 89 i = rd (I 2 0) (I 3) i := by rw [sz_eq, e33]
      refine Z_aload0 (pc := 36) ok dX11_rest_36 ?_
      refine g_X11_division (pc := 37) (t := 87) ok dX11_rest_37 kw343 rfl rfl ?_
      refine Z_aload0 (pc := 40) ok dX11_rest_40 ?_
      refine g_X11_state (pc := 41) (t := 1) ok dX11_rest_41 kw340 rfl rfl ?_
      refine g_X8_row (pc := 44) (t := 2) ok dX11_rest_44 kw148 rfl rfl ?_
      refine g_X5_counts (pc := 47) (t := 3) ok dX11_rest_47 kw101 rfl rfl ?_
      refine Z_callVVd (pc := 50) ok dX11_rest_50 cw_X11_127 rfl rfl (by decide) (c_divide rfl rfl hn q1 (by rw [e33]; exact h9)) rfl rfl (by decide) (Nat.le_of_ble_eq_true rfl) ?_
      refine Z_aload0 (pc := 53) ok dX11_rest_53 ?_
      refine g_X11_division (pc := 54) (t := 87) ok dX11_rest_54 kw343 rfl rfl ?_
      refine g_X1_left (pc := 57) (t := 89) ok dX11_rest_57 kw174 rfl rfl ?_
      refine Z_iload1 (pc := 60) ok dX11_rest_60 ?_
      refine Z_iald (pc := 61) (L := 30) ok dX11_rest_61 rfl rfl (by first | omega | (simp [sz, uz]; omega)) ?_
      refine Z_i2l (pc := 62) ok dX11_rest_62 (by first | omega | (simp [sz, uz]; omega)) ?_
      refine Z_lret (pc := 63) ok okr dX11_rest_63 ?_
      exact ⟨_, rfl, f1.st rfl, dOk_c f2 (by rw [sz_ne _ _ (by decide)]) (by rw [sz_ne _ _ (by decide)]), by unfold pkOk at *; rw [sz_ne _ _ (by decide)]; exact f3, rfl, Or.inr ⟨by omega, e4⟩⟩
    · refine Z_ldc2 (pc := 32) (z := -9223372036854775808) ok dX11_rest_32 kw446 (by decide) ?_
      refine Z_lret (pc := 35) ok okr dX11_rest_35 ?_
      exact ⟨_, rfl, f1, f2, f3, rfl, Or.inl ⟨by omega, rfl⟩⟩
theorem c_isNought {k : Nat} (hk : kd k = 5) (hkn : k = 2 ∨ k = 116) (h1 : gR (I k 0) (I (k + 1))) (hd : dOk I) (hp : pkOk I J) : K_X11_isNought l G [zr G 0, zr G k] I J (fun v I' J' => ∃ r, v = some (zi r) ∧ (fr [87, 88, 89] I I' ∧ dOk I' ∧ pkOk I' J' ∧ J' = J ∧ r = zb (nou (I k 0) (I (k + 1))))) := by
  have hn := h1.1
  have h9 : ∀ j, -9 ≤ I (k + 1) j ∧ I (k + 1) j ≤ 9 := fun j => by have := h1.2.1 j; omega
  refine Cz.of rfl (Nat.le_of_ble_eq_true rfl) [some (zr G 0), some (zr G k)] rfl (fun E ok okr hE => ?_)
  refine Z_aload0 (pc := 0) ok dX11_isNought_0 ?_
  refine g_X11_division (pc := 1) (t := 87) ok dX11_isNought_1 kw343 rfl rfl ?_
  refine Z_aload1 (pc := 4) ok dX11_isNought_4 ?_
  refine g_X5_n (pc := 5) ok dX11_isNought_5 kw96 hk ?_
  refine Z_callVV (pc := 8) ok dX11_isNought_8 cw_X11_116 rfl rfl (by decide) (c_prepare hn hd) rfl rfl (by decide) (Nat.le_of_ble_eq_true rfl) (fun I1 J1 q => ?_)
  obtain ⟨q1, q2, q3, rfl⟩ := q
  have f1 : fr [87, 88, 89] I I1 := fun q hq => q3 q (fun e => hq (by simp [e])) (fun e => hq (by simp [e]))
  have f2 : dOk I1 := Or.inr (by rw [q1.1]; exact ⟨hn, q1⟩)
  have f3 : pkOk I1 J1 := by unfold pkOk at *; rw [q2]; exact hp
  have e33 : I1 (k + 1) = I (k + 1) := q3 (k + 1) (by omega) (by omega)
  refine Z_aload0 (pc := 11) ok dX11_isNought_11 ?_
  refine g_X11_division (pc := 12) (t := 87) ok dX11_isNought_12 kw343 rfl rfl ?_
  refine Z_aload1 (pc := 15) ok dX11_isNought_15 ?_
  refine g_X5_counts (pc := 16) (t := (k + 1)) ok dX11_isNought_16 kw101 hk (rw_rf hk) ?_
  refine Z_callVVd (pc := 19) ok dX11_isNought_19 cw_X11_127 rfl rfl (by decide) (c_divide (rw_kd hk) (rw_ln hk) hn q1 (by rw [e33]; exact h9)) rfl rfl (by decide) (Nat.le_of_ble_eq_true rfl) ?_
  refine Z_aload0 (pc := 22) ok dX11_isNought_22 ?_
  refine g_X11_division (pc := 23) (t := 87) ok dX11_isNought_23 kw343 rfl rfl ?_
  refine Z_callVId (pc := 26) ok dX11_isNought_26 cw_X11_303 rfl rfl (by decide) (c_leavesNothing hn (dP_c q1 (by rw [sz_ne _ _ (by decide)]) (by rw [sz_ne _ _ (by decide)])) (by rw [sz_eq, e33]; exact rd_c hn h9)) rfl rfl (by decide) (Nat.le_of_ble_eq_true rfl) ?_
  refine Z_bret (pc := 29) ok okr dX11_isNought_29 (by first | exact Or.inl rfl | exact Or.inr rfl | exact zb_01 _ | assumption | omega) ?_
  refine ⟨_, rfl, f1.st rfl, dOk_c f2 (by rw [sz_ne _ _ (by decide)]) (by rw [sz_ne _ _ (by decide)]), by unfold pkOk at *; rw [sz_ne _ _ (by decide)]; exact f3, rfl, ?_⟩
  rw [sz_eq, e33]
  congr 1
  refine propext ⟨fun q i i0 i1 => ?_, fun q i i0 i1 => ?_⟩
  · rw [← rd_rst hn h1.2.2]; exact q i i0 i1
  · rw [rd_rst hn h1.2.2]; exact q i i0 i1
theorem c_nought (h1 : gR (I 2 0) (I 3)) (hd : dOk I) (hp : pkOk I J) : K_X11_nought l G [zr G 0] I J (fun v I' J' => ∃ r, v = some (zi r) ∧ (fr [87, 88, 89] I I' ∧ dOk I' ∧ pkOk I' J' ∧ J' = J ∧ r = zb (nou (I 2 0) (I 3)))) := by
  refine Cz.of rfl (Nat.le_of_ble_eq_true rfl) [some (zr G 0)] rfl (fun E ok okr hE => ?_)
  refine Z_aload0 (pc := 0) ok dX11_nought_0 ?_
  refine Z_aload0 (pc := 1) ok dX11_nought_1 ?_
  refine g_X11_state (pc := 2) (t := 1) ok dX11_nought_2 kw340 rfl rfl ?_
  refine g_X8_row (pc := 5) (t := 2) ok dX11_nought_5 kw148 rfl rfl ?_
  refine Z_callVI (pc := 8) ok dX11_nought_8 cw_X11_134 rfl rfl (by decide) (c_isNought rfl (Or.inl rfl) h1 hd hp) rfl rfl (by decide) (Nat.le_of_ble_eq_true rfl) (fun r I1 J1 q => ?_)
  obtain ⟨q1, q2, q3, q4, rfl⟩ := q
  refine Z_if_eqB (pc := 11) (tgt := 18) ok dX11_nought_11 rfl (fun h => ?_) (fun h => ?_)
  · refine Z_iconst (pc := 18) ok dX11_nought_18 ?_
    refine Z_iret (pc := 19) ok okr dX11_nought_19 ?_
    exact ⟨_, rfl, q1, q2, q3, q4, (zb_f h).symm⟩
  · refine Z_iconst (pc := 14) ok dX11_nought_14 ?_
    refine Z_goto (pc := 15) (tgt := 19) ok dX11_nought_15 rfl ?_
    refine Z_iret (pc := 19) ok okr dX11_nought_19 ?_
    exact ⟨_, rfl, q1, q2, q3, q4, (zb_t h).symm⟩
theorem c_change {a v : Int} (ha : 0 ≤ a ∧ a ≤ 3) (hv : -2147483648 ≤ v ∧ v ≤ 2147483647) (h1 : gR (I 2 0) (I 3)) : K_X11_change l G [zr G 0, zi a, zi v] I J (fun w I' J' => ∃ r, w = some (zi r) ∧ (fr [3, 118] I I' ∧ J' = J ∧ ((r = 1 ∧ cCh a v (I 2 0) ∧ (∀ t, chg a v (I 2 0) (I 3) t ≤ 9) ∧ I' 3 = chg a v (I 2 0) (I 3)) ∨ (r = 0 ∧ ¬ (cCh a v (I 2 0) ∧ ∀ t, chg a v (I 2 0) (I 3) t ≤ 9) ∧ I' 3 = I 3)))) := by
  have hn := h1.1
  have hc0 : ∀ e, 0 ≤ I 3 e := fun e => (h1.2.1 e).1
  refine Cz.of rfl (Nat.le_of_ble_eq_true rfl) [some (zr G 0), some (zi a), some (zi v), none, none, none] rfl (fun E ok okr hE => ?_)
  refine Z_aload0 (pc := 0) ok dX11_change_0 ?_
  refine g_X11_state (pc := 1) (t := 1) ok dX11_change_1 kw340 rfl rfl ?_
  refine g_X8_row (pc := 4) (t := 2) ok dX11_change_4 kw148 rfl rfl ?_
  refine Z_astore3 (pc := 7) ok (by decide) dX11_change_7 rfl ?_
  refine Z_iload1 (pc := 8) ok dX11_change_8 ?_
  refine Z_iload2 (pc := 9) ok dX11_change_9 ?_
  refine Z_aload3 (pc := 10) ok dX11_change_10 ?_
  refine g_X5_n (pc := 11) ok dX11_change_11 kw96 rfl ?_
  refine Z_callSId (pc := 14) ok dX11_change_14 cw_X11_239 (c_canChange ha hv hn) rfl rfl (by decide) (Nat.le_of_ble_eq_true rfl) ?_
  refine Z_if_neB (pc := 17) (tgt := 22) ok dX11_change_17 rfl (fun h => ?_) (fun h => ?_)
  · have hv2 : a = 1 ∨ a = 3 → 0 ≤ v ∧ v ≤ 99 := by
      rintro (q | q)
      · have := (h.1 q).1; omega
      · have := h.2 q; have := this.1; have := (h.2 q).2.1; omega
    refine Z_aload0 (pc := 22) ok dX11_change_22 ?_
    refine g_X11_spare (pc := 23) (t := 118) ok dX11_change_23 kw351 rfl rfl ?_
    refine Z_iconst (pc := 26) ok dX11_change_26 ?_
    refine Z_callSVd (pc := 27) ok dX11_change_27 cw_X11_314 (c_fill rfl rfl 0) rfl rfl (by decide) (Nat.le_of_ble_eq_true rfl) ?_
    refine Z_iconst (pc := 30) ok dX11_change_30 ?_
    refine Z_istore4 (pc := 31) ok (by decide) dX11_change_31 rfl ?_
    have H : ∀ e : Int, 0 ≤ e → e ≤ I 2 0 → (∀ t, chE a v (I 2 0) (I 3) e t ≤ 9) → ∀ w, Xz E G (sz I 118 (chE a v (I 2 0) (I 3) e)) J 33 [some (zr G 0), some (zi a), some (zi v), some (zr G 2), some (zi e), w] [] := by
      refine zUp ?_ ?_
      · intro h9 w
        have e2 : sz I 118 (chE a v (I 2 0) (I 3) (I 2 0)) 2 = I 2 := sz_ne _ _ (by decide)
        have e20 := congrFun e2 0
        refine Z_iload4 (pc := 33) ok dX11_change_33 ?_
        refine Z_aload3 (pc := 35) ok dX11_change_35 ?_
        refine g_X5_n (pc := 36) ok dX11_change_36 kw96 rfl ?_
        refine Z_icmp_ge (pc := 39) (tgt := 92) ok dX11_change_39 rfl (by first | omega | (simp [sz, uz]; omega)) (by first | omega | (simp [sz, uz]; omega)) (fun _ => ?_) (fun h => by exfalso; omega)
        refine Z_aload0 (pc := 92) ok dX11_change_92 ?_
        refine g_X11_spare (pc := 93) (t := 118) ok dX11_change_93 kw351 rfl rfl ?_
        refine Z_iconst (pc := 96) ok dX11_change_96 ?_
        refine Z_aload3 (pc := 97) ok dX11_change_97 ?_
        refine g_X5_counts (pc := 98) (t := 3) ok dX11_change_98 kw101 rfl rfl ?_
        refine Z_iconst (pc := 101) ok dX11_change_101 ?_
        refine Z_bipush (pc := 102) ok dX11_change_102 (by decide) ?_
        refine Z_copy (pc := 104) (N := 30) ok dX11_change_104 kw583 kw457 kw456 kw71 rfl rfl rfl rfl (by decide) (by decide) (Nat.le_of_ble_eq_true rfl) ?_
        refine Z_iconst (pc := 107) ok dX11_change_107 ?_
        refine Z_bret (pc := 108) ok okr dX11_change_108 (by first | exact Or.inl rfl | exact Or.inr rfl | exact zb_01 _ | assumption | omega) ?_
        refine ⟨_, rfl, (fr.rf.st rfl).st rfl, rfl, Or.inl ⟨rfl, h, h9, ?_⟩⟩
        rw [sz_eq, sz_eq]; rfl
      · intro e e0 e1 ih h9 w
        have e2 : sz I 118 (chE a v (I 2 0) (I 3) e) 2 = I 2 := sz_ne _ _ (by decide)
        have e20 := congrFun e2 0
        have e3 : sz I 118 (chE a v (I 2 0) (I 3) e) 3 = I 3 := sz_ne _ _ (by decide)
        have hb := mv_b a v e (show 0 < I 2 0 by omega)
        have hn0 := chE_nn a v (I 2 0) hc0 e (mv a v (I 2 0) e)
        have h9e := h9 (mv a v (I 2 0) e)
        have hce := h1.2.1 e
        rw [chE_s _ _ _ _ e0] at ih
        refine Z_iload4 (pc := 33) ok dX11_change_33 ?_
        refine Z_aload3 (pc := 35) ok dX11_change_35 ?_
        refine g_X5_n (pc := 36) ok dX11_change_36 kw96 rfl ?_
        refine Z_icmp_ge (pc := 39) (tgt := 92) ok dX11_change_39 rfl (by first | omega | (simp [sz, uz]; omega)) (by first | omega | (simp [sz, uz]; omega)) (fun h => by exfalso; omega) (fun _ => ?_)
        refine Z_iload1 (pc := 42) ok dX11_change_42 ?_
        refine Z_iload2 (pc := 43) ok dX11_change_43 ?_
        refine Z_aload3 (pc := 44) ok dX11_change_44 ?_
        refine g_X5_n (pc := 45) ok dX11_change_45 kw96 rfl ?_
        refine Z_iload4 (pc := 48) ok dX11_change_48 ?_
        rw [e20]
        refine Z_callSId (pc := 50) ok dX11_change_50 cw_X11_243 (c_rootBehind ha hv hv2 hn ⟨e0, e1⟩) rfl rfl (by decide) (Nat.le_of_ble_eq_true rfl) ?_
        refine Z_istore5 (pc := 53) ok (by decide) dX11_change_53 rfl ?_
        refine Z_aload0 (pc := 55) ok dX11_change_55 ?_
        refine g_X11_spare (pc := 56) (t := 118) ok dX11_change_56 kw351 rfl rfl ?_
        refine Z_iload5 (pc := 59) ok dX11_change_59 ?_
        refine Z_dup2 (pc := 61) ok dX11_change_61 rfl rfl ?_
        refine Z_iald (pc := 62) (L := 30) ok dX11_change_62 rfl rfl (by first | omega | (simp [sz, uz]; omega)) ?_
        refine Z_aload3 (pc := 63) ok dX11_change_63 ?_
        refine g_X5_counts (pc := 64) (t := 3) ok dX11_change_64 kw101 rfl rfl ?_
        refine Z_iload4 (pc := 67) ok dX11_change_67 ?_
        refine Z_iald (pc := 69) (L := 30) ok dX11_change_69 rfl rfl (by first | omega | (simp [sz, uz]; omega)) ?_
        refine Z_iadd (pc := 70) ok dX11_change_70 ?_
        refine Z_iast (pc := 71) (L := 30) ok dX11_change_71 rfl rfl (by first | omega | (simp [sz, uz]; omega)) ?_
        rw [e3, sz_sz, sz_eq]
        refine Z_aload0 (pc := 72) ok dX11_change_72 ?_
        refine g_X11_spare (pc := 73) (t := 118) ok dX11_change_73 kw351 rfl rfl ?_
        refine Z_iload5 (pc := 76) ok dX11_change_76 ?_
        refine Z_iald (pc := 78) (L := 30) ok dX11_change_78 rfl rfl (by first | omega | (simp [sz, uz]; omega)) ?_
        refine Z_bipush (pc := 79) ok dX11_change_79 (by decide) ?_
        refine Z_icmp_le (pc := 81) (tgt := 86) ok dX11_change_81 rfl (by rw [sz_eq, uz_eq]; omega) (by omega) (fun h4 => ?_) (fun h4 => ?_)
        · rw [sz_eq, uz_eq] at h4
          refine Z_iinc4 (pc := 86) ok (by decide) dX11_change_86 rfl ?_
          refine Z_goto (pc := 89) (tgt := 33) ok dX11_change_89 rfl ?_
          refine ih (fun t => ?_) _
          by_cases ht : t = mv a v (I 2 0) e
          · rw [ht, uz_eq]; exact h4
          · rw [uz_ne _ _ ht]; exact h9 t
        · rw [sz_eq, uz_eq] at h4
          refine Z_iconst (pc := 84) ok dX11_change_84 ?_
          refine Z_bret (pc := 85) ok okr dX11_change_85 (by first | exact Or.inl rfl | exact Or.inr rfl | exact zb_01 _ | assumption | omega) ?_
          refine ⟨_, rfl, fr.rf.st rfl, rfl, Or.inr ⟨rfl, fun q => ?_, ?_⟩⟩
          · have h5 := chE_mono a v (I 2 0) hc0 (e := e + 1) (e' := I 2 0) (by omega) (by omega) (mv a v (I 2 0) e)
            rw [chE_s _ _ _ _ e0, uz_eq] at h5
            have h6 := q.2 (mv a v (I 2 0) e)
            simp only [chg] at h6
            omega
          · rw [sz_ne _ _ (by decide)]
    have hz : chE a v (I 2 0) (I 3) 0 = fun _ => 0 := by funext t; rfl
    have h0 := H 0 (by omega) (by omega) (fun t => by rw [hz]; show (0 : Int) ≤ 9; omega) none
    rw [hz] at h0
    exact h0
  · refine Z_iconst (pc := 20) ok dX11_change_20 ?_
    refine Z_bret (pc := 21) ok okr dX11_change_21 (by first | exact Or.inl rfl | exact Or.inr rfl | exact zb_01 _ | assumption | omega) ?_
    exact ⟨_, rfl, fr.rf, rfl, Or.inr ⟨rfl, fun q => h q.1, rfl⟩⟩
end
