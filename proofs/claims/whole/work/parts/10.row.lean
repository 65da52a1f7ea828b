/-! sums -/
def suN (f : Int → Int) : Nat → Int
  | 0 => 0
  | n + 1 => suN f n + f (n : Int)
def su (f : Int → Int) (e : Int) : Int := suN f e.toNat
theorem su_0 (f : Int → Int) : su f 0 = 0 := rfl
theorem su_s (f : Int → Int) {e : Int} (h : 0 ≤ e) : su f (e + 1) = su f e + f e := by
  obtain ⟨j, rfl⟩ := Int.eq_ofNat_of_zero_le h
  rfl
theorem upto_s {f : Int → Int} {i v : Int} {p : Int → Int → Prop} (hf : ∀ j, 0 ≤ j → j < i → p j (f j)) (hv : p i v) : ∀ j, 0 ≤ j → j < i + 1 → p j (uz f i v j) := by
  intro j h0 h1
  by_cases h : j = i
  · subst h; rw [uz_eq]; exact hv
  · rw [uz_ne _ _ h]; exact hf j h0 (by omega)
/-- a row that may be: N and its COUNTS -/
def gR (n : Int) (c : Int → Int) : Prop := (2 ≤ n ∧ n ≤ 30) ∧ (∀ e, 0 ≤ c e ∧ c e ≤ 9) ∧ ∀ e, e < 0 ∨ n ≤ e → c e = 0
theorem gR_ext {n : Int} {c c' : Int → Int} (h : gR n c) (h' : gR n c') (he : ∀ j, 0 ≤ j → j < n → c j = c' j) : c = c' := by
  funext e
  by_cases h0 : e < 0 ∨ n ≤ e
  · rw [h.2.2 e h0, h'.2.2 e h0]
  · exact he e (by omega) (by omega)
/-- COUNTS each 1 more, multiplied -/
def prN (f : Int → Int) : Nat → Int
  | 0 => 1
  | n + 1 => prN f n * (f (n : Int) + 1)
def pr (f : Int → Int) (e : Int) : Int := prN f e.toNat
theorem pr_s (f : Int → Int) {e : Int} (h : 0 ≤ e) : pr f (e + 1) = pr f e * (f e + 1) := by
  obtain ⟨j, rfl⟩ := Int.eq_ofNat_of_zero_le h
  rfl
theorem prN_pos {f : Int → Int} (hf : ∀ e, 0 ≤ f e) : ∀ n, 1 ≤ prN f n
  | 0 => Int.le_refl 1
  | n + 1 => by
    have h1 := prN_pos hf n
    have h2 := hf n
    have : 1 * 1 ≤ prN f n * (f n + 1) := Int.mul_le_mul h1 (by omega) (by omega) (by omega)
    simpa [prN] using this
theorem prN_mono {f : Int → Int} (hf : ∀ e, 0 ≤ f e) (n : Nat) : ∀ j, prN f n ≤ prN f (n + j)
  | 0 => Int.le_refl _
  | j + 1 => by
    have h1 := prN_mono hf n j
    have h2 := hf (n + j : Nat)
    have h3 := prN_pos hf (n + j)
    have : prN f (n + j) * 1 ≤ prN f (n + j) * (f (n + j : Nat) + 1) := Int.mul_le_mul_of_nonneg_left (by omega) (by omega)
    rw [Int.mul_one] at this
    exact Int.le_trans h1 this
theorem pr_mono {f : Int → Int} (hf : ∀ e, 0 ≤ f e) {a b : Int} (h : a ≤ b) (ha : 0 ≤ a) : pr f a ≤ pr f b := by
  have := prN_mono hf a.toNat (b.toNat - a.toNat)
  rw [show a.toNat + (b.toNat - a.toNat) = b.toNat by omega] at this
  exact this
theorem pr_pos {f : Int → Int} (hf : ∀ e, 0 ≤ f e) (a : Int) : 1 ≤ pr f a := prN_pos hf _
/-- TURNED -/
def tn (c : Int → Int) (n k e : Int) : Int := if e < k then c (e - k + n) else c (e - k)
def ahd (c : Int → Int) (n k o : Int) : Prop := ∃ e, 0 ≤ e ∧ e < n ∧ (∀ j, 0 ≤ j → j < e → tn c n k j = tn c n o j) ∧ tn c n o e < tn c n k e
def sam (c : Int → Int) (n k o : Int) : Prop := ∀ j, 0 ≤ j → j < n → tn c n k j = tn c n o j
theorem tn_r {c : Int → Int} {n : Int} (h : gR n c) (k e : Int) : 0 ≤ tn c n k e ∧ tn c n k e ≤ 9 := by
  simp only [tn]; split <;> exact h.2.1 _
def rc (k : Nat) (j : Int) : Nat := k + 2 + 2 * j.toNat
section
variable {l : Launch} {G : Gw} {I J : Mz}
set_option maxRecDepth 100000
/-! Arrays.fill -/
theorem c_fill {a L : Nat} (ha : kd a = 13) (hL : ln a = L) (v : Int) : K_J7_fill_53178 l G [zr G a, zi v] I J (pR none (sz I a (fun _ => v)) J) := by
  have hs := ln_small a
  refine Cz.of rfl (Nat.le_of_ble_eq_true rfl) [some (zr G a), some (zi v), none, none] rfl (fun E ok okr hE => ?_)
  refine Z_iconst (pc := 0) ok dJ7_fill_53178_0 ?_
  refine Z_istore2 (pc := 1) ok (by decide) dJ7_fill_53178_1 rfl ?_
  refine Z_aload0 (pc := 2) ok dJ7_fill_53178_2 ?_
  refine Z_alen (pc := 3) ok dJ7_fill_53178_3 (t := 0) ha rfl hL ?_
  refine Z_istore3 (pc := 4) ok (by decide) dJ7_fill_53178_4 rfl ?_
  have H : ∀ i : Int, 0 ≤ i → i ≤ (L : Int) → ∀ f : Int → Int, (∀ j, 0 ≤ j → j < i → f j = v) → Xz E G (sz I a f) J 5 [some (zr G a), some (zi v), some (zi i), some (zi (L : Int))] [] := by
    refine zUp ?_ ?_
    · intro f hf
      refine Z_ext1 (g := fun _ => v) (by omega) (fun j h0 h1 => hf j h0 (by omega)) ?_
      refine Z_iload2 (pc := 5) ok dJ7_fill_53178_5 ?_
      refine Z_iload3 (pc := 6) ok dJ7_fill_53178_6 ?_
      refine Z_icmp_ge (pc := 7) (tgt := 20) ok dJ7_fill_53178_7 rfl (by omega) (by omega) (fun _ => ?_) (fun h => by exfalso; omega)
      refine Z_vret (pc := 20) ok okr dJ7_fill_53178_20 ?_
      exact ⟨rfl, rfl, rfl⟩
    · intro i h0 h1 ih f hf
      refine Z_iload2 (pc := 5) ok dJ7_fill_53178_5 ?_
      refine Z_iload3 (pc := 6) ok dJ7_fill_53178_6 ?_
      refine Z_icmp_ge (pc := 7) (tgt := 20) ok dJ7_fill_53178_7 rfl (by omega) (by omega) (fun h => by exfalso; omega) (fun _ => ?_)
      refine Z_aload0 (pc := 10) ok dJ7_fill_53178_10 ?_
      refine Z_iload2 (pc := 11) ok dJ7_fill_53178_11 ?_
      refine Z_iload1 (pc := 12) ok dJ7_fill_53178_12 ?_
      refine Z_iast (pc := 13) ok dJ7_fill_53178_13 ha hL (by omega) ?_
      refine Z_iinc2 (pc := 14) ok (by decide) dJ7_fill_53178_14 rfl ?_
      refine Z_goto (pc := 17) (tgt := 5) ok dJ7_fill_53178_17 rfl ?_
      rw [sz_sz, sz_eq]
      exact ih _ (upto_s (p := fun _ x => x = v) hf rfl)
  have h := H 0 (by omega) (by omega) (I a) (fun j h0 h1 => by omega)
  rw [sz_self] at h
  exact h
theorem c_fillL {a L : Nat} (ha : kd a = 14) (hL : ln a = L) (v : Int) : K_J7_fill_d0a16 l G [zr G a, zl v] I J (pR none I (sz J a (fun _ => v))) := by
  have hs := ln_small a
  refine Cz.of rfl (Nat.le_of_ble_eq_true rfl) [some (zr G a), some (zl v), none, none, none] rfl (fun E ok okr hE => ?_)
  refine Z_iconst (pc := 0) ok dJ7_fill_d0a16_0 ?_
  refine Z_istore3 (pc := 1) ok (by decide) dJ7_fill_d0a16_1 rfl ?_
  refine Z_aload0 (pc := 2) ok dJ7_fill_d0a16_2 ?_
  refine Z_alen (pc := 3) ok dJ7_fill_d0a16_3 (t := 1) ha rfl hL ?_
  refine Z_istore4 (pc := 4) ok (by decide) dJ7_fill_d0a16_4 rfl ?_
  have H : ∀ i : Int, 0 ≤ i → i ≤ (L : Int) → ∀ f : Int → Int, (∀ j, 0 ≤ j → j < i → f j = v) → Xz E G I (sz J a f) 6 [some (zr G a), some (zl v), none, some (zi i), some (zi (L : Int))] [] := by
    refine zUp ?_ ?_
    · intro f hf
      refine Z_ext1J (g := fun _ => v) (fun j h0 h1 => hf j h0 (by omega)) ?_
      refine Z_iload3 (pc := 6) ok dJ7_fill_d0a16_6 ?_
      refine Z_iload4 (pc := 7) ok dJ7_fill_d0a16_7 ?_
      refine Z_icmp_ge (pc := 9) (tgt := 22) ok dJ7_fill_d0a16_9 rfl (by omega) (by omega) (fun _ => ?_) (fun h => by exfalso; omega)
      refine Z_vret (pc := 22) ok okr dJ7_fill_d0a16_22 ?_
      exact ⟨rfl, rfl, rfl⟩
    · intro i h0 h1 ih f hf
      refine Z_iload3 (pc := 6) ok dJ7_fill_d0a16_6 ?_
      refine Z_iload4 (pc := 7) ok dJ7_fill_d0a16_7 ?_
      refine Z_icmp_ge (pc := 9) (tgt := 22) ok dJ7_fill_d0a16_9 rfl (by omega) (by omega) (fun h => by exfalso; omega) (fun _ => ?_)
      refine Z_aload0 (pc := 12) ok dJ7_fill_d0a16_12 ?_
      refine Z_iload3 (pc := 13) ok dJ7_fill_d0a16_13 ?_
      refine Z_lload1 (pc := 14) ok dJ7_fill_d0a16_14 ?_
      refine Z_last (pc := 15) ok dJ7_fill_d0a16_15 ha hL (by omega) ?_
      refine Z_iinc3 (pc := 16) ok (by decide) dJ7_fill_d0a16_16 rfl ?_
      refine Z_goto (pc := 19) (tgt := 6) ok dJ7_fill_d0a16_19 rfl ?_
      rw [sz_sz, sz_eq]
      exact ih _ (upto_s (p := fun _ x => x = v) hf rfl)
  have h := H 0 (by omega) (by omega) (J a) (fun j h0 h1 => by omega)
  rw [sz_self] at h
  exact h
/-! Row -/
theorem c_Row_renew {k : Nat} (hk : kd k = 5) (b : Int) : K_X5_renew l G [zr G k, zi b] I J (pR none (sz (sz I k (uz (I k) 0 b)) (k + 1) (fun _ => 0)) J) := by
  refine Cz.of rfl (Nat.le_of_ble_eq_true rfl) [some (zr G k), some (zi b)] rfl (fun E ok okr hE => ?_)
  refine Z_aload0 (pc := 0) ok dX5_renew_0 ?_
  refine Z_iload1 (pc := 1) ok dX5_renew_1 ?_
  refine p_X5_n (pc := 2) ok dX5_renew_2 kw94 hk ?_
  refine Z_aload0 (pc := 5) ok dX5_renew_5 ?_
  refine g_X5_counts (pc := 6) ok dX5_renew_6 kw98 hk (rw_rf hk) ?_
  refine Z_iconst (pc := 9) ok dX5_renew_9 ?_
  refine Z_callSVd (pc := 10) ok dX5_renew_10 cw_X5_19 (c_fill (rw_kd hk) (rw_ln hk) 0) rfl rfl (by decide) (Nat.le_of_ble_eq_true rfl) ?_
  refine Z_vret (pc := 13) ok okr dX5_renew_13 ?_
  exact ⟨rfl, rfl, rfl⟩
theorem c_Row_become {k q : Nat} (hk : kd k = 5) (hq : kd q = 5) : K_X5_become l G [zr G k, zr G q] I J (pR none (sz (sz I k (uz (I k) 0 (I q 0))) (k + 1) (I (q + 1))) J) := by
  have hkq : q + 1 ≠ k := fun e => by have := rw_kd hq; rw [e, hk] at this; cases this
  refine Cz.of rfl (Nat.le_of_ble_eq_true rfl) [some (zr G k), some (zr G q)] rfl (fun E ok okr hE => ?_)
  refine Z_aload0 (pc := 0) ok dX5_become_0 ?_
  refine Z_aload1 (pc := 1) ok dX5_become_1 ?_
  refine g_X5_n (pc := 2) ok dX5_become_2 kw94 hq ?_
  refine p_X5_n (pc := 5) ok dX5_become_5 kw94 hk ?_
  refine Z_aload1 (pc := 8) ok dX5_become_8 ?_
  refine g_X5_counts (pc := 9) ok dX5_become_9 kw98 hq (rw_rf hq) ?_
  refine Z_iconst (pc := 12) ok dX5_become_12 ?_
  refine Z_aload0 (pc := 13) ok dX5_become_13 ?_
  refine g_X5_counts (pc := 14) ok dX5_become_14 kw98 hk (rw_rf hk) ?_
  refine Z_iconst (pc := 17) ok dX5_become_17 ?_
  refine Z_bipush (pc := 18) ok dX5_become_18 (by decide) ?_
  refine Z_copy (pc := 20) ok dX5_become_20 kw494 kw457 kw456 kw71 (rw_kd hq) (rw_kd hk) (rw_ln hq) (rw_ln hk) (by decide) (by decide) (Nat.le_of_ble_eq_true rfl) ?_
  refine Z_vret (pc := 23) ok okr dX5_become_23 ?_
  exact ⟨rfl, by rw [sz_ne _ _ hkq], rfl⟩
theorem c_Row_has {k : Nat} (hk : kd k = 5) {e : Int} (he : -2147483648 ≤ e ∧ e ≤ 2147483647) (hn : 0 ≤ I k 0 ∧ I k 0 ≤ 30) : K_X5_has l G [zr G k, zi e] I J (pR (some (zi (zb (0 ≤ e ∧ e < I k 0)))) I J) := by
  refine Cz.of rfl (Nat.le_of_ble_eq_true rfl) [some (zr G k), some (zi e)] rfl (fun E ok okr hE => ?_)
  refine Z_iload1 (pc := 0) ok dX5_has_0 ?_
  refine Z_if_lt (pc := 1) (tgt := 16) ok dX5_has_1 rfl (by omega) (fun h => ?_) (fun h => ?_)
  · refine Z_iconst (pc := 16) ok dX5_has_16 ?_
    refine Z_bret (pc := 17) ok okr dX5_has_17 (by first | exact Or.inl rfl | exact Or.inr rfl | exact zb_01 _ | assumption | omega) ?_
    exact ⟨by rw [zb_f (by omega)], rfl, rfl⟩
  · refine Z_iload1 (pc := 4) ok dX5_has_4 ?_
    refine Z_aload0 (pc := 5) ok dX5_has_5 ?_
    refine g_X5_n (pc := 6) ok dX5_has_6 kw94 hk ?_
    refine Z_icmp_ge (pc := 9) (tgt := 16) ok dX5_has_9 rfl (by omega) (by omega) (fun h2 => ?_) (fun h2 => ?_)
    · refine Z_iconst (pc := 16) ok dX5_has_16 ?_
      refine Z_bret (pc := 17) ok okr dX5_has_17 (by first | exact Or.inl rfl | exact Or.inr rfl | exact zb_01 _ | assumption | omega) ?_
      exact ⟨by rw [zb_f (by omega)], rfl, rfl⟩
    · refine Z_iconst (pc := 12) ok dX5_has_12 ?_
      refine Z_goto (pc := 13) (tgt := 17) ok dX5_has_13 rfl ?_
      refine Z_bret (pc := 17) ok okr dX5_has_17 (by first | exact Or.inl rfl | exact Or.inr rfl | exact zb_01 _ | assumption | omega) ?_
      exact ⟨by rw [zb_t (by omega)], rfl, rfl⟩
theorem c_Row_total {k : Nat} (hk : kd k = 5) (hn : 0 ≤ I k 0 ∧ I k 0 ≤ 30) : K_X5_total l G [zr G k] I J (pR (some (zi (su (I (k + 1)) (I k 0)))) I J) := by
  refine Cz.of rfl (Nat.le_of_ble_eq_true rfl) [some (zr G k), none, none] rfl (fun E ok okr hE => ?_)
  refine Z_iconst (pc := 0) ok dX5_total_0 ?_
  refine Z_istore1 (pc := 1) ok (by decide) dX5_total_1 rfl ?_
  refine Z_iconst (pc := 2) ok dX5_total_2 ?_
  refine Z_istore2 (pc := 3) ok (by decide) dX5_total_3 rfl ?_
  have H : ∀ e : Int, 0 ≤ e → e ≤ I k 0 → Xz E G I J 4 [some (zr G k), some (zi (su (I (k + 1)) e)), some (zi e)] [] := by
    refine zUp ?_ ?_
    · refine Z_iload2 (pc := 4) ok dX5_total_4 ?_
      refine Z_aload0 (pc := 5) ok dX5_total_5 ?_
      refine g_X5_n (pc := 6) ok dX5_total_6 kw94 hk ?_
      refine Z_icmp_ge (pc := 9) (tgt := 27) ok dX5_total_9 rfl (by omega) (by omega) (fun _ => ?_) (fun h => by exfalso; omega)
      refine Z_iload1 (pc := 27) ok dX5_total_27 ?_
      refine Z_iret (pc := 28) ok okr dX5_total_28 ?_
      exact ⟨rfl, rfl, rfl⟩
    · intro e h0 h1 ih
      refine Z_iload2 (pc := 4) ok dX5_total_4 ?_
      refine Z_aload0 (pc := 5) ok dX5_total_5 ?_
      refine g_X5_n (pc := 6) ok dX5_total_6 kw94 hk ?_
      refine Z_icmp_ge (pc := 9) (tgt := 27) ok dX5_total_9 rfl (by omega) (by omega) (fun h => by exfalso; omega) (fun _ => ?_)
      refine Z_iload1 (pc := 12) ok dX5_total_12 ?_
      refine Z_aload0 (pc := 13) ok dX5_total_13 ?_
      refine g_X5_counts (pc := 14) ok dX5_total_14 kw98 hk (rw_rf hk) ?_
      refine Z_iload2 (pc := 17) ok dX5_total_17 ?_
      refine Z_iald (pc := 18) ok dX5_total_18 (rw_kd hk) (rw_ln hk) (by omega) ?_
      refine Z_iadd (pc := 19) ok dX5_total_19 ?_
      refine Z_istore1 (pc := 20) ok (by decide) dX5_total_20 rfl ?_
      refine Z_iinc2 (pc := 21) ok (by decide) dX5_total_21 rfl ?_
      refine Z_goto (pc := 24) (tgt := 4) ok dX5_total_24 rfl ?_
      rw [← su_s _ h0]
      exact ih
  exact H 0 (by omega) (by omega)
theorem c_Row_isSame {k q : Nat} (hk : kd k = 5) (hq : kd q = 5) (h1 : gR (I k 0) (I (k + 1))) (h2 : gR (I q 0) (I (q + 1))) : K_X5_isSame l G [zr G k, zr G q] I J (pR (some (zi (zb (I k 0 = I q 0 ∧ I (k + 1) = I (q + 1))))) I J) := by
  have a1 := h1.1
  have a2 := h2.1
  refine Cz.of rfl (Nat.le_of_ble_eq_true rfl) [some (zr G k), some (zr G q), none] rfl (fun E ok okr hE => ?_)
  refine Z_aload0 (pc := 0) ok dX5_isSame_0 ?_
  refine g_X5_n (pc := 1) ok dX5_isSame_1 kw94 hk ?_
  refine Z_aload1 (pc := 4) ok dX5_isSame_4 ?_
  refine g_X5_n (pc := 5) ok dX5_isSame_5 kw94 hq ?_
  refine Z_icmp_eq (pc := 8) (tgt := 13) ok dX5_isSame_8 rfl (by omega) (by omega) (fun he => ?_) (fun he => ?_)
  · refine Z_iconst (pc := 13) ok dX5_isSame_13 ?_
    refine Z_istore2 (pc := 14) ok (by decide) dX5_isSame_14 rfl ?_
    have H : ∀ e : Int, 0 ≤ e → e ≤ I k 0 → (∀ j, 0 ≤ j → j < e → I (k + 1) j = I (q + 1) j) → Xz E G I J 15 [some (zr G k), some (zr G q), some (zi e)] [] := by
      refine zUp ?_ ?_
      · intro hj
        refine Z_iload2 (pc := 15) ok dX5_isSame_15 ?_
        refine Z_aload0 (pc := 16) ok dX5_isSame_16 ?_
        refine g_X5_n (pc := 17) ok dX5_isSame_17 kw94 hk ?_
        refine Z_icmp_ge (pc := 20) (tgt := 46) ok dX5_isSame_20 rfl (by omega) (by omega) (fun _ => ?_) (fun h => by exfalso; omega)
        refine Z_iconst (pc := 46) ok dX5_isSame_46 ?_
        refine Z_bret (pc := 47) ok okr dX5_isSame_47 (by first | exact Or.inl rfl | exact Or.inr rfl | exact zb_01 _ | assumption | omega) ?_
        exact ⟨by rw [zb_t ⟨he, gR_ext h1 (by rw [he]; exact h2) hj⟩], rfl, rfl⟩
      · intro e e0 e1 ih hj
        have b1 := h1.2.1 e
        have b2 := h2.2.1 e
        refine Z_iload2 (pc := 15) ok dX5_isSame_15 ?_
        refine Z_aload0 (pc := 16) ok dX5_isSame_16 ?_
        refine g_X5_n (pc := 17) ok dX5_isSame_17 kw94 hk ?_
        refine Z_icmp_ge (pc := 20) (tgt := 46) ok dX5_isSame_20 rfl (by omega) (by omega) (fun h => by exfalso; omega) (fun _ => ?_)
        refine Z_aload0 (pc := 23) ok dX5_isSame_23 ?_
        refine g_X5_counts (pc := 24) ok dX5_isSame_24 kw98 hk (rw_rf hk) ?_
        refine Z_iload2 (pc := 27) ok dX5_isSame_27 ?_
        refine Z_iald (pc := 28) ok dX5_isSame_28 (rw_kd hk) (rw_ln hk) (by omega) ?_
        refine Z_aload1 (pc := 29) ok dX5_isSame_29 ?_
        refine g_X5_counts (pc := 30) ok dX5_isSame_30 kw98 hq (rw_rf hq) ?_
        refine Z_iload2 (pc := 33) ok dX5_isSame_33 ?_
        refine Z_iald (pc := 34) ok dX5_isSame_34 (rw_kd hq) (rw_ln hq) (by omega) ?_
        refine Z_icmp_eq (pc := 35) (tgt := 40) ok dX5_isSame_35 rfl (by omega) (by omega) (fun hd => ?_) (fun hd => ?_)
        · refine Z_iinc2 (pc := 40) ok (by decide) dX5_isSame_40 rfl ?_
          refine Z_goto (pc := 43) (tgt := 15) ok dX5_isSame_43 rfl ?_
          exact ih (fun j h3 h4 => by by_cases h5 : j = e; subst h5; exact hd; exact hj j h3 (by omega))
        · refine Z_iconst (pc := 38) ok dX5_isSame_38 ?_
          refine Z_bret (pc := 39) ok okr dX5_isSame_39 (by first | exact Or.inl rfl | exact Or.inr rfl | exact zb_01 _ | assumption | omega) ?_
          exact ⟨by rw [zb_f (fun h => hd (congrFun h.2 e))], rfl, rfl⟩
    exact H 0 (by omega) (by omega) (fun j h3 h4 => by omega)
  · refine Z_iconst (pc := 11) ok dX5_isSame_11 ?_
    refine Z_bret (pc := 12) ok okr dX5_isSame_12 (by first | exact Or.inl rfl | exact Or.inr rfl | exact zb_01 _ | assumption | omega) ?_
    exact ⟨by rw [zb_f (fun h => he h.1)], rfl, rfl⟩
theorem c_Row_rootsTaken {k : Nat} (hk : kd k = 5) (h1 : gR (I k 0) (I (k + 1))) : K_X5_rootsTaken l G [zr G k] I J (pR (some (zi (su (fun j => zb (0 < I (k + 1) j)) (I k 0)))) I J) := by
  have a1 := h1.1
  refine Cz.of rfl (Nat.le_of_ble_eq_true rfl) [some (zr G k), none, none] rfl (fun E ok okr hE => ?_)
  refine Z_iconst (pc := 0) ok dX5_rootsTaken_0 ?_
  refine Z_istore1 (pc := 1) ok (by decide) dX5_rootsTaken_1 rfl ?_
  refine Z_iconst (pc := 2) ok dX5_rootsTaken_2 ?_
  refine Z_istore2 (pc := 3) ok (by decide) dX5_rootsTaken_3 rfl ?_
  have H : ∀ e : Int, 0 ≤ e → e ≤ I k 0 → Xz E G I J 4 [some (zr G k), some (zi (su (fun j => zb (0 < I (k + 1) j)) e)), some (zi e)] [] := by
    refine zUp ?_ ?_
    · refine Z_iload2 (pc := 4) ok dX5_rootsTaken_4 ?_
      refine Z_aload0 (pc := 5) ok dX5_rootsTaken_5 ?_
      refine g_X5_n (pc := 6) ok dX5_rootsTaken_6 kw94 hk ?_
      refine Z_icmp_ge (pc := 9) (tgt := 30) ok dX5_rootsTaken_9 rfl (by omega) (by omega) (fun _ => ?_) (fun h => by exfalso; omega)
      refine Z_iload1 (pc := 30) ok dX5_rootsTaken_30 ?_
      refine Z_iret (pc := 31) ok okr dX5_rootsTaken_31 ?_
      exact ⟨rfl, rfl, rfl⟩
    · intro e e0 e1 ih
      have b1 := h1.2.1 e
      refine Z_iload2 (pc := 4) ok dX5_rootsTaken_4 ?_
      refine Z_aload0 (pc := 5) ok dX5_rootsTaken_5 ?_
      refine g_X5_n (pc := 6) ok dX5_rootsTaken_6 kw94 hk ?_
      refine Z_icmp_ge (pc := 9) (tgt := 30) ok dX5_rootsTaken_9 rfl (by omega) (by omega) (fun h => by exfalso; omega) (fun _ => ?_)
      refine Z_aload0 (pc := 12) ok dX5_rootsTaken_12 ?_
      refine g_X5_counts (pc := 13) ok dX5_rootsTaken_13 kw98 hk (rw_rf hk) ?_
      refine Z_iload2 (pc := 16) ok dX5_rootsTaken_16 ?_
      refine Z_iald (pc := 17) ok dX5_rootsTaken_17 (rw_kd hk) (rw_ln hk) (by omega) ?_
      refine Z_if_le (pc := 18) (tgt := 24) ok dX5_rootsTaken_18 rfl (by omega) (fun hd => ?_) (fun hd => ?_)
      · rw [su_s _ e0, zb_f (by omega), Int.add_zero] at ih
        refine Z_iinc2 (pc := 24) ok (by decide) dX5_rootsTaken_24 rfl ?_
        refine Z_goto (pc := 27) (tgt := 4) ok dX5_rootsTaken_27 rfl ?_
        exact ih
      · rw [su_s _ e0, zb_t hd] at ih
        refine Z_iinc1 (pc := 21) ok (by decide) dX5_rootsTaken_21 rfl ?_
        refine Z_iinc2 (pc := 24) ok (by decide) dX5_rootsTaken_24 rfl ?_
        refine Z_goto (pc := 27) (tgt := 4) ok dX5_rootsTaken_27 rfl ?_
        exact ih
  exact H 0 (by omega) (by omega)
theorem c_Row_isDear {k : Nat} (hk : kd k = 5) (h1 : gR (I k 0) (I (k + 1))) : K_X5_isDear l G [zr G k] I J (pR (some (zi (zb (20000 < pr (I (k + 1)) (I k 0))))) I J) := by
  have a1 := h1.1
  have hf : ∀ e, 0 ≤ I (k + 1) e := fun e => (h1.2.1 e).1
  refine Cz.of rfl (Nat.le_of_ble_eq_true rfl) [some (zr G k), none, none] rfl (fun E ok okr hE => ?_)
  refine Z_iconst (pc := 0) ok dX5_isDear_0 ?_
  refine Z_istore1 (pc := 1) ok (by decide) dX5_isDear_1 rfl ?_
  refine Z_iconst (pc := 2) ok dX5_isDear_2 ?_
  refine Z_istore2 (pc := 3) ok (by decide) dX5_isDear_3 rfl ?_
  have H : ∀ e : Int, 0 ≤ e → e ≤ I k 0 → pr (I (k + 1)) e ≤ 200000 → Xz E G I J 4 [some (zr G k), some (zi (pr (I (k + 1)) e)), some (zi e)] [] := by
    refine zUp ?_ ?_
    · intro hb
      have hp := pr_pos hf (I k 0)
      refine Z_iload2 (pc := 4) ok dX5_isDear_4 ?_
      refine Z_aload0 (pc := 5) ok dX5_isDear_5 ?_
      refine g_X5_n (pc := 6) ok dX5_isDear_6 kw94 hk ?_
      refine Z_icmp_ge (pc := 9) (tgt := 36) ok dX5_isDear_9 rfl (by omega) (by omega) (fun _ => ?_) (fun h => by exfalso; omega)
      refine Z_iload1 (pc := 36) ok dX5_isDear_36 ?_
      refine Z_sipush (pc := 37) ok dX5_isDear_37 (by decide) ?_
      refine Z_icmp_le (pc := 40) (tgt := 47) ok dX5_isDear_40 rfl (by omega) (by omega) (fun h => ?_) (fun h => ?_)
      · refine Z_iconst (pc := 47) ok dX5_isDear_47 ?_
        refine Z_bret (pc := 48) ok okr dX5_isDear_48 (by first | exact Or.inl rfl | exact Or.inr rfl | exact zb_01 _ | assumption | omega) ?_
        exact ⟨by rw [zb_f (by omega)], rfl, rfl⟩
      · refine Z_iconst (pc := 43) ok dX5_isDear_43 ?_
        refine Z_goto (pc := 44) (tgt := 48) ok dX5_isDear_44 rfl ?_
        refine Z_bret (pc := 48) ok okr dX5_isDear_48 (by first | exact Or.inl rfl | exact Or.inr rfl | exact zb_01 _ | assumption | omega) ?_
        exact ⟨by rw [zb_t h], rfl, rfl⟩
    · intro e e0 e1 ih hb
      have hp := pr_pos hf e
      refine Z_iload2 (pc := 4) ok dX5_isDear_4 ?_
      refine Z_aload0 (pc := 5) ok dX5_isDear_5 ?_
      refine g_X5_n (pc := 6) ok dX5_isDear_6 kw94 hk ?_
      refine Z_icmp_ge (pc := 9) (tgt := 36) ok dX5_isDear_9 rfl (by omega) (by omega) (fun h => by exfalso; omega) (fun _ => ?_)
      refine Z_iload1 (pc := 12) ok dX5_isDear_12 ?_
      refine Z_sipush (pc := 13) ok dX5_isDear_13 (by decide) ?_
      refine Z_icmp_gt (pc := 16) (tgt := 36) ok dX5_isDear_16 rfl (by omega) (by omega) (fun h => ?_) (fun h => ?_)
      · have hm := pr_mono hf (Int.le_of_lt e1) e0
        refine Z_iload1 (pc := 36) ok dX5_isDear_36 ?_
        refine Z_sipush (pc := 37) ok dX5_isDear_37 (by decide) ?_
        refine Z_icmp_le (pc := 40) (tgt := 47) ok dX5_isDear_40 rfl (by omega) (by omega) (fun h => by exfalso; omega) (fun _ => ?_)
        refine Z_iconst (pc := 43) ok dX5_isDear_43 ?_
        refine Z_goto (pc := 44) (tgt := 48) ok dX5_isDear_44 rfl ?_
        refine Z_bret (pc := 48) ok okr dX5_isDear_48 (by first | exact Or.inl rfl | exact Or.inr rfl | exact zb_01 _ | assumption | omega) ?_
        exact ⟨by rw [zb_t (by omega)], rfl, rfl⟩
      · refine Z_iload1 (pc := 19) ok dX5_isDear_19 ?_
        refine Z_aload0 (pc := 20) ok dX5_isDear_20 ?_
        refine g_X5_counts (pc := 21) ok dX5_isDear_21 kw98 hk (rw_rf hk) ?_
        refine Z_iload2 (pc := 24) ok dX5_isDear_24 ?_
        refine Z_iald (pc := 25) ok dX5_isDear_25 (rw_kd hk) (rw_ln hk) (by omega) ?_
        refine Z_iconst (pc := 26) ok dX5_isDear_26 ?_
        refine Z_iadd (pc := 27) ok dX5_isDear_27 ?_
        refine Z_imul (pc := 28) ok dX5_isDear_28 ?_
        refine Z_istore1 (pc := 29) ok (by decide) dX5_isDear_29 rfl ?_
        refine Z_iinc2 (pc := 30) ok (by decide) dX5_isDear_30 rfl ?_
        refine Z_goto (pc := 33) (tgt := 4) ok dX5_isDear_33 rfl ?_
        rw [pr_s _ e0] at ih
        have b1 := h1.2.1 e
        refine ih ?_
        have : pr (I (k + 1)) e * (I (k + 1) e + 1) ≤ 20000 * 10 := Int.mul_le_mul h (by omega) (by omega) (by omega)
        omega
  exact H 0 (by omega) (by omega) (show (1 : Int) ≤ 200000 by omega)
theorem c_Row_turnedAt {k : Nat} (hk : kd k = 5) {t e : Int} (hn : I k 0 ≤ 30) (ht : 0 ≤ t ∧ t < I k 0) (he : 0 ≤ e ∧ e < I k 0) : K_X5_turnedAt l G [zr G k, zi t, zi e] I J (pR (some (zi (tn (I (k + 1)) (I k 0) t e))) I J) := by
  refine Cz.of rfl (Nat.le_of_ble_eq_true rfl) [some (zr G k), some (zi t), some (zi e)] rfl (fun E ok okr hE => ?_)
  refine Z_aload0 (pc := 0) ok dX5_turnedAt_0 ?_
  refine g_X5_counts (pc := 1) ok dX5_turnedAt_1 kw98 hk (rw_rf hk) ?_
  refine Z_iload2 (pc := 4) ok dX5_turnedAt_4 ?_
  refine Z_iload1 (pc := 5) ok dX5_turnedAt_5 ?_
  refine Z_icmp_ge (pc := 6) (tgt := 20) ok dX5_turnedAt_6 rfl (by omega) (by omega) (fun h => ?_) (fun h => ?_)
  · refine Z_iload2 (pc := 20) ok dX5_turnedAt_20 ?_
    refine Z_iload1 (pc := 21) ok dX5_turnedAt_21 ?_
    refine Z_isub (pc := 22) ok dX5_turnedAt_22 ?_
    refine Z_iald (pc := 23) ok dX5_turnedAt_23 (rw_kd hk) (rw_ln hk) (by omega) ?_
    refine Z_iret (pc := 24) ok okr dX5_turnedAt_24 ?_
    exact ⟨by rw [tn, if_neg (by omega)], rfl, rfl⟩
  · refine Z_iload2 (pc := 9) ok dX5_turnedAt_9 ?_
    refine Z_iload1 (pc := 10) ok dX5_turnedAt_10 ?_
    refine Z_isub (pc := 11) ok dX5_turnedAt_11 ?_
    refine Z_aload0 (pc := 12) ok dX5_turnedAt_12 ?_
    refine g_X5_n (pc := 13) ok dX5_turnedAt_13 kw94 hk ?_
    refine Z_iadd (pc := 16) ok dX5_turnedAt_16 ?_
    refine Z_goto (pc := 17) (tgt := 23) ok dX5_turnedAt_17 rfl ?_
    refine Z_iald (pc := 23) ok dX5_turnedAt_23 (rw_kd hk) (rw_ln hk) (by omega) ?_
    refine Z_iret (pc := 24) ok okr dX5_turnedAt_24 ?_
    exact ⟨by rw [tn, if_pos h], rfl, rfl⟩
theorem c_Row_compareTurned {k : Nat} (hk : kd k = 5) {t o : Int} (h1 : gR (I k 0) (I (k + 1))) (ht : 0 ≤ t ∧ t < I k 0) (ho : 0 ≤ o ∧ o < I k 0) : K_X5_compareTurned l G [zr G k, zi t, zi o] I J (fun v I' J' => ∃ r, v = some (zi r) ∧ ((-9 ≤ r ∧ r ≤ 9) ∧ (r = 0 ↔ sam (I (k + 1)) (I k 0) t o) ∧ (0 < r ↔ ahd (I (k + 1)) (I k 0) t o) ∧ I' = I ∧ J' = J)) := by
  have a1 := h1.1
  refine Cz.of rfl (Nat.le_of_ble_eq_true rfl) [some (zr G k), some (zi t), some (zi o), none, none] rfl (fun E ok okr hE => ?_)
  refine Z_iconst (pc := 0) ok dX5_compareTurned_0 ?_
  refine Z_istore3 (pc := 1) ok (by decide) dX5_compareTurned_1 rfl ?_
  have H : ∀ e : Int, 0 ≤ e → e ≤ I k 0 → (∀ j, 0 ≤ j → j < e → tn (I (k + 1)) (I k 0) t j = tn (I (k + 1)) (I k 0) o j) → ∀ w, Xz E G I J 2 [some (zr G k), some (zi t), some (zi o), some (zi e), w] [] := by
    refine zUp ?_ ?_
    · intro hj w
      refine Z_iload3 (pc := 2) ok dX5_compareTurned_2 ?_
      refine Z_aload0 (pc := 3) ok dX5_compareTurned_3 ?_
      refine g_X5_n (pc := 4) ok dX5_compareTurned_4 kw94 hk ?_
      refine Z_icmp_ge (pc := 7) (tgt := 39) ok dX5_compareTurned_7 rfl (by omega) (by omega) (fun _ => ?_) (fun h => by exfalso; omega)
      refine Z_iconst (pc := 39) ok dX5_compareTurned_39 ?_
      refine Z_iret (pc := 40) ok okr dX5_compareTurned_40 ?_
      refine ⟨0, rfl, by omega, ⟨fun _ => hj, fun _ => rfl⟩, ⟨fun q => by omega, fun ⟨e, q1, q2, q3, q4⟩ => ?_⟩, rfl, rfl⟩
      have := hj e q1 q2; omega
    · intro e e0 e1 ih hj w
      have b1 := tn_r h1 t e
      have b2 := tn_r h1 o e
      refine Z_iload3 (pc := 2) ok dX5_compareTurned_2 ?_
      refine Z_aload0 (pc := 3) ok dX5_compareTurned_3 ?_
      refine g_X5_n (pc := 4) ok dX5_compareTurned_4 kw94 hk ?_
      refine Z_icmp_ge (pc := 7) (tgt := 39) ok dX5_compareTurned_7 rfl (by omega) (by omega) (fun h => by exfalso; omega) (fun _ => ?_)
      refine Z_aload0 (pc := 10) ok dX5_compareTurned_10 ?_
      refine Z_iload1 (pc := 11) ok dX5_compareTurned_11 ?_
      refine Z_iload3 (pc := 12) ok dX5_compareTurned_12 ?_
      refine Z_callVId (pc := 13) ok dX5_compareTurned_13 cw_X5_31 rfl hk (by decide) (c_Row_turnedAt hk a1.2 ht ⟨e0, e1⟩) rfl rfl (by decide) (Nat.le_of_ble_eq_true rfl) ?_
      refine Z_aload0 (pc := 16) ok dX5_compareTurned_16 ?_
      refine Z_iload2 (pc := 17) ok dX5_compareTurned_17 ?_
      refine Z_iload3 (pc := 18) ok dX5_compareTurned_18 ?_
      refine Z_callVId (pc := 19) ok dX5_compareTurned_19 cw_X5_31 rfl hk (by decide) (c_Row_turnedAt hk a1.2 ho ⟨e0, e1⟩) rfl rfl (by decide) (Nat.le_of_ble_eq_true rfl) ?_
      refine Z_isub (pc := 22) ok dX5_compareTurned_22 ?_
      refine Z_istore4 (pc := 23) ok (by decide) dX5_compareTurned_23 rfl ?_
      refine Z_iload4 (pc := 25) ok dX5_compareTurned_25 ?_
      refine Z_if_eq (pc := 27) (tgt := 33) ok dX5_compareTurned_27 rfl (by omega) (fun hd => ?_) (fun hd => ?_)
      · refine Z_iinc3 (pc := 33) ok (by decide) dX5_compareTurned_33 rfl ?_
        refine Z_goto (pc := 36) (tgt := 2) ok dX5_compareTurned_36 rfl ?_
        exact ih (fun j h3 h4 => by by_cases h5 : j = e; subst h5; omega; exact hj j h3 (by omega)) _
      · refine Z_iload4 (pc := 30) ok dX5_compareTurned_30 ?_
        refine Z_iret (pc := 32) ok okr dX5_compareTurned_32 ?_
        refine ⟨_, rfl, by omega, ⟨fun q => by omega, fun q => absurd (q e e0 e1) (by omega)⟩, ⟨fun q => ⟨e, e0, e1, hj, by omega⟩, fun ⟨e', q1, q2, q3, q4⟩ => ?_⟩, rfl, rfl⟩
        rcases Int.lt_trichotomy e e' with h | h | h
        · have := q3 e e0 h; omega
        · subst h; omega
        · have := hj e' q1 h; omega
  exact H 0 (by omega) (by omega) (fun j h3 h4 => by omega) none
theorem c_Row_isToldTurned {k q : Nat} (hk : kd k = 5) (hq : kd q = 14) (hlq : ln q = 30) {t : Int} (h1 : gR (I k 0) (I (k + 1))) (ht : 0 ≤ t ∧ t < I k 0) (hJ : ∀ j, -9223372036854775808 ≤ J q j ∧ J q j ≤ 9223372036854775807) : K_X5_isToldTurned l G [zr G k, zi t, zr G q] I J (pR (some (zi (zb (∀ j, 0 ≤ j → j < I k 0 → tn (I (k + 1)) (I k 0) t j = J q j)))) I J) := by
  have a1 := h1.1
  refine Cz.of rfl (Nat.le_of_ble_eq_true rfl) [some (zr G k), some (zi t), some (zr G q), none] rfl (fun E ok okr hE => ?_)
  refine Z_iconst (pc := 0) ok dX5_isToldTurned_0 ?_
  refine Z_istore3 (pc := 1) ok (by decide) dX5_isToldTurned_1 rfl ?_
  have H : ∀ e : Int, 0 ≤ e → e ≤ I k 0 → (∀ j, 0 ≤ j → j < e → tn (I (k + 1)) (I k 0) t j = J q j) → Xz E G I J 2 [some (zr G k), some (zi t), some (zr G q), some (zi e)] [] := by
    refine zUp ?_ ?_
    · intro hj
      refine Z_iload3 (pc := 2) ok dX5_isToldTurned_2 ?_
      refine Z_aload0 (pc := 3) ok dX5_isToldTurned_3 ?_
      refine g_X5_n (pc := 4) ok dX5_isToldTurned_4 kw94 hk ?_
      refine Z_icmp_ge (pc := 7) (tgt := 32) ok dX5_isToldTurned_7 rfl (by omega) (by omega) (fun _ => ?_) (fun h => by exfalso; omega)
      refine Z_iconst (pc := 32) ok dX5_isToldTurned_32 ?_
      refine Z_bret (pc := 33) ok okr dX5_isToldTurned_33 (by first | exact Or.inl rfl | exact Or.inr rfl | exact zb_01 _ | assumption | omega) ?_
      exact ⟨by rw [zb_t hj], rfl, rfl⟩
    · intro e e0 e1 ih hj
      have b1 := tn_r h1 t e
      have b2 := hJ e
      refine Z_iload3 (pc := 2) ok dX5_isToldTurned_2 ?_
      refine Z_aload0 (pc := 3) ok dX5_isToldTurned_3 ?_
      refine g_X5_n (pc := 4) ok dX5_isToldTurned_4 kw94 hk ?_
      refine Z_icmp_ge (pc := 7) (tgt := 32) ok dX5_isToldTurned_7 rfl (by omega) (by omega) (fun h => by exfalso; omega) (fun _ => ?_)
      refine Z_aload0 (pc := 10) ok dX5_isToldTurned_10 ?_
      refine Z_iload1 (pc := 11) ok dX5_isToldTurned_11 ?_
      refine Z_iload3 (pc := 12) ok dX5_isToldTurned_12 ?_
      refine Z_callVId (pc := 13) ok dX5_isToldTurned_13 cw_X5_31 rfl hk (by decide) (c_Row_turnedAt hk a1.2 ht ⟨e0, e1⟩) rfl rfl (by decide) (Nat.le_of_ble_eq_true rfl) ?_
      refine Z_i2l (pc := 16) ok dX5_isToldTurned_16 (by omega) ?_
      refine Z_aload2 (pc := 17) ok dX5_isToldTurned_17 ?_
      refine Z_iload3 (pc := 18) ok dX5_isToldTurned_18 ?_
      refine Z_lald (pc := 19) ok dX5_isToldTurned_19 hq hlq (by omega) ?_
      refine Z_lcmp (pc := 20) ok dX5_isToldTurned_20 (by omega) (by omega) ?_
      refine Z_if_eqC (pc := 21) (tgt := 26) ok dX5_isToldTurned_21 rfl (fun hd => ?_) (fun hd => ?_)
      · refine Z_iinc3 (pc := 26) ok (by decide) dX5_isToldTurned_26 rfl ?_
        refine Z_goto (pc := 29) (tgt := 2) ok dX5_isToldTurned_29 rfl ?_
        exact ih (fun j h3 h4 => by by_cases h5 : j = e; subst h5; exact hd; exact hj j h3 (by omega))
      · refine Z_iconst (pc := 24) ok dX5_isToldTurned_24 ?_
        refine Z_bret (pc := 25) ok okr dX5_isToldTurned_25 (by first | exact Or.inl rfl | exact Or.inr rfl | exact zb_01 _ | assumption | omega) ?_
        exact ⟨by rw [zb_f (fun h => hd (h e e0 e1))], rfl, rfl⟩
  exact H 0 (by omega) (by omega) (fun j h3 h4 => by omega)
/-! LongList -/
theorem c_LongList_renew {k : Nat} (hk : kd k = 2) (b : Int) : K_X2_renew l G [zr G k, zi b] I J (pR none (sz I k (uz (I k) 0 b)) (sz J (k + 1) (fun _ => 0))) := by
  refine Cz.of rfl (Nat.le_of_ble_eq_true rfl) [some (zr G k), some (zi b)] rfl (fun E ok okr hE => ?_)
  refine Z_aload0 (pc := 0) ok dX2_renew_0 ?_
  refine Z_iload1 (pc := 1) ok dX2_renew_1 ?_
  refine p_X2_size (pc := 2) ok dX2_renew_2 kw287 hk ?_
  refine Z_aload0 (pc := 5) ok dX2_renew_5 ?_
  refine g_X2_values (pc := 6) ok dX2_renew_6 kw289 hk (ll_rf hk) ?_
  refine Z_lconst (pc := 9) (z := 0) ok dX2_renew_9 (by decide) ?_
  refine Z_callSVd (pc := 10) ok dX2_renew_10 cw_X2_19 (c_fillL (ll_kd hk) (ll_ln hk) 0) rfl rfl (by decide) (Nat.le_of_ble_eq_true rfl) ?_
  refine Z_vret (pc := 13) ok okr dX2_renew_13 ?_
  exact ⟨rfl, rfl, rfl⟩
theorem c_LongList_isMissing {k : Nat} (hk : kd k = 2) (hs : -1 ≤ I k 0 ∧ I k 0 ≤ 30) : K_X2_isMissing l G [zr G k] I J (pR (some (zi (zb (I k 0 < 0)))) I J) := by
  refine Cz.of rfl (Nat.le_of_ble_eq_true rfl) [some (zr G k)] rfl (fun E ok okr hE => ?_)
  refine Z_aload0 (pc := 0) ok dX2_isMissing_0 ?_
  refine g_X2_size (pc := 1) ok dX2_isMissing_1 kw287 hk ?_
  refine Z_if_ge (pc := 4) (tgt := 11) ok dX2_isMissing_4 rfl (by omega) (fun h4 => ?_) (fun h4 => ?_)
  · refine Z_iconst (pc := 11) ok dX2_isMissing_11 ?_
    refine Z_bret (pc := 12) ok okr dX2_isMissing_12 (by first | exact Or.inl rfl | exact Or.inr rfl | exact zb_01 _ | assumption | omega) ?_
    first | (exfalso; omega) | exact ⟨rfl, rfl, rfl⟩ | exact ⟨by rw [zb_t (by omega)], rfl, rfl⟩ | exact ⟨by rw [zb_f (by omega)], rfl, rfl⟩
  · refine Z_iconst (pc := 7) ok dX2_isMissing_7 ?_
    refine Z_goto (pc := 8) (tgt := 12) ok dX2_isMissing_8 rfl ?_
    refine Z_bret (pc := 12) ok okr dX2_isMissing_12 (by first | exact Or.inl rfl | exact Or.inr rfl | exact zb_01 _ | assumption | omega) ?_
    first | (exfalso; omega) | exact ⟨rfl, rfl, rfl⟩ | exact ⟨by rw [zb_t (by omega)], rfl, rfl⟩ | exact ⟨by rw [zb_f (by omega)], rfl, rfl⟩
theorem c_LongList_has {k : Nat} (hk : kd k = 2) (hs : -1 ≤ I k 0 ∧ I k 0 ≤ 30) {i : Int} (hi : -2147483648 ≤ i ∧ i ≤ 2147483647) : K_X2_has l G [zr G k, zi i] I J (pR (some (zi (zb (0 ≤ i ∧ i < I k 0)))) I J) := by
  refine Cz.of rfl (Nat.le_of_ble_eq_true rfl) [some (zr G k), some (zi i)] rfl (fun E ok okr hE => ?_)
  refine Z_iload1 (pc := 0) ok dX2_has_0 ?_
  refine Z_if_lt (pc := 1) (tgt := 16) ok dX2_has_1 rfl (by omega) (fun h1 => ?_) (fun h1 => ?_)
  · refine Z_iconst (pc := 16) ok dX2_has_16 ?_
    refine Z_bret (pc := 17) ok okr dX2_has_17 (by first | exact Or.inl rfl | exact Or.inr rfl | exact zb_01 _ | assumption | omega) ?_
    first | (exfalso; omega) | exact ⟨rfl, rfl, rfl⟩ | exact ⟨by rw [zb_t (by omega)], rfl, rfl⟩ | exact ⟨by rw [zb_f (by omega)], rfl, rfl⟩
  · refine Z_iload1 (pc := 4) ok dX2_has_4 ?_
    refine Z_aload0 (pc := 5) ok dX2_has_5 ?_
    refine g_X2_size (pc := 6) ok dX2_has_6 kw287 hk ?_
    refine Z_icmp_ge (pc := 9) (tgt := 16) ok dX2_has_9 rfl (by omega) (by omega) (fun h9 => ?_) (fun h9 => ?_)
    · refine Z_iconst (pc := 16) ok dX2_has_16 ?_
      refine Z_bret (pc := 17) ok okr dX2_has_17 (by first | exact Or.inl rfl | exact Or.inr rfl | exact zb_01 _ | assumption | omega) ?_
      first | (exfalso; omega) | exact ⟨rfl, rfl, rfl⟩ | exact ⟨by rw [zb_t (by omega)], rfl, rfl⟩ | exact ⟨by rw [zb_f (by omega)], rfl, rfl⟩
    · refine Z_iconst (pc := 12) ok dX2_has_12 ?_
      refine Z_goto (pc := 13) (tgt := 17) ok dX2_has_13 rfl ?_
      refine Z_bret (pc := 17) ok okr dX2_has_17 (by first | exact Or.inl rfl | exact Or.inr rfl | exact zb_01 _ | assumption | omega) ?_
      first | (exfalso; omega) | exact ⟨rfl, rfl, rfl⟩ | exact ⟨by rw [zb_t (by omega)], rfl, rfl⟩ | exact ⟨by rw [zb_f (by omega)], rfl, rfl⟩
/-! Plan -/
theorem c_Plan_append {k : Nat} (hk : kd k = 4) (hs : 0 ≤ I k 0 ∧ I k 0 < 8) (a v : Int) : K_X4_append l G [zr G k, zi a, zi v] I J (pR none (sz (sz (sz I (k + 1) (uz (I (k + 1)) (I k 0) a)) (k + 2) (uz (I (k + 2)) (I k 0) v)) k (uz (I k) 0 (I k 0 + 1))) J) := by
  have e1 : k ≠ k + 1 := by omega
  have e2 : k ≠ k + 2 := by omega
  have e3 : k + 2 ≠ k + 1 := by omega
  refine Cz.of rfl (Nat.le_of_ble_eq_true rfl) [some (zr G k), some (zi a), some (zi v)] rfl (fun E ok okr hE => ?_)
  refine Z_aload0 (pc := 0) ok dX4_append_0 ?_
  refine g_X4_size (pc := 1) ok dX4_append_1 kw115 hk ?_
  refine Z_bipush (pc := 4) ok dX4_append_4 (by decide) ?_
  refine Z_icmp_ge (pc := 6) (tgt := 39) ok dX4_append_6 rfl (by omega) (by omega) (fun h => by exfalso; omega) (fun _ => ?_)
  refine Z_aload0 (pc := 9) ok dX4_append_9 ?_
  refine g_X4_kinds (pc := 10) ok dX4_append_10 kw117 hk (pl_rf1 hk) ?_
  refine Z_aload0 (pc := 13) ok dX4_append_13 ?_
  refine g_X4_size (pc := 14) ok dX4_append_14 kw115 hk ?_
  refine Z_iload1 (pc := 17) ok dX4_append_17 ?_
  refine Z_iast (pc := 18) ok dX4_append_18 (pl_kd1 hk) (pl_ln1 hk) (by omega) ?_
  refine Z_aload0 (pc := 19) ok dX4_append_19 ?_
  refine g_X4_values (pc := 20) ok dX4_append_20 kw119 hk (pl_rf2 hk) ?_
  refine Z_aload0 (pc := 23) ok dX4_append_23 ?_
  refine g_X4_size (pc := 24) ok dX4_append_24 kw115 hk ?_
  refine Z_iload2 (pc := 27) ok dX4_append_27 ?_
  refine Z_iast (pc := 28) ok dX4_append_28 (pl_kd2 hk) (pl_ln2 hk) (by rw [sz_ne _ _ e1]; omega) ?_
  refine Z_aload0 (pc := 29) ok dX4_append_29 ?_
  refine Z_dup (pc := 30) ok dX4_append_30 rfl ?_
  refine g_X4_size (pc := 31) ok dX4_append_31 kw115 hk ?_
  refine Z_iconst (pc := 34) ok dX4_append_34 ?_
  refine Z_iadd (pc := 35) ok dX4_append_35 ?_
  refine p_X4_size (pc := 36) ok dX4_append_36 kw115 hk ?_
  refine Z_vret (pc := 39) ok okr dX4_append_39 ?_
  exact ⟨rfl, by simp only [sz_ne _ _ e1, sz_ne _ _ e2, sz_ne _ _ e3], rfl⟩
theorem c_Plan_become {k q : Nat} (hk : kd k = 4) (hq : kd q = 4) : K_X4_become l G [zr G k, zr G q] I J (pR none (sz (sz (sz I k (uz (I k) 0 (I q 0))) (k + 1) (I (q + 1))) (k + 2) (I (q + 2))) J) := by
  have e1 : q + 1 ≠ k := fun e => by have := pl_kd1 hq; rw [e, hk] at this; cases this
  have e2 : q + 2 ≠ k := fun e => by have := pl_kd2 hq; rw [e, hk] at this; cases this
  have e3 : q + 2 ≠ k + 1 := by omega
  refine Cz.of rfl (Nat.le_of_ble_eq_true rfl) [some (zr G k), some (zr G q)] rfl (fun E ok okr hE => ?_)
  refine Z_aload0 (pc := 0) ok dX4_become_0 ?_
  refine Z_aload1 (pc := 1) ok dX4_become_1 ?_
  refine g_X4_size (pc := 2) ok dX4_become_2 kw115 hq ?_
  refine p_X4_size (pc := 5) ok dX4_become_5 kw115 hk ?_
  refine Z_aload1 (pc := 8) ok dX4_become_8 ?_
  refine g_X4_kinds (pc := 9) ok dX4_become_9 kw117 hq (pl_rf1 hq) ?_
  refine Z_iconst (pc := 12) ok dX4_become_12 ?_
  refine Z_aload0 (pc := 13) ok dX4_become_13 ?_
  refine g_X4_kinds (pc := 14) ok dX4_become_14 kw117 hk (pl_rf1 hk) ?_
  refine Z_iconst (pc := 17) ok dX4_become_17 ?_
  refine Z_bipush (pc := 18) ok dX4_become_18 (by decide) ?_
  refine Z_copy (pc := 20) ok dX4_become_20 kw874 kw457 kw456 kw71 (pl_kd1 hq) (pl_kd1 hk) (pl_ln1 hq) (pl_ln1 hk) (by decide) (by decide) (Nat.le_of_ble_eq_true rfl) ?_
  refine Z_aload1 (pc := 23) ok dX4_become_23 ?_
  refine g_X4_values (pc := 24) ok dX4_become_24 kw119 hq (pl_rf2 hq) ?_
  refine Z_iconst (pc := 27) ok dX4_become_27 ?_
  refine Z_aload0 (pc := 28) ok dX4_become_28 ?_
  refine g_X4_values (pc := 29) ok dX4_become_29 kw119 hk (pl_rf2 hk) ?_
  refine Z_iconst (pc := 32) ok dX4_become_32 ?_
  refine Z_bipush (pc := 33) ok dX4_become_33 (by decide) ?_
  refine Z_copy (pc := 35) ok dX4_become_35 kw874 kw457 kw456 kw71 (pl_kd2 hq) (pl_kd2 hk) (pl_ln2 hq) (pl_ln2 hk) (by decide) (by decide) (Nat.le_of_ble_eq_true rfl) ?_
  refine Z_vret (pc := 38) ok okr dX4_become_38 ?_
  exact ⟨rfl, by rw [sz_ne _ _ e1, sz_ne _ _ e3, sz_ne _ _ e2], rfl⟩
/-! Shelf -/
theorem c_Shelf_has {k : Nat} (hk : kd k = 6) (hs : 0 ≤ I k 0 ∧ I k 0 ≤ 8) {i : Int} (hi : -2147483648 ≤ i ∧ i ≤ 2147483647) : K_X6_has l G [zr G k, zi i] I J (pR (some (zi (zb (0 ≤ i ∧ i < I k 0)))) I J) := by
  refine Cz.of rfl (Nat.le_of_ble_eq_true rfl) [some (zr G k), some (zi i)] rfl (fun E ok okr hE => ?_)
  refine Z_iload1 (pc := 0) ok dX6_has_0 ?_
  refine Z_if_lt (pc := 1) (tgt := 16) ok dX6_has_1 rfl (by omega) (fun h1 => ?_) (fun h1 => ?_)
  · refine Z_iconst (pc := 16) ok dX6_has_16 ?_
    refine Z_bret (pc := 17) ok okr dX6_has_17 (by first | exact Or.inl rfl | exact Or.inr rfl | exact zb_01 _ | assumption | omega) ?_
    first | (exfalso; omega) | exact ⟨rfl, rfl, rfl⟩ | exact ⟨by rw [zb_t (by omega)], rfl, rfl⟩ | exact ⟨by rw [zb_f (by omega)], rfl, rfl⟩
  · refine Z_iload1 (pc := 4) ok dX6_has_4 ?_
    refine Z_aload0 (pc := 5) ok dX6_has_5 ?_
    refine g_X6_size (pc := 6) ok dX6_has_6 kw138 hk ?_
    refine Z_icmp_ge (pc := 9) (tgt := 16) ok dX6_has_9 rfl (by omega) (by omega) (fun h9 => ?_) (fun h9 => ?_)
    · refine Z_iconst (pc := 16) ok dX6_has_16 ?_
      refine Z_bret (pc := 17) ok okr dX6_has_17 (by first | exact Or.inl rfl | exact Or.inr rfl | exact zb_01 _ | assumption | omega) ?_
      first | (exfalso; omega) | exact ⟨rfl, rfl, rfl⟩ | exact ⟨by rw [zb_t (by omega)], rfl, rfl⟩ | exact ⟨by rw [zb_f (by omega)], rfl, rfl⟩
    · refine Z_iconst (pc := 12) ok dX6_has_12 ?_
      refine Z_goto (pc := 13) (tgt := 17) ok dX6_has_13 rfl ?_
      refine Z_bret (pc := 17) ok okr dX6_has_17 (by first | exact Or.inl rfl | exact Or.inr rfl | exact zb_01 _ | assumption | omega) ?_
      first | (exfalso; omega) | exact ⟨rfl, rfl, rfl⟩ | exact ⟨by rw [zb_t (by omega)], rfl, rfl⟩ | exact ⟨by rw [zb_f (by omega)], rfl, rfl⟩
end
