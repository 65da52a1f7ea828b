/-! sums -/
def suN (f : Int → Int) : Nat → Int
  | 0 => 0
  | n + 1 => suN f n + f (n : Int)
def su (f : Int → Int) (e : Int) : Int := suN f e.toNat
theorem su_0 (f : Int → Int) : su f 0 = 0 := rfl
theorem su_s (f : Int → Int) {e : Int} (h : 0 ≤ e) : su f (e + 1) = su f e + f e := by
  obtain ⟨j, rfl⟩ := Int.eq_ofNat_of_zero_le h
  rfl
theorem upto_s {f : Int → Int} {i v : Int} {p : Int → Int → Prop} (hf : ∀ j, 0 ≤ j → j < i → p j (f j)) (hv : p i v) : ∀ j, 0 ≤ j → j < i + 1 → p j (uz f i v j) := by
  intro j h0 h1
  by_cases h : j = i
  · subst h; rw [uz_eq]; exact hv
  · rw [uz_ne _ _ h]; exact hf j h0 (by omega)
section
variable {l : Launch} {G : Gw} {I J : Mz}
set_option maxRecDepth 100000
/-! Arrays.fill -/
theorem c_fill {a L : Nat} (ha : kd a = 13) (hL : ln a = L) (v : Int) : K_J7_fill_53178 l G [zr G a, zi v] I J (pR none (sz I a (fun _ => v)) J) := by
  have hs := ln_small a
  refine Cz.of rfl (Nat.le_of_ble_eq_true rfl) [some (zr G a), some (zi v), none, none] rfl (fun E ok okr hE => ?_)
  refine Z_iconst (pc := 0) ok dJ7_fill_53178_0 ?_
  refine Z_istore2 (pc := 1) ok (by decide) dJ7_fill_53178_1 rfl ?_
  refine Z_aload0 (pc := 2) ok dJ7_fill_53178_2 ?_
  refine Z_alen (pc := 3) ok dJ7_fill_53178_3 (t := 0) ha rfl hL ?_
  refine Z_istore3 (pc := 4) ok (by decide) dJ7_fill_53178_4 rfl ?_
  have H : ∀ i : Int, 0 ≤ i → i ≤ (L : Int) → ∀ f : Int → Int, (∀ j, 0 ≤ j → j < i → f j = v) → Xz E G (sz I a f) J 5 [some (zr G a), some (zi v), some (zi i), some (zi (L : Int))] [] := by
    refine zUp ?_ ?_
    · intro f hf
      refine Z_ext1 (g := fun _ => v) (by omega) (fun j h0 h1 => hf j h0 (by omega)) ?_
      refine Z_iload2 (pc := 5) ok dJ7_fill_53178_5 ?_
      refine Z_iload3 (pc := 6) ok dJ7_fill_53178_6 ?_
      refine Z_icmp_ge (pc := 7) (tgt := 20) ok dJ7_fill_53178_7 rfl (by omega) (by omega) (fun _ => ?_) (fun h => by exfalso; omega)
      refine Z_vret (pc := 20) ok okr dJ7_fill_53178_20 ?_
      exact ⟨rfl, rfl, rfl⟩
    · intro i h0 h1 ih f hf
      refine Z_iload2 (pc := 5) ok dJ7_fill_53178_5 ?_
      refine Z_iload3 (pc := 6) ok dJ7_fill_53178_6 ?_
      refine Z_icmp_ge (pc := 7) (tgt := 20) ok dJ7_fill_53178_7 rfl (by omega) (by omega) (fun h => by exfalso; omega) (fun _ => ?_)
      refine Z_aload0 (pc := 10) ok dJ7_fill_53178_10 ?_
      refine Z_iload2 (pc := 11) ok dJ7_fill_53178_11 ?_
      refine Z_iload1 (pc := 12) ok dJ7_fill_53178_12 ?_
      refine Z_iast (pc := 13) ok dJ7_fill_53178_13 ha hL (by omega) ?_
      refine Z_iinc2 (pc := 14) ok (by decide) dJ7_fill_53178_14 rfl ?_
      refine Z_goto (pc := 17) (tgt := 5) ok dJ7_fill_53178_17 rfl ?_
      rw [sz_sz, sz_eq]
      exact ih _ (upto_s (p := fun _ x => x = v) hf rfl)
  have h := H 0 (by omega) (by omega) (I a) (fun j h0 h1 => by omega)
  rw [sz_self] at h
  exact h
theorem c_fillL {a L : Nat} (ha : kd a = 14) (hL : ln a = L) (v : Int) : K_J7_fill_d0a16 l G [zr G a, zl v] I J (pR none I (sz J a (fun _ => v))) := by
  have hs := ln_small a
  refine Cz.of rfl (Nat.le_of_ble_eq_true rfl) [some (zr G a), some (zl v), none, none, none] rfl (fun E ok okr hE => ?_)
  refine Z_iconst (pc := 0) ok dJ7_fill_d0a16_0 ?_
  refine Z_istore3 (pc := 1) ok (by decide) dJ7_fill_d0a16_1 rfl ?_
  refine Z_aload0 (pc := 2) ok dJ7_fill_d0a16_2 ?_
  refine Z_alen (pc := 3) ok dJ7_fill_d0a16_3 (t := 1) ha rfl hL ?_
  refine Z_istore4 (pc := 4) ok (by decide) dJ7_fill_d0a16_4 rfl ?_
  have H : ∀ i : Int, 0 ≤ i → i ≤ (L : Int) → ∀ f : Int → Int, (∀ j, 0 ≤ j → j < i → f j = v) → Xz E G I (sz J a f) 6 [some (zr G a), some (zl v), none, some (zi i), some (zi (L : Int))] [] := by
    refine zUp ?_ ?_
    · intro f hf
      refine Z_ext1J (g := fun _ => v) (fun j h0 h1 => hf j h0 (by omega)) ?_
      refine Z_iload3 (pc := 6) ok dJ7_fill_d0a16_6 ?_
      refine Z_iload4 (pc := 7) ok dJ7_fill_d0a16_7 ?_
      refine Z_icmp_ge (pc := 9) (tgt := 22) ok dJ7_fill_d0a16_9 rfl (by omega) (by omega) (fun _ => ?_) (fun h => by exfalso; omega)
      refine Z_vret (pc := 22) ok okr dJ7_fill_d0a16_22 ?_
      exact ⟨rfl, rfl, rfl⟩
    · intro i h0 h1 ih f hf
      refine Z_iload3 (pc := 6) ok dJ7_fill_d0a16_6 ?_
      refine Z_iload4 (pc := 7) ok dJ7_fill_d0a16_7 ?_
      refine Z_icmp_ge (pc := 9) (tgt := 22) ok dJ7_fill_d0a16_9 rfl (by omega) (by omega) (fun h => by exfalso; omega) (fun _ => ?_)
      refine Z_aload0 (pc := 12) ok dJ7_fill_d0a16_12 ?_
      refine Z_iload3 (pc := 13) ok dJ7_fill_d0a16_13 ?_
      refine Z_lload1 (pc := 14) ok dJ7_fill_d0a16_14 ?_
      refine Z_last (pc := 15) ok dJ7_fill_d0a16_15 ha hL (by omega) ?_
      refine Z_iinc3 (pc := 16) ok (by decide) dJ7_fill_d0a16_16 rfl ?_
      refine Z_goto (pc := 19) (tgt := 6) ok dJ7_fill_d0a16_19 rfl ?_
      rw [sz_sz, sz_eq]
      exact ih _ (upto_s (p := fun _ x => x = v) hf rfl)
  have h := H 0 (by omega) (by omega) (J a) (fun j h0 h1 => by omega)
  rw [sz_self] at h
  exact h
/-! Row -/
theorem c_Row_renew {k : Nat} (hk : kd k = 5) (b : Int) : K_X5_renew l G [zr G k, zi b] I J (pR none (sz (sz I k (uz (I k) 0 b)) (k + 1) (fun _ => 0)) J) := by
  refine Cz.of rfl (Nat.le_of_ble_eq_true rfl) [some (zr G k), some (zi b)] rfl (fun E ok okr hE => ?_)
  refine Z_aload0 (pc := 0) ok dX5_renew_0 ?_
  refine Z_iload1 (pc := 1) ok dX5_renew_1 ?_
  refine p_X5_n (pc := 2) ok dX5_renew_2 kw94 hk ?_
  refine Z_aload0 (pc := 5) ok dX5_renew_5 ?_
  refine g_X5_counts (pc := 6) ok dX5_renew_6 kw98 hk (rw_rf hk) ?_
  refine Z_iconst (pc := 9) ok dX5_renew_9 ?_
  refine Z_callSVd (pc := 10) ok dX5_renew_10 cw_X5_19 (c_fill (rw_kd hk) (rw_ln hk) 0) rfl rfl (by decide) (Nat.le_of_ble_eq_true rfl) ?_
  refine Z_vret (pc := 13) ok okr dX5_renew_13 ?_
  exact ⟨rfl, rfl, rfl⟩
theorem c_Row_become {k q : Nat} (hk : kd k = 5) (hq : kd q = 5) : K_X5_become l G [zr G k, zr G q] I J (pR none (sz (sz I k (uz (I k) 0 (I q 0))) (k + 1) (I (q + 1))) J) := by
  have hkq : q + 1 ≠ k := fun e => by have := rw_kd hq; rw [e, hk] at this; cases this
  refine Cz.of rfl (Nat.le_of_ble_eq_true rfl) [some (zr G k), some (zr G q)] rfl (fun E ok okr hE => ?_)
  refine Z_aload0 (pc := 0) ok dX5_become_0 ?_
  refine Z_aload1 (pc := 1) ok dX5_become_1 ?_
  refine g_X5_n (pc := 2) ok dX5_become_2 kw94 hq ?_
  refine p_X5_n (pc := 5) ok dX5_become_5 kw94 hk ?_
  refine Z_aload1 (pc := 8) ok dX5_become_8 ?_
  refine g_X5_counts (pc := 9) ok dX5_become_9 kw98 hq (rw_rf hq) ?_
  refine Z_iconst (pc := 12) ok dX5_become_12 ?_
  refine Z_aload0 (pc := 13) ok dX5_become_13 ?_
  refine g_X5_counts (pc := 14) ok dX5_become_14 kw98 hk (rw_rf hk) ?_
  refine Z_iconst (pc := 17) ok dX5_become_17 ?_
  refine Z_bipush (pc := 18) ok dX5_become_18 (by decide) ?_
  refine Z_copy (pc := 20) ok dX5_become_20 kw494 kw457 kw456 kw71 (rw_kd hq) (rw_kd hk) (rw_ln hq) (rw_ln hk) (by decide) (by decide) (Nat.le_of_ble_eq_true rfl) ?_
  refine Z_vret (pc := 23) ok okr dX5_become_23 ?_
  exact ⟨rfl, by rw [sz_ne _ _ hkq], rfl⟩
theorem c_Row_has {k : Nat} (hk : kd k = 5) {e : Int} (he : -2147483648 ≤ e ∧ e ≤ 2147483647) (hn : 0 ≤ I k 0 ∧ I k 0 ≤ 30) : K_X5_has l G [zr G k, zi e] I J (pR (some (zi (zb (0 ≤ e ∧ e < I k 0)))) I J) := by
  refine Cz.of rfl (Nat.le_of_ble_eq_true rfl) [some (zr G k), some (zi e)] rfl (fun E ok okr hE => ?_)
  refine Z_iload1 (pc := 0) ok dX5_has_0 ?_
  refine Z_if_lt (pc := 1) (tgt := 16) ok dX5_has_1 rfl (by omega) (fun h => ?_) (fun h => ?_)
  · refine Z_iconst (pc := 16) ok dX5_has_16 ?_
    refine Z_bret (pc := 17) ok okr dX5_has_17 (by first | exact Or.inl rfl | exact Or.inr rfl | exact zb_01 _ | assumption | omega) ?_
    exact ⟨by rw [zb_f (by omega)], rfl, rfl⟩
  · refine Z_iload1 (pc := 4) ok dX5_has_4 ?_
    refine Z_aload0 (pc := 5) ok dX5_has_5 ?_
    refine g_X5_n (pc := 6) ok dX5_has_6 kw94 hk ?_
    refine Z_icmp_ge (pc := 9) (tgt := 16) ok dX5_has_9 rfl (by omega) (by omega) (fun h2 => ?_) (fun h2 => ?_)
    · refine Z_iconst (pc := 16) ok dX5_has_16 ?_
      refine Z_bret (pc := 17) ok okr dX5_has_17 (by first | exact Or.inl rfl | exact Or.inr rfl | exact zb_01 _ | assumption | omega) ?_
      exact ⟨by rw [zb_f (by omega)], rfl, rfl⟩
    · refine Z_iconst (pc := 12) ok dX5_has_12 ?_
      refine Z_goto (pc := 13) (tgt := 17) ok dX5_has_13 rfl ?_
      refine Z_bret (pc := 17) ok okr dX5_has_17 (by first | exact Or.inl rfl | exact Or.inr rfl | exact zb_01 _ | assumption | omega) ?_
      exact ⟨by rw [zb_t (by omega)], rfl, rfl⟩
theorem c_Row_total {k : Nat} (hk : kd k = 5) (hn : 0 ≤ I k 0 ∧ I k 0 ≤ 30) : K_X5_total l G [zr G k] I J (pR (some (zi (su (I (k + 1)) (I k 0)))) I J) := by
  refine Cz.of rfl (Nat.le_of_ble_eq_true rfl) [some (zr G k), none, none] rfl (fun E ok okr hE => ?_)
  refine Z_iconst (pc := 0) ok dX5_total_0 ?_
  refine Z_istore1 (pc := 1) ok (by decide) dX5_total_1 rfl ?_
  refine Z_iconst (pc := 2) ok dX5_total_2 ?_
  refine Z_istore2 (pc := 3) ok (by decide) dX5_total_3 rfl ?_
  have H : ∀ e : Int, 0 ≤ e → e ≤ I k 0 → Xz E G I J 4 [some (zr G k), some (zi (su (I (k + 1)) e)), some (zi e)] [] := by
    refine zUp ?_ ?_
    · refine Z_iload2 (pc := 4) ok dX5_total_4 ?_
      refine Z_aload0 (pc := 5) ok dX5_total_5 ?_
      refine g_X5_n (pc := 6) ok dX5_total_6 kw94 hk ?_
      refine Z_icmp_ge (pc := 9) (tgt := 27) ok dX5_total_9 rfl (by omega) (by omega) (fun _ => ?_) (fun h => by exfalso; omega)
      refine Z_iload1 (pc := 27) ok dX5_total_27 ?_
      refine Z_iret (pc := 28) ok okr dX5_total_28 ?_
      exact ⟨rfl, rfl, rfl⟩
    · intro e h0 h1 ih
      refine Z_iload2 (pc := 4) ok dX5_total_4 ?_
      refine Z_aload0 (pc := 5) ok dX5_total_5 ?_
      refine g_X5_n (pc := 6) ok dX5_total_6 kw94 hk ?_
      refine Z_icmp_ge (pc := 9) (tgt := 27) ok dX5_total_9 rfl (by omega) (by omega) (fun h => by exfalso; omega) (fun _ => ?_)
      refine Z_iload1 (pc := 12) ok dX5_total_12 ?_
      refine Z_aload0 (pc := 13) ok dX5_total_13 ?_
      refine g_X5_counts (pc := 14) ok dX5_total_14 kw98 hk (rw_rf hk) ?_
      refine Z_iload2 (pc := 17) ok dX5_total_17 ?_
      refine Z_iald (pc := 18) ok dX5_total_18 (rw_kd hk) (rw_ln hk) (by omega) ?_
      refine Z_iadd (pc := 19) ok dX5_total_19 ?_
      refine Z_istore1 (pc := 20) ok (by decide) dX5_total_20 rfl ?_
      refine Z_iinc2 (pc := 21) ok (by decide) dX5_total_21 rfl ?_
      refine Z_goto (pc := 24) (tgt := 4) ok dX5_total_24 rfl ?_
      rw [← su_s _ h0]
      exact ih
  exact H 0 (by omega) (by omega)
end
