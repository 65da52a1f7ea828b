/-! the reference: least turned, listed, filled -/
def r1N (n t : Nat) : Nat := (t * 2 ||| t / 2 ^ (n - 1)) &&& (2 ^ n - 1)
def rkN (n b k : Nat) : Nat := (b * 2 ^ k ||| b / 2 ^ (n - k)) &&& (2 ^ n - 1)
def goL (n b : Nat) : Nat → Nat → Nat → Bool
  | 0, _, _ => true
  | m + 1, k, t => Nat.beq (r1N n t) (rkN n b k) && goL n b m (k + 1) (r1N n t)
theorem go_all : (List.range 11).all (fun a => (List.range (2 ^ (a + 2))).all (fun b => goL (a + 2) b (a + 1) 1 b)) = true := by decide +kernel
theorem goL_s {n b : Nat} : ∀ (m k t : Nat), goL n b m k t = true → ∀ (f : Nat → Nat), f 0 = t → (∀ i, f (i + 1) = r1N n (f i)) → ∀ i, i < m → f (i + 1) = rkN n b (k + i)
  | 0, _, _, _, _, _, _, i, hi => by omega
  | m + 1, k, t, h, f, h0, hs, i, hi => by
    simp only [goL, Bool.and_eq_true] at h
    have h1 := Nat.eq_of_beq_eq_true h.1
    cases i with
    | zero => rw [hs, h0, h1, Nat.add_zero]
    | succ i =>
      have := goL_s m (k + 1) (r1N n t) h.2 (fun j => f (j + 1)) (by show f (0 + 1) = _; rw [hs, h0]) (fun j => hs (j + 1)) i (by omega)
      rw [show k + (i + 1) = k + 1 + i by omega]
      exact this
def rtM (n x : Nat) : Nat → Nat
  | 0 => x
  | k + 1 => r1N n (rtM n x k)
theorem rt_M {n : Nat} (hn : 2 ≤ n) (x : Nat) : ∀ k, rtN (n : Int) (x : Int) k = ((rtM n x k : Nat) : Int)
  | 0 => rfl
  | k + 1 => by
    rw [rtN, rt_M hn x k, r1, rtM, r1N]
    have e1 : ((rtM n x k : Nat) : Int) * 2 ^ (1 : Int).toNat = ((rtM n x k * 2 : Nat) : Int) := by
      rw [Int.natCast_mul]; rfl
    have e2 : ((n : Int) - 1).toNat = n - 1 := by omega
    have hp : 1 ≤ 2 ^ n := Nat.one_le_two_pow
    have e3 : (1 : Int) * 2 ^ ((n : Int)).toNat - 1 = ((2 ^ n - 1 : Nat) : Int) := by
      rw [Int.toNat_natCast, Int.one_mul, Int.natCast_sub hp, Int.natCast_pow]; rfl
    rw [e1, e2, div_p, e3]
    simp only [zand, zor, Int.toNat_natCast]
theorem rt_k {n b k : Int} (hn : 2 ≤ n ∧ n ≤ 12) (hb : 0 ≤ b ∧ b < 2 ^ n.toNat) (hk : 1 ≤ k ∧ k < n) : zand (zor (b * 2 ^ k.toNat) (b / 2 ^ (n - k).toNat)) (1 * 2 ^ n.toNat - 1) = rtN n b k.toNat := by
  obtain ⟨N, rfl⟩ := Int.eq_ofNat_of_zero_le (show 0 ≤ n by omega)
  obtain ⟨B, rfl⟩ := Int.eq_ofNat_of_zero_le hb.1
  obtain ⟨K, rfl⟩ := Int.eq_ofNat_of_zero_le (show 0 ≤ k by omega)
  have hB : B < 2 ^ N := by
    have := hb.2
    rw [Int.toNat_natCast] at this
    have e : ((2 ^ N : Nat) : Int) = (2 : Int) ^ N := by rw [Int.natCast_pow]; rfl
    omega
  have h := List.all_eq_true.mp (List.all_eq_true.mp go_all (N - 2) (List.mem_range.mpr (by omega))) B (List.mem_range.mpr (by rw [show N - 2 + 2 = N by omega]; exact hB))
  rw [show N - 2 + 2 = N by omega] at h
  have h2 := goL_s _ _ _ h (rtM N B) rfl (fun _ => rfl) (K - 1) (by omega)
  rw [show K - 1 + 1 = K by omega, show 1 + (K - 1) = K by omega] at h2
  rw [Int.toNat_natCast, rt_M (by omega), h2, rkN]
  have e1 : (B : Int) * 2 ^ K = ((B * 2 ^ K : Nat) : Int) := by
    rw [Int.natCast_mul, Int.natCast_pow]; rfl
  have e2 : ((N : Int) - (K : Int)).toNat = N - K := by omega
  have hp : 1 ≤ 2 ^ N := Nat.one_le_two_pow
  have e3 : (1 : Int) * 2 ^ ((N : Int)).toNat - 1 = ((2 ^ N - 1 : Nat) : Int) := by
    rw [Int.toNat_natCast, Int.one_mul, Int.natCast_sub hp, Int.natCast_pow]; rfl
  rw [e1, e2, div_p, e3]
  simp only [zand, zor, Int.toNat_natCast]
theorem zor_b {a b : Int} : 0 ≤ zor a b := by simp only [zor]; omega
section
variable {l : Launch} {G : Gw} {I J : Mz}
theorem m_isLeast {n b : Int} (hn : 2 ≤ n ∧ n ≤ 12) (h121 : I 121 0 = n) (hb : 0 ≤ b ∧ b < 2 ^ n.toNat) : K_X12_isLeast l G [zr G 121, zi b] I J (pR (some (zi (zb (lst1 n b)))) I J) := by
  have hp2 := p2_b hn
  refine Cz.of rfl (Nat.le_of_ble_eq_true rfl) [some (zr G 121), some (zi b), none, none, none] rfl (fun E ok okr hE => ?_)
  refine Z_iconst (pc := 0) ok dX12_isLeast_0 ?_
  refine Z_istore2 (pc := 1) ok (by decide) dX12_isLeast_1 rfl ?_
  refine Z_iconst (pc := 2) ok dX12_isLeast_2 ?_
  refine Z_istore3 (pc := 3) ok (by decide) dX12_isLeast_3 rfl ?_
  have H : ∀ k : Int, 1 ≤ k → k ≤ n → ∀ r : Int, (r = 0 ∨ r = 1) → (r = 1 ↔ ∀ j, 1 ≤ j → j < k → b ≤ rtN n b j.toNat) → ∀ w, Xz E G I J 4 [some (zr G 121), some (zi b), some (zi r), some (zi k), w] [] := by
    refine zUp ?_ ?_
    · intro r r0 r1 w
      refine Z_iload3 (pc := 4) ok dX12_isLeast_4 ?_
      refine Z_aload0 (pc := 5) ok dX12_isLeast_5 ?_
      refine g_X12_n (pc := 6) ok dX12_isLeast_6 kw905 rfl ?_
      refine Z_icmp_ge (pc := 9) (tgt := 55) ok dX12_isLeast_9 rfl (by first | omega | (simp [sz, uz] <;> omega)) (by first | omega | (simp [sz, uz] <;> omega)) (fun _ => ?_) (fun h => by exfalso; omega)
      refine Z_iload2 (pc := 55) ok dX12_isLeast_55 ?_
      refine Z_bret (pc := 56) ok okr dX12_isLeast_56 (by first | exact Or.inl rfl | exact Or.inr rfl | exact zb_01 _ | assumption | omega) ?_
      exact ⟨by rw [zb_iff r0 (P := lst1 n b) r1], rfl, rfl⟩
    · intro k k0 k1 ih r r0 r1 w
      have hrk := rt_k hn hb ⟨k0, k1⟩
      have hrb := rtN_b hn hb k.toNat
      have hnx : (∀ j, 1 ≤ j → j < k + 1 → b ≤ rtN n b j.toNat) ↔ (∀ j, 1 ≤ j → j < k → b ≤ rtN n b j.toNat) ∧ b ≤ rtN n b k.toNat := ⟨fun q => ⟨fun j a c => q j a (by omega), q k k0 (by omega)⟩, fun q j a c => by
        by_cases e : j = k
        · rw [e]; exact q.2
        · exact q.1 j a (by omega)⟩
      have hd0 : 0 ≤ b / 2 ^ (n - k).toNat := Int.ediv_nonneg hb.1 (Int.le_of_lt (Int.pow_pos (by decide)))
      have hm0 : 0 ≤ b * 2 ^ k.toNat := Int.mul_nonneg hb.1 (Int.le_of_lt (Int.pow_pos (by decide)))
      refine Z_iload3 (pc := 4) ok dX12_isLeast_4 ?_
      refine Z_aload0 (pc := 5) ok dX12_isLeast_5 ?_
      refine g_X12_n (pc := 6) ok dX12_isLeast_6 kw905 rfl ?_
      refine Z_icmp_ge (pc := 9) (tgt := 55) ok dX12_isLeast_9 rfl (by first | omega | (simp [sz, uz] <;> omega)) (by first | omega | (simp [sz, uz] <;> omega)) (fun h => by exfalso; omega) (fun _ => ?_)
      refine Z_iload1 (pc := 12) ok dX12_isLeast_12 ?_
      refine Z_iload3 (pc := 13) ok dX12_isLeast_13 ?_
      refine Z_ishl (pc := 14) ok dX12_isLeast_14 (by omega) ?_
      refine Z_iload1 (pc := 15) ok dX12_isLeast_15 ?_
      refine Z_aload0 (pc := 16) ok dX12_isLeast_16 ?_
      refine g_X12_n (pc := 17) ok dX12_isLeast_17 kw905 rfl ?_
      rw [h121]
      refine Z_iload3 (pc := 20) ok dX12_isLeast_20 ?_
      refine Z_isub (pc := 21) ok dX12_isLeast_21 ?_
      refine Z_ishr (pc := 22) ok dX12_isLeast_22 (by omega) (by omega) ?_
      refine Z_iorN (pc := 23) ok dX12_isLeast_23 hm0 hd0 ?_
      refine Z_iconst (pc := 24) ok dX12_isLeast_24 ?_
      refine Z_aload0 (pc := 25) ok dX12_isLeast_25 ?_
      refine g_X12_n (pc := 26) ok dX12_isLeast_26 kw905 rfl ?_
      rw [h121]
      refine Z_ishl (pc := 29) ok dX12_isLeast_29 (by omega) ?_
      refine Z_iconst (pc := 30) ok dX12_isLeast_30 ?_
      refine Z_isub (pc := 31) ok dX12_isLeast_31 ?_
      refine Z_iandN (pc := 32) ok dX12_isLeast_32 zor_b (by omega) ?_
      rw [hrk]
      refine Z_istore4 (pc := 33) ok (by decide) dX12_isLeast_33 rfl ?_
      refine Z_iload2 (pc := 35) ok dX12_isLeast_35 ?_
      refine Z_iload1 (pc := 36) ok dX12_isLeast_36 ?_
      refine Z_iload4 (pc := 37) ok dX12_isLeast_37 ?_
      refine Z_icmp_gt (pc := 39) (tgt := 46) ok dX12_isLeast_39 rfl (by first | omega | (simp [sz, uz] <;> omega)) (by first | omega | (simp [sz, uz] <;> omega)) (fun h => ?_) (fun h => ?_)
      · refine Z_iconst (pc := 46) ok dX12_isLeast_46 ?_
        refine Z_iand0 (pc := 47) ok dX12_isLeast_47 r0 ?_
        refine Z_istore2 (pc := 48) ok (by decide) dX12_isLeast_48 rfl ?_
        refine Z_iinc3 (pc := 49) ok (by decide) dX12_isLeast_49 rfl ?_
        refine Z_goto (pc := 52) (tgt := 4) ok dX12_isLeast_52 rfl ?_
        exact ih 0 (Or.inl rfl) (by rw [hnx]; exact ⟨fun q => by omega, fun q => by have := q.2; omega⟩) _
      · refine Z_iconst (pc := 42) ok dX12_isLeast_42 ?_
        refine Z_goto (pc := 43) (tgt := 47) ok dX12_isLeast_43 rfl ?_
        refine Z_iand1 (pc := 47) ok dX12_isLeast_47 r0 ?_
        refine Z_istore2 (pc := 48) ok (by decide) dX12_isLeast_48 rfl ?_
        refine Z_iinc3 (pc := 49) ok (by decide) dX12_isLeast_49 rfl ?_
        refine Z_goto (pc := 52) (tgt := 4) ok dX12_isLeast_52 rfl ?_
        exact ih r r0 (by rw [hnx, r1]; exact ⟨fun q => ⟨q, h⟩, fun q => q.1⟩) _
  exact H 1 (by omega) (by omega) 1 (Or.inr rfl) ⟨fun _ j a c => by omega, fun _ => rfl⟩ none
end
