/-! PHI of n as a list, by the divisors of n; its degree; what is left behind a division -/
def moL : Nat → Int → Int → Int → Int
  | 0, _, _, s => s
  | k + 1, p, o, s => if o % p = 0 then (if o / p % p = 0 then 0 else moL k (p + 1) (o / p) (-s)) else moL k (p + 1) o s
def mu (m : Int) : Int := moL (m - 1).toNat 2 m 1
theorem moL_3 : ∀ (k : Nat) (p o s : Int), s = 1 ∨ s = -1 → moL k p o s = 0 ∨ moL k p o s = 1 ∨ moL k p o s = -1
  | 0, p, o, s, h => by simp only [moL]; omega
  | k + 1, p, o, s, h => by
    simp only [moL]; split
    · split
      · exact Or.inl rfl
      · exact moL_3 k _ _ _ (by omega)
    · exact moL_3 k _ _ _ h
theorem mu_3 (m : Int) : mu m = 0 ∨ mu m = 1 ∨ mu m = -1 := moL_3 _ _ _ _ (Or.inl rfl)
def mulL (d n : Nat) (L : List Int) : List Int := (List.range n).map (fun i => if d ≤ i then L.getD i 0 - L.getD (i - d) 0 else L.getD i 0)
def divA (d : Nat) (L : List Int) : Nat → List Int
  | 0 => []
  | i + 1 => divA d L i ++ [if d ≤ i then L.getD i 0 + (divA d L i).getD (i - d) 0 else L.getD i 0]
def stpL (n : Nat) (L : List Int) (d : Nat) : List Int := if n % d = 0 then (if 0 < mu ((n / d : Nat) : Int) then mulL d n L else if mu ((n / d : Nat) : Int) < 0 then divA d L n else L) else L
def mkL (n : Nat) : Nat → List Int
  | 0 => 1 :: List.replicate (n - 1) 0
  | d + 1 => stpL n (mkL n d) (d + 1)
def PH (n i : Int) : Int := if 0 ≤ i then (mkL n.toNat n.toNat).getD i.toNat 0 else 0
def dgF (f : Int → Int) : Nat → Int
  | 0 => 0
  | i + 1 => if i ≠ 0 ∧ f (i : Int) ≠ 0 then (i : Int) else dgF f i
def DG (n : Int) : Int := dgF (PH n) n.toNat
theorem mkL_len (n : Nat) (h : 0 < n) : ∀ d, (mkL n d).length = n
  | 0 => by simp [mkL]; omega
  | d + 1 => by
    have ih := mkL_len n h d
    have hl : ∀ (d : Nat) (L : List Int) (i : Nat), (divA d L i).length = i := by
      intro d L i
      induction i with
      | zero => rfl
      | succ i ih => simp [divA, ih]
    simp only [mkL, stpL]
    split
    · split
      · simp [mulL]
      · split
        · exact hl _ _ _
        · exact ih
    · exact ih
theorem divA_len (d : Nat) (L : List Int) (i : Nat) : (divA d L i).length = i := by
  induction i with
  | zero => rfl
  | succ i ih => simp [divA, ih]
theorem divA_at (d : Nat) (L : List Int) : ∀ (n j : Nat), j < n → (divA d L n).getD j 0 = if d ≤ j then L.getD j 0 + (divA d L j).getD (j - d) 0 else L.getD j 0
  | 0, j, h => by omega
  | n + 1, j, h => by
    by_cases hj : j < n
    · rw [← divA_at d L n j hj]
      simp only [divA, List.getD_eq_getElem?_getD]
      rw [List.getElem?_append_left (by rw [divA_len]; exact hj)]
    · have : j = n := by omega
      subst this
      simp only [divA, List.getD_eq_getElem?_getD]
      rw [List.getElem?_append_right (by rw [divA_len]; exact Nat.le_refl _), divA_len, Nat.sub_self]
      simp
theorem divA_pre (d : Nat) (L : List Int) {n m j : Nat} (h1 : j < n) (h2 : j < m) : (divA d L n).getD j 0 = (divA d L m).getD j 0 := by
  rw [divA_at d L n j h1, divA_at d L m j h2]
theorem mulL_at (d n : Nat) (L : List Int) {j : Nat} (h : j < n) : (mulL d n L).getD j 0 = if d ≤ j then L.getD j 0 - L.getD (j - d) 0 else L.getD j 0 := by
  simp [mulL, h]
/-- all facts of PHI that are used, by reckoning them out -/
def phOk (n : Nat) : Bool := (mkL n n).all (fun v => decide (-1 ≤ v ∧ v ≤ 1)) && decide (1 ≤ DG n ∧ DG n ≤ 28 ∧ DG n < n ∧ (n : Int) - DG n ≤ 22 ∧ PH n (DG n) = 1) && (List.range n).all (fun i => decide ((i : Int) ≤ DG n ∨ PH n i = 0))
theorem ph_all : (List.range 29).all (fun n => phOk (n + 2)) = true := by decide +kernel
theorem ph_ok {n : Int} (h : 2 ≤ n ∧ n ≤ 30) : phOk n.toNat = true := by
  have := List.all_eq_true.mp ph_all (n.toNat - 2) (List.mem_range.mpr (by omega))
  rwa [show n.toNat - 2 + 2 = n.toNat by omega] at this
theorem ph_1 {n : Int} (h : 2 ≤ n ∧ n ≤ 30) (i : Int) : -1 ≤ PH n i ∧ PH n i ≤ 1 := by
  have h1 := ph_ok h
  simp only [phOk, Bool.and_eq_true] at h1
  have h2 := List.all_eq_true.mp h1.1.1
  simp only [PH]
  split
  · rw [List.getD_eq_getElem?_getD]
    cases hx : (mkL n.toNat n.toNat)[i.toNat]? with
    | none => simp
    | some v => simpa using h2 v (List.mem_of_getElem? hx)
  · omega
theorem dg_b {n : Int} (h : 2 ≤ n ∧ n ≤ 30) : 1 ≤ DG n ∧ DG n ≤ 28 ∧ DG n < n ∧ n - DG n ≤ 22 := by
  have h1 := ph_ok h
  simp only [phOk, Bool.and_eq_true, decide_eq_true_eq] at h1
  have h2 := h1.1.2
  rw [Int.toNat_of_nonneg (by omega)] at h2
  omega
theorem ph_top {n : Int} (h : 2 ≤ n ∧ n ≤ 30) : PH n (DG n) = 1 := by
  have h1 := ph_ok h
  simp only [phOk, Bool.and_eq_true, decide_eq_true_eq] at h1
  have h2 := h1.1.2
  rw [Int.toNat_of_nonneg (by omega)] at h2
  exact h2.2.2.2.2
theorem ph_0 {n : Int} (h : 2 ≤ n ∧ n ≤ 30) {i : Int} (hi : i < 0 ∨ DG n < i) : PH n i = 0 := by
  by_cases h0 : 0 ≤ i
  · by_cases h3 : i < n
    · have h1 := ph_ok h
      simp only [phOk, Bool.and_eq_true] at h1
      have h2 := List.all_eq_true.mp h1.2 i.toNat (List.mem_range.mpr (by omega))
      simp only [decide_eq_true_eq] at h2
      rw [Int.toNat_of_nonneg h0, Int.toNat_of_nonneg (show 0 ≤ n by omega)] at h2
      rcases h2 with h2 | h2
      · omega
      · exact h2
    · simp only [PH, if_pos h0]
      rw [List.getD_eq_getElem?_getD, List.getElem?_eq_none (by rw [mkL_len _ (by omega)]; omega)]
      rfl
  · simp only [PH, if_neg h0]
/-- what is left behind the division -/
def stR (n t : Int) (f : Int → Int) : Int → Int := fun i => f i - f t * PH n (i - t + DG n)
def rdN (n : Int) (f : Int → Int) : Nat → (Int → Int)
  | 0 => f
  | k + 1 => stR n (n - 1 - (k : Int)) (rdN n f k)
def rd (n : Int) (f : Int → Int) : Int → Int := rdN n f (n - DG n).toNat
theorem rdN_b {n : Int} (h : 2 ≤ n ∧ n ≤ 30) {f : Int → Int} {B : Int} (hf : ∀ j, -B ≤ f j ∧ f j ≤ B) : ∀ (k : Nat) (j : Int), -(B * 2 ^ k) ≤ rdN n f k j ∧ rdN n f k j ≤ B * 2 ^ k
  | 0, j => by simpa [rdN] using hf j
  | k + 1, j => by
    have h1 := rdN_b h hf k j
    have h2 := rdN_b h hf k (n - 1 - (k : Int))
    have h3 := ph_1 h (j - (n - 1 - (k : Int)) + DG n)
    have h4 : PH n (j - (n - 1 - (k : Int)) + DG n) = -1 ∨ PH n (j - (n - 1 - (k : Int)) + DG n) = 0 ∨ PH n (j - (n - 1 - (k : Int)) + DG n) = 1 := by omega
    simp only [rdN, stR]
    rw [Int.pow_succ, ← Int.mul_assoc]
    rcases h4 with h4 | h4 | h4 <;> rw [h4] <;> constructor <;> omega
theorem rdN_c {n : Int} (h : 2 ≤ n ∧ n ≤ 30) {f : Int → Int} (hf : ∀ j, -9 ≤ f j ∧ f j ≤ 9) {k : Nat} (hk : k ≤ 22) (j : Int) : -40000000 ≤ rdN n f k j ∧ rdN n f k j ≤ 40000000 := by
  have h1 := rdN_b h hf k j
  have h2 : (2 : Int) ^ k ≤ 2 ^ 22 := by
    have := Nat.pow_le_pow_right (show 0 < 2 by omega) hk
    exact_mod_cast this
  have h3 : (9 : Int) * 2 ^ k ≤ 9 * 2 ^ 22 := Int.mul_le_mul_of_nonneg_left h2 (by omega)
  have h4 : (9 : Int) * 2 ^ 22 = 37748736 := by decide
  omega
theorem rd_c {n : Int} (h : 2 ≤ n ∧ n ≤ 30) {f : Int → Int} (hf : ∀ j, -9 ≤ f j ∧ f j ≤ 9) (j : Int) : -40000000 ≤ rd n f j ∧ rd n f j ≤ 40000000 := rdN_c h hf (by have := dg_b h; omega) j
/-- a row of numbers held by a list -/
def rp (g : Int → Int) (L : List Int) (n : Nat) : Prop := ∀ j : Nat, j < n → g (j : Int) = L.getD j 0
/-- Division holds PHI of n -/
def dP (I : Mz) (n : Int) : Prop := I 87 0 = n ∧ I 87 3 = DG n ∧ I 87 2 = (DG n + 8 - 1) / 8 ∧ I 88 = PH n
def dOk (I : Mz) : Prop := I 87 0 = 0 ∨ ((2 ≤ I 87 0 ∧ I 87 0 ≤ 30) ∧ dP I (I 87 0))
theorem dP_c {I I' : Mz} {n : Int} (h : dP I n) (h1 : I' 87 = I 87) (h2 : I' 88 = I 88) : dP I' n := by
  simp only [dP, h1, h2] at h ⊢; exact h
section
variable {l : Launch} {G : Gw} {I J : Mz}
theorem c_moebius {m : Int} (hm : 1 ≤ m ∧ m ≤ 30) : K_X1_moebius l G [zi m] I J (pR (some (zi (mu m))) I J) := by
  refine Cz.of rfl (Nat.le_of_ble_eq_true rfl) [some (zi m), none, none, none] rfl (fun E ok okr hE => ?_)
  refine Z_iconst (pc := 0) ok dX1_moebius_0 ?_
  refine Z_istore1 (pc := 1) ok (by decide) dX1_moebius_1 rfl ?_
  refine Z_iload0 (pc := 2) ok dX1_moebius_2 ?_
  refine Z_istore2 (pc := 3) ok (by decide) dX1_moebius_3 rfl ?_
  refine Z_iconst (pc := 4) ok dX1_moebius_4 ?_
  refine Z_istore3 (pc := 5) ok (by decide) dX1_moebius_5 rfl ?_
  have H : ∀ p : Int, 2 ≤ p → p ≤ m + 1 → ∀ o s : Int, (0 ≤ o ∧ o ≤ 30) → moL (m + 1 - p).toNat p o s = mu m → Xz E G I J 6 [some (zi m), some (zi s), some (zi o), some (zi p)] [] := by
    refine zUp ?_ ?_
    · intro o s ho hq
      refine Z_iload3 (pc := 6) ok dX1_moebius_6 ?_
      refine Z_iload0 (pc := 7) ok dX1_moebius_7 ?_
      refine Z_icmp_gt (pc := 8) (tgt := 38) ok dX1_moebius_8 rfl (by first | omega | (simp [sz, uz] <;> omega)) (by first | omega | (simp [sz, uz] <;> omega)) (fun _ => ?_) (fun h => by exfalso; omega)
      refine Z_iload1 (pc := 38) ok dX1_moebius_38 ?_
      refine Z_iret (pc := 39) ok okr dX1_moebius_39 ?_
      rw [Int.sub_self] at hq
      exact ⟨by rw [← hq]; rfl, rfl, rfl⟩
    · intro p p0 p1 ih o s ho hq
      have e : (m + 1 - p).toNat = (m + 1 - (p + 1)).toNat + 1 := by omega
      rw [e, moL] at hq
      have hd := di_b (a := o) (b := p) ho.1 (by omega)
      refine Z_iload3 (pc := 6) ok dX1_moebius_6 ?_
      refine Z_iload0 (pc := 7) ok dX1_moebius_7 ?_
      refine Z_icmp_gt (pc := 8) (tgt := 38) ok dX1_moebius_8 rfl (by first | omega | (simp [sz, uz] <;> omega)) (by first | omega | (simp [sz, uz] <;> omega)) (fun h => by exfalso; omega) (fun _ => ?_)
      refine Z_iload2 (pc := 11) ok dX1_moebius_11 ?_
      refine Z_iload3 (pc := 12) ok dX1_moebius_12 ?_
      refine Z_irem (pc := 13) ok dX1_moebius_13 (by omega) (by omega) (by omega) (by omega) ?_
      refine Z_if_ne (pc := 14) (tgt := 32) ok dX1_moebius_14 rfl (em_r (by omega) (by omega)) (fun h => ?_) (fun h => ?_)
      · refine Z_iinc3 (pc := 32) ok (by decide) dX1_moebius_32 rfl ?_
        refine Z_goto (pc := 35) (tgt := 6) ok dX1_moebius_35 rfl ?_
        rw [if_neg h] at hq
        exact ih o s ho hq
      · rw [if_pos h] at hq
        refine Z_iload2 (pc := 17) ok dX1_moebius_17 ?_
        refine Z_iload3 (pc := 18) ok dX1_moebius_18 ?_
        refine Z_idiv (pc := 19) ok dX1_moebius_19 (by omega) (by omega) (by omega) (by omega) ?_
        refine Z_istore2 (pc := 20) ok (by decide) dX1_moebius_20 rfl ?_
        refine Z_iload2 (pc := 21) ok dX1_moebius_21 ?_
        refine Z_iload3 (pc := 22) ok dX1_moebius_22 ?_
        refine Z_irem (pc := 23) ok dX1_moebius_23 (by omega) (by omega) (by omega) (by omega) ?_
        refine Z_if_ne (pc := 24) (tgt := 29) ok dX1_moebius_24 rfl (em_r (by omega) (by omega)) (fun h2 => ?_) (fun h2 => ?_)
        · rw [if_neg h2] at hq
          refine Z_iload1 (pc := 29) ok dX1_moebius_29 ?_
          refine Z_ineg (pc := 30) ok dX1_moebius_30 ?_
          refine Z_istore1 (pc := 31) ok (by decide) dX1_moebius_31 rfl ?_
          refine Z_iinc3 (pc := 32) ok (by decide) dX1_moebius_32 rfl ?_
          refine Z_goto (pc := 35) (tgt := 6) ok dX1_moebius_35 rfl ?_
          exact ih _ _ (by omega) hq
        · rw [if_pos h2] at hq
          refine Z_iconst (pc := 27) ok dX1_moebius_27 ?_
          refine Z_iret (pc := 28) ok okr dX1_moebius_28 ?_
          exact ⟨by rw [← hq], rfl, rfl⟩
  by_cases h1 : m = 1
  · subst h1
    exact H 2 (by omega) (by omega) 1 1 (by omega) rfl
  · exact H 2 (by omega) (by omega) m 1 (by omega) (by rw [show m + 1 - 2 = m - 1 by omega]; rfl)
theorem c_mulDiv {n d : Nat} (hn : I 87 0 = n) (h2 : 2 ≤ n ∧ n ≤ 30) (hd : 1 ≤ d ∧ d ≤ n) {u : Int} (hu : u = 0 ∨ u = 1 ∨ u = -1) {L : List Int} (hL : rp (I 88) L n) : K_X1_multiplyDivisor l G [zr G 87, zi (d : Int), zi u] I J (fun v I' J' => v = none ∧ ∃ g, I' = sz I 88 g ∧ J' = J ∧ rp g (if 0 < u then mulL d n L else if u < 0 then divA d L n else L) n ∧ ∀ j : Int, n ≤ j → g j = I 88 j) := by
  have e0 : ∀ g : Int → Int, sz I 88 g 87 0 = n := fun g => by rw [sz_ne _ _ (by decide)]; exact hn
  refine Cz.of rfl (Nat.le_of_ble_eq_true rfl) [some (zr G 87), some (zi (d : Int)), some (zi u), none] rfl (fun E ok okr hE => ?_)
  refine Z_iload2 (pc := 0) ok dX1_multiplyDivisor_0 ?_
  refine Z_if_le (pc := 1) (tgt := 42) ok dX1_multiplyDivisor_1 rfl (by first | omega | (simp [sz, uz] <;> omega)) (fun h1 => ?_) (fun h1 => ?_)
  · refine Z_iload2 (pc := 42) ok dX1_multiplyDivisor_42 ?_
    refine Z_if_ge (pc := 43) (tgt := 79) ok dX1_multiplyDivisor_43 rfl (by first | omega | (simp [sz, uz] <;> omega)) (fun h3 => ?_) (fun h3 => ?_)
    · refine Z_vret (pc := 79) ok okr dX1_multiplyDivisor_79 ?_
      have : u = 0 := by omega
      subst this
      exact ⟨rfl, I 88, by rw [sz_self], rfl, hL, fun _ _ => rfl⟩
    · refine Z_iload1 (pc := 46) ok dX1_multiplyDivisor_46 ?_
      refine Z_istore3 (pc := 47) ok (by decide) dX1_multiplyDivisor_47 rfl ?_
      have H : ∀ i : Int, (d : Int) ≤ i → i ≤ (n : Int) → ∀ g : Int → Int, (∀ j : Nat, (j : Int) < i → g (j : Int) = (divA d L n).getD j 0) → (∀ j : Int, i ≤ j → g j = I 88 j) → Xz E G (sz I 88 g) J 48 [some (zr G 87), some (zi (d : Int)), some (zi u), some (zi i)] [] := by
        refine zUp ?_ ?_
        · intro g g1 g2
          have := e0 g
          refine Z_iload3 (pc := 48) ok dX1_multiplyDivisor_48 ?_
          refine Z_aload0 (pc := 49) ok dX1_multiplyDivisor_49 ?_
          refine g_X1_n (pc := 50) ok dX1_multiplyDivisor_50 kw166 rfl ?_
          refine Z_icmp_ge (pc := 53) (tgt := 79) ok dX1_multiplyDivisor_53 rfl (by first | omega | (simp [sz, uz] <;> omega)) (by first | omega | (simp [sz, uz] <;> omega)) (fun _ => ?_) (fun h => by exfalso; omega)
          refine Z_vret (pc := 79) ok okr dX1_multiplyDivisor_79 ?_
          refine ⟨rfl, g, rfl, rfl, ?_, g2⟩
          rw [if_neg (by omega), if_pos h3]
          exact fun j hj => g1 j (by omega)
        · intro i i0 i1 ih g g1 g2
          have := e0 g
          refine Z_iload3 (pc := 48) ok dX1_multiplyDivisor_48 ?_
          refine Z_aload0 (pc := 49) ok dX1_multiplyDivisor_49 ?_
          refine g_X1_n (pc := 50) ok dX1_multiplyDivisor_50 kw166 rfl ?_
          refine Z_icmp_ge (pc := 53) (tgt := 79) ok dX1_multiplyDivisor_53 rfl (by first | omega | (simp [sz, uz] <;> omega)) (by first | omega | (simp [sz, uz] <;> omega)) (fun h => by exfalso; omega) (fun _ => ?_)
          refine Z_aload0 (pc := 56) ok dX1_multiplyDivisor_56 ?_
          refine g_X1_divisor (pc := 57) (t := 88) ok dX1_multiplyDivisor_57 kw171 rfl rfl ?_
          refine Z_iload3 (pc := 60) ok dX1_multiplyDivisor_60 ?_
          refine Z_dup2 (pc := 61) ok dX1_multiplyDivisor_61 rfl rfl ?_
          refine Z_iald (pc := 62) (L := 30) ok dX1_multiplyDivisor_62 rfl rfl (by first | omega | (simp [sz, uz] <;> omega)) ?_
          refine Z_aload0 (pc := 63) ok dX1_multiplyDivisor_63 ?_
          refine g_X1_divisor (pc := 64) (t := 88) ok dX1_multiplyDivisor_64 kw171 rfl rfl ?_
          refine Z_iload3 (pc := 67) ok dX1_multiplyDivisor_67 ?_
          refine Z_iload1 (pc := 68) ok dX1_multiplyDivisor_68 ?_
          refine Z_isub (pc := 69) ok dX1_multiplyDivisor_69 ?_
          refine Z_iald (pc := 70) (L := 30) ok dX1_multiplyDivisor_70 rfl rfl (by first | omega | (simp [sz, uz] <;> omega)) ?_
          refine Z_iadd (pc := 71) ok dX1_multiplyDivisor_71 ?_
          refine Z_iast (pc := 72) (L := 30) ok dX1_multiplyDivisor_72 rfl rfl (by first | omega | (simp [sz, uz] <;> omega)) ?_
          refine Z_iinc3 (pc := 73) ok (by decide) dX1_multiplyDivisor_73 rfl ?_
          refine Z_goto (pc := 76) (tgt := 48) ok dX1_multiplyDivisor_76 rfl ?_
          rw [sz_sz, sz_eq]
          refine ih _ (fun j hj => ?_) (fun j hj => ?_)
          · by_cases hji : (j : Int) = i
            · rw [hji, uz_eq, divA_at d L n j (by omega), if_pos (by omega), g2 i (Int.le_refl _), ← hji, hL j (by omega)]
              have e : ((j : Int) - (d : Int)) = ((j - d : Nat) : Int) := by omega
              rw [e, g1 (j - d) (by omega), divA_pre d L (n := n) (m := j) (by omega) (by omega)]
            · rw [uz_ne _ _ hji]; exact g1 j (by omega)
          · rw [uz_ne _ _ (by omega)]; exact g2 j (by omega)
      have h := H d (by omega) (by omega) (I 88) (fun j hj => by rw [hL j (by omega), divA_at d L n j (by omega), if_neg (by omega)]) (fun _ _ => rfl)
      rw [sz_self] at h
      exact h
  · refine Z_aload0 (pc := 4) ok dX1_multiplyDivisor_4 ?_
    refine g_X1_n (pc := 5) ok dX1_multiplyDivisor_5 kw166 rfl ?_
    refine Z_iconst (pc := 8) ok dX1_multiplyDivisor_8 ?_
    refine Z_isub (pc := 9) ok dX1_multiplyDivisor_9 ?_
    refine Z_istore3 (pc := 10) ok (by decide) dX1_multiplyDivisor_10 rfl ?_
    have H : ∀ i : Int, (d : Int) - 1 ≤ i → i ≤ (n : Int) - 1 → ∀ g : Int → Int, (∀ j : Nat, i < (j : Int) → (j : Int) < n → g (j : Int) = (mulL d n L).getD j 0) → (∀ j : Int, j ≤ i ∨ (n : Int) ≤ j → g j = I 88 j) → Xz E G (sz I 88 g) J 11 [some (zr G 87), some (zi (d : Int)), some (zi u), some (zi i)] [] := by
      refine zDown ?_ ?_
      · intro _ g g1 g2
        refine Z_iload3 (pc := 11) ok dX1_multiplyDivisor_11 ?_
        refine Z_iload1 (pc := 12) ok dX1_multiplyDivisor_12 ?_
        refine Z_icmp_lt (pc := 13) (tgt := 39) ok dX1_multiplyDivisor_13 rfl (by first | omega | (simp [sz, uz] <;> omega)) (by first | omega | (simp [sz, uz] <;> omega)) (fun _ => ?_) (fun h => by exfalso; omega)
        refine Z_goto (pc := 39) (tgt := 79) ok dX1_multiplyDivisor_39 rfl ?_
        refine Z_vret (pc := 79) ok okr dX1_multiplyDivisor_79 ?_
        refine ⟨rfl, g, rfl, rfl, ?_, fun j hj => g2 j (Or.inr hj)⟩
        rw [if_pos h1]
        intro j hj
        by_cases hjd : d ≤ j
        · exact g1 j (by omega) (by omega)
        · rw [g2 j (by omega), hL j hj, mulL_at d n L hj, if_neg hjd]
      · intro i i0 ih i1 g g1 g2
        refine Z_iload3 (pc := 11) ok dX1_multiplyDivisor_11 ?_
        refine Z_iload1 (pc := 12) ok dX1_multiplyDivisor_12 ?_
        refine Z_icmp_lt (pc := 13) (tgt := 39) ok dX1_multiplyDivisor_13 rfl (by first | omega | (simp [sz, uz] <;> omega)) (by first | omega | (simp [sz, uz] <;> omega)) (fun h => by exfalso; omega) (fun _ => ?_)
        refine Z_aload0 (pc := 16) ok dX1_multiplyDivisor_16 ?_
        refine g_X1_divisor (pc := 17) (t := 88) ok dX1_multiplyDivisor_17 kw171 rfl rfl ?_
        refine Z_iload3 (pc := 20) ok dX1_multiplyDivisor_20 ?_
        refine Z_dup2 (pc := 21) ok dX1_multiplyDivisor_21 rfl rfl ?_
        refine Z_iald (pc := 22) (L := 30) ok dX1_multiplyDivisor_22 rfl rfl (by first | omega | (simp [sz, uz] <;> omega)) ?_
        refine Z_aload0 (pc := 23) ok dX1_multiplyDivisor_23 ?_
        refine g_X1_divisor (pc := 24) (t := 88) ok dX1_multiplyDivisor_24 kw171 rfl rfl ?_
        refine Z_iload3 (pc := 27) ok dX1_multiplyDivisor_27 ?_
        refine Z_iload1 (pc := 28) ok dX1_multiplyDivisor_28 ?_
        refine Z_isub (pc := 29) ok dX1_multiplyDivisor_29 ?_
        refine Z_iald (pc := 30) (L := 30) ok dX1_multiplyDivisor_30 rfl rfl (by first | omega | (simp [sz, uz] <;> omega)) ?_
        refine Z_isub (pc := 31) ok dX1_multiplyDivisor_31 ?_
        refine Z_iast (pc := 32) (L := 30) ok dX1_multiplyDivisor_32 rfl rfl (by first | omega | (simp [sz, uz] <;> omega)) ?_
        refine Z_iinc3 (pc := 33) ok (by decide) dX1_multiplyDivisor_33 rfl ?_
        refine Z_goto (pc := 36) (tgt := 11) ok dX1_multiplyDivisor_36 rfl ?_
        rw [sz_sz, sz_eq]
        refine ih (by omega) _ (fun j hj hj2 => ?_) (fun j hj => ?_)
        · by_cases hji : (j : Int) = i
          · have e : (i - (d : Int)) = ((j - d : Nat) : Int) := by omega
            rw [hji, uz_eq, mulL_at d n L (by omega), if_pos (by omega), g2 i (by omega), g2 (i - d) (by omega), e, hL (j - d) (by omega), ← hji, hL j (by omega)]
          · rw [uz_ne _ _ hji]; exact g1 j (by omega) hj2
        · rw [uz_ne _ _ (by omega)]; exact g2 j (by omega)
    rw [hn]
    have h := H ((n : Int) - 1) (by omega) (by omega) (I 88) (fun j hj hj2 => by omega) (fun _ _ => rfl)
    rw [sz_self] at h
    exact h
theorem c_makeDivisor {n : Int} (hn : I 87 0 = n) (h2 : 2 ≤ n ∧ n ≤ 30) : K_X1_makeDivisor l G [zr G 87] I J (pR none (sz (sz I 88 (PH n)) 87 (uz (uz (I 87) 3 (DG n)) 2 ((DG n + 8 - 1) / 8))) J) := by
  obtain ⟨N, rfl⟩ := Int.eq_ofNat_of_zero_le (show 0 ≤ n by omega)
  have e0 : ∀ g : Int → Int, sz I 88 g 87 0 = N := fun g => by rw [sz_ne _ _ (by decide)]; exact hn
  have hdg := dg_b h2
  refine Cz.of rfl (Nat.le_of_ble_eq_true rfl) [some (zr G 87), none] rfl (fun E ok okr hE => ?_)
  refine Z_aload0 (pc := 0) ok dX1_makeDivisor_0 ?_
  refine g_X1_divisor (pc := 1) (t := 88) ok dX1_makeDivisor_1 kw171 rfl rfl ?_
  refine Z_iconst (pc := 4) ok dX1_makeDivisor_4 ?_
  refine Z_callSVd (pc := 5) ok dX1_makeDivisor_5 cw_X1_39 (c_fill rfl rfl 0) rfl rfl (by first | decide | omega) (Nat.le_of_ble_eq_true rfl) ?_
  refine Z_aload0 (pc := 8) ok dX1_makeDivisor_8 ?_
  refine g_X1_divisor (pc := 9) (t := 88) ok dX1_makeDivisor_9 kw171 rfl rfl ?_
  refine Z_iconst (pc := 12) ok dX1_makeDivisor_12 ?_
  refine Z_iconst (pc := 13) ok dX1_makeDivisor_13 ?_
  refine Z_iast (pc := 14) (L := 30) ok dX1_makeDivisor_14 rfl rfl (by first | omega | (simp [sz, uz] <;> omega)) ?_
  refine Z_iconst (pc := 15) ok dX1_makeDivisor_15 ?_
  refine Z_istore1 (pc := 16) ok (by decide) dX1_makeDivisor_16 rfl ?_
  rw [sz_sz, sz_eq]
  have H1 : ∀ i : Int, 1 ≤ i → i ≤ (N : Int) → Xz E G (sz (sz I 88 (PH N)) 87 (uz (I 87) 3 (dgF (PH N) i.toNat))) J 61 [some (zr G 87), some (zi i)] [] := by
    refine zUp ?_ ?_
    · have e1 : sz (sz I 88 (PH N)) 87 (uz (I 87) 3 (dgF (PH N) (N : Int).toNat)) 87 0 = N := by simp [sz, uz, hn]
      have e2 : sz (sz I 88 (PH N)) 87 (uz (I 87) 3 (dgF (PH N) (N : Int).toNat)) 87 3 = DG N := by simp [sz, uz, DG]
      refine Z_iload1 (pc := 61) ok dX1_makeDivisor_61 ?_
      refine Z_aload0 (pc := 62) ok dX1_makeDivisor_62 ?_
      refine g_X1_n (pc := 63) ok dX1_makeDivisor_63 kw166 rfl ?_
      refine Z_icmp_ge (pc := 66) (tgt := 89) ok dX1_makeDivisor_66 rfl (by first | omega | (simp [sz, uz] <;> omega)) (by first | omega | (simp [sz, uz] <;> omega)) (fun _ => ?_) (fun h => by exfalso; omega)
      refine Z_aload0 (pc := 89) ok dX1_makeDivisor_89 ?_
      refine Z_aload0 (pc := 90) ok dX1_makeDivisor_90 ?_
      refine g_X1_degree (pc := 91) ok dX1_makeDivisor_91 kw169 rfl ?_
      refine Z_bipush (pc := 94) ok dX1_makeDivisor_94 (by decide) ?_
      refine Z_iadd (pc := 96) ok dX1_makeDivisor_96 ?_
      refine Z_iconst (pc := 97) ok dX1_makeDivisor_97 ?_
      refine Z_isub (pc := 98) ok dX1_makeDivisor_98 ?_
      refine Z_bipush (pc := 99) ok dX1_makeDivisor_99 (by decide) ?_
      refine Z_idiv (pc := 101) ok dX1_makeDivisor_101 (by omega) (by omega) (by omega) (by omega) ?_
      refine p_X1_words (pc := 102) ok dX1_makeDivisor_102 kw168 rfl ?_
      refine Z_vret (pc := 105) ok okr dX1_makeDivisor_105 ?_
      refine ⟨rfl, ?_, rfl⟩
      rw [e2, sz_sz, sz_eq]
      rfl
    · intro i i0 i1 ih
      have e1 : sz (sz I 88 (PH N)) 87 (uz (I 87) 3 (dgF (PH N) i.toNat)) 87 0 = N := by simp [sz, uz, hn]
      have e2 : sz (sz I 88 (PH N)) 87 (uz (I 87) 3 (dgF (PH N) i.toNat)) 88 i = PH N i := by simp [sz]
      have e3 : (i + 1).toNat = i.toNat + 1 := by omega
      have e4 : ((i.toNat : Nat) : Int) = i := by omega
      have e5 := ph_1 h2 i
      rw [e3, dgF, e4] at ih
      refine Z_iload1 (pc := 61) ok dX1_makeDivisor_61 ?_
      refine Z_aload0 (pc := 62) ok dX1_makeDivisor_62 ?_
      refine g_X1_n (pc := 63) ok dX1_makeDivisor_63 kw166 rfl ?_
      refine Z_icmp_ge (pc := 66) (tgt := 89) ok dX1_makeDivisor_66 rfl (by first | omega | (simp [sz, uz] <;> omega)) (by first | omega | (simp [sz, uz] <;> omega)) (fun h => by exfalso; omega) (fun _ => ?_)
      refine Z_aload0 (pc := 69) ok dX1_makeDivisor_69 ?_
      refine g_X1_divisor (pc := 70) (t := 88) ok dX1_makeDivisor_70 kw171 rfl rfl ?_
      refine Z_iload1 (pc := 73) ok dX1_makeDivisor_73 ?_
      refine Z_iald (pc := 74) (L := 30) ok dX1_makeDivisor_74 rfl rfl (by first | omega | (simp [sz, uz] <;> omega)) ?_
      refine Z_if_eq (pc := 75) (tgt := 83) ok dX1_makeDivisor_75 rfl (by first | omega | (simp [sz, uz] <;> omega)) (fun h => ?_) (fun h => ?_)
      · refine Z_iinc1 (pc := 83) ok (by decide) dX1_makeDivisor_83 rfl ?_
        refine Z_goto (pc := 86) (tgt := 61) ok dX1_makeDivisor_86 rfl ?_
        rw [if_neg (fun q => q.2 (by rw [← e2]; exact h))] at ih
        exact ih
      · refine Z_aload0 (pc := 78) ok dX1_makeDivisor_78 ?_
        refine Z_iload1 (pc := 79) ok dX1_makeDivisor_79 ?_
        refine p_X1_degree (pc := 80) ok dX1_makeDivisor_80 kw169 rfl ?_
        refine Z_iinc1 (pc := 83) ok (by decide) dX1_makeDivisor_83 rfl ?_
        refine Z_goto (pc := 86) (tgt := 61) ok dX1_makeDivisor_86 rfl ?_
        rw [if_pos ⟨by omega, by rw [← e2]; exact h⟩] at ih
        rw [sz_sz, sz_eq, uz_uz]
        exact ih
  have H : ∀ d : Int, 1 ≤ d → d ≤ (N : Int) + 1 → ∀ g : Int → Int, rp g (mkL N (d - 1).toNat) N → (∀ j : Int, N ≤ j → g j = 0) → Xz E G (sz I 88 g) J 17 [some (zr G 87), some (zi d)] [] := by
    refine zUp ?_ ?_
    · intro g g1 g2
      refine Z_ext1 (g := PH N) (by decide) (fun j h0 h1 => ?_) ?_
      · have e : ((N : Int) + 1 - 1).toNat = N := by omega
        rw [e] at g1
        by_cases hj : j < (N : Int)
        · have := g1 j.toNat (by omega)
          rw [Int.toNat_of_nonneg h0] at this
          rw [this, PH, if_pos h0]; rfl
        · rw [g2 j (by omega), ph_0 h2 (by omega)]
      · have := e0 (PH N)
        refine Z_iload1 (pc := 17) ok dX1_makeDivisor_17 ?_
        refine Z_aload0 (pc := 18) ok dX1_makeDivisor_18 ?_
        refine g_X1_n (pc := 19) ok dX1_makeDivisor_19 kw166 rfl ?_
        refine Z_icmp_gt (pc := 22) (tgt := 54) ok dX1_makeDivisor_22 rfl (by first | omega | (simp [sz, uz] <;> omega)) (by first | omega | (simp [sz, uz] <;> omega)) (fun _ => ?_) (fun h => by exfalso; omega)
        refine Z_aload0 (pc := 54) ok dX1_makeDivisor_54 ?_
        refine Z_iconst (pc := 55) ok dX1_makeDivisor_55 ?_
        refine p_X1_degree (pc := 56) ok dX1_makeDivisor_56 kw169 rfl ?_
        refine Z_iconst (pc := 59) ok dX1_makeDivisor_59 ?_
        refine Z_istore1 (pc := 60) ok (by decide) dX1_makeDivisor_60 rfl ?_
        rw [sz_ne _ _ (by decide)]
        exact H1 1 (by omega) (by omega)
    · intro d d0 d1 ih g g1 g2
      obtain ⟨D, rfl⟩ := Int.eq_ofNat_of_zero_le (show 0 ≤ d by omega)
      have e1 := e0 g
      have e2 : ((D : Int) + 1 - 1).toNat = ((D : Int) - 1).toNat + 1 := by omega
      have e3 : ((D : Int) - 1).toNat + 1 = D := by omega
      rw [e2, mkL, e3] at ih
      have hdv := di_b (a := (N : Int)) (b := (D : Int)) (by omega) (by omega)
      refine Z_iload1 (pc := 17) ok dX1_makeDivisor_17 ?_
      refine Z_aload0 (pc := 18) ok dX1_makeDivisor_18 ?_
      refine g_X1_n (pc := 19) ok dX1_makeDivisor_19 kw166 rfl ?_
      refine Z_icmp_gt (pc := 22) (tgt := 54) ok dX1_makeDivisor_22 rfl (by first | omega | (simp [sz, uz] <;> omega)) (by first | omega | (simp [sz, uz] <;> omega)) (fun h => by exfalso; omega) (fun _ => ?_)
      refine Z_aload0 (pc := 25) ok dX1_makeDivisor_25 ?_
      refine g_X1_n (pc := 26) ok dX1_makeDivisor_26 kw166 rfl ?_
      refine Z_iload1 (pc := 29) ok dX1_makeDivisor_29 ?_
      refine Z_irem (pc := 30) ok dX1_makeDivisor_30 (by omega) (by omega) (by omega) (by omega) ?_
      refine Z_if_ne (pc := 31) (tgt := 48) ok dX1_makeDivisor_31 rfl (by rw [e1]; exact em_r (by omega) (by omega)) (fun h => ?_) (fun h => ?_)
      · refine Z_iinc1 (pc := 48) ok (by decide) dX1_makeDivisor_48 rfl ?_
        refine Z_goto (pc := 51) (tgt := 17) ok dX1_makeDivisor_51 rfl ?_
        refine ih g ?_ g2
        rw [stpL, if_neg (by rw [e1] at h; omega)]
        exact g1
      · rw [e1] at h
        have hm : ((N : Int) / (D : Int)) = ((N / D : Nat) : Int) := by simp
        have hpos : 1 ≤ N / D := (Nat.le_div_iff_mul_le (by omega)).mpr (by omega)
        refine Z_aload0 (pc := 34) ok dX1_makeDivisor_34 ?_
        refine Z_iload1 (pc := 35) ok dX1_makeDivisor_35 ?_
        refine Z_aload0 (pc := 36) ok dX1_makeDivisor_36 ?_
        refine g_X1_n (pc := 37) ok dX1_makeDivisor_37 kw166 rfl ?_
        refine Z_iload1 (pc := 40) ok dX1_makeDivisor_40 ?_
        refine Z_idiv (pc := 41) ok dX1_makeDivisor_41 (by omega) (by omega) (by omega) (by omega) ?_
        rw [e1, hm]
        refine Z_callSId (pc := 42) ok dX1_makeDivisor_42 cw_X1_45 (c_moebius (by omega)) rfl rfl (by first | decide | omega) (Nat.le_of_ble_eq_true rfl) ?_
        refine Z_callVV (pc := 45) ok dX1_makeDivisor_45 cw_X1_49 rfl rfl (by decide) (c_mulDiv (n := N) (d := D) e1 (by omega) (by omega) (mu_3 _) (L := mkL N ((D : Int) - 1).toNat) (by rw [sz_eq]; exact g1)) rfl rfl (by first | decide | omega) (Nat.le_of_ble_eq_true rfl) (fun I1 J1 hp => ?_)
        refine Z_iinc1 (pc := 48) ok (by decide) dX1_makeDivisor_48 rfl ?_
        refine Z_goto (pc := 51) (tgt := 17) ok dX1_makeDivisor_51 rfl ?_
        obtain ⟨g', rfl, rfl, hr, hz⟩ := hp
        rw [sz_sz]
        refine ih g' ?_ (fun j hj => by rw [hz j hj, sz_eq]; exact g2 j hj)
        rw [stpL, if_pos (by omega)]
        exact hr
  refine H 1 (by omega) (by omega) _ (fun j hj => ?_) (fun j hj => ?_)
  · by_cases h0 : j = 0
    · subst h0; rfl
    · obtain ⟨q, rfl⟩ : ∃ q, j = q + 1 := ⟨j - 1, by omega⟩
      rw [uz_ne _ _ (by omega)]
      show 0 = (List.replicate (N - 1) 0).getD q 0
      simp [List.getD_eq_getElem?_getD, List.getElem?_replicate]
      split <;> rfl
  · rw [uz_ne _ _ (by omega)]
theorem c_prepare {b : Int} (hb : 2 ≤ b ∧ b ≤ 30) (hd : dOk I) : K_X1_prepare l G [zr G 87, zi b] I J (fun v I' J' => v = none ∧ (dP I' b ∧ I' 87 1 = I 87 1 ∧ (∀ a, a ≠ 87 → a ≠ 88 → I' a = I a) ∧ J' = J)) := by
  have hr : 0 ≤ I 87 0 ∧ I 87 0 ≤ 30 := by rcases hd with h | h <;> omega
  refine Cz.of rfl (Nat.le_of_ble_eq_true rfl) [some (zr G 87), some (zi b)] rfl (fun E ok okr hE => ?_)
  refine Z_aload0 (pc := 0) ok dX1_prepare_0 ?_
  refine g_X1_n (pc := 1) ok dX1_prepare_1 kw166 rfl ?_
  refine Z_iload1 (pc := 4) ok dX1_prepare_4 ?_
  refine Z_icmp_eq (pc := 5) (tgt := 24) ok dX1_prepare_5 rfl (by first | omega | (simp [sz, uz] <;> omega)) (by first | omega | (simp [sz, uz] <;> omega)) (fun h => ?_) (fun h => ?_)
  · refine Z_vret (pc := 24) ok okr dX1_prepare_24 ?_
    rcases hd with h1 | h1
    · omega
    · rw [h] at h1
      exact ⟨rfl, h1.2, rfl, fun _ _ _ => rfl, rfl⟩
  · refine Z_iload1 (pc := 8) ok dX1_prepare_8 ?_
    refine Z_callNId (pc := 9) ok dX1_prepare_9 cw_X1_26 (c_isBase (by omega)) rfl rfl (by first | decide | omega) (Nat.le_of_ble_eq_true rfl) ?_
    refine Z_if_eqB (pc := 12) (tgt := 24) ok dX1_prepare_12 rfl (fun h => absurd h ((fun q => q hb))) (fun h => ?_)
    refine Z_aload0 (pc := 15) ok dX1_prepare_15 ?_
    refine Z_iload1 (pc := 16) ok dX1_prepare_16 ?_
    refine p_X1_n (pc := 17) ok dX1_prepare_17 kw166 rfl ?_
    refine Z_aload0 (pc := 20) ok dX1_prepare_20 ?_
    refine Z_callVVd (pc := 21) ok dX1_prepare_21 cw_X1_30 rfl rfl (by decide) (c_makeDivisor (by rw [sz_eq, uz_eq]) hb) rfl rfl (by first | decide | omega) (Nat.le_of_ble_eq_true rfl) ?_
    refine Z_vret (pc := 24) ok okr dX1_prepare_24 ?_
    refine ⟨rfl, ⟨?_, ?_, ?_, ?_⟩, ?_, fun a a1 a2 => ?_, rfl⟩
    · simp [sz, uz]
    · simp [sz, uz]
    · simp [sz, uz]
    · simp [sz]
    · simp [sz, uz]
    · simp [sz, a1, a2]
theorem c_reduce {n : Int} (h2 : 2 ≤ n ∧ n ≤ 30) (hd : dP I n) (hf : ∀ j, -9 ≤ I 89 j ∧ I 89 j ≤ 9) : K_X1_reduce l G [zr G 87] I J (pR none (sz I 89 (rd n (I 89))) J) := by
  obtain ⟨d0, d1, d2, d3⟩ := hd
  have hdg := dg_b h2
  have q0 : ∀ g : Int → Int, sz I 89 g 87 0 = n := fun g => by rw [sz_ne _ _ (by decide)]; exact d0
  have q1 : ∀ g : Int → Int, sz I 89 g 87 3 = DG n := fun g => by rw [sz_ne _ _ (by decide)]; exact d1
  have q2 : ∀ g : Int → Int, sz I 89 g 88 = PH n := fun g => by rw [sz_ne _ _ (by decide)]; exact d3
  refine Cz.of rfl (Nat.le_of_ble_eq_true rfl) [some (zr G 87), none, none, none] rfl (fun E ok okr hE => ?_)
  refine Z_aload0 (pc := 0) ok dX1_reduce_0 ?_
  refine g_X1_n (pc := 1) ok dX1_reduce_1 kw166 rfl ?_
  refine Z_iconst (pc := 4) ok dX1_reduce_4 ?_
  refine Z_isub (pc := 5) ok dX1_reduce_5 ?_
  refine Z_istore1 (pc := 6) ok (by decide) dX1_reduce_6 rfl ?_
  have H : ∀ t : Int, DG n - 1 ≤ t → t ≤ n - 1 → ∀ w2 w3, Xz E G (sz I 89 (rdN n (I 89) (n - 1 - t).toNat)) J 7 [some (zr G 87), some (zi t), w2, w3] [] := by
    refine zDown ?_ ?_
    · intro _ w2 w3
      have := q1 (rdN n (I 89) (n - 1 - (DG n - 1)).toNat)
      refine Z_iload1 (pc := 7) ok dX1_reduce_7 ?_
      refine Z_aload0 (pc := 8) ok dX1_reduce_8 ?_
      refine g_X1_degree (pc := 9) ok dX1_reduce_9 kw169 rfl ?_
      refine Z_icmp_lt (pc := 12) (tgt := 72) ok dX1_reduce_12 rfl (by first | omega | (simp [sz, uz] <;> omega)) (by first | omega | (simp [sz, uz] <;> omega)) (fun _ => ?_) (fun h => by exfalso; omega)
      refine Z_vret (pc := 72) ok okr dX1_reduce_72 ?_
      rw [show n - 1 - (DG n - 1) = n - DG n by omega]
      exact ⟨rfl, rfl, rfl⟩
    · intro t t0 ih t1 w2 w3
      have q3 := q1 (rdN n (I 89) (n - 1 - t).toNat)
      have e1 : (n - 1 - (t - 1)).toNat = (n - 1 - t).toNat + 1 := by omega
      have e2 : n - 1 - (((n - 1 - t).toNat : Nat) : Int) = t := by omega
      have ih := ih (by omega)
      rw [e1, rdN, e2] at ih
      have hb := rdN_c h2 hf (show (n - 1 - t).toNat ≤ 22 by omega) t
      generalize rdN n (I 89) (n - 1 - t).toNat = F at *
      refine Z_iload1 (pc := 7) ok dX1_reduce_7 ?_
      refine Z_aload0 (pc := 8) ok dX1_reduce_8 ?_
      refine g_X1_degree (pc := 9) ok dX1_reduce_9 kw169 rfl ?_
      refine Z_icmp_lt (pc := 12) (tgt := 72) ok dX1_reduce_12 rfl (by first | omega | (simp [sz, uz] <;> omega)) (by first | omega | (simp [sz, uz] <;> omega)) (fun h => by exfalso; omega) (fun _ => ?_)
      refine Z_aload0 (pc := 15) ok dX1_reduce_15 ?_
      refine g_X1_left (pc := 16) (t := 89) ok dX1_reduce_16 kw173 rfl rfl ?_
      refine Z_iload1 (pc := 19) ok dX1_reduce_19 ?_
      refine Z_iald (pc := 20) (L := 30) ok dX1_reduce_20 rfl rfl (by first | omega | (simp [sz, uz] <;> omega)) ?_
      refine Z_istore2 (pc := 21) ok (by decide) dX1_reduce_21 rfl ?_
      rw [sz_eq]
      refine Z_iload2 (pc := 22) ok dX1_reduce_22 ?_
      refine Z_if_eq (pc := 23) (tgt := 66) ok dX1_reduce_23 rfl (by first | omega | (simp [sz, uz] <;> omega)) (fun h => ?_) (fun h => ?_)
      · refine Z_iinc1 (pc := 66) ok (by decide) dX1_reduce_66 rfl ?_
        refine Z_goto (pc := 69) (tgt := 7) ok dX1_reduce_69 rfl ?_
        have e3 : stR n t F = F := by funext i; simp [stR, h]
        rw [e3] at ih
        exact ih _ _
      · refine Z_iconst (pc := 26) ok dX1_reduce_26 ?_
        refine Z_istore3 (pc := 27) ok (by decide) dX1_reduce_27 rfl ?_
        have H2 : ∀ i : Int, 0 ≤ i → i ≤ DG n + 1 → ∀ g : Int → Int, (∀ j, t - DG n ≤ j → j < t - DG n + i → g j = F j - F t * PH n (j - t + DG n)) → (∀ j, j < t - DG n ∨ t - DG n + i ≤ j → g j = F j) → Xz E G (sz I 89 g) J 28 [some (zr G 87), some (zi t), some (zi (F t)), some (zi i)] [] := by
          refine zUp ?_ ?_
          · intro g g1 g2
            have := q1 g
            refine Z_iload3 (pc := 28) ok dX1_reduce_28 ?_
            refine Z_aload0 (pc := 29) ok dX1_reduce_29 ?_
            refine g_X1_degree (pc := 30) ok dX1_reduce_30 kw169 rfl ?_
            refine Z_icmp_gt (pc := 33) (tgt := 66) ok dX1_reduce_33 rfl (by first | omega | (simp [sz, uz] <;> omega)) (by first | omega | (simp [sz, uz] <;> omega)) (fun _ => ?_) (fun h => by exfalso; omega)
            refine Z_iinc1 (pc := 66) ok (by decide) dX1_reduce_66 rfl ?_
            refine Z_goto (pc := 69) (tgt := 7) ok dX1_reduce_69 rfl ?_
            have e3 : g = stR n t F := by
              funext j
              by_cases hj : t - DG n ≤ j ∧ j < t - DG n + (DG n + 1)
              · exact g1 j hj.1 hj.2
              · rw [g2 j (by omega), stR, ph_0 h2 (by omega)]; omega
            rw [e3]
            exact ih _ _
          · intro i i0 i1 ih2 g g1 g2
            have q4 := q1 g
            refine Z_iload3 (pc := 28) ok dX1_reduce_28 ?_
            refine Z_aload0 (pc := 29) ok dX1_reduce_29 ?_
            refine g_X1_degree (pc := 30) ok dX1_reduce_30 kw169 rfl ?_
            refine Z_icmp_gt (pc := 33) (tgt := 66) ok dX1_reduce_33 rfl (by first | omega | (simp [sz, uz] <;> omega)) (by first | omega | (simp [sz, uz] <;> omega)) (fun h => by exfalso; omega) (fun _ => ?_)
            refine Z_aload0 (pc := 36) ok dX1_reduce_36 ?_
            refine g_X1_left (pc := 37) (t := 89) ok dX1_reduce_37 kw173 rfl rfl ?_
            refine Z_iload1 (pc := 40) ok dX1_reduce_40 ?_
            refine Z_aload0 (pc := 41) ok dX1_reduce_41 ?_
            refine g_X1_degree (pc := 42) ok dX1_reduce_42 kw169 rfl ?_
            rw [q4]
            refine Z_isub (pc := 45) ok dX1_reduce_45 ?_
            refine Z_iload3 (pc := 46) ok dX1_reduce_46 ?_
            refine Z_iadd (pc := 47) ok dX1_reduce_47 ?_
            refine Z_dup2 (pc := 48) ok dX1_reduce_48 rfl rfl ?_
            refine Z_iald (pc := 49) (L := 30) ok dX1_reduce_49 rfl rfl (by first | omega | (simp [sz, uz] <;> omega)) ?_
            refine Z_iload2 (pc := 50) ok dX1_reduce_50 ?_
            refine Z_aload0 (pc := 51) ok dX1_reduce_51 ?_
            refine g_X1_divisor (pc := 52) (t := 88) ok dX1_reduce_52 kw171 rfl rfl ?_
            refine Z_iload3 (pc := 55) ok dX1_reduce_55 ?_
            refine Z_iald (pc := 56) (L := 30) ok dX1_reduce_56 rfl rfl (by first | omega | (simp [sz, uz] <;> omega)) ?_
            refine Z_imul (pc := 57) ok dX1_reduce_57 ?_
            refine Z_isub (pc := 58) ok dX1_reduce_58 ?_
            refine Z_iast (pc := 59) (L := 30) ok dX1_reduce_59 rfl rfl (by first | omega | (simp [sz, uz] <;> omega)) ?_
            refine Z_iinc3 (pc := 60) ok (by decide) dX1_reduce_60 rfl ?_
            refine Z_goto (pc := 63) (tgt := 28) ok dX1_reduce_63 rfl ?_
            rw [q2, sz_sz, sz_eq]
            refine ih2 _ (fun j j0 j1 => ?_) (fun j hj => ?_)
            · by_cases hji : j = t - DG n + i
              · rw [hji, uz_eq, g2 _ (by omega), show t - DG n + i - t + DG n = i by omega]
              · rw [uz_ne _ _ hji]; exact g1 j j0 (by omega)
            · rw [uz_ne _ _ (by omega)]; exact g2 j (by omega)
        exact H2 0 (by omega) (by omega) F (fun j j0 j1 => by omega) (fun _ _ => rfl)
  rw [d0]
  have h := H (n - 1) (by omega) (by omega) none none
  rw [Int.sub_self] at h
  have e : sz I 89 (rdN n (I 89) (0 : Int).toNat) = I := sz_self I 89
  rw [e] at h
  exact h
theorem c_divide {a : Nat} (ha : kd a = 13) (hla : ln a = 30) {n : Int} (h2 : 2 ≤ n ∧ n ≤ 30) (hd : dP I n) (hf : ∀ j, -9 ≤ I a j ∧ I a j ≤ 9) : K_X1_divide l G [zr G 87, zr G a] I J (pR none (sz I 89 (rd n (I a))) J) := by
  refine Cz.of rfl (Nat.le_of_ble_eq_true rfl) [some (zr G 87), some (zr G a)] rfl (fun E ok okr hE => ?_)
  refine Z_aload1 (pc := 0) ok dX1_divide_0 ?_
  refine Z_iconst (pc := 1) ok dX1_divide_1 ?_
  refine Z_aload0 (pc := 2) ok dX1_divide_2 ?_
  refine g_X1_left (pc := 3) (t := 89) ok dX1_divide_3 kw173 rfl rfl ?_
  refine Z_iconst (pc := 6) ok dX1_divide_6 ?_
  refine Z_bipush (pc := 7) ok dX1_divide_7 (by decide) ?_
  refine Z_copy (pc := 9) ok dX1_divide_9 kw455 kw457 kw456 kw71 ha rfl hla rfl (by decide) (by decide) (Nat.le_of_ble_eq_true rfl) ?_
  refine Z_aload0 (pc := 12) ok dX1_divide_12 ?_
  refine Z_callVVd (pc := 13) ok dX1_divide_13 cw_X1_62 rfl rfl (by decide) (c_reduce h2 (dP_c hd (by rw [sz_ne _ _ (by decide)]) (by rw [sz_ne _ _ (by decide)])) (by rw [sz_eq]; exact hf)) rfl rfl (by first | decide | omega) (Nat.le_of_ble_eq_true rfl) ?_
  refine Z_vret (pc := 16) ok okr dX1_divide_16 ?_
  exact ⟨rfl, by rw [sz_sz, sz_eq], rfl⟩
theorem c_leavesNothing {n : Int} (h2 : 2 ≤ n ∧ n ≤ 30) (hd : dP I n) (hf : ∀ j, -40000000 ≤ I 89 j ∧ I 89 j ≤ 40000000) : K_X1_leavesNothing l G [zr G 87] I J (pR (some (zi (zb (∀ i, 0 ≤ i → i < DG n → I 89 i = 0)))) I J) := by
  have d1 := hd.2.1
  have hdg := dg_b h2
  refine Cz.of rfl (Nat.le_of_ble_eq_true rfl) [some (zr G 87), none] rfl (fun E ok okr hE => ?_)
  refine Z_iconst (pc := 0) ok dX1_leavesNothing_0 ?_
  refine Z_istore1 (pc := 1) ok (by decide) dX1_leavesNothing_1 rfl ?_
  have H : ∀ i : Int, 0 ≤ i → i ≤ DG n → (∀ j, 0 ≤ j → j < i → I 89 j = 0) → Xz E G I J 2 [some (zr G 87), some (zi i)] [] := by
    refine zUp ?_ ?_
    · intro hj
      refine Z_iload1 (pc := 2) ok dX1_leavesNothing_2 ?_
      refine Z_aload0 (pc := 3) ok dX1_leavesNothing_3 ?_
      refine g_X1_degree (pc := 4) ok dX1_leavesNothing_4 kw169 rfl ?_
      refine Z_icmp_ge (pc := 7) (tgt := 27) ok dX1_leavesNothing_7 rfl (by first | omega | (simp [sz, uz] <;> omega)) (by first | omega | (simp [sz, uz] <;> omega)) (fun _ => ?_) (fun h => by exfalso; omega)
      refine Z_iconst (pc := 27) ok dX1_leavesNothing_27 ?_
      refine Z_bret (pc := 28) ok okr dX1_leavesNothing_28 (by first | exact Or.inl rfl | exact Or.inr rfl | exact zb_01 _ | assumption | omega) ?_
      exact ⟨by rw [zb_t hj], rfl, rfl⟩
    · intro i i0 i1 ih hj
      have := hf i
      refine Z_iload1 (pc := 2) ok dX1_leavesNothing_2 ?_
      refine Z_aload0 (pc := 3) ok dX1_leavesNothing_3 ?_
      refine g_X1_degree (pc := 4) ok dX1_leavesNothing_4 kw169 rfl ?_
      refine Z_icmp_ge (pc := 7) (tgt := 27) ok dX1_leavesNothing_7 rfl (by first | omega | (simp [sz, uz] <;> omega)) (by first | omega | (simp [sz, uz] <;> omega)) (fun h => by exfalso; omega) (fun _ => ?_)
      refine Z_aload0 (pc := 10) ok dX1_leavesNothing_10 ?_
      refine g_X1_left (pc := 11) (t := 89) ok dX1_leavesNothing_11 kw173 rfl rfl ?_
      refine Z_iload1 (pc := 14) ok dX1_leavesNothing_14 ?_
      refine Z_iald (pc := 15) (L := 30) ok dX1_leavesNothing_15 rfl rfl (by first | omega | (simp [sz, uz] <;> omega)) ?_
      refine Z_if_eq (pc := 16) (tgt := 21) ok dX1_leavesNothing_16 rfl (by first | omega | (simp [sz, uz] <;> omega)) (fun h => ?_) (fun h => ?_)
      · refine Z_iinc1 (pc := 21) ok (by decide) dX1_leavesNothing_21 rfl ?_
        refine Z_goto (pc := 24) (tgt := 2) ok dX1_leavesNothing_24 rfl ?_
        exact ih (fun j h3 h4 => by by_cases h5 : j = i; subst h5; exact h; exact hj j h3 (by omega))
      · refine Z_iconst (pc := 19) ok dX1_leavesNothing_19 ?_
        refine Z_bret (pc := 20) ok okr dX1_leavesNothing_20 (by first | exact Or.inl rfl | exact Or.inr rfl | exact zb_01 _ | assumption | omega) ?_
        exact ⟨by rw [zb_f (fun q => h (q i i0 i1))], rfl, rfl⟩
  exact H 0 (by omega) (by omega) (fun j h3 h4 => by omega)
theorem c_leaves {a : Nat} (ha : kd a = 13) (hla : ln a = 30) {n : Int} (h2 : 2 ≤ n ∧ n ≤ 30) (hd : dP I n) (hf : ∀ j, -40000000 ≤ I 89 j ∧ I 89 j ≤ 40000000) (hf2 : ∀ j, -40000000 ≤ I a j ∧ I a j ≤ 40000000) : K_X1_leaves l G [zr G 87, zr G a] I J (pR (some (zi (zb (∀ i, 0 ≤ i → i < DG n → I 89 i = I a i)))) I J) := by
  have d1 := hd.2.1
  have hdg := dg_b h2
  refine Cz.of rfl (Nat.le_of_ble_eq_true rfl) [some (zr G 87), some (zr G a), none] rfl (fun E ok okr hE => ?_)
  refine Z_iconst (pc := 0) ok dX1_leaves_0 ?_
  refine Z_istore2 (pc := 1) ok (by decide) dX1_leaves_1 rfl ?_
  have H : ∀ i : Int, 0 ≤ i → i ≤ DG n → (∀ j, 0 ≤ j → j < i → I 89 j = I a j) → Xz E G I J 2 [some (zr G 87), some (zr G a), some (zi i)] [] := by
    refine zUp ?_ ?_
    · intro hj
      refine Z_iload2 (pc := 2) ok dX1_leaves_2 ?_
      refine Z_aload0 (pc := 3) ok dX1_leaves_3 ?_
      refine g_X1_degree (pc := 4) ok dX1_leaves_4 kw169 rfl ?_
      refine Z_icmp_ge (pc := 7) (tgt := 30) ok dX1_leaves_7 rfl (by first | omega | (simp [sz, uz] <;> omega)) (by first | omega | (simp [sz, uz] <;> omega)) (fun _ => ?_) (fun h => by exfalso; omega)
      refine Z_iconst (pc := 30) ok dX1_leaves_30 ?_
      refine Z_bret (pc := 31) ok okr dX1_leaves_31 (by first | exact Or.inl rfl | exact Or.inr rfl | exact zb_01 _ | assumption | omega) ?_
      exact ⟨by rw [zb_t hj], rfl, rfl⟩
    · intro i i0 i1 ih hj
      have := hf i
      have := hf2 i
      refine Z_iload2 (pc := 2) ok dX1_leaves_2 ?_
      refine Z_aload0 (pc := 3) ok dX1_leaves_3 ?_
      refine g_X1_degree (pc := 4) ok dX1_leaves_4 kw169 rfl ?_
      refine Z_icmp_ge (pc := 7) (tgt := 30) ok dX1_leaves_7 rfl (by first | omega | (simp [sz, uz] <;> omega)) (by first | omega | (simp [sz, uz] <;> omega)) (fun h => by exfalso; omega) (fun _ => ?_)
      refine Z_aload0 (pc := 10) ok dX1_leaves_10 ?_
      refine g_X1_left (pc := 11) (t := 89) ok dX1_leaves_11 kw173 rfl rfl ?_
      refine Z_iload2 (pc := 14) ok dX1_leaves_14 ?_
      refine Z_iald (pc := 15) (L := 30) ok dX1_leaves_15 rfl rfl (by first | omega | (simp [sz, uz] <;> omega)) ?_
      refine Z_aload1 (pc := 16) ok dX1_leaves_16 ?_
      refine Z_iload2 (pc := 17) ok dX1_leaves_17 ?_
      refine Z_iald (pc := 18) ok dX1_leaves_18 ha hla (by first | omega | (simp [sz, uz] <;> omega)) ?_
      refine Z_icmp_eq (pc := 19) (tgt := 24) ok dX1_leaves_19 rfl (by first | omega | (simp [sz, uz] <;> omega)) (by first | omega | (simp [sz, uz] <;> omega)) (fun h => ?_) (fun h => ?_)
      · refine Z_iinc2 (pc := 24) ok (by decide) dX1_leaves_24 rfl ?_
        refine Z_goto (pc := 27) (tgt := 2) ok dX1_leaves_27 rfl ?_
        exact ih (fun j h3 h4 => by by_cases h5 : j = i; subst h5; exact h; exact hj j h3 (by omega))
      · refine Z_iconst (pc := 22) ok dX1_leaves_22 ?_
        refine Z_bret (pc := 23) ok okr dX1_leaves_23 (by first | exact Or.inl rfl | exact Or.inr rfl | exact zb_01 _ | assumption | omega) ?_
        exact ⟨by rw [zb_f (fun q => h (q i i0 i1))], rfl, rfl⟩
  exact H 0 (by omega) (by omega) (fun j h3 h4 => by omega)
end
