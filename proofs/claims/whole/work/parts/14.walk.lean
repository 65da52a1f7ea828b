/-! eight numbers of a REST in a long, and back -/
def pw (i : Int) : Int := 2 ^ ((i % 8) * 8).toNat
def pkF (n e w : Int) : Int → Int := fun i => if i / 8 = w then LV n e i * pw i else 0
def PK (n j : Int) : Int := if 0 ≤ j ∧ j < 4 * n then su (pkF n (j / 4) (j % 4)) (DG n) else 0
def PS (n : Int) (t : Int → Int) (w : Int) : Int := su (fun e => PK n (4 * e + w) * t e) n
def nou (n : Int) (t : Int → Int) : Prop := ∀ i, 0 ≤ i → i < DG n → rst n t i = 0
theorem PK_at {n e w : Int} (h0 : 0 ≤ e) (h1 : e < n) (w0 : 0 ≤ w) (w1 : w < 4) : PK n (4 * e + w) = su (pkF n e w) (DG n) := by
  rw [PK, if_pos (by omega), show (4 * e + w) / 4 = e by omega, show (4 * e + w) % 4 = w by omega]
theorem rst_out {n : Int} (h2 : 2 ≤ n ∧ n ≤ 30) (t : Int → Int) {i : Int} (hi : i < 0 ∨ DG n ≤ i) : rst n t i = 0 := by
  simp only [rst]
  rw [su_c (g := fun _ => 0) (fun j h0 h1 => ?_), su_00]
  obtain ⟨e, rfl⟩ := Int.eq_ofNat_of_zero_le h0
  rw [LV_out h2 e (by omega) i hi, Int.zero_mul]
theorem PS_eq {n w : Int} (t : Int → Int) (w0 : 0 ≤ w) (w1 : w < 4) : PS n t w = su (fun i => if i / 8 = w then rst n t i * pw i else 0) (DG n) := by
  have e1 : PS n t w = su (fun e => su (fun i => pkF n e w i * t e) (DG n)) n := by
    simp only [PS]
    exact su_c (fun e h0 h1 => by rw [PK_at h0 h1 w0 w1, su_mul])
  rw [e1, su_swap]
  refine su_c (fun i _ _ => ?_)
  by_cases hi : i / 8 = w
  · rw [if_pos hi]
    simp only [rst]
    rw [← su_mul]
    exact su_c (fun e _ _ => by simp only [pkF, if_pos hi]; rw [Int.mul_assoc, Int.mul_assoc, Int.mul_comm (pw i)])
  · rw [if_neg hi, su_c (g := fun _ => 0) (fun e _ _ => by simp only [pkF, if_neg hi, Int.zero_mul]), su_00]
theorem su_up {f : Int → Int} {a b : Int} (h0 : 0 ≤ a) (hab : a ≤ b) (h : ∀ j, a ≤ j → j < b → f j = 0) : su f b = su f a := by
  obtain ⟨k, hk⟩ := Int.eq_ofNat_of_zero_le (show 0 ≤ b - a by omega)
  have : ∀ k : Nat, (k : Int) ≤ b - a → su f (a + k) = su f a := by
    intro k
    induction k with
    | zero => intro _; rw [show a + ((0 : Nat) : Int) = a by omega]
    | succ k ih =>
      intro hk
      rw [show a + ((k + 1 : Nat) : Int) = a + k + 1 by omega, su_s _ (by omega), ih (by omega), h _ (by omega) (by omega), Int.add_zero]
  have h2 := this k (by omega)
  rw [show a + (k : Int) = b by omega] at h2
  exact h2
theorem su32 (f : Int → Int) : su f 32 = f 0 + f 1 + f 2 + f 3 + f 4 + f 5 + f 6 + f 7 + f 8 + f 9 + f 10 + f 11 + f 12 + f 13 + f 14 + f 15 + f 16 + f 17 + f 18 + f 19 + f 20 + f 21 + f 22 + f 23 + f 24 + f 25 + f 26 + f 27 + f 28 + f 29 + f 30 + f 31 := by
  have : su f 32 = 0 + f 0 + f 1 + f 2 + f 3 + f 4 + f 5 + f 6 + f 7 + f 8 + f 9 + f 10 + f 11 + f 12 + f 13 + f 14 + f 15 + f 16 + f 17 + f 18 + f 19 + f 20 + f 21 + f 22 + f 23 + f 24 + f 25 + f 26 + f 27 + f 28 + f 29 + f 30 + f 31 := rfl
  rw [this, Int.zero_add]
theorem PS_dig {n w : Int} (h2 : 2 ≤ n ∧ n ≤ 30) (t : Int → Int) (hw : w = 0 ∨ w = 1 ∨ w = 2 ∨ w = 3) : PS n t w = rst n t (8 * w) + rst n t (8 * w + 1) * 256 + rst n t (8 * w + 2) * 65536 + rst n t (8 * w + 3) * 16777216 + rst n t (8 * w + 4) * 4294967296 + rst n t (8 * w + 5) * 1099511627776 + rst n t (8 * w + 6) * 281474976710656 + rst n t (8 * w + 7) * 72057594037927936 := by
  have hd := dg_b h2
  rw [PS_eq t (by omega) (by omega), ← su_up (f := fun i => if i / 8 = w then rst n t i * pw i else 0) (a := DG n) (b := 32) (by omega) (by omega) (fun j h0 _ => by
    show (if j / 8 = w then rst n t j * pw j else 0) = 0
    rw [rst_out h2 t (Or.inr h0), Int.zero_mul]; split <;> rfl), su32]
  rcases hw with rfl | rfl | rfl | rfl <;> simp [pw]
theorem PS_r {n w : Int} (h2 : 2 ≤ n ∧ n ≤ 30) {t : Int → Int} (ht : ∀ e, 0 ≤ t e ∧ t e ≤ 9) (hw : w = 0 ∨ w = 1 ∨ w = 2 ∨ w = 3) : -9223372036854775808 ≤ PS n t w ∧ PS n t w ≤ 9223372036854775807 := by
  rw [PS_dig h2 t hw]
  have a0 := rst_b h2 ht (8 * w)
  have a1 := rst_b h2 ht (8 * w + 1)
  have a2 := rst_b h2 ht (8 * w + 2)
  have a3 := rst_b h2 ht (8 * w + 3)
  have a4 := rst_b h2 ht (8 * w + 4)
  have a5 := rst_b h2 ht (8 * w + 5)
  have a6 := rst_b h2 ht (8 * w + 6)
  have a7 := rst_b h2 ht (8 * w + 7)
  omega
theorem PS_nou {n : Int} (h2 : 2 ≤ n ∧ n ≤ 30) {t : Int → Int} (ht : ∀ e, 0 ≤ t e ∧ t e ≤ 9) : (∀ w, 0 ≤ w → w < 4 → PS n t w = 0) ↔ nou n t := by
  have hd := dg_b h2
  constructor
  · intro h i i0 i1
    have h3 := h (i / 8) (by omega) (by omega)
    rw [PS_dig h2 t (by omega)] at h3
    have a0 := rst_b h2 ht (8 * (i / 8))
    have a1 := rst_b h2 ht (8 * (i / 8) + 1)
    have a2 := rst_b h2 ht (8 * (i / 8) + 2)
    have a3 := rst_b h2 ht (8 * (i / 8) + 3)
    have a4 := rst_b h2 ht (8 * (i / 8) + 4)
    have a5 := rst_b h2 ht (8 * (i / 8) + 5)
    have a6 := rst_b h2 ht (8 * (i / 8) + 6)
    have a7 := rst_b h2 ht (8 * (i / 8) + 7)
    have z0 : rst n t (8 * (i / 8)) = 0 := by omega
    have z1 : rst n t (8 * (i / 8) + 1) = 0 := by omega
    have z2 : rst n t (8 * (i / 8) + 2) = 0 := by omega
    have z3 : rst n t (8 * (i / 8) + 3) = 0 := by omega
    have z4 : rst n t (8 * (i / 8) + 4) = 0 := by omega
    have z5 : rst n t (8 * (i / 8) + 5) = 0 := by omega
    have z6 : rst n t (8 * (i / 8) + 6) = 0 := by omega
    have z7 : rst n t (8 * (i / 8) + 7) = 0 := by omega
    have hc : i = 8 * (i / 8) ∨ i = 8 * (i / 8) + 1 ∨ i = 8 * (i / 8) + 2 ∨ i = 8 * (i / 8) + 3 ∨ i = 8 * (i / 8) + 4 ∨ i = 8 * (i / 8) + 5 ∨ i = 8 * (i / 8) + 6 ∨ i = 8 * (i / 8) + 7 := by omega
    rcases hc with q | q | q | q | q | q | q | q <;> rw [q] <;> assumption
  · intro h w w0 w1
    have hz : ∀ i, rst n t i = 0 := by
      intro i
      by_cases hi : 0 ≤ i ∧ i < DG n
      · exact h i hi.1 hi.2
      · exact rst_out h2 t (by omega)
    rw [PS_dig h2 t (by omega)]
    simp [hz]
theorem su_uz (f : Int → Int) {e n v : Int} (h0 : 0 ≤ e) (h1 : e < n) : su (uz f e v) n = su f n - f e + v := by
  have e1 : su (uz f e v) n = su (fun j => f j + (if j = e then v - f e else 0)) n := su_c (fun j _ _ => by
    by_cases h : j = e
    · subst h; rw [uz_eq, if_pos rfl]; omega
    · rw [uz_ne _ _ h, if_neg h]; omega)
  rw [e1, su_add, su_one (f := fun j => if j = e then v - f e else 0) h0 h1 (fun j _ _ hj => if_neg hj), if_pos rfl]
  omega
theorem PS_uz {n e v w : Int} (t : Int → Int) (h0 : 0 ≤ e) (h1 : e < n) : PS n (uz t e v) w = PS n t w + PK n (4 * e + w) * (v - t e) := by
  have e1 : PS n (uz t e v) w = su (uz (fun e => PK n (4 * e + w) * t e) e (PK n (4 * e + w) * v)) n := by
    simp only [PS]
    refine su_c (fun j _ _ => ?_)
    by_cases h : j = e
    · subst h; rw [uz_eq, uz_eq]
    · rw [uz_ne _ _ h, uz_ne _ _ h]
  rw [e1, su_uz _ h0 h1, Int.mul_sub]
  simp only [PS]; omega
theorem PK_hi {n e i : Int} (h2 : 2 ≤ n ∧ n ≤ 30) (h0 : 0 ≤ e) (h1 : e < n) (hi : (DG n + 8 - 1) / 8 ≤ i) (hi2 : i < 4) : PK n (4 * e + i) = 0 := by
  have hd := dg_b h2
  rw [PK_at h0 h1 (by omega) hi2, su_c (g := fun _ => 0) (fun j j0 j1 => ?_), su_00]
  simp only [pkF]
  rw [if_neg (by omega)]
theorem shl8 (x : Int64) {s : Int} (h : s = 0 ∨ s = 8 ∨ s = 16 ∨ s = 24 ∨ s = 32 ∨ s = 40 ∨ s = 48 ∨ s = 56) : x <<< ((Int32.ofInt s).toInt64 &&& 63) = x * Int64.ofInt (2 ^ s.toNat) := by
  apply Int64.toBitVec_inj.mp
  rw [Int64.toBitVec_shiftLeft, Int64.toBitVec_mul, BitVec.shiftLeft_eq', BitVec.shiftLeft_eq_mul_twoPow]
  congr 1
  rcases h with rfl | rfl | rfl | rfl | rfl | rfl | rfl | rfl <;> decide
def pkOk (I J : Mz) : Prop := I 87 1 = 0 ∨ ((2 ≤ I 87 1 ∧ I 87 1 ≤ 30) ∧ J 90 = PK (I 87 1))
/-- the roots that a walk goes over -/
def rtOk (I : Mz) (n : Int) (c : Int → Int) : Prop := (0 ≤ I 91 4 ∧ I 91 4 ≤ n) ∧ (∀ i, 0 ≤ i → i < I 91 4 → (0 ≤ I 92 i ∧ I 92 i < n) ∧ 0 < c (I 92 i)) ∧ (∀ i j, 0 ≤ i → i < j → j < I 91 4 → I 92 i < I 92 j) ∧ (∀ e, 0 ≤ e → e < n → 0 < c e → ∃ i, 0 ≤ i ∧ i < I 91 4 ∧ I 92 i = e) ∧ ∀ e, 0 ≤ e → e < n → I 93 e = c e
def WI (I J : Mz) (n : Int) (c t : Int → Int) : Prop := dP I n ∧ I 87 1 = n ∧ J 90 = PK n ∧ rtOk I n c ∧ I 95 = t ∧ I 91 6 = su t n ∧ J 94 = PS n t
def nx (t : Int → Int) (e : Int) : Int → Int := fun j => if j < e then 0 else if j = e then t e + 1 else t j
section
variable {l : Launch} {G : Gw} {I J : Mz}
theorem Z_lshl8 {E : Ev} {own : String} {cc : ByteArray} {n d pc : Nat} {lo : List (Option Value)} {st : List Value} (ok : Ok E G own cc n d) {a s : Int} (hd : decode cc pc = .ok (.lshl, 1)) (hs : s = 0 ∨ s = 8 ∨ s = 16 ∨ s = 24 ∨ s = 32 ∨ s = 40 ∨ s = 48 ∨ s = 56) (k : Xz E G I J (pc + 1) lo (zl (a * 2 ^ s.toNat) :: st)) : Xz E G I J pc lo (zi s :: zl a :: st) := V_lshl ok hd (by rw [shl8 _ hs, ← Int64.ofInt_mul]; exact k)
theorem c_makePacked {n : Int} (h2 : 2 ≤ n ∧ n ≤ 30) (hd : dP I n) : K_X1_makePacked l G [zr G 87] I J (fun v I' J' => v = none ∧ ∃ f, I' = sz I 89 f ∧ J' = sz J 90 (PK n)) := by
  obtain ⟨d0, d1, d2, d3⟩ := hd
  have hdg := dg_b h2
  have q0 : ∀ g : Int → Int, sz I 89 g 87 0 = n := fun g => by rw [sz_ne _ _ (by decide)]; exact d0
  have q1 : ∀ g : Int → Int, sz I 89 g 87 3 = DG n := fun g => by rw [sz_ne _ _ (by decide)]; exact d1
  have q2 : ∀ g : Int → Int, dP (sz I 89 g) n := fun g => dP_c ⟨d0, d1, d2, d3⟩ (by rw [sz_ne _ _ (by decide)]) (by rw [sz_ne _ _ (by decide)])
  have hu : ∀ e j, -9 ≤ un e j ∧ un e j ≤ 9 := fun e j => by simp only [un]; split <;> omega
  refine Cz.of rfl (Nat.le_of_ble_eq_true rfl) [some (zr G 87), none, none] rfl (fun E ok okr hE => ?_)
  refine Z_aload0 (pc := 0) ok dX1_makePacked_0 ?_
  refine g_X1_packed (pc := 1) (t := 90) ok dX1_makePacked_1 kw175 rfl rfl ?_
  refine Z_lconst (pc := 4) (z := 0) ok dX1_makePacked_4 (by decide) ?_
  refine Z_callSVd (pc := 5) ok dX1_makePacked_5 cw_X1_59 (c_fillL rfl rfl 0) rfl rfl (by first | decide | omega) (Nat.le_of_ble_eq_true rfl) ?_
  refine Z_iconst (pc := 8) ok dX1_makePacked_8 ?_
  refine Z_istore1 (pc := 9) ok (by decide) dX1_makePacked_9 rfl ?_
  have H : ∀ e : Int, 0 ≤ e → e ≤ n → ∀ f g : Int → Int, (∀ j, 0 ≤ j → j < 4 * e → g j = PK n j) → (∀ j, 4 * e ≤ j → g j = 0) → ∀ w, Xz E G (sz I 89 f) (sz J 90 g) 10 [some (zr G 87), some (zi e), w] [] := by
    refine zUp ?_ ?_
    · intro f g g1 g2 w
      have := q0 f
      refine Z_ext1J (g := PK n) (fun j h0 h1 => ?_) ?_
      · by_cases h : j < 4 * n
        · exact g1 j h0 h
        · rw [g2 j (by omega), PK, if_neg (by omega)]
      · refine Z_iload1 (pc := 10) ok dX1_makePacked_10 ?_
        refine Z_aload0 (pc := 11) ok dX1_makePacked_11 ?_
        refine g_X1_n (pc := 12) ok dX1_makePacked_12 kw166 rfl ?_
        refine Z_icmp_ge (pc := 15) (tgt := 90) ok dX1_makePacked_15 rfl (by first | omega | (simp [sz, uz] <;> omega)) (by first | omega | (simp [sz, uz] <;> omega)) (fun _ => ?_) (fun h => by exfalso; omega)
        refine Z_vret (pc := 90) ok okr dX1_makePacked_90 ?_
        exact ⟨rfl, f, rfl, rfl⟩
    · intro e e0 e1 ih f g g1 g2 w
      have q3 := q0 f
      refine Z_iload1 (pc := 10) ok dX1_makePacked_10 ?_
      refine Z_aload0 (pc := 11) ok dX1_makePacked_11 ?_
      refine g_X1_n (pc := 12) ok dX1_makePacked_12 kw166 rfl ?_
      refine Z_icmp_ge (pc := 15) (tgt := 90) ok dX1_makePacked_15 rfl (by first | omega | (simp [sz, uz] <;> omega)) (by first | omega | (simp [sz, uz] <;> omega)) (fun h => by exfalso; omega) (fun _ => ?_)
      refine Z_aload0 (pc := 18) ok dX1_makePacked_18 ?_
      refine g_X1_left (pc := 19) (t := 89) ok dX1_makePacked_19 kw173 rfl rfl ?_
      refine Z_iconst (pc := 22) ok dX1_makePacked_22 ?_
      refine Z_callSVd (pc := 23) ok dX1_makePacked_23 cw_X1_39 (c_fill rfl rfl 0) rfl rfl (by first | decide | omega) (Nat.le_of_ble_eq_true rfl) ?_
      refine Z_aload0 (pc := 26) ok dX1_makePacked_26 ?_
      refine g_X1_left (pc := 27) (t := 89) ok dX1_makePacked_27 kw173 rfl rfl ?_
      refine Z_iload1 (pc := 30) ok dX1_makePacked_30 ?_
      refine Z_iconst (pc := 31) ok dX1_makePacked_31 ?_
      refine Z_iast (pc := 32) (L := 30) ok dX1_makePacked_32 rfl rfl (by first | omega | (simp [sz, uz] <;> omega)) ?_
      refine Z_aload0 (pc := 33) ok dX1_makePacked_33 ?_
      have e3 : uz (fun _ => 0) e 1 = un e := by funext j; simp [uz, un]
      rw [sz_sz, sz_sz, sz_eq, e3]
      refine Z_callVVd (pc := 34) ok dX1_makePacked_34 cw_X1_62 rfl rfl (by decide) (c_reduce h2 (q2 _) (by rw [sz_eq]; exact hu e)) rfl rfl (by first | decide | omega) (Nat.le_of_ble_eq_true rfl) ?_
      refine Z_iconst (pc := 37) ok dX1_makePacked_37 ?_
      refine Z_istore2 (pc := 38) ok (by decide) dX1_makePacked_38 rfl ?_
      rw [sz_sz, sz_eq]
      show Xz E G (sz I 89 (LV n e)) (sz J 90 g) 39 [some (zr G 87), some (zi e), some (zi 0)] []
      have H2 : ∀ i : Int, 0 ≤ i → i ≤ DG n → ∀ g' : Int → Int, (∀ j, 0 ≤ j → j < 4 * e → g' j = PK n j) → (∀ j, 4 * e + 4 ≤ j → g' j = 0) → (∀ w, 0 ≤ w → w < 4 → g' (4 * e + w) = su (pkF n e w) i) → Xz E G (sz I 89 (LV n e)) (sz J 90 g') 39 [some (zr G 87), some (zi e), some (zi i)] [] := by
        refine zUp ?_ ?_
        · intro g' a1 a2 a3
          have := q1 (LV n e)
          refine Z_iload2 (pc := 39) ok dX1_makePacked_39 ?_
          refine Z_aload0 (pc := 40) ok dX1_makePacked_40 ?_
          refine g_X1_degree (pc := 41) ok dX1_makePacked_41 kw169 rfl ?_
          refine Z_icmp_ge (pc := 44) (tgt := 84) ok dX1_makePacked_44 rfl (by first | omega | (simp [sz, uz] <;> omega)) (by first | omega | (simp [sz, uz] <;> omega)) (fun _ => ?_) (fun h => by exfalso; omega)
          refine Z_iinc1 (pc := 84) ok (by decide) dX1_makePacked_84 rfl ?_
          refine Z_goto (pc := 87) (tgt := 10) ok dX1_makePacked_87 rfl ?_
          refine ih _ _ (fun j h0 h1 => ?_) (fun j h0 => a2 j (by omega)) _
          by_cases hj : j < 4 * e
          · exact a1 j h0 hj
          · have := a3 (j - 4 * e) (by omega) (by omega)
            rw [← PK_at e0 e1 (by omega) (by omega), show 4 * e + (j - 4 * e) = j by omega] at this
            exact this
        · intro i i0 i1 ih2 g' a1 a2 a3
          have := q1 (LV n e)
          have hb := rd_c h2 (hu e) i
          have hb2 : -40000000 ≤ LV n e i ∧ LV n e i ≤ 40000000 := hb
          refine Z_iload2 (pc := 39) ok dX1_makePacked_39 ?_
          refine Z_aload0 (pc := 40) ok dX1_makePacked_40 ?_
          refine g_X1_degree (pc := 41) ok dX1_makePacked_41 kw169 rfl ?_
          refine Z_icmp_ge (pc := 44) (tgt := 84) ok dX1_makePacked_44 rfl (by first | omega | (simp [sz, uz] <;> omega)) (by first | omega | (simp [sz, uz] <;> omega)) (fun h => by exfalso; omega) (fun _ => ?_)
          refine Z_aload0 (pc := 47) ok dX1_makePacked_47 ?_
          refine g_X1_packed (pc := 48) (t := 90) ok dX1_makePacked_48 kw175 rfl rfl ?_
          refine Z_iload1 (pc := 51) ok dX1_makePacked_51 ?_
          refine Z_iconst (pc := 52) ok dX1_makePacked_52 ?_
          refine Z_imul (pc := 53) ok dX1_makePacked_53 ?_
          refine Z_iload2 (pc := 54) ok dX1_makePacked_54 ?_
          refine Z_bipush (pc := 55) ok dX1_makePacked_55 (by decide) ?_
          refine Z_idiv (pc := 57) ok dX1_makePacked_57 (by omega) (by omega) (by omega) (by omega) ?_
          refine Z_iadd (pc := 58) ok dX1_makePacked_58 ?_
          refine Z_dup2 (pc := 59) ok dX1_makePacked_59 rfl rfl ?_
          refine Z_lald (pc := 60) (L := 120) ok dX1_makePacked_60 rfl rfl (by first | omega | (simp [sz, uz] <;> omega)) ?_
          refine Z_aload0 (pc := 61) ok dX1_makePacked_61 ?_
          refine g_X1_left (pc := 62) (t := 89) ok dX1_makePacked_62 kw173 rfl rfl ?_
          refine Z_iload2 (pc := 65) ok dX1_makePacked_65 ?_
          refine Z_iald (pc := 66) (L := 30) ok dX1_makePacked_66 rfl rfl (by first | omega | (simp [sz, uz] <;> omega)) ?_
          refine Z_i2l (pc := 67) ok dX1_makePacked_67 (by first | omega | (simp [sz, uz] <;> omega)) ?_
          refine Z_iload2 (pc := 68) ok dX1_makePacked_68 ?_
          refine Z_bipush (pc := 69) ok dX1_makePacked_69 (by decide) ?_
          refine Z_irem (pc := 71) ok dX1_makePacked_71 (by omega) (by omega) (by omega) (by omega) ?_
          refine Z_bipush (pc := 72) ok dX1_makePacked_72 (by decide) ?_
          refine Z_imul (pc := 74) ok dX1_makePacked_74 ?_
          refine Z_lshl8 (pc := 75) ok dX1_makePacked_75 (by omega) ?_
          refine Z_ladd (pc := 76) ok dX1_makePacked_76 ?_
          refine Z_last (pc := 77) (L := 120) ok dX1_makePacked_77 rfl rfl (by first | omega | (simp [sz, uz] <;> omega)) ?_
          refine Z_iinc2 (pc := 78) ok (by decide) dX1_makePacked_78 rfl ?_
          refine Z_goto (pc := 81) (tgt := 39) ok dX1_makePacked_81 rfl ?_
          rw [sz_sz, sz_eq, sz_eq]
          have ei : e * 4 + i / 8 = 4 * e + i / 8 := by omega
          refine ih2 _ (fun j h0 h1 => ?_) (fun j h0 => ?_) (fun w w0 w1 => ?_)
          · rw [uz_ne _ _ (by omega)]; exact a1 j h0 h1
          · rw [uz_ne _ _ (by omega)]; exact a2 j h0
          · rw [su_s _ i0]
            by_cases hw : w = i / 8
            · rw [hw, ← ei, uz_eq, ei, a3 _ (by omega) (by omega)]
              simp only [pkF, if_pos]; rfl
            · rw [uz_ne _ _ (by omega), a3 w w0 w1]
              simp only [pkF]; rw [if_neg (fun q => hw q.symm), Int.add_zero]
      exact H2 0 (by omega) (by omega) g (fun j h0 h1 => g1 j h0 h1) (fun j h0 => g2 j (by omega)) (fun w w0 w1 => by rw [g2 _ (by omega)]; rfl)
  have h := H 0 (by omega) (by omega) (I 89) (fun _ => 0) (fun j h0 h1 => by omega) (fun _ _ => rfl) none
  rw [sz_self] at h
  exact h
theorem c_preparePacked {b : Int} (hb : 2 ≤ b ∧ b ≤ 30) (q1 : dP I b) (hp : pkOk I J) : K_X1_preparePacked l G [zr G 87] I J (fun v I' J' => v = none ∧ (dP I' b ∧ I' 87 1 = b ∧ J' 90 = PK b ∧ (∀ a, a ≠ 87 → a ≠ 89 → I' a = I a) ∧ ∀ a, a ≠ 90 → J' a = J a)) := by
  have hr : 0 ≤ I 87 1 ∧ I 87 1 ≤ 30 := by rcases hp with h | h <;> omega
  have q0 := q1.1
  refine Cz.of rfl (Nat.le_of_ble_eq_true rfl) [some (zr G 87)] rfl (fun E ok okr hE => ?_)
  refine Z_aload0 (pc := 0) ok dX1_preparePacked_0 ?_
  refine g_X1_packedN (pc := 1) ok dX1_preparePacked_1 kw167 rfl ?_
  refine Z_aload0 (pc := 4) ok dX1_preparePacked_4 ?_
  refine g_X1_n (pc := 5) ok dX1_preparePacked_5 kw166 rfl ?_
  refine Z_icmp_eq (pc := 8) (tgt := 23) ok dX1_preparePacked_8 rfl (by first | omega | (simp [sz, uz] <;> omega)) (by first | omega | (simp [sz, uz] <;> omega)) (fun h => ?_) (fun h => ?_)
  · refine Z_vret (pc := 23) ok okr dX1_preparePacked_23 ?_
    rw [q0] at h
    refine ⟨rfl, q1, h, ?_, fun _ _ _ => rfl, fun _ _ => rfl⟩
    rcases hp with h3 | h3
    · omega
    · rw [h] at h3; exact h3.2
  · refine Z_aload0 (pc := 11) ok dX1_preparePacked_11 ?_
    refine Z_aload0 (pc := 12) ok dX1_preparePacked_12 ?_
    refine g_X1_n (pc := 13) ok dX1_preparePacked_13 kw166 rfl ?_
    refine p_X1_packedN (pc := 16) ok dX1_preparePacked_16 kw167 rfl ?_
    refine Z_aload0 (pc := 19) ok dX1_preparePacked_19 ?_
    rw [q0]
    refine Z_callVV (pc := 20) ok dX1_preparePacked_20 cw_X1_36 rfl rfl (by decide) (c_makePacked hb (by refine ⟨?_, ?_, ?_, ?_⟩ <;> simp [sz, uz, q1.1, q1.2.1, q1.2.2.1, q1.2.2.2])) rfl rfl (by first | decide | omega) (Nat.le_of_ble_eq_true rfl) (fun I2 J2 q5 => ?_)
    refine Z_vret (pc := 23) ok okr dX1_preparePacked_23 ?_
    obtain ⟨f, rfl, rfl⟩ := q5
    refine ⟨rfl, ?_, ?_, ?_, fun a a1 a3 => ?_, fun a a1 => ?_⟩
    · refine ⟨?_, ?_, ?_, ?_⟩ <;> simp [sz, uz, q1.1, q1.2.1, q1.2.2.1, q1.2.2.2]
    · simp [sz, uz]
    · simp [sz]
    · simp [sz, a1, a3]
    · simp [sz, a1]
theorem c_addPacked {n e v : Int} (h2 : 2 ≤ n ∧ n ≤ 30) (hd : dP I n) (hp : J 90 = PK n) (he : 0 ≤ e ∧ e < n) (hv : -9 ≤ v ∧ v ≤ 9) : K_X1_addPacked l G [zr G 87, zr G 94, zi e, zi v] I J (pR none I (sz J 94 (fun i => J 94 i + PK n (4 * e + i) * v))) := by
  obtain ⟨d0, d1, d2, d3⟩ := hd
  have hdg := dg_b h2
  have q0 : ∀ g : Int → Int, sz J 94 g 90 = PK n := fun g => by rw [sz_ne _ _ (by decide)]; exact hp
  refine Cz.of rfl (Nat.le_of_ble_eq_true rfl) [some (zr G 87), some (zr G 94), some (zi e), some (zi v), none] rfl (fun E ok okr hE => ?_)
  refine Z_iconst (pc := 0) ok dX1_addPacked_0 ?_
  refine Z_istore4 (pc := 1) ok (by decide) dX1_addPacked_1 rfl ?_
  have H : ∀ i : Int, 0 ≤ i → i ≤ (DG n + 8 - 1) / 8 → ∀ g : Int → Int, (∀ j, 0 ≤ j → j < i → g j = J 94 j + PK n (4 * e + j) * v) → (∀ j, i ≤ j → g j = J 94 j) → Xz E G I (sz J 94 g) 3 [some (zr G 87), some (zr G 94), some (zi e), some (zi v), some (zi i)] [] := by
    refine zUp ?_ ?_
    · intro g g1 g2
      refine Z_ext1J (g := fun i => J 94 i + PK n (4 * e + i) * v) (fun j h0 h1 => ?_) ?_
      · have h1 : j < 4 := h1
        by_cases h : j < (DG n + 8 - 1) / 8
        · exact g1 j h0 h
        · rw [g2 j (by omega), PK_hi h2 he.1 he.2 (by omega) h1, Int.zero_mul, Int.add_zero]
      · refine Z_iload4 (pc := 3) ok dX1_addPacked_3 ?_
        refine Z_aload0 (pc := 5) ok dX1_addPacked_5 ?_
        refine g_X1_words (pc := 6) ok dX1_addPacked_6 kw168 rfl ?_
        refine Z_icmp_ge (pc := 9) (tgt := 39) ok dX1_addPacked_9 rfl (by first | omega | (simp [sz, uz] <;> omega)) (by first | omega | (simp [sz, uz] <;> omega)) (fun _ => ?_) (fun h => by exfalso; omega)
        refine Z_vret (pc := 39) ok okr dX1_addPacked_39 ?_
        exact ⟨rfl, rfl, rfl⟩
    · intro i i0 i1 ih g g1 g2
      refine Z_iload4 (pc := 3) ok dX1_addPacked_3 ?_
      refine Z_aload0 (pc := 5) ok dX1_addPacked_5 ?_
      refine g_X1_words (pc := 6) ok dX1_addPacked_6 kw168 rfl ?_
      refine Z_icmp_ge (pc := 9) (tgt := 39) ok dX1_addPacked_9 rfl (by first | omega | (simp [sz, uz] <;> omega)) (by first | omega | (simp [sz, uz] <;> omega)) (fun h => by exfalso; omega) (fun _ => ?_)
      refine Z_aload1 (pc := 12) ok dX1_addPacked_12 ?_
      refine Z_iload4 (pc := 13) ok dX1_addPacked_13 ?_
      refine Z_dup2 (pc := 15) ok dX1_addPacked_15 rfl rfl ?_
      refine Z_lald (pc := 16) (L := 4) ok dX1_addPacked_16 rfl rfl (by first | omega | (simp [sz, uz] <;> omega)) ?_
      refine Z_aload0 (pc := 17) ok dX1_addPacked_17 ?_
      refine g_X1_packed (pc := 18) (t := 90) ok dX1_addPacked_18 kw175 rfl rfl ?_
      refine Z_iload2 (pc := 21) ok dX1_addPacked_21 ?_
      refine Z_iconst (pc := 22) ok dX1_addPacked_22 ?_
      refine Z_imul (pc := 23) ok dX1_addPacked_23 ?_
      refine Z_iload4 (pc := 24) ok dX1_addPacked_24 ?_
      refine Z_iadd (pc := 26) ok dX1_addPacked_26 ?_
      refine Z_lald (pc := 27) (L := 120) ok dX1_addPacked_27 rfl rfl (by first | omega | (simp [sz, uz] <;> omega)) ?_
      refine Z_iload3 (pc := 28) ok dX1_addPacked_28 ?_
      refine Z_i2l (pc := 29) ok dX1_addPacked_29 (by first | omega | (simp [sz, uz] <;> omega)) ?_
      refine Z_lmul (pc := 30) ok dX1_addPacked_30 ?_
      refine Z_ladd (pc := 31) ok dX1_addPacked_31 ?_
      refine Z_last (pc := 32) (L := 4) ok dX1_addPacked_32 rfl rfl (by first | omega | (simp [sz, uz] <;> omega)) ?_
      refine Z_iinc4 (pc := 33) ok (by decide) dX1_addPacked_33 rfl ?_
      refine Z_goto (pc := 36) (tgt := 3) ok dX1_addPacked_36 rfl ?_
      rw [q0, sz_sz, sz_eq]
      refine ih _ (upto_s (p := fun j x => x = J 94 j + PK n (4 * e + j) * v) g1 ?_) (fun j hj => ?_)
      · rw [g2 i (Int.le_refl _), show e * 4 + i = 4 * e + i by omega]
      · rw [uz_ne _ _ (by omega)]; exact g2 j (by omega)
  have h := H 0 (by omega) (by omega) (J 94) (fun j h0 h1 => by omega) (fun _ _ => rfl)
  rw [sz_self] at h
  exact h
theorem c_isAtNought {n : Int} (h2 : 2 ≤ n ∧ n ≤ 30) {t : Int → Int} (ht : ∀ e, 0 ≤ t e ∧ t e ≤ 9) (hJ : J 94 = PS n t) : K_X10_isAtNought l G [zr G 91] I J (pR (some (zi (zb (nou n t)))) I J) := by
  refine Cz.of rfl (Nat.le_of_ble_eq_true rfl) [some (zr G 91), none] rfl (fun E ok okr hE => ?_)
  refine Z_iconst (pc := 0) ok dX10_isAtNought_0 ?_
  refine Z_istore1 (pc := 1) ok (by decide) dX10_isAtNought_1 rfl ?_
  have H : ∀ i : Int, 0 ≤ i → i ≤ 4 → (∀ w, 0 ≤ w → w < i → PS n t w = 0) → Xz E G I J 2 [some (zr G 91), some (zi i)] [] := by
    refine zUp ?_ ?_
    · intro hw
      refine Z_iload1 (pc := 2) ok dX10_isAtNought_2 ?_
      refine Z_iconst (pc := 3) ok dX10_isAtNought_3 ?_
      refine Z_icmp_ge (pc := 4) (tgt := 26) ok dX10_isAtNought_4 rfl (by first | omega | (simp [sz, uz] <;> omega)) (by first | omega | (simp [sz, uz] <;> omega)) (fun _ => ?_) (fun h => by exfalso; omega)
      refine Z_iconst (pc := 26) ok dX10_isAtNought_26 ?_
      refine Z_bret (pc := 27) ok okr dX10_isAtNought_27 (by first | exact Or.inl rfl | exact Or.inr rfl | exact zb_01 _ | assumption | omega) ?_
      exact ⟨by rw [zb_t ((PS_nou h2 ht).mp hw)], rfl, rfl⟩
    · intro i i0 i1 ih hw
      have hr := PS_r h2 ht (w := i) (by omega)
      rw [← hJ] at hr
      refine Z_iload1 (pc := 2) ok dX10_isAtNought_2 ?_
      refine Z_iconst (pc := 3) ok dX10_isAtNought_3 ?_
      refine Z_icmp_ge (pc := 4) (tgt := 26) ok dX10_isAtNought_4 rfl (by first | omega | (simp [sz, uz] <;> omega)) (by first | omega | (simp [sz, uz] <;> omega)) (fun h => by exfalso; omega) (fun _ => ?_)
      refine Z_aload0 (pc := 7) ok dX10_isAtNought_7 ?_
      refine g_X10_sum (pc := 8) (t := 94) ok dX10_isAtNought_8 kw201 rfl rfl ?_
      refine Z_iload1 (pc := 11) ok dX10_isAtNought_11 ?_
      refine Z_lald (pc := 12) (L := 4) ok dX10_isAtNought_12 rfl rfl (by first | omega | (simp [sz, uz] <;> omega)) ?_
      refine Z_lconst (pc := 13) (z := 0) ok dX10_isAtNought_13 (by decide) ?_
      refine Z_lcmp (pc := 14) ok dX10_isAtNought_14 (by first | omega | (simp [sz, uz] <;> omega)) (by first | omega | (simp [sz, uz] <;> omega)) ?_
      refine Z_if_eqC (pc := 15) (tgt := 20) ok dX10_isAtNought_15 rfl (fun h => ?_) (fun h => ?_)
      · refine Z_iinc1 (pc := 20) ok (by decide) dX10_isAtNought_20 rfl ?_
        refine Z_goto (pc := 23) (tgt := 2) ok dX10_isAtNought_23 rfl ?_
        rw [hJ] at h
        exact ih (fun j h3 h4 => by by_cases h5 : j = i; subst h5; exact h; exact hw j h3 (by omega))
      · refine Z_iconst (pc := 18) ok dX10_isAtNought_18 ?_
        refine Z_bret (pc := 19) ok okr dX10_isAtNought_19 (by first | exact Or.inl rfl | exact Or.inr rfl | exact zb_01 _ | assumption | omega) ?_
        rw [hJ] at h
        exact ⟨by rw [zb_f (fun q => h ((PS_nou h2 ht).mpr q i i0 i1))], rfl, rfl⟩
  exact H 0 (by omega) (by omega) (fun j h3 h4 => by omega)
end
