/-! rows of bits -/
def pcN : Nat → Nat → Nat
  | 0, _ => 0
  | k + 1, x => x % 2 + pcN k (x / 2)
def bc (x : Int) : Int := ((pcN 12 x.toNat : Nat) : Int)
def ush (x y : Int32) : Int32 := (x.toUInt32 >>> (y.toUInt32 &&& Int32.toUInt32 31)).toInt32
def bcI (x : Int32) : Int32 :=
  let b1 := x - (ush x (Int32.ofInt 1) &&& 1431655765)
  let b2 := (b1 &&& 858993459) + (ush b1 (Int32.ofInt 2) &&& 858993459)
  let b3 := (b2 + ush b2 (Int32.ofInt 4)) &&& 252645135
  let b4 := b3 + ush b3 ((Int8.ofInt 8).toInt32)
  let b5 := b4 + ush b4 ((Int8.ofInt 16).toInt32)
  b5 &&& ((Int8.ofInt 63).toInt32)
theorem bc_all : (List.range 4096).all (fun x => decide (bcI (Int32.ofInt (x : Int)) = Int32.ofInt ((pcN 12 x : Nat) : Int))) = true := by decide +kernel
theorem bc_eq {x : Int} (h : 0 ≤ x ∧ x < 4096) : bcI (Int32.ofInt x) = Int32.ofInt (bc x) := by
  have := List.all_eq_true.mp bc_all x.toNat (List.mem_range.mpr (by omega))
  simp only [decide_eq_true_eq] at this
  rw [Int.toNat_of_nonneg h.1] at this
  exact this
theorem pcN_b : ∀ k x, pcN k x ≤ k
  | 0, _ => Nat.le_refl _
  | k + 1, x => by have := pcN_b k (x / 2); simp only [pcN]; omega
theorem bc_b (x : Int) : 0 ≤ bc x ∧ bc x ≤ 12 := by have := pcN_b 12 x.toNat; simp only [bc]; omega
/-- only all roots together have the most ones -/
def fuOk (n : Nat) : Bool := (List.range (2 ^ n - 1)).all (fun x => decide (pcN 12 x < pcN 12 (2 ^ n - 1)))
theorem fu_all : (List.range 11).all (fun k => fuOk (k + 2)) = true := by decide +kernel
def zand (a b : Int) : Int := ((a.toNat &&& b.toNat : Nat) : Int)
def zor (a b : Int) : Int := ((a.toNat ||| b.toNat : Nat) : Int)
theorem and32 {a b : Int} (ha : 0 ≤ a) (hb : 0 ≤ b) : Int32.ofInt a &&& Int32.ofInt b = Int32.ofInt (zand a b) := by
  obtain ⟨A, rfl⟩ := Int.eq_ofNat_of_zero_le ha
  obtain ⟨B, rfl⟩ := Int.eq_ofNat_of_zero_le hb
  rw [zand, Int32.ofInt_eq_ofNat, Int32.ofInt_eq_ofNat, Int32.ofInt_eq_ofNat]
  apply Int32.toBitVec_inj.mp
  rw [Int32.toBitVec_and]
  show BitVec.ofNat 32 A &&& BitVec.ofNat 32 B = BitVec.ofNat 32 _
  rw [← BitVec.ofNat_and]; rfl
theorem or32 {a b : Int} (ha : 0 ≤ a) (hb : 0 ≤ b) : Int32.ofInt a ||| Int32.ofInt b = Int32.ofInt (zor a b) := by
  obtain ⟨A, rfl⟩ := Int.eq_ofNat_of_zero_le ha
  obtain ⟨B, rfl⟩ := Int.eq_ofNat_of_zero_le hb
  rw [zor, Int32.ofInt_eq_ofNat, Int32.ofInt_eq_ofNat, Int32.ofInt_eq_ofNat]
  apply Int32.toBitVec_inj.mp
  rw [Int32.toBitVec_or]
  show BitVec.ofNat 32 A ||| BitVec.ofNat 32 B = BitVec.ofNat 32 _
  rw [← BitVec.ofNat_or]; rfl
theorem shk : ∀ k, k < 32 → ((Int32.ofInt ((k : Nat) : Int) &&& 31).toBitVec.smod 32).toNat = k := by decide +kernel
theorem shp : ∀ k, k < 32 → BitVec.twoPow 32 k = (Int32.ofInt (2 ^ k)).toBitVec := by decide +kernel
theorem shl32 (a : Int) {s : Int} (h : 0 ≤ s ∧ s < 32) : Int32.ofInt a <<< (Int32.ofInt s &&& 31) = Int32.ofInt (a * 2 ^ s.toNat) := by
  obtain ⟨k, rfl⟩ := Int.eq_ofNat_of_zero_le h.1
  apply Int32.toBitVec_inj.mp
  rw [Int32.toBitVec_shiftLeft, Int32.ofInt_mul, Int32.toBitVec_mul, BitVec.shiftLeft_eq', BitVec.shiftLeft_eq_mul_twoPow, shk k (by omega), shp k (by omega)]
  rfl
theorem shr32 {a s : Int} (ha : 0 ≤ a ∧ a ≤ 2147483647) (h : 0 ≤ s ∧ s < 32) : Int32.ofInt a >>> (Int32.ofInt s &&& 31) = Int32.ofInt (a / 2 ^ s.toNat) := by
  obtain ⟨k, rfl⟩ := Int.eq_ofNat_of_zero_le h.1
  apply Int32.toInt_inj.mp
  have e1 : (Int32.ofInt a >>> (Int32.ofInt (k : Int) &&& 31)).toInt = a / 2 ^ k := by
    show (Int32.ofInt a >>> (Int32.ofInt (k : Int) &&& 31)).toBitVec.toInt = _
    rw [Int32.toBitVec_shiftRight, BitVec.sshiftRight_eq', BitVec.toInt_sshiftRight, shk k (by omega)]
    have : (Int32.ofInt a).toBitVec.toInt = a := t32 (by omega)
    rw [this, Int.shiftRight_eq_div_pow]
    simp
  rw [e1]
  have h2 : 0 ≤ a / 2 ^ k ∧ a / 2 ^ k ≤ a := di_b ha.1 (Int.pow_pos (by decide))
  rw [show ((k : Int)).toNat = k by simp, t32 (by omega)]
section
variable {E : Ev} {G : Gw} {I J : Mz} {own : String} {cc : ByteArray} {n d pc : Nat} {lo : List (Option Value)} {st : List Value}
theorem Z_iandN (ok : Ok E G own cc n d) {a b : Int} (hd : decode cc pc = .ok (.iand, 1)) (ha : 0 ≤ a) (hb : 0 ≤ b) (k : Xz E G I J (pc + 1) lo (zi (zand a b) :: st)) : Xz E G I J pc lo (zi b :: zi a :: st) := V_iand ok hd (by rw [and32 ha hb]; exact k)
theorem Z_iorN (ok : Ok E G own cc n d) {a b : Int} (hd : decode cc pc = .ok (.ior, 1)) (ha : 0 ≤ a) (hb : 0 ≤ b) (k : Xz E G I J (pc + 1) lo (zi (zor a b) :: st)) : Xz E G I J pc lo (zi b :: zi a :: st) := V_ior ok hd (by rw [or32 ha hb]; exact k)
theorem Z_ishl (ok : Ok E G own cc n d) {a b : Int} (hd : decode cc pc = .ok (.ishl, 1)) (hb : 0 ≤ b ∧ b < 32) (k : Xz E G I J (pc + 1) lo (zi (a * 2 ^ b.toNat) :: st)) : Xz E G I J pc lo (zi b :: zi a :: st) := V_ishl ok hd (by rw [shl32 a hb]; exact k)
theorem Z_ishr (ok : Ok E G own cc n d) {a b : Int} (hd : decode cc pc = .ok (.ishr, 1)) (ha : 0 ≤ a ∧ a ≤ 2147483647) (hb : 0 ≤ b ∧ b < 32) (k : Xz E G I J (pc + 1) lo (zi (a / 2 ^ b.toNat) :: st)) : Xz E G I J pc lo (zi b :: zi a :: st) := V_ishr ok hd (by rw [shr32 ha hb]; exact k)
end
theorem p2_b {n : Int} (h : 2 ≤ n ∧ n ≤ 12) : 4 ≤ (2 : Int) ^ n.toNat ∧ (2 : Int) ^ n.toNat ≤ 4096 := by
  have : n = 2 ∨ n = 3 ∨ n = 4 ∨ n = 5 ∨ n = 6 ∨ n = 7 ∨ n = 8 ∨ n = 9 ∨ n = 10 ∨ n = 11 ∨ n = 12 := by omega
  rcases this with rfl | rfl | rfl | rfl | rfl | rfl | rfl | rfl | rfl | rfl | rfl <;> decide
theorem bc_full {n x : Int} (h : 2 ≤ n ∧ n ≤ 12) (h0 : 0 ≤ x) (h1 : x < 2 ^ n.toNat - 1) : bc x < bc (2 ^ n.toNat - 1) := by
  have h2 := List.all_eq_true.mp fu_all (n.toNat - 2) (List.mem_range.mpr (by omega))
  rw [show n.toNat - 2 + 2 = n.toNat by omega] at h2
  have hp := p2_b h
  have e : ((2 : Int) ^ n.toNat - 1).toNat = 2 ^ n.toNat - 1 := by
    have : (2 : Int) ^ n.toNat = ((2 ^ n.toNat : Nat) : Int) := by simp
    rw [this]; omega
  have h3 := List.all_eq_true.mp h2 x.toNat (List.mem_range.mpr (by omega))
  simp only [decide_eq_true_eq] at h3
  simp only [bc]; rw [e]; omega
/-- NOUGHT as bits -/
def one1 : Int → Int := fun _ => 1
def NB (n b : Int) : Prop := nou n (dcv one1 n.toNat 0 b)
theorem prR1 : ∀ (m : Nat) (e : Int), prR one1 m e = 2 ^ m
  | 0, _ => rfl
  | m + 1, e => by simp only [prR]; rw [prR1 m (e + 1), Int.pow_succ, Int.mul_comm]; rfl
def addL (A r : List Int) : List Int := (List.range A.length).map (fun i => A.getD i 0 + r.getD i 0)
def cntZ : List (List Int) → List Int → Nat
  | [], A => if A.all (fun v => v == 0) then 1 else 0
  | r :: R, A => cntZ R A + cntZ R (addL A r)
theorem cnt_all : (List.range 11).all (fun k => decide (cntZ (lvT.getD k []) (List.replicate (DG ((k : Int) + 2)).toNat 0) ≤ 128)) = true := by decide +kernel
theorem SV_c {c : Int → Int} : ∀ (m : Nat) (e : Int) (F H : (Int → Int) → Int), (∀ t, (∀ j, j < e ∨ e + m ≤ j → t j = 0) → F t = H t) → SV c m e F = SV c m e H
  | 0, e, F, H, h => h _ (fun _ _ => rfl)
  | m + 1, e, F, H, h => by
    simp only [SV]
    refine su_c (fun v _ _ => SV_c m (e + 1) _ _ (fun t ht => h _ (fun j hj => ?_)))
    rw [if_neg (by omega)]; exact ht j (by omega)
theorem rst_uz {n e v i : Int} (t : Int → Int) (h0 : 0 ≤ e) (h1 : e < n) : rst n (uz t e v) i = rst n t i + LV n e i * (v - t e) := by
  have e1 : rst n (uz t e v) i = su (uz (fun e => LV n e i * t e) e (LV n e i * v)) n := by
    simp only [rst]
    refine su_c (fun j _ _ => ?_)
    by_cases h : j = e
    · subst h; rw [uz_eq, uz_eq]
    · rw [uz_ne _ _ h, uz_ne _ _ h]
  rw [e1, su_uz _ h0 h1, Int.mul_sub]
  simp only [rst]; omega
theorem SV_cnt {n : Int} (dg : Nat) : ∀ (R : List (List Int)) (e : Nat) (A : List Int), (R.length : Int) + e = n → (∀ (j : Nat) (r : List Int), R[j]? = some r → ∀ i : Nat, LV n ((e + j : Nat) : Int) i = r.getD i 0) → A.length = dg → SV one1 R.length e (fun t => zb (∀ i : Nat, i < dg → A.getD i 0 + rst n t i = 0)) = (cntZ R A : Int)
  | [], e, A, hl, hr, hA => by
    simp only [List.length_nil, SV, cntZ]
    have hz : ∀ i : Int, rst n (fun _ => 0) i = 0 := fun i => by
      simp only [rst]; rw [su_c (g := fun _ => 0) (fun j _ _ => Int.mul_zero _), su_00]
    by_cases h : A.all (fun v => v == 0) = true
    · rw [if_pos h, zb_t]
      · rfl
      · intro i hi
        rw [hz, Int.add_zero]
        have : A[i]? = some A[i] := by simp
        simp only [List.getD_eq_getElem?_getD, this, Option.getD_some]
        simpa using List.all_eq_true.mp h A[i] (List.getElem_mem _)
    · rw [if_neg h, zb_f]
      · rfl
      · intro hq
        refine h (List.all_eq_true.mpr (fun v hv => ?_))
        obtain ⟨i, hi⟩ := List.getElem?_of_mem hv
        have hlt := (List.getElem?_eq_some_iff.mp hi).1
        have := hq i (by omega)
        rw [hz, Int.add_zero] at this
        simp only [List.getD_eq_getElem?_getD, hi, Option.getD_some] at this
        simp [this]
  | r :: R, e, A, hl, hr, hA => by
    have hl2 : (R.length : Int) + ((e + 1 : Nat) : Int) = n := by simp at hl; omega
    have hr0 : ∀ i : Nat, LV n (e : Int) i = r.getD i 0 := fun i => by have := hr 0 r rfl i; simpa using this
    have hr2 : ∀ (j : Nat) (r' : List Int), R[j]? = some r' → ∀ i : Nat, LV n ((e + 1 + j : Nat) : Int) i = r'.getD i 0 := fun j r' hj i => by
      have := hr (j + 1) r' (by simpa using hj) i
      rw [show e + 1 + j = e + (j + 1) by omega]; exact this
    have i1 := SV_cnt dg R (e + 1) A hl2 hr2 hA
    have i2 := SV_cnt dg R (e + 1) (addL A r) hl2 hr2 (by simp [addL, hA])
    simp only [List.length_cons, SV, cntZ]
    have key : ∀ v : Int, SV one1 R.length ((e : Int) + 1) (fun t => zb (∀ i : Nat, i < dg → A.getD i 0 + rst n (fun j => if j = (e : Int) then v else t j) i = 0)) = SV one1 R.length ((e + 1 : Nat) : Int) (fun t => zb (∀ i : Nat, i < dg → A.getD i 0 + r.getD i 0 * v + rst n t i = 0)) := by
      intro v
      rw [show ((e + 1 : Nat) : Int) = (e : Int) + 1 by omega]
      refine SV_c _ _ _ _ (fun t ht => ?_)
      congr 1
      have e1 : (fun j => if j = (e : Int) then v else t j) = uz t e v := rfl
      have e2 : t e = 0 := ht e (by omega)
      refine propext ⟨fun q i hi => ?_, fun q i hi => ?_⟩
      · have := q i hi
        rw [e1, rst_uz t (by omega) (by omega), e2, hr0, Int.sub_zero] at this
        omega
      · have := q i hi
        rw [e1, rst_uz t (by omega) (by omega), e2, hr0, Int.sub_zero]
        omega
    show su (fun v => SV one1 R.length ((e : Int) + 1) (fun t => zb (∀ i : Nat, i < dg → A.getD i 0 + rst n (fun j => if j = (e : Int) then v else t j) i = 0))) 2 = _
    rw [show (2 : Int) = 0 + 1 + 1 from rfl, su_s _ (by omega), su_s _ (by omega), su_0, Int.zero_add, Int.zero_add, key 0, key 1]
    have e3 : (fun t : Int → Int => zb (∀ i : Nat, i < dg → A.getD i 0 + r.getD i 0 * 0 + rst n t i = 0)) = fun t => zb (∀ i : Nat, i < dg → A.getD i 0 + rst n t i = 0) := by
      funext t; simp
    have e4 : (fun t : Int → Int => zb (∀ i : Nat, i < dg → A.getD i 0 + r.getD i 0 * 1 + rst n t i = 0)) = fun t => zb (∀ i : Nat, i < dg → (addL A r).getD i 0 + rst n t i = 0) := by
      funext t
      congr 1
      refine propext ⟨fun q i hi => ?_, fun q i hi => ?_⟩
      · have := q i hi
        have h5 : (addL A r).getD i 0 = A.getD i 0 + r.getD i 0 := by simp [addL, hA, hi]
        rw [h5]; omega
      · have := q i hi
        have h5 : (addL A r).getD i 0 = A.getD i 0 + r.getD i 0 := by simp [addL, hA, hi]
        rw [h5] at this; omega
    rw [e3, e4, i1, i2]; omega
theorem cb_le {n : Int} (h : 2 ≤ n ∧ n ≤ 12) : su (fun b => zb (NB n b)) (2 ^ n.toNat) ≤ 128 := by
  have hd := dg_b (n := n) (by omega)
  obtain ⟨R, l0, l1, l2, l3⟩ := lv_row (n := n) (by omega)
  have h1 := SV_cnt (n := n) (DG n).toNat R 0 (List.replicate (DG n).toNat 0) (by omega) (fun j r hj i => by rw [Nat.zero_add]; exact l2 j r hj i) (by simp)
  have h2 := List.all_eq_true.mp cnt_all (n.toNat - 2) (List.mem_range.mpr (by omega))
  simp only [decide_eq_true_eq] at h2
  rw [show (((n.toNat - 2 : Nat) : Int) + 2) = n by omega, List.getD_eq_getElem?_getD, l0, Option.getD_some] at h2
  have h3 : su (fun b => zb (NB n b)) (2 ^ n.toNat) = SV one1 n.toNat 0 (fun t => zb (nou n t)) := by
    rw [← SV_su (c := one1) (fun _ => by show (0 : Int) ≤ 1; omega), prR1]; rfl
  rw [h3]
  rw [l1] at h1
  have h4 : (fun t : Int → Int => zb (∀ i : Nat, i < (DG n).toNat → (List.replicate (DG n).toNat (0 : Int)).getD i 0 + rst n t i = 0)) = fun t => zb (nou n t) := by
    funext t
    congr 1
    refine propext ⟨fun q i i0 i1 => ?_, fun q i hi => ?_⟩
    · have := q i.toNat (by omega)
      rw [Int.toNat_of_nonneg i0] at this
      simp [List.getD_eq_getElem?_getD, List.getElem?_replicate] at this
      split at this <;> simpa using this
    · have := q (i : Int) (by omega) (by omega)
      rw [this]
      simp [List.getD_eq_getElem?_getD, List.getElem?_replicate]
      split <;> rfl
  rw [h4] at h1
  have : SV one1 n.toNat 0 (fun t => zb (nou n t)) = (cntZ R (List.replicate (DG n).toNat 0) : Int) := h1
  omega
