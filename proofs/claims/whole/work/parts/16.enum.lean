/-! all that can be taken of a row, one behind the other -/
def dcv (c : Int → Int) : Nat → Int → Int → (Int → Int)
  | 0, _, _ => fun _ => 0
  | m + 1, e, k => fun j => if j = e then k % (c e + 1) else dcv c m (e + 1) (k / (c e + 1)) j
def prR (c : Int → Int) : Nat → Int → Int
  | 0, _ => 1
  | m + 1, e => (c e + 1) * prR c m (e + 1)
theorem prN_R (c : Int → Int) : ∀ (m a : Nat), prN c (a + m) = prN c a * prR c m a
  | 0, a => by simp [prR]
  | m + 1, a => by
    rw [show a + (m + 1) = a + 1 + m by omega, prN_R c m (a + 1)]
    simp only [prN, prR]
    rw [Int.mul_assoc]; rfl
theorem pr_R (c : Int → Int) (n : Int) : pr c n = prR c n.toNat 0 := by
  have := prN_R c n.toNat 0
  rw [Nat.zero_add] at this
  rw [pr, this]; simp [prN]
theorem prR_pos {c : Int → Int} (hc : ∀ e, 0 ≤ c e) : ∀ (m : Nat) (e : Int), 1 ≤ prR c m e
  | 0, _ => Int.le_refl 1
  | m + 1, e => by
    have h1 := prR_pos hc m (e + 1)
    have h2 := hc e
    have : 1 * 1 ≤ (c e + 1) * prR c m (e + 1) := Int.mul_le_mul (by omega) h1 (by omega) (by omega)
    simpa [prR] using this
theorem dcv_out (c : Int → Int) : ∀ (m : Nat) (e k j : Int), j < e ∨ e + m ≤ j → dcv c m e k j = 0
  | 0, _, _, _, _ => rfl
  | m + 1, e, k, j, h => by
    simp only [dcv]
    rw [if_neg (by omega)]
    exact dcv_out c m _ _ j (by omega)
theorem dcv_b {c : Int → Int} (hc : ∀ e, 0 ≤ c e) : ∀ (m : Nat) (e k j : Int), 0 ≤ dcv c m e k j ∧ dcv c m e k j ≤ c j
  | 0, _, _, j => ⟨Int.le_refl 0, hc j⟩
  | m + 1, e, k, j => by
    simp only [dcv]
    split
    · next h =>
      subst h
      have := em_b k (show 0 < c j + 1 by have := hc j; omega)
      omega
    · exact dcv_b hc m _ _ j
theorem dm_u {k r a b : Int} (hr : 0 < r) (h : k = r * b + a) (h0 : 0 ≤ a) (h1 : a < r) : k / r = b ∧ k % r = a := (Int.ediv_emod_unique hr).mpr ⟨by omega, h0, h1⟩
theorem dcv_nx {c : Int → Int} (hc : ∀ e, 0 ≤ c e) : ∀ (m : Nat) (e k : Int), 0 ≤ k → k < prR c m e → (∃ e', (e ≤ e' ∧ e' < e + m) ∧ (∀ j, e ≤ j → j < e' → dcv c m e k j = c j) ∧ dcv c m e k e' < c e' ∧ k + 1 < prR c m e ∧ dcv c m e (k + 1) = nx (dcv c m e k) e') ∨ ((∀ j, e ≤ j → j < e + m → dcv c m e k j = c j) ∧ prR c m e ≤ k + 1)
  | 0, e, k, h0, h1 => by
    refine Or.inr ⟨fun j a b => by omega, ?_⟩
    simp only [prR]; omega
  | m + 1, e, k, h0, h1 => by
    have hce := hc e
    have hr : 0 < c e + 1 := by omega
    have hP := prR_pos hc m (e + 1)
    simp only [prR] at h1
    have hk : k = (c e + 1) * (k / (c e + 1)) + k % (c e + 1) := (Int.mul_ediv_add_emod k (c e + 1)).symm
    have ha := em_b k hr
    have hb : 0 ≤ k / (c e + 1) := Int.ediv_nonneg h0 (by omega)
    have hb2 : k / (c e + 1) < prR c m (e + 1) := Int.ediv_lt_of_lt_mul hr (by rw [Int.mul_comm]; exact h1)
    by_cases h : k % (c e + 1) < c e
    · refine Or.inl ⟨e, by omega, fun j a b => by omega, ?_, ?_, ?_⟩
      · simp only [dcv, if_pos]; exact h
      · simp only [prR]
        have : (c e + 1) * (k / (c e + 1) + 1) ≤ (c e + 1) * prR c m (e + 1) := Int.mul_le_mul_of_nonneg_left (by omega) (by omega)
        rw [Int.mul_add] at this
        omega
      · obtain ⟨q1, q2⟩ := dm_u (k := k + 1) (r := c e + 1) (a := k % (c e + 1) + 1) (b := k / (c e + 1)) hr (by omega) (by omega) (by omega)
        funext j
        simp only [dcv, nx, q1, q2]
        by_cases hj : j = e
        · simp [hj]
        · rw [if_neg hj, if_neg hj]
          by_cases hj2 : j < e
          · rw [if_pos hj2]; exact dcv_out c m _ _ j (by omega)
          · rw [if_neg hj2, if_neg hj]
    · obtain ⟨q1, q2⟩ := dm_u (k := k + 1) (r := c e + 1) (a := 0) (b := k / (c e + 1) + 1) hr (by rw [Int.mul_add]; omega) (by omega) (by omega)
      rcases dcv_nx hc m (e + 1) (k / (c e + 1)) hb hb2 with ⟨e', a1, a2, a3, a4, a5⟩ | ⟨a1, a2⟩
      · refine Or.inl ⟨e', by omega, fun j b1 b2 => ?_, ?_, ?_, ?_⟩
        · simp only [dcv]
          by_cases hj : j = e
          · rw [if_pos hj, hj]; omega
          · rw [if_neg hj]; exact a2 j (by omega) b2
        · simp only [dcv]; rw [if_neg (by omega)]; exact a3
        · simp only [prR]
          have : (c e + 1) * (k / (c e + 1) + 1) < (c e + 1) * prR c m (e + 1) := Int.mul_lt_mul_of_pos_left a4 hr
          rw [Int.mul_add] at this
          omega
        · funext j
          simp only [dcv, q1, q2, nx]
          by_cases hj : j = e
          · rw [if_pos hj, if_pos (by omega)]
          · rw [if_neg hj, a5, if_neg (show e' ≠ e by omega), if_neg hj]; rfl
      · refine Or.inr ⟨fun j b1 b2 => ?_, ?_⟩
        · simp only [dcv]
          by_cases hj : j = e
          · rw [if_pos hj, hj]; omega
          · rw [if_neg hj]; exact a1 j (by omega) (by omega)
        · simp only [prR]
          have : (c e + 1) * prR c m (e + 1) ≤ (c e + 1) * (k / (c e + 1) + 1) := Int.mul_le_mul_of_nonneg_left a2 (by omega)
          rw [Int.mul_add] at this
          omega
theorem dcv_0 (c : Int → Int) : ∀ (m : Nat) (e : Int), dcv c m e 0 = fun _ => 0
  | 0, _ => rfl
  | m + 1, e => by
    funext j
    simp only [dcv, Int.zero_emod, Int.zero_ediv]
    rw [dcv_0 c m (e + 1)]; split <;> rfl
theorem dcv_on {c t : Int → Int} (hc : ∀ e, 0 ≤ c e) : ∀ (m : Nat) (e : Int), (∀ j, 0 ≤ t j ∧ t j ≤ c j) → (∀ j, j < e ∨ e + m ≤ j → t j = 0) → ∃ k, (0 ≤ k ∧ k < prR c m e) ∧ dcv c m e k = t
  | 0, e, _, h => ⟨0, by simp [prR], by funext j; exact (h j (by omega)).symm⟩
  | m + 1, e, hb, h => by
    have hce := hc e
    obtain ⟨k, k1, k2⟩ := dcv_on (t := fun j => if j = e then 0 else t j) hc m (e + 1) (fun j => by
      show 0 ≤ (if j = e then 0 else t j) ∧ (if j = e then 0 else t j) ≤ c j
      split
      · have := hc j; omega
      · exact hb j) (fun j hj => by
      show (if j = e then 0 else t j) = 0
      split
      · rfl
      · exact h j (by omega))
    have he := hb e
    obtain ⟨q1, q2⟩ := dm_u (k := (c e + 1) * k + t e) (r := c e + 1) (a := t e) (b := k) (by omega) rfl he.1 (by omega)
    refine ⟨(c e + 1) * k + t e, ⟨?_, ?_⟩, ?_⟩
    · have : 0 ≤ (c e + 1) * k := Int.mul_nonneg (by omega) k1.1
      omega
    · simp only [prR]
      have : (c e + 1) * (k + 1) ≤ (c e + 1) * prR c m (e + 1) := Int.mul_le_mul_of_nonneg_left (by omega) (by omega)
      rw [Int.mul_add] at this
      omega
    · funext j
      simp only [dcv, q1, q2, k2]
      split
      · next hj => rw [hj]
      · rfl
/-- sums over all of them -/
def SV (c : Int → Int) : Nat → Int → ((Int → Int) → Int) → Int
  | 0, _, F => F (fun _ => 0)
  | m + 1, e, F => su (fun v => SV c m (e + 1) (fun t => F (fun j => if j = e then v else t j))) (c e + 1)
theorem su_split (f : Int → Int) {a b : Int} (ha : 0 ≤ a) (hb : 0 ≤ b) : su f (a + b) = su f a + su (fun j => f (a + j)) b := by
  obtain ⟨k, rfl⟩ := Int.eq_ofNat_of_zero_le hb
  induction k with
  | zero => rw [show ((0 : Nat) : Int) = 0 from rfl, Int.add_zero, su_0, Int.add_zero]
  | succ k ih =>
    have ih := ih (by omega)
    rw [show a + ((k + 1 : Nat) : Int) = a + k + 1 by omega, su_s _ (by omega), ih, show ((k + 1 : Nat) : Int) = (k : Int) + 1 by omega, su_s _ (by omega)]
    omega
theorem su_dm (H : Int → Int → Int) {r : Int} (hr : 0 < r) (P : Nat) : su (fun k => H (k % r) (k / r)) (r * P) = su (fun b => su (fun a => H a b) r) P := by
  induction P with
  | zero => rw [show r * ((0 : Nat) : Int) = 0 by simp]; rfl
  | succ P ih =>
    have h0 : 0 ≤ r * (P : Int) := Int.mul_nonneg (by omega) (by omega)
    rw [show r * ((P + 1 : Nat) : Int) = r * P + r by rw [show ((P + 1 : Nat) : Int) = (P : Int) + 1 by omega, Int.mul_add, Int.mul_one], su_split _ h0 (by omega), ih, show ((P + 1 : Nat) : Int) = (P : Int) + 1 by omega, su_s _ (by omega)]
    congr 1
    refine su_c (fun j j0 j1 => ?_)
    obtain ⟨q1, q2⟩ := dm_u (k := r * P + j) (r := r) (a := j) (b := P) hr rfl j0 j1
    show H ((r * P + j) % r) ((r * P + j) / r) = H j P
    rw [q1, q2]
theorem SV_su {c : Int → Int} (hc : ∀ e, 0 ≤ c e) : ∀ (m : Nat) (e : Int) (F : (Int → Int) → Int), su (fun k => F (dcv c m e k)) (prR c m e) = SV c m e F
  | 0, e, F => by
    show su (fun k => F (fun _ => 0)) 1 = F (fun _ => 0)
    rw [show (1 : Int) = 0 + 1 from rfl, su_s _ (by omega), su_0, Int.zero_add]
  | m + 1, e, F => by
    have hP := prR_pos hc m (e + 1)
    obtain ⟨P, hP2⟩ := Int.eq_ofNat_of_zero_le (show 0 ≤ prR c m (e + 1) by omega)
    have h1 := su_dm (fun a b => F (fun j => if j = e then a else dcv c m (e + 1) b j)) (r := c e + 1) (by have := hc e; omega) P
    rw [su_swap] at h1
    have h2 : su (fun k => F (dcv c (m + 1) e k)) (prR c (m + 1) e) = su (fun k => F (fun j => if j = e then k % (c e + 1) else dcv c m (e + 1) (k / (c e + 1)) j)) ((c e + 1) * P) := by
      rw [← hP2]; rfl
    rw [h2, h1]
    simp only [SV]
    refine su_c (fun v _ _ => ?_)
    rw [← SV_su hc m (e + 1), hP2]
theorem su_zb (P : Int → Prop) {e : Int} (h : 0 ≤ e) : 0 ≤ su (fun k => zb (P k)) e ∧ su (fun k => zb (P k)) e ≤ e := by
  obtain ⟨k, rfl⟩ := Int.eq_ofNat_of_zero_le h
  induction k with
  | zero => exact ⟨Int.le_refl _, Int.le_refl _⟩
  | succ k ih =>
    have ih := ih (by omega)
    rw [show ((k + 1 : Nat) : Int) = (k : Int) + 1 by omega, su_s _ (by omega)]
    rcases zb_01 (P k) with h | h <;> rw [h] <;> omega
/-- of two rows the one with more of the first root that tells them apart -/
def lgt (n : Int) (a b : Int → Int) : Prop := ∃ e, 0 ≤ e ∧ e < n ∧ (∀ j, 0 ≤ j → j < e → a j = b j) ∧ b e < a e
theorem lgt_t {n : Int} {a b d : Int → Int} (h1 : lgt n a b) (h2 : lgt n b d) : lgt n a d := by
  obtain ⟨e, e0, e1, e2, e3⟩ := h1
  obtain ⟨f, f0, f1, f2, f3⟩ := h2
  rcases Int.lt_trichotomy e f with h | h | h
  · exact ⟨e, e0, e1, fun j j0 j1 => by rw [e2 j j0 j1]; exact f2 j j0 (by omega), by rw [← f2 e e0 h]; exact e3⟩
  · subst h; exact ⟨e, e0, e1, fun j j0 j1 => by rw [e2 j j0 j1]; exact f2 j j0 j1, by omega⟩
  · exact ⟨f, f0, f1, fun j j0 j1 => by rw [e2 j j0 (by omega)]; exact f2 j j0 j1, by rw [e2 f f0 h]; exact f3⟩
theorem lgt_3 {n : Int} (a b : Int → Int) (hn : 0 ≤ n) : lgt n a b ∨ lgt n b a ∨ ∀ j, 0 ≤ j → j < n → a j = b j := by
  have : ∀ k : Nat, (k : Int) ≤ n → lgt n a b ∨ lgt n b a ∨ ∀ j, 0 ≤ j → j < (k : Int) → a j = b j := by
    intro k
    induction k with
    | zero => intro _; exact Or.inr (Or.inr (fun j h0 h1 => by omega))
    | succ k ih =>
      intro hk
      rcases ih (by omega) with h | h | h
      · exact Or.inl h
      · exact Or.inr (Or.inl h)
      · rcases Int.lt_trichotomy (a k) (b k) with q | q | q
        · exact Or.inr (Or.inl ⟨k, by omega, by omega, fun j j0 j1 => (h j j0 j1).symm, q⟩)
        · refine Or.inr (Or.inr (fun j j0 j1 => ?_))
          by_cases hj : j = k
          · rw [hj]; exact q
          · exact h j j0 (by omega)
        · exact Or.inl ⟨k, by omega, by omega, h, q⟩
  have h := this n.toNat (by omega)
  rwa [Int.toNat_of_nonneg hn] at h
theorem lgt_n {n : Int} {a b : Int → Int} (h1 : lgt n a b) (h2 : lgt n b a) : False := by
  obtain ⟨e, e0, e1, e2, e3⟩ := lgt_t h1 h2
  omega
def vld (n : Int) (c t : Int → Int) : Prop := (∀ e, 0 ≤ t e ∧ t e ≤ c e) ∧ ∀ e, e < 0 ∨ n ≤ e → t e = 0
def good (n : Int) (t : Int → Int) : Prop := 0 < su t n ∧ nou n t
/-- what is found among the PARTS that are NOUGHT -/
def PSp (n : Int) (c : Int → Int) (al le ofl : Int) (fi : Int → Int) : Prop := al = SV c n.toNat 0 (fun t => zb (good n t)) ∧ (al = 0 → ofl = 0) ∧ (0 < al → good n fi ∧ su fi n = le ∧ vld n c fi ∧ (∀ t, vld n c t → good n t → le ≤ su t n ∧ (su t n = le → t = fi ∨ lgt n fi t)) ∧ ofl = SV c n.toNat 0 (fun t => zb (good n t ∧ su t n = le)))
/-- the same, of those up to the i-th -/
def PIn (n : Int) (c : Int → Int) (i al le ofl : Int) (fi : Int → Int) : Prop := al = su (fun k => zb (good n (dcv c n.toNat 0 k))) (i + 1) ∧ (al = 0 → ofl = 0) ∧ (0 < al → good n fi ∧ su fi n = le ∧ vld n c fi ∧ (∀ k, 0 ≤ k → k ≤ i → good n (dcv c n.toNat 0 k) → le ≤ su (dcv c n.toNat 0 k) n ∧ (su (dcv c n.toNat 0 k) n = le → dcv c n.toNat 0 k = fi ∨ lgt n fi (dcv c n.toNat 0 k))) ∧ ofl = su (fun k => zb (good n (dcv c n.toNat 0 k) ∧ su (dcv c n.toNat 0 k) n = le)) (i + 1))
theorem PIn_end {n : Int} {c : Int → Int} (hn : 0 ≤ n) (hc : ∀ e, 0 ≤ c e) {i al le ofl : Int} {fi : Int → Int} (hi : i + 1 = prR c n.toNat 0) (h : PIn n c i al le ofl fi) : PSp n c al le ofl fi := by
  obtain ⟨h1, h2, h3⟩ := h
  rw [hi, SV_su hc n.toNat 0 (fun t => zb (good n t))] at h1
  refine ⟨h1, h2, fun h0 => ?_⟩
  obtain ⟨a1, a2, a3, a4, a5⟩ := h3 h0
  rw [hi, SV_su hc n.toNat 0 (fun t => zb (good n t ∧ su t n = le))] at a5
  refine ⟨a1, a2, a3, fun t ht hg => ?_, a5⟩
  obtain ⟨k, k1, k2⟩ := dcv_on (t := t) hc n.toNat 0 ht.1 (fun j hj => ht.2 j (by omega))
  have := a4 k k1.1 (by omega) (by rw [k2]; exact hg)
  rwa [k2] at this
theorem dcv_v {n : Int} {c : Int → Int} (hn : 0 ≤ n) (hc : ∀ e, 0 ≤ c e) (k : Int) : vld n c (dcv c n.toNat 0 k) := ⟨dcv_b hc _ _ _, fun e he => dcv_out c _ _ _ e (by omega)⟩
theorem vld_eq {n : Int} {c a b : Int → Int} (ha : vld n c a) (hb : vld n c b) (h : ∀ j, 0 ≤ j → j < n → a j = b j) : a = b := by
  funext e
  by_cases h0 : e < 0 ∨ n ≤ e
  · rw [ha.2 e h0, hb.2 e h0]
  · exact h e (by omega) (by omega)
/-- one more that is no part that counts -/
theorem PIn_no {n : Int} {c : Int → Int} {i al le ofl : Int} {fi : Int → Int} (hi : 0 ≤ i) (h : PIn n c i al le ofl fi) (hg : ¬ good n (dcv c n.toNat 0 (i + 1))) : PIn n c (i + 1) al le ofl fi := by
  obtain ⟨h1, h2, h3⟩ := h
  refine ⟨by rw [su_s _ (by omega), zb_f hg, Int.add_zero]; exact h1, h2, fun h0 => ?_⟩
  obtain ⟨a1, a2, a3, a4, a5⟩ := h3 h0
  refine ⟨a1, a2, a3, fun k k0 k1 hk => ?_, by rw [su_s _ (by omega), zb_f (fun q => hg q.1), Int.add_zero]; exact a5⟩
  by_cases hki : k = i + 1
  · rw [hki] at hk; exact absurd hk hg
  · exact a4 k k0 (by omega) hk
/-- one more that counts: the least so far -/
theorem PIn_least {n : Int} {c : Int → Int} (hn : 0 ≤ n) (hc : ∀ e, 0 ≤ c e) {i al le ofl : Int} {fi : Int → Int} (hi : 0 ≤ i) (h : PIn n c i al le ofl fi) (hg : good n (dcv c n.toNat 0 (i + 1))) (hl : al = 0 ∨ su (dcv c n.toNat 0 (i + 1)) n < le) : PIn n c (i + 1) (al + 1) (su (dcv c n.toNat 0 (i + 1)) n) 1 (dcv c n.toNat 0 (i + 1)) := by
  obtain ⟨h1, h2, h3⟩ := h
  have hz := su_zb (fun k => good n (dcv c n.toNat 0 k)) (e := i + 1) (by omega)
  have hno : ∀ k, 0 ≤ k → k ≤ i → good n (dcv c n.toNat 0 k) → su (dcv c n.toNat 0 (i + 1)) n < su (dcv c n.toNat 0 k) n := by
    intro k k0 k1 hk
    by_cases h0 : al = 0
    · exfalso
      have : su (fun k => zb (good n (dcv c n.toNat 0 k))) (i + 1) = 0 := by omega
      have h5 := su_le (f := fun j => if j = k then 1 else 0) (g := fun k => zb (good n (dcv c n.toNat 0 k))) (e := i + 1) (fun j j0 j1 => by
        show (if j = k then 1 else 0) ≤ zb (good n (dcv c n.toNat 0 j))
        split
        · next q => rw [q, zb_t hk]; exact Int.le_refl _
        · rcases zb_01 (good n (dcv c n.toNat 0 j)) with q | q <;> omega)
      rw [su_one k0 (by omega) (fun j _ _ hj => if_neg hj), if_pos rfl] at h5
      omega
    · have := (h3 (by omega)).2.2.2.1 k k0 k1 hk
      omega
  refine ⟨by rw [su_s _ (by omega), zb_t hg]; omega, fun q => by omega, fun _ => ⟨hg, rfl, dcv_v hn hc _, fun k k0 k1 hk => ?_, ?_⟩⟩
  · by_cases hki : k = i + 1
    · rw [hki]; exact ⟨Int.le_refl _, fun _ => Or.inl rfl⟩
    · have := hno k k0 (by omega) hk
      exact ⟨by omega, fun q => by omega⟩
  · rw [su_s _ (by omega), zb_t ⟨hg, rfl⟩, su_c (g := fun _ => 0) (fun j j0 j1 => zb_f (fun q => by have := hno j j0 (by omega) q.1; omega)), su_00]; rfl
/-- one more that counts, as light as the least -/
theorem PIn_same {n : Int} {c : Int → Int} (hn : 0 ≤ n) (hc : ∀ e, 0 ≤ c e) {i al le ofl : Int} {fi : Int → Int} (hi : 0 ≤ i) (h : PIn n c i al le ofl fi) (ha : 0 < al) (hg : good n (dcv c n.toNat 0 (i + 1))) (hl : su (dcv c n.toNat 0 (i + 1)) n = le) {fi' : Int → Int} (hf : (lgt n (dcv c n.toNat 0 (i + 1)) fi ∧ fi' = dcv c n.toNat 0 (i + 1)) ∨ (¬ lgt n (dcv c n.toNat 0 (i + 1)) fi ∧ fi' = fi)) : PIn n c (i + 1) (al + 1) le (ofl + 1) fi' := by
  obtain ⟨h1, h2, h3⟩ := h
  obtain ⟨a1, a2, a3, a4, a5⟩ := h3 ha
  have e5 : ofl + 1 = su (fun k => zb (good n (dcv c n.toNat 0 k) ∧ su (dcv c n.toNat 0 k) n = le)) (i + 1 + 1) := by
    rw [su_s _ (by omega), zb_t ⟨hg, hl⟩, ← a5]
  refine ⟨by rw [su_s _ (by omega), zb_t hg]; omega, fun q => by omega, fun _ => ?_⟩
  rcases hf with ⟨f1, rfl⟩ | ⟨f1, rfl⟩
  · refine ⟨hg, hl, dcv_v hn hc _, fun k k0 k1 hk => ?_, e5⟩
    by_cases hki : k = i + 1
    · rw [hki]; exact ⟨by omega, fun _ => Or.inl rfl⟩
    · obtain ⟨b1, b2⟩ := a4 k k0 (by omega) hk
      refine ⟨b1, fun q => Or.inr ?_⟩
      rcases b2 q with b3 | b3
      · rw [b3]; exact f1
      · exact lgt_t f1 b3
  · refine ⟨a1, a2, a3, fun k k0 k1 hk => ?_, e5⟩
    by_cases hki : k = i + 1
    · rw [hki]
      refine ⟨by omega, fun _ => ?_⟩
      rcases lgt_3 (dcv c n.toNat 0 (i + 1)) fi' hn with q | q | q
      · exact absurd q f1
      · exact Or.inr q
      · exact Or.inl (vld_eq (dcv_v hn hc _) a3 q)
    · exact a4 k k0 (by omega) hk
/-- one more that counts, heavier -/
theorem PIn_more {n : Int} {c : Int → Int} {i al le ofl : Int} {fi : Int → Int} (hi : 0 ≤ i) (h : PIn n c i al le ofl fi) (ha : 0 < al) (hg : good n (dcv c n.toNat 0 (i + 1))) (hl : le < su (dcv c n.toNat 0 (i + 1)) n) : PIn n c (i + 1) (al + 1) le ofl fi := by
  obtain ⟨h1, h2, h3⟩ := h
  obtain ⟨a1, a2, a3, a4, a5⟩ := h3 ha
  refine ⟨by rw [su_s _ (by omega), zb_t hg]; omega, fun q => by omega, fun _ => ⟨a1, a2, a3, fun k k0 k1 hk => ?_, ?_⟩⟩
  · by_cases hki : k = i + 1
    · rw [hki]; exact ⟨by omega, fun q => by omega⟩
    · exact a4 k k0 (by omega) hk
  · rw [su_s _ (by omega), zb_f (fun q => by omega), Int.add_zero]; exact a5
