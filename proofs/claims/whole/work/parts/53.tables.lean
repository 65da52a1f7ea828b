/-! the reference's tables: PHI of all bases by long division, as lists -/
def stL (q : List Int) (g a : Nat) (L : List Int) : List Int := (List.range 62).map (fun j => if a - g ≤ j ∧ j < a then L.getD j 0 - L.getD a 0 * q.getD (j - (a - g)) 0 else L.getD j 0)
def dvO (q : List Int) (g : Nat) : Nat → Nat → List Int → List Int
  | 0, _, L => L
  | t + 1, a, L => dvO q g t (a - 1) (stL q g a L)
def shL (s g : Nat) (L : List Int) : List Int := (List.range 62).map (fun j => if j ≤ s - g then L.getD (j + g) 0 else 0)
def dvL (q : List Int) (g s : Nat) (L : List Int) : List Int := shL s g (dvO q g (s + 1 - g) s L)
def qT (d : Nat) : List Int := if d = 1 then [-1, 1] else mkL d d
def gT (d : Nat) : Nat := if d = 1 then 1 else (DG d).toNat
def iniL (m : Nat) : List Int := (List.range 62).map (fun j => if j = m then 1 else if j = 0 then -1 else 0)
def rnM (m : Nat) : Nat → List Int × Nat
  | 0 => (iniL m, m)
  | d + 1 => if m % (d + 1) = 0 then (dvL (qT (d + 1)) (gT (d + 1)) (rnM m d).2 (rnM m d).1, (rnM m d).2 - gT (d + 1)) else rnM m d
def okM (m : Nat) : Bool := (rnM m (m - 1)).2 == gT m && (List.range (gT m + 1)).all (fun i => (rnM m (m - 1)).1.getD i 0 == (qT m).getD i 0)
set_option maxRecDepth 100000 in
theorem okM_all : (List.range 31).all (fun m => m == 0 || okM m) = true := by decide +kernel
def szM (m : Nat) : Nat → Nat
  | 0 => m
  | d + 1 => if m % (d + 1) = 0 then szM m d - gT (d + 1) else szM m d
theorem szM_e (m : Nat) : ∀ d, (rnM m d).2 = szM m d
  | 0 => rfl
  | d + 1 => by
    simp only [rnM, szM]
    split
    · show (rnM m d).2 - gT (d + 1) = _
      rw [szM_e m d]
    · exact szM_e m d
set_option maxRecDepth 100000 in
theorem szM_all : (List.range 31).all (fun m => (List.range m).all (fun d => Nat.ble (szM m d) 30 && (m % (d + 1) != 0 || d + 1 == m || (Nat.ble (gT (d + 1)) (szM m d) && Nat.ble 1 (gT (d + 1)))))) = true := by decide +kernel
set_option maxRecDepth 100000 in
theorem gT_all : (List.range 31).all (fun d => Nat.ble (gT d) 30) = true := by decide +kernel
theorem gT_b {d : Nat} (h : d < 31) : gT d ≤ 30 := by
  have := List.all_eq_true.mp gT_all d (List.mem_range.mpr h)
  exact Nat.le_of_ble_eq_true this
theorem szM_b {m d : Nat} (hm : m < 31) (hd : d < m) : szM m d ≤ 30 ∧ (m % (d + 1) = 0 → d + 1 < m → gT (d + 1) ≤ szM m d ∧ 1 ≤ gT (d + 1)) := by
  have h1 := List.all_eq_true.mp szM_all m (List.mem_range.mpr hm)
  have h2 := List.all_eq_true.mp h1 d (List.mem_range.mpr hd)
  rw [Bool.and_eq_true] at h2
  refine ⟨Nat.le_of_ble_eq_true h2.1, fun a b => ?_⟩
  have h3 := h2.2
  rw [Bool.or_eq_true, Bool.or_eq_true] at h3
  rcases h3 with (h3 | h3) | h3
  · rw [a] at h3; cases h3
  · have := of_decide_eq_true h3; omega
  · rw [Bool.and_eq_true] at h3
    exact ⟨Nat.le_of_ble_eq_true h3.1, Nat.le_of_ble_eq_true h3.2⟩
theorem okM_at {m : Nat} (h1 : 1 ≤ m) (hm : m < 31) : (rnM m (m - 1)).2 = gT m ∧ ∀ i, i ≤ gT m → (rnM m (m - 1)).1.getD i 0 = (qT m).getD i 0 := by
  have h2 := List.all_eq_true.mp okM_all m (List.mem_range.mpr hm)
  rw [Bool.or_eq_true] at h2
  rcases h2 with h2 | h2
  · have := of_decide_eq_true h2; omega
  · unfold okM at h2
    rw [Bool.and_eq_true] at h2
    refine ⟨by have := h2.1; rwa [beq_iff_eq] at this, fun i hi => ?_⟩
    have := List.all_eq_true.mp h2.2 i (List.mem_range.mpr (by omega))
    rwa [beq_iff_eq] at this
/-- a list as an array -/
def lf (L : List Int) : Int → Int := fun j => if 0 ≤ j then L.getD j.toNat 0 else 0
theorem rg_get {f : Nat → Int} {n j : Nat} : ((List.range n).map f).getD j 0 = if j < n then f j else 0 := by
  rw [List.getD_eq_getElem?_getD, List.getElem?_map]
  by_cases h : j < n
  · rw [List.getElem?_range h, if_pos h]; rfl
  · rw [List.getElem?_eq_none (by simp; omega), if_neg h]; rfl
theorem lf_0 {L : List Int} (hL : L.length = 62) {j : Int} (h : j < 0 ∨ 62 ≤ j) : lf L j = 0 := by
  unfold lf
  split
  · rw [List.getD_eq_getElem?_getD, List.getElem?_eq_none (by omega)]; rfl
  · rfl
theorem stL_len (q : List Int) (g a : Nat) (L : List Int) : (stL q g a L).length = 62 := by simp [stL]
theorem lf_stL {q L : List Int} {g a : Nat} (hL : L.length = 62) (h : g ≤ a) (ha : a < 62) (j : Int) : lf (stL q g a L) j = if (a : Int) - g ≤ j ∧ j < a then lf L j - lf L a * lf q (j - ((a : Int) - g)) else lf L j := by
  by_cases h0 : 0 ≤ j ∧ j < 62
  · have e1 : lf (stL q g a L) j = if a - g ≤ j.toNat ∧ j.toNat < a then L.getD j.toNat 0 - L.getD a 0 * q.getD (j.toNat - (a - g)) 0 else L.getD j.toNat 0 := by
      unfold lf stL
      rw [if_pos h0.1, rg_get, if_pos (by omega)]
    rw [e1]
    by_cases h1 : (a : Int) - g ≤ j ∧ j < a
    · rw [if_pos (by omega), if_pos h1]
      unfold lf
      rw [if_pos h0.1, if_pos (by omega), if_pos (by omega)]
      congr 3
      omega
    · rw [if_neg (by omega), if_neg h1]
      unfold lf
      rw [if_pos h0.1]
  · rw [lf_0 (stL_len _ _ _ _) (by omega), if_neg (by omega), lf_0 hL (by omega)]
theorem dvO_len (q : List Int) (g : Nat) : ∀ (t a : Nat) (L : List Int), L.length = 62 → (dvO q g t a L).length = 62
  | 0, _, _, h => h
  | t + 1, a, L, _ => dvO_len q g t (a - 1) _ (stL_len _ _ _ _)
theorem shL_len (s g : Nat) (L : List Int) : (shL s g L).length = 62 := by simp [shL]
theorem lf_shL {L : List Int} {s g : Nat} (h : g ≤ s) (j : Int) : lf (shL s g L) j = if 0 ≤ j ∧ j < 62 ∧ j ≤ (s : Int) - g then lf L (j + g) else 0 := by
  by_cases h0 : 0 ≤ j ∧ j < 62
  · have e1 : lf (shL s g L) j = if j.toNat ≤ s - g then L.getD (j.toNat + g) 0 else 0 := by
      unfold lf shL
      rw [if_pos h0.1, rg_get, if_pos (by omega)]
    rw [e1]
    by_cases h1 : j ≤ (s : Int) - g
    · rw [if_pos (by omega), if_pos ⟨h0.1, h0.2, h1⟩]
      unfold lf
      rw [if_pos (by omega)]
      congr 1
      omega
    · rw [if_neg (by omega), if_neg (by omega)]
  · rw [lf_0 (shL_len _ _ _) (by omega), if_neg (by omega)]
theorem iniL_len (m : Nat) : (iniL m).length = 62 := by simp [iniL]
theorem rnM_len (m : Nat) : ∀ d, (rnM m d).1.length = 62
  | 0 => iniL_len m
  | d + 1 => by
    simp only [rnM]
    split
    · exact shL_len _ _ _
    · exact rnM_len m d
theorem lf_iniL (m : Nat) (hm : m < 62) (j : Int) : lf (iniL m) j = if j = m then 1 else if j = 0 then -1 else 0 := by
  by_cases h0 : 0 ≤ j ∧ j < 62
  · unfold lf iniL
    rw [if_pos h0.1, rg_get, if_pos (by omega)]
    by_cases h1 : j = m
    · rw [if_pos (by omega), if_pos h1]
    · rw [if_neg (by omega), if_neg h1]
      by_cases h2 : j = 0
      · rw [if_pos (by omega), if_pos h2]
      · rw [if_neg (by omega), if_neg h2]
  · rw [lf_0 (iniL_len _) (by omega), if_neg (by omega), if_neg (by omega)]
