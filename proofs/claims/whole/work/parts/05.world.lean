/-! THE WORLD: 147 cells at places 0 .. 146 (0 .. 120 the class's, 121 .. 146 the reference's); all numbers of objects and int arrays in I, of long arrays in J; references and lengths are tables -/
abbrev Mi : Type := Nat → Nat → Int32
abbrev Ml : Type := Nat → Nat → Int64
abbrev Gw : Type := va_G × (Nat → ClassId) × (Nat → Nat)
def kdL : List Nat := [11, 8, 5, 13, 4, 13, 13, 18, 6, 17, 5, 13, 5, 13, 5, 13, 5, 13, 5, 13, 5, 13, 5, 13, 5, 13, 6, 17, 5, 13, 5, 13, 5, 13, 5, 13, 5, 13, 5, 13, 5, 13, 5, 13, 8, 5, 13, 4, 13, 13, 18, 6, 17, 5, 13, 5, 13, 5, 13, 5, 13, 5, 13, 5, 13, 5, 13, 5, 13, 6, 17, 5, 13, 5, 13, 5, 13, 5, 13, 5, 13, 5, 13, 5, 13, 5, 13, 1, 13, 13, 14, 10, 13, 13, 14, 13, 3, 5, 13, 13, 0, 13, 13, 16, 2, 14, 2, 14, 2, 14, 9, 13, 5, 13, 7, 13, 5, 13, 13, 13, 13, 12, 13, 13, 13, 13, 13, 13, 13, 13, 13, 13, 13, 13, 13, 13, 13, 14, 13, 13, 15, 13, 13, 13, 13, 13, 13]
def lnL : List Nat := [0, 0, 0, 30, 0, 8, 8, 2, 0, 8, 0, 30, 0, 30, 0, 30, 0, 30, 0, 30, 0, 30, 0, 30, 0, 30, 0, 8, 0, 30, 0, 30, 0, 30, 0, 30, 0, 30, 0, 30, 0, 30, 0, 30, 0, 0, 30, 0, 8, 8, 2, 0, 8, 0, 30, 0, 30, 0, 30, 0, 30, 0, 30, 0, 30, 0, 30, 0, 30, 0, 8, 0, 30, 0, 30, 0, 30, 0, 30, 0, 30, 0, 30, 0, 30, 0, 30, 0, 30, 30, 120, 0, 30, 30, 4, 30, 0, 0, 30, 30, 0, 30, 128, 3, 0, 30, 0, 30, 0, 30, 0, 100, 0, 30, 0, 160, 0, 30, 30, 30, 201, 0, 30, 16, 2, 496, 961, 31, 62, 900, 30, 30, 30, 30, 30, 30, 3, 90, 30, 201, 4096, 100, 300, 30, 16, 2, 496]
def rfL : List (List Nat) := [[1, 44, 0, 87, 91, 96, 100, 103, 110, 114, 116, 118, 119, 120], [2, 4, 7], [0, 3], [], [0, 5, 6], [], [], [8, 26], [0, 9], [10, 12, 14, 16, 18, 20, 22, 24], [0, 11], [], [0, 13], [], [0, 15], [], [0, 17], [], [0, 19], [], [0, 21], [], [0, 23], [], [0, 25], [], [0, 27], [28, 30, 32, 34, 36, 38, 40, 42], [0, 29], [], [0, 31], [], [0, 33], [], [0, 35], [], [0, 37], [], [0, 39], [], [0, 41], [], [0, 43], [], [45, 47, 50], [0, 46], [], [0, 48, 49], [], [], [51, 69], [0, 52], [53, 55, 57, 59, 61, 63, 65, 67], [0, 54], [], [0, 56], [], [0, 58], [], [0, 60], [], [0, 62], [], [0, 64], [], [0, 66], [], [0, 68], [], [0, 70], [71, 73, 75, 77, 79, 81, 83, 85], [0, 72], [], [0, 74], [], [0, 76], [], [0, 78], [], [0, 80], [], [0, 82], [], [0, 84], [], [0, 86], [], [0, 0, 0, 0, 88, 89, 90], [], [], [], [87, 92, 93, 94, 0, 95, 0], [], [], [], [], [91, 97, 0, 99, 0, 0, 0], [0, 98], [], [], [91, 101, 0, 102, 0], [], [], [104, 106, 108], [0, 105], [], [0, 107], [], [0, 109], [], [111, 0, 0, 0, 112], [], [0, 113], [], [0, 115], [], [0, 117], [], [], [], [], [0, 122, 123, 0, 124, 125, 126, 127, 128, 129, 130, 131, 132, 133, 134, 0, 0, 0, 135, 136, 137, 138, 139, 140, 141, 0, 0, 0, 142, 0, 0, 0, 0, 143, 144, 145, 146], [], [], [], [], [], [], [], [], [], [], [], [], [], [], [], [], [], [], [], [], [], [], [], [], []]
def ftL : List (List Bool) := [[false, false, true, false, true], [true, true, true, true, false, false, false], [true, false], [false, false, true, false, true, true, true], [true, false, false], [true, false], [true, false], [true, false], [false, false, false], [false, true, true, true, false], [false, false, false, false, true, false, true], [false, false, true, false, false, false, false, false, false, false, false, false, false, false], [true, false, false, true, false, false, false, false, false, false, false, false, false, false, false, true, true, true, false, false, false, false, false, false, false, true, true, true, false, true, true, true, true, false, false, false, false]]
def kd (k : Nat) : Nat := kdL.getD k 99
def ln (k : Nat) : Nat := lnL.getD k 0
def rf (k j : Nat) : Nat := (rfL.getD k []).getD j 0
def ft (c : Nat) : List Bool := ftL.getD c []
def cel (G : Gw) (I : Mi) (J : Ml) (k : Nat) : va_E :=
  if kd k < 13 then .inr (kd k, (ft (kd k)).mapIdx (fun j b => if b = true then Value.int (I k j) else .ref (G.2.2 (rf k j))))
  else if kd k = 14 then .inl (G.2.1 1, ln k, .inr (.inl (J k)))
  else if kd k < 16 then .inl (G.2.1 (kd k - 13), ln k, .inl (I k))
  else .inl (G.2.1 (kd k - 13), ln k, .inr (.inr (.inr (.inr (fun j => some (G.2.2 (rf k j)))))))
def wl (G : Gw) (I : Mi) (J : Ml) : va_W := (List.range 147).map (fun k => (G.2.2 k, cel G I J k))
def tysG (G : Gw) : List (ClassId × FieldType) := [(G.2.1 0, .int), (G.2.1 1, .long), (G.2.1 2, .boolean), (G.2.1 3, .object "NoughtSums$LongList"), (G.2.1 4, .object "NoughtSums$Row"), (G.2.1 5, .object "NoughtSums$Shelf")]
def nestL : List Cond := [.methodLinkNest RX1 26 yX11_isBase RX11, .methodLinkNest RX0 26 yX11_isBase RX11, .methodLinkNest RX9 41 yX11_isBase RX11]
def Wk (G : Gw) (U : State) : Prop := va_K G.1 vwCl (tysG G) U ∧ ∀ w ∈ nestL, va_Nw w U
def Wo (G : Gw) (I : Mi) (J : Ml) (U : State) : Prop := va_P G.1 vwCl (wl G I J) U.heap ∧ Wk G U
def Gj (G : Gw) : Prop := ∀ i j, i < 147 → j < 147 → G.2.2 i = G.2.2 j → i = j
def Aw (G : Gw) : Nat → Prop := fun q => ∃ k, k < 147 ∧ q = G.2.2 k
theorem wl_get (G : Gw) (I : Mi) (J : Ml) {k : Nat} (h : k < 147) : (wl G I J)[k]? = some (G.2.2 k, cel G I J k) := by
  simp [wl, h]
theorem wl_of {G : Gw} {I : Mi} {J : Ml} {k : Nat} {q : Nat × va_E} (h : (wl G I J)[k]? = some q) : k < 147 ∧ q = (G.2.2 k, cel G I J k) := by
  have hk : k < 147 := by
    have := (List.getElem?_eq_some_iff.mp h).1
    simpa [wl] using this
  rw [wl_get G I J hk] at h
  exact ⟨hk, (Option.some.inj h).symm⟩
theorem wl_D {G : Gw} {I : Mi} {J : Ml} {A : Nat → Prop} (hj : Gj G) (hA : ∀ q, Aw G q → A q) : va_D A (wl G I J) := by
  refine ⟨fun i j p q hi hj2 hpq => ?_, fun k q hk => ?_⟩
  · obtain ⟨a1, rfl⟩ := wl_of hi
    obtain ⟨a2, rfl⟩ := wl_of hj2
    exact hj i j a1 a2 hpq
  · obtain ⟨a1, rfl⟩ := wl_of hk
    exact hA _ ⟨k, a1, rfl⟩
/-- a row of I is another -/
def sr {α : Type} (I : Nat → Nat → α) (k : Nat) (f : Nat → α) : Nat → Nat → α := fun a => if a = k then f else I a
def up {α : Type} (f : Nat → α) (j : Nat) (v : α) : Nat → α := fun b => if b = j then v else f b
theorem sr_eq {α : Type} (I : Nat → Nat → α) (k : Nat) (f : Nat → α) : sr I k f k = f := by simp [sr]
theorem sr_ne {α : Type} (I : Nat → Nat → α) {k a : Nat} (f : Nat → α) (h : a ≠ k) : sr I k f a = I a := by simp [sr, h]
theorem sr_sr {α : Type} (I : Nat → Nat → α) (k : Nat) (f g : Nat → α) : sr (sr I k f) k g = sr I k g := by
  funext a; simp only [sr]; split <;> rfl
theorem sr_self {α : Type} (I : Nat → Nat → α) (k : Nat) : sr I k (I k) = I := by
  funext a; simp only [sr]; split
  · next h => rw [h]
  · rfl
theorem up_eq {α : Type} (f : Nat → α) (j : Nat) (v : α) : up f j v j = v := by simp [up]
theorem up_ne {α : Type} (f : Nat → α) {j b : Nat} (v : α) (h : b ≠ j) : up f j v b = f b := by simp [up, h]
theorem cel_ne {G : Gw} {I : Mi} {J : Ml} {k a : Nat} {f : Nat → Int32} (h : a ≠ k) : cel G (sr I k f) J a = cel G I J a := by
  simp only [cel, sr_ne I f h]
theorem cel_neJ {G : Gw} {I : Mi} {J : Ml} {k a : Nat} {f : Nat → Int64} (h : a ≠ k) : cel G I (sr J k f) a = cel G I J a := by
  simp only [cel, sr_ne J f h]
theorem wl_set {G : Gw} {I : Mi} {J : Ml} {k : Nat} {f : Nat → Int32} (h : k < 147) : (wl G I J).set k (G.2.2 k, cel G (sr I k f) J k) = wl G (sr I k f) J := by
  apply List.ext_getElem?
  intro i
  by_cases hi : i < 147
  · by_cases hik : k = i
    · subst hik
      rw [List.getElem?_set_self (by simpa [wl] using h), wl_get _ _ _ h]
    · rw [List.getElem?_set_ne hik, wl_get _ _ _ hi, wl_get _ _ _ hi, cel_ne (fun q => hik q.symm)]
  · rw [List.getElem?_eq_none (by simp [wl]; omega), List.getElem?_eq_none (by simp [wl]; omega)]
theorem wl_setJ {G : Gw} {I : Mi} {J : Ml} {k : Nat} {f : Nat → Int64} (h : k < 147) : (wl G I J).set k (G.2.2 k, cel G I (sr J k f) k) = wl G I (sr J k f) := by
  apply List.ext_getElem?
  intro i
  by_cases hi : i < 147
  · by_cases hik : k = i
    · subst hik
      rw [List.getElem?_set_self (by simpa [wl] using h), wl_get _ _ _ h]
    · rw [List.getElem?_set_ne hik, wl_get _ _ _ hi, wl_get _ _ _ hi, cel_neJ (fun q => hik q.symm)]
  · rw [List.getElem?_eq_none (by simp [wl]; omega), List.getElem?_eq_none (by simp [wl]; omega)]
/-- the cell of an object, of an int array, of a long array, of an array of references -/
def fv (G : Gw) (I : Mi) (k : Nat) : List Value := (ft (kd k)).mapIdx (fun j b => if b = true then Value.int (I k j) else .ref (G.2.2 (rf k j)))
theorem cel_o {G : Gw} {I : Mi} {J : Ml} {k ci : Nat} (h : kd k = ci) (hc : ci < 13) : cel G I J k = .inr (ci, fv G I k) := by
  simp only [cel, fv]; rw [if_pos (by omega), h]
theorem cel_i {G : Gw} {I : Mi} {J : Ml} {k : Nat} (h : kd k = 13) : cel G I J k = .inl (G.2.1 0, ln k, .inl (I k)) := by
  simp [cel, h]
theorem cel_z {G : Gw} {I : Mi} {J : Ml} {k : Nat} (h : kd k = 15) : cel G I J k = .inl (G.2.1 2, ln k, .inl (I k)) := by
  simp [cel, h]
theorem cel_l {G : Gw} {I : Mi} {J : Ml} {k : Nat} (h : kd k = 14) : cel G I J k = .inl (G.2.1 1, ln k, .inr (.inl (J k))) := by
  simp [cel, h]
theorem cel_q {G : Gw} {I : Mi} {J : Ml} {k t : Nat} (h : kd k = 13 + t) (ht : 3 ≤ t) : cel G I J k = .inl (G.2.1 t, ln k, .inr (.inr (.inr (.inr (fun j => some (G.2.2 (rf k j))))))) := by
  simp only [cel]; rw [if_neg (by omega), if_neg (by omega), if_neg (by omega)]
  rw [show kd k - 13 = t by omega]
theorem fv_int {G : Gw} {I : Mi} {k ci j : Nat} (h : kd k = ci) (hj : (ft ci)[j]? = some true) : (fv G I k)[j]? = some (.int (I k j)) := by
  simp [fv, h, hj]
theorem fv_ref {G : Gw} {I : Mi} {k ci j t : Nat} (h : kd k = ci) (hj : (ft ci)[j]? = some false) (ht : rf k j = t) : (fv G I k)[j]? = some (.ref (G.2.2 t)) := by
  simp [fv, h, hj, ht]
theorem fv_set {G : Gw} {I : Mi} {k ci j : Nat} {v : Int32} (h : kd k = ci) (hj : (ft ci)[j]? = some true) : (fv G I k).set j (.int v) = fv G (sr I k (up (I k) j v)) k := by
  apply List.ext_getElem?
  intro i
  by_cases hi : i < (ft ci).length
  · have hl : (fv G I k).length = (ft ci).length := by simp [fv, h]
    by_cases hij : j = i
    · subst hij
      rw [List.getElem?_set_self (by omega), fv_int h hj, sr_eq, up_eq]
    · rw [List.getElem?_set_ne hij]
      simp [fv, h, sr_eq, up_ne _ _ (fun q => hij q.symm)]
  · rw [List.getElem?_eq_none (by simp [fv, h]; omega), List.getElem?_eq_none (by simp [fv, h]; omega)]
