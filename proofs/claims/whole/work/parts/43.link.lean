/-! links between what the class tells and what the reference tells -/
theorem su_at1 {P : Int → Prop} {c : Int → Int} (hd : ∀ j, Decidable (P j)) (hc : ∀ j, 0 ≤ c j ∧ c j ≤ 9) : ∀ m : Nat, (∀ i j, 0 ≤ i → i < (m : Int) → 0 ≤ j → j < (m : Int) → P i → P j → i = j) → su (fun j => @ite Int (P j) (hd j) (c j) 0) m ≤ 9 ∧ ((∀ j, 0 ≤ j → j < (m : Int) → ¬ P j) → su (fun j => @ite Int (P j) (hd j) (c j) 0) m = 0)
  | 0, _ => ⟨by show (0 : Int) ≤ 9; omega, fun _ => rfl⟩
  | m + 1, h => by
    obtain ⟨h1, h2⟩ := su_at1 hd hc m (fun i j a b c d => h i j a (by omega) c (by omega))
    rw [show ((m + 1 : Nat) : Int) = (m : Int) + 1 by omega, su_s _ (by omega)]
    by_cases hp : P (m : Int)
    · have := h2 (fun j a b q => by have := h j m a (by omega) (by omega) (by omega) q hp; omega)
      rw [this, if_pos hp]
      have := hc (m : Int)
      refine ⟨by omega, fun q => absurd hp (q m (by omega) (by omega))⟩
    · rw [if_neg hp, Int.add_zero]
      exact ⟨h1, fun q => h2 (fun j a b => q j a (by omega))⟩
theorem chg_1 {v n : Int} {c : Int → Int} (h : gR n c) (hc : cCh 1 v n) (t : Int) : chg 1 v n c t ≤ 9 := by
  obtain ⟨hv, hs⟩ := hc.1 rfl
  have hn := h.1
  have hg := (gcd_shr hv.1 hn.1).mpr hs
  obtain ⟨N, rfl⟩ := Int.eq_ofNat_of_zero_le (show 0 ≤ n by omega)
  obtain ⟨V, rfl⟩ := Int.eq_ofNat_of_zero_le (show 0 ≤ v by omega)
  have hco : Nat.Coprime N V := by
    simp only [Int.toNat_natCast] at hg
    show Nat.gcd N V = 1
    rw [Nat.gcd_comm]; omega
  have inj : ∀ i j : Nat, i ≤ j → j < N → i * V % N = j * V % N → i = j := by
    intro i j hij hj he
    have h1 : N ∣ j * V - i * V := Nat.dvd_of_mod_eq_zero (Nat.sub_mod_eq_zero_of_mod_eq he.symm)
    rw [← Nat.sub_mul] at h1
    have h2 := hco.dvd_of_dvd_mul_right h1
    by_cases q : j - i = 0
    · omega
    · have := Nat.le_of_dvd (by omega) h2
      omega
  refine (su_at1 (P := fun j => mv 1 V N j = t) (fun j => inferInstance) h.2.1 N (fun i j a b c d p q => ?_)).1
  obtain ⟨i, rfl⟩ := Int.eq_ofNat_of_zero_le a
  obtain ⟨j, rfl⟩ := Int.eq_ofNat_of_zero_le c
  have e : ((i * V % N : Nat) : Int) = ((j * V % N : Nat) : Int) := by
    have p2 : (i : Int) * V % N = t := p
    have q2 : (j : Int) * V % N = t := q
    rw [Int.natCast_emod, Int.natCast_emod, Int.natCast_mul, Int.natCast_mul, p2, q2]
  have e : i * V % N = j * V % N := by omega
  by_cases hij : i ≤ j
  · have := inj i j hij (by omega) e; omega
  · have := inj j i (by omega) (by omega) e.symm; omega
theorem su_2 {f : Int → Int} (hf : ∀ j, 0 ≤ f j) {a b N : Int} (ha : 0 ≤ a) (hab : a < b) (hb : b < N) : f a + f b ≤ su f N := by
  have h1 := su_mono (f := f) (a := b + 1) (b := N) (by omega) (by omega) hf
  have h2 := su_mono (f := f) (a := a + 1) (b := b) (by omega) (by omega) hf
  rw [su_s _ (by omega)] at h1 h2
  have h3 := su_nn (f := f) (e := a) (fun j _ _ => hf j)
  omega
theorem SV_2 {n : Int} {c : Int → Int} (hn : 0 ≤ n) (hc : ∀ e, 0 ≤ c e) {P : (Int → Int) → Prop} {s t : Int → Int} (hs : vld n c s) (ht : vld n c t) (ps : P s) (pt : P t) (hne : s ≠ t) : 2 ≤ SV c n.toNat 0 (fun t => zb (P t)) := by
  rw [← SV_su hc]
  obtain ⟨a, a1, a2⟩ := dcv_on (t := s) hc n.toNat 0 hs.1 (fun j hj => hs.2 j (by omega))
  obtain ⟨b, b1, b2⟩ := dcv_on (t := t) hc n.toNat 0 ht.1 (fun j hj => ht.2 j (by omega))
  have hf : ∀ j, 0 ≤ zb (P (dcv c n.toNat 0 j)) := fun j => by rcases zb_01 (P (dcv c n.toNat 0 j)) with q | q <;> rw [q] <;> decide
  have ea : zb (P (dcv c n.toNat 0 a)) = 1 := by rw [a2]; exact zb_t ps
  have eb : zb (P (dcv c n.toNat 0 b)) = 1 := by rw [b2]; exact zb_t pt
  by_cases h : a < b
  · have := su_2 (f := fun k => zb (P (dcv c n.toNat 0 k))) hf a1.1 h b1.2
    omega
  · by_cases h2 : a = b
    · exfalso; rw [h2, b2] at a2; exact hne a2.symm
    · have := su_2 (f := fun k => zb (P (dcv c n.toNat 0 k))) hf b1.1 (show b < a by omega) a1.2
      omega
theorem su_eq {f g : Int → Int} : ∀ m : Nat, (∀ j, 0 ≤ j → j < (m : Int) → f j ≤ g j) → su f m = su g m → ∀ j, 0 ≤ j → j < (m : Int) → f j = g j
  | 0, _, _, j, a, b => by omega
  | m + 1, h, he, j, a, b => by
    rw [show ((m + 1 : Nat) : Int) = (m : Int) + 1 by omega, su_s _ (by omega), su_s _ (by omega)] at he
    have h1 := su_le (f := f) (g := g) (e := (m : Int)) (fun j a b => h j a (by omega))
    have h2 := h m (by omega) (by omega)
    by_cases q : j = m
    · rw [q]; omega
    · exact su_eq m (fun j a b => h j a (by omega)) (by omega) j a (by omega)
theorem prim_e {n : Int} {c : Int → Int} (h : gR n c) {al le ofl : Int} {fi : Int → Int} (hp : PSp n c al le ofl fi) : (al = 1 ∧ nou n c) ↔ (al = 1 ∧ le = su c n) := by
  have hn := h.1
  have hc : ∀ e, 0 ≤ c e := fun e => (h.2.1 e).1
  have hcv : vld n c c := ⟨fun e => ⟨hc e, Int.le_refl _⟩, h.2.2⟩
  constructor
  · rintro ⟨a, hno⟩
    obtain ⟨g1, g2, g3, g4, g5⟩ := hp.2.2 (by omega)
    have hle : su fi n ≤ su c n := su_le (fun j _ _ => (g3.1 j).2)
    have hgc : good n c := ⟨by have := g1.1; omega, hno⟩
    refine ⟨a, ?_⟩
    by_cases q : fi = c
    · rw [← g2, q]
    · exfalso
      have := SV_2 (by omega) hc g3 hcv g1 hgc q
      rw [← hp.1] at this
      omega
  · rintro ⟨a, hle⟩
    obtain ⟨g1, g2, g3, g4, g5⟩ := hp.2.2 (by omega)
    refine ⟨a, ?_⟩
    obtain ⟨N, rfl⟩ := Int.eq_ofNat_of_zero_le (show 0 ≤ n by omega)
    have he := su_eq N (fun j _ _ => (g3.1 j).2) (by rw [g2]; exact hle)
    have : fi = c := by
      funext j
      by_cases q : 0 ≤ j ∧ j < (N : Int)
      · exact he j q.1 q.2
      · rw [g3.2 j (by omega), h.2.2 j (by omega)]
    rw [← this]; exact g1.2
theorem LW_u {n s x y : Int} (hn : 2 ≤ n ∧ n ≤ 12) (hx : LW n s x) (hy : LW n s y) : x = y := by
  have hp2 := p2_b hn
  have key : ∀ x y, x = 2 ^ n.toNat - 1 → LW n s x → cand n s y → LW n s y → x = y := by
    intro x y e hx hc hy
    by_cases q : y = 2 ^ n.toNat - 1
    · rw [e, q]
    · exfalso
      have h1 := bc_full hn hc.1.1 (by have := hc.1.2; omega)
      have h2 := hx.2 y hc
      rw [e] at h2
      omega
  rcases hx.1 with a | a
  · rcases hy.1 with b | b
    · rw [a, b]
    · exact key x y a hx b hy
  · rcases hy.1 with b | b
    · exact (key y x b hy a hx).symm
    · have h1 := hx.2 y b
      have h2 := hy.2 x a
      omega
theorem fz_no {P : Int → Prop} {d N : Int} (h0 : 0 ≤ N) (h : ∀ b, 0 ≤ b → b < N → ¬ P b) : fz P d 0 N = d := by
  rw [fz_skip (a' := N) h0 (Int.le_refl _) h, fz_end _ _ (Int.le_refl _)]
