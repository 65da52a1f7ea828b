/-! calls that look through parts, turn, compare -/
def cch (I J : Mz) : Prop := dOk I ∧ pkOk I J ∧ cOk I
theorem fr_look {I I' : Mz} (h : ∀ q, (q ≠ 87 ∧ q ≠ 88 ∧ q ≠ 89) → (q ≠ 91 ∧ q ≠ 92) → (q ≠ 93 ∧ q ≠ 95) → (q ≠ 96 ∧ q ≠ 97) → (q ≠ 98 ∧ q ≠ 99) → I' q = I q) : fr [87, 88, 89, 91, 92, 93, 95, 96, 97, 98, 99] I I' := fun q hq => by
  simp at hq
  exact h q (by omega) (by omega) (by omega) (by omega) (by omega)
theorem fr_lookJ {J J' : Mz} (h : ∀ q, q ≠ 90 → q ≠ 94 → J' q = J q) : fr [90, 94] J J' := fun q hq => by
  simp at hq
  exact h q (by omega) (by omega)
theorem PSp_al {n : Int} {c : Int → Int} (hc : ∀ e, 0 ≤ c e) {al le ofl : Int} {fi : Int → Int} (h : PSp n c al le ofl fi) : 0 ≤ al ∧ al ≤ pr c n := by
  have hp := prR_pos hc n.toNat 0
  have := su_zb (fun k => good n (dcv c n.toNat 0 k)) (e := prR c n.toNat 0) (by omega)
  rw [SV_su hc n.toNat 0 (fun t => zb (good n t)), ← h.1, ← pr_R] at this
  exact this
theorem PSp_u {n : Int} {c : Int → Int} {al le ofl al' le' ofl' : Int} {fi fi' : Int → Int} (h : PSp n c al le ofl fi) (h' : PSp n c al' le' ofl' fi') : al = al' ∧ ofl = ofl' ∧ (0 < al → le = le' ∧ fi = fi') := by
  have ea : al = al' := h.1.trans h'.1.symm
  subst ea
  by_cases h0 : 0 < al
  · obtain ⟨a1, a2, a3, a4, a5⟩ := h.2.2 h0
    obtain ⟨b1, b2, b3, b4, b5⟩ := h'.2.2 h0
    have c1 := a4 fi' b3 b1
    have c2 := b4 fi a3 a1
    have el : le = le' := by omega
    subst el
    have ef : fi = fi' := by
      rcases c1.2 b2 with q | q
      · exact q.symm
      · rcases c2.2 a2 with q2 | q2
        · exact q2
        · exact (lgt_n q q2).elim
    exact ⟨rfl, by rw [a5, b5], fun _ => ⟨rfl, ef⟩⟩
  · refine ⟨rfl, ?_, fun q => absurd q h0⟩
    by_cases h1 : al = 0
    · rw [h.2.1 h1, h'.2.1 h1]
    · exfalso
      have hz : ∀ (c : Int → Int) (m : Nat) (e : Int) (F : (Int → Int) → Prop), 0 ≤ SV c m e (fun t => zb (F t)) := by
        intro c m
        induction m with
        | zero => intro e F; simp only [SV]; rcases zb_01 (F fun _ => 0) with q | q <;> omega
        | succ m ih => intro e F; simp only [SV]; exact su_nn (fun j _ _ => ih (e + 1) (fun t => F (fun i => if i = e then j else t i)))
      have := hz c n.toNat 0 (good n)
      rw [← h.1] at this
      omega
theorem prN_le {f g : Int → Int} (hf : ∀ e, 0 ≤ f e) (h : ∀ e, f e ≤ g e) : ∀ n, prN f n ≤ prN g n
  | 0 => Int.le_refl _
  | n + 1 => by
    have h1 := prN_le hf h n
    have h2 := prN_pos hf n
    have h3 := hf n
    have h4 := h n
    exact Int.mul_le_mul h1 (by omega) (by omega) (by omega)
theorem pr_le {f g : Int → Int} (hf : ∀ e, 0 ≤ f e) (h : ∀ e, f e ≤ g e) (n : Int) : pr f n ≤ pr g n := prN_le hf h _
/-- taken one behind the other -/
def rch (n : Int) : Nat → (Int → Int) → (Int → Int) → Prop
  | 0, c, x => c = x
  | m + 1, c, x => ∃ y, rch n m c y ∧ ∃ al le ofl fi, PSp n y al le ofl fi ∧ 0 < al ∧ x = fun e => y e - fi e
def noP (n : Int) (c : Int → Int) : Prop := ∃ le ofl fi, PSp n c 0 le ofl fi
theorem rch_u {n : Int} {c : Int → Int} : ∀ (m : Nat) (x y : Int → Int), rch n m c x → rch n m c y → x = y
  | 0, _, _, h1, h2 => h1.symm.trans h2
  | m + 1, x, y, ⟨x', a1, al, le, ofl, fi, a2, a3, a4⟩, ⟨y', b1, al', le', ofl', fi', b2, b3, b4⟩ => by
    have := rch_u m x' y' a1 b1
    subst this
    obtain ⟨_, _, q⟩ := PSp_u a2 b2
    rw [a4, b4, (q a3).2]
theorem rch_lt {n : Int} {c : Int → Int} {m : Nat} {x : Int → Int} (hx : rch n m c x) (hn : noP n x) : ∀ (k : Nat) (y : Int → Int), rch n (m + 1 + k) c y → False
  | 0, y, ⟨y', b1, al', le', ofl', fi', b2, b3, b4⟩ => by
    have := rch_u m x y' hx b1
    subst this
    obtain ⟨le, ofl, fi, h⟩ := hn
    have := (PSp_u h b2).1
    omega
  | k + 1, y, ⟨y', b1, _⟩ => rch_lt hx hn k y' b1
theorem rch_m {n : Int} {c : Int → Int} {m m' : Nat} {x y : Int → Int} (h1 : rch n m c x) (h2 : noP n x) (h3 : rch n m' c y) (h4 : noP n y) : m = m' := by
  rcases Nat.lt_trichotomy m m' with h | h | h
  · obtain ⟨k, rfl⟩ : ∃ k, m' = m + 1 + k := ⟨m' - (m + 1), by omega⟩
    exact (rch_lt h1 h2 k y h3).elim
  · exact h
  · obtain ⟨k, rfl⟩ : ∃ k, m = m' + 1 + k := ⟨m - (m' + 1), by omega⟩
    exact (rch_lt h3 h4 k x h1).elim
section
variable {l : Launch} {G : Gw} {I J : Mz}
theorem c_dear2 (h1 : gR (I 2 0) (I 3)) : K_X5_isDear l G [zr G 2] I J (pR (some (zi (zb (20000 < pr (I 3) (I 2 0))))) I J) := c_Row_isDear rfl h1
theorem c_lose {k : Nat} (hk : kd k = 5) (hkn : k = 2 ∨ k = 116) (h1 : gR (I k 0) (I (k + 1))) (hpr : pr (I (k + 1)) (I k 0) ≤ 20000) (hcc : cch I J) : K_X11_loseFirstPart l G [zr G 0, zr G k] I J (fun v I' J' => ∃ r, v = some (zi r) ∧ ∃ al le ofl fi, PSp (I k 0) (I (k + 1)) al le ofl fi ∧ I' 96 5 = le ∧ cch I' J' ∧ fr ((k + 1) :: [87, 88, 89, 91, 92, 93, 95, 96, 97, 98, 99]) I I' ∧ fr [90, 94] J J' ∧ ((r = 1 ∧ 0 < al ∧ I' (k + 1) = fun e => I (k + 1) e - fi e) ∨ (r = 0 ∧ al = 0 ∧ I' (k + 1) = I (k + 1)))) := by
  obtain ⟨hd, hp, hco⟩ := hcc
  have hn := h1.1
  have hc0 : ∀ e, 0 ≤ I (k + 1) e := fun e => (h1.2.1 e).1
  refine Cz.of rfl (Nat.le_of_ble_eq_true rfl) [some (zr G 0), some (zr G k), none] rfl (fun E ok okr hE => ?_)
  refine Z_aload0 (pc := 0) ok dX11_loseFirstPart_0 ?_
  refine g_X11_found (pc := 1) (t := 96) ok dX11_loseFirstPart_1 kw345 rfl rfl ?_
  refine Z_aload1 (pc := 4) ok dX11_loseFirstPart_4 ?_
  refine Z_callVV (pc := 5) ok dX11_loseFirstPart_5 cw_X11_142 rfl rfl (by decide) (c_lookThrough hk hkn h1 hpr hd hp hco) rfl rfl (by decide) (Nat.le_of_ble_eq_true rfl) (fun I1 J1 q => ?_)
  obtain ⟨s1, s2, s3, s4, s5, s6⟩ := q
  have f5 := fr_look s5
  have ek : I1 k = I k := f5 k (by simp; omega)
  have ek1 : I1 (k + 1) = I (k + 1) := f5 (k + 1) (by simp; omega)
  have hal := PSp_al hc0 s1
  have f6 : fr ((k + 1) :: [87, 88, 89, 91, 92, 93, 95, 96, 97, 98, 99]) I I1 := fun q hq => f5 q (fun hm => hq (List.mem_cons_of_mem _ hm))
  refine Z_aload0 (pc := 8) ok dX11_loseFirstPart_8 ?_
  refine g_X11_found (pc := 9) (t := 96) ok dX11_loseFirstPart_9 kw345 rfl rfl ?_
  refine g_X3_all (pc := 12) ok dX11_loseFirstPart_12 kw236 rfl ?_
  refine Z_if_ne (pc := 15) (tgt := 20) ok dX11_loseFirstPart_15 rfl (by first | omega | (simp [sz, uz]; omega)) (fun h => ?_) (fun h => ?_)
  · obtain ⟨g1, g2, g3, g4, g5⟩ := s1.2.2 (by omega)
    refine Z_iconst (pc := 20) ok dX11_loseFirstPart_20 ?_
    refine Z_istore2 (pc := 21) ok (by decide) dX11_loseFirstPart_21 rfl ?_
    have H : ∀ e : Int, 0 ≤ e → e ≤ I k 0 → ∀ f : Int → Int, (∀ j, 0 ≤ j → j < e → f j = I (k + 1) j - I1 99 j) → (∀ j, j < 0 ∨ e ≤ j → f j = I (k + 1) j) → Xz E G (sz I1 (k + 1) f) J1 22 [some (zr G 0), some (zr G k), some (zi e)] [] := by
      refine zUp ?_ ?_
      · intro f a1 a2
        have e0 : sz I1 (k + 1) f k 0 = I k 0 := by rw [sz_ne _ _ (by omega), ek]
        refine Z_iload2 (pc := 22) ok dX11_loseFirstPart_22 ?_
        refine Z_aload1 (pc := 23) ok dX11_loseFirstPart_23 ?_
        refine g_X5_n (pc := 24) ok dX11_loseFirstPart_24 kw96 hk ?_
        refine Z_icmp_ge (pc := 27) (tgt := 54) ok dX11_loseFirstPart_27 rfl (by first | omega | (simp [sz, uz]; omega)) (by first | omega | (simp [sz, uz]; omega)) (fun _ => ?_) (fun h => by exfalso; omega)
        refine Z_iconst (pc := 54) ok dX11_loseFirstPart_54 ?_
        refine Z_bret (pc := 55) ok okr dX11_loseFirstPart_55 (by first | exact Or.inl rfl | exact Or.inr rfl | exact zb_01 _ | assumption | omega) ?_
        have ef : f = fun e => I (k + 1) e - I1 99 e := by
          funext j
          by_cases hj : 0 ≤ j ∧ j < I k 0
          · exact a1 j hj.1 hj.2
          · rw [a2 j (by omega), g3.2 j (by omega), Int.sub_zero]
        have n96 : (96 : Nat) ≠ k + 1 := by omega
        have n97 : (97 : Nat) ≠ k + 1 := by omega
        have n98 : (98 : Nat) ≠ k + 1 := by omega
        have n99 : (99 : Nat) ≠ k + 1 := by omega
        have n87 : (87 : Nat) ≠ k + 1 := by omega
        have n88 : (88 : Nat) ≠ k + 1 := by omega
        refine ⟨_, rfl, I1 96 4, I1 96 5, I1 96 6, I1 99, s1, by rw [sz_ne _ _ n96], ⟨dOk_c s3 (sz_ne _ _ n87) (sz_ne _ _ n88), by unfold pkOk at *; rw [sz_ne _ _ n87]; exact s4, by unfold cOk at *; rw [sz_ne _ _ n96, sz_ne _ _ n97, sz_ne _ _ n98, sz_ne _ _ n99]; exact s2⟩, f6.st (by simp), fr_lookJ s6, Or.inl ⟨rfl, by omega, by rw [sz_eq, ef]⟩⟩
      · intro e e0 e1 ih f a1 a2
        have e2 : sz I1 (k + 1) f k 0 = I k 0 := by rw [sz_ne _ _ (by omega), ek]
        have n99 : (99 : Nat) ≠ k + 1 := by omega
        refine Z_iload2 (pc := 22) ok dX11_loseFirstPart_22 ?_
        refine Z_aload1 (pc := 23) ok dX11_loseFirstPart_23 ?_
        refine g_X5_n (pc := 24) ok dX11_loseFirstPart_24 kw96 hk ?_
        refine Z_icmp_ge (pc := 27) (tgt := 54) ok dX11_loseFirstPart_27 rfl (by first | omega | (simp [sz, uz]; omega)) (by first | omega | (simp [sz, uz]; omega)) (fun h => by exfalso; omega) (fun _ => ?_)
        refine Z_aload1 (pc := 30) ok dX11_loseFirstPart_30 ?_
        refine g_X5_counts (pc := 31) (t := (k + 1)) ok dX11_loseFirstPart_31 kw101 hk (rw_rf hk) ?_
        refine Z_iload2 (pc := 34) ok dX11_loseFirstPart_34 ?_
        refine Z_dup2 (pc := 35) ok dX11_loseFirstPart_35 rfl rfl ?_
        refine Z_iald (pc := 36) ok dX11_loseFirstPart_36 (rw_kd hk) (rw_ln hk) (by first | omega | (simp [sz, uz]; omega)) ?_
        refine Z_aload0 (pc := 37) ok dX11_loseFirstPart_37 ?_
        refine g_X11_found (pc := 38) (t := 96) ok dX11_loseFirstPart_38 kw345 rfl rfl ?_
        refine g_X3_first (pc := 41) (t := 99) ok dX11_loseFirstPart_41 kw234 rfl rfl ?_
        refine Z_iload2 (pc := 44) ok dX11_loseFirstPart_44 ?_
        refine Z_iald (pc := 45) (L := 30) ok dX11_loseFirstPart_45 rfl rfl (by first | omega | (simp [sz, uz]; omega)) ?_
        refine Z_isub (pc := 46) ok dX11_loseFirstPart_46 ?_
        refine Z_iast (pc := 47) ok dX11_loseFirstPart_47 (rw_kd hk) (rw_ln hk) (by first | omega | (simp [sz, uz]; omega)) ?_
        refine Z_iinc2 (pc := 48) ok (by decide) dX11_loseFirstPart_48 rfl ?_
        refine Z_goto (pc := 51) (tgt := 22) ok dX11_loseFirstPart_51 rfl ?_
        rw [sz_sz, sz_eq, sz_ne _ _ n99]
        refine ih _ (upto_s (p := fun j x => x = I (k + 1) j - I1 99 j) a1 (by rw [a2 e (by omega)])) (fun j hj => ?_)
        rw [uz_ne _ _ (by omega)]; exact a2 j (by omega)
    have h0 := H 0 (by omega) (by omega) (I (k + 1)) (fun j j0 j1 => by omega) (fun _ _ => rfl)
    rw [← ek1, sz_self] at h0
    exact h0
  · refine Z_iconst (pc := 18) ok dX11_loseFirstPart_18 ?_
    refine Z_bret (pc := 19) ok okr dX11_loseFirstPart_19 (by first | exact Or.inl rfl | exact Or.inr rfl | exact zb_01 _ | assumption | omega) ?_
    exact ⟨_, rfl, I1 96 4, I1 96 5, I1 96 6, I1 99, s1, rfl, ⟨s3, s4, s2⟩, f6, fr_lookJ s6, Or.inr ⟨rfl, h, ek1⟩⟩
theorem c_primitive (h1 : gR (I 2 0) (I 3)) (hcc : cch I J) : K_X11_primitive l G [zr G 0] I J (fun v I' J' => ∃ r, v = some (zi r) ∧ ((20000 < pr (I 3) (I 2 0) ∧ r = -8 ∧ I' = I ∧ J' = J) ∨ (pr (I 3) (I 2 0) ≤ 20000 ∧ cch I' J' ∧ fr [87, 88, 89, 91, 92, 93, 95, 96, 97, 98, 99] I I' ∧ fr [90, 94] J J' ∧ ∃ al le ofl fi, PSp (I 2 0) (I 3) al le ofl fi ∧ r = zb (al = 1 ∧ nou (I 2 0) (I 3))))) := by
  obtain ⟨hd, hp, hco⟩ := hcc
  have hn := h1.1
  have hc0 : ∀ e, 0 ≤ I 3 e := fun e => (h1.2.1 e).1
  refine Cz.of rfl (Nat.le_of_ble_eq_true rfl) [some (zr G 0), none] rfl (fun E ok okr hE => ?_)
  refine Z_aload0 (pc := 0) ok dX11_primitive_0 ?_
  refine g_X11_state (pc := 1) (t := 1) ok dX11_primitive_1 kw340 rfl rfl ?_
  refine g_X8_row (pc := 4) (t := 2) ok dX11_primitive_4 kw148 rfl rfl ?_
  refine Z_astore1 (pc := 7) ok (by decide) dX11_primitive_7 rfl ?_
  refine Z_aload1 (pc := 8) ok dX11_primitive_8 ?_
  refine Z_callVId (pc := 9) ok dX11_primitive_9 cw_X11_138 rfl rfl (by decide) (c_dear2 h1) rfl rfl (by decide) (Nat.le_of_ble_eq_true rfl) ?_
  refine Z_if_eqB (pc := 12) (tgt := 18) ok dX11_primitive_12 rfl (fun h => ?_) (fun h => ?_)
  · refine Z_aload0 (pc := 18) ok dX11_primitive_18 ?_
    refine g_X11_found (pc := 19) (t := 96) ok dX11_primitive_19 kw345 rfl rfl ?_
    refine Z_aload1 (pc := 22) ok dX11_primitive_22 ?_
    refine Z_callVV (pc := 23) ok dX11_primitive_23 cw_X11_142 rfl rfl (by decide) (c_lookThrough rfl (Or.inl rfl) h1 (show pr (I 3) (I 2 0) ≤ 20000 by omega) hd hp hco) rfl rfl (by decide) (Nat.le_of_ble_eq_true rfl) (fun I1 J1 q => ?_)
    obtain ⟨s1, s2, s3, s4, s5, s6⟩ := q
    have f5 := fr_look s5
    have f6 := fr_lookJ s6
    have ek : I1 2 = I 2 := f5.at 2 rfl
    have ek1 : I1 3 = I 3 := f5.at 3 rfl
    have hal : 0 ≤ I1 96 4 ∧ I1 96 4 ≤ pr (I 3) (I 2 0) := PSp_al hc0 s1
    refine Z_aload0 (pc := 26) ok dX11_primitive_26 ?_
    refine g_X11_found (pc := 27) (t := 96) ok dX11_primitive_27 kw345 rfl rfl ?_
    refine g_X3_all (pc := 30) ok dX11_primitive_30 kw236 rfl ?_
    refine Z_iconst (pc := 33) ok dX11_primitive_33 ?_
    refine Z_icmp_ne (pc := 34) (tgt := 49) ok dX11_primitive_34 rfl (by first | omega | (simp [sz, uz]; omega)) (by first | omega | (simp [sz, uz]; omega)) (fun h2 => ?_) (fun h2 => ?_)
    · refine Z_iconst (pc := 49) ok dX11_primitive_49 ?_
      refine Z_iret (pc := 50) ok okr dX11_primitive_50 ?_
      exact ⟨_, rfl, Or.inr ⟨by omega, ⟨s3, s4, s2⟩, f5, f6, _, _, _, _, s1, by rw [zb_f (fun q => h2 q.1)]⟩⟩
    · refine Z_aload0 (pc := 37) ok dX11_primitive_37 ?_
      refine Z_aload1 (pc := 38) ok dX11_primitive_38 ?_
      refine Z_callVI (pc := 39) ok dX11_primitive_39 cw_X11_134 rfl rfl (by decide) (c_isNought rfl (Or.inl rfl) (by rw [ek, ek1]; exact h1) s3 s4) rfl rfl (by decide) (Nat.le_of_ble_eq_true rfl) (fun r I2 J2 q => ?_)
      obtain ⟨t1, t2, t3, rfl, rfl⟩ := q
      have c2 : cOk I2 := by unfold cOk at *; rw [t1.at 96 rfl, t1.at 97 rfl, t1.at 98 rfl, t1.at 99 rfl]; exact s2
      have f7 : fr [87, 88, 89, 91, 92, 93, 95, 96, 97, 98, 99] I I2 := f5.tr (t1.sub rfl)
      rw [ek, ek1]
      refine Z_if_eqB (pc := 42) (tgt := 49) ok dX11_primitive_42 rfl (fun h3 => ?_) (fun h3 => ?_)
      · refine Z_iconst (pc := 49) ok dX11_primitive_49 ?_
        refine Z_iret (pc := 50) ok okr dX11_primitive_50 ?_
        exact ⟨_, rfl, Or.inr ⟨by omega, ⟨t2, t3, c2⟩, f7, f6, _, _, _, _, s1, by rw [zb_f (fun q => h3 q.2)]⟩⟩
      · refine Z_iconst (pc := 45) ok dX11_primitive_45 ?_
        refine Z_goto (pc := 46) (tgt := 50) ok dX11_primitive_46 rfl ?_
        refine Z_iret (pc := 50) ok okr dX11_primitive_50 ?_
        exact ⟨_, rfl, Or.inr ⟨by omega, ⟨t2, t3, c2⟩, f7, f6, _, _, _, _, s1, by rw [zb_t ⟨h2, h3⟩]⟩⟩
  · refine Z_bipush (pc := 15) ok dX11_primitive_15 (by decide) ?_
    refine Z_iret (pc := 17) ok okr dX11_primitive_17 ?_
    exact ⟨_, rfl, Or.inl ⟨h, rfl, rfl, rfl⟩⟩
theorem c_parts {w : Int} (hw : -2147483648 ≤ w ∧ w ≤ 2147483647) (h1 : gR (I 2 0) (I 3)) (hcc : cch I J) : K_X11_parts l G [zr G 0, zi w] I J (fun v I' J' => ∃ r, v = some (zi r) ∧ ((¬ (0 ≤ w ∧ w ≤ 2) ∧ r = -1 ∧ I' = I ∧ J' = J) ∨ ((0 ≤ w ∧ w ≤ 2) ∧ 20000 < pr (I 3) (I 2 0) ∧ r = -8 ∧ I' = I ∧ J' = J) ∨ ((0 ≤ w ∧ w ≤ 2) ∧ pr (I 3) (I 2 0) ≤ 20000 ∧ cch I' J' ∧ fr [87, 88, 89, 91, 92, 93, 95, 96, 97, 98, 99] I I' ∧ fr [90, 94] J J' ∧ ∃ al le ofl fi, PSp (I 2 0) (I 3) al le ofl fi ∧ ((w = 0 ∧ r = al) ∨ (w = 1 ∧ al = 0 ∧ r = -5) ∨ (w = 1 ∧ 0 < al ∧ r = le) ∨ (w = 2 ∧ r = ofl))))) := by
  obtain ⟨hd, hp, hco⟩ := hcc
  have hn := h1.1
  have hc0 : ∀ e, 0 ≤ I 3 e := fun e => (h1.2.1 e).1
  -- behind the test of what
  have main : ∀ E : Ev, Ok E G yX11_parts.cls cX11_parts 2 6 → Oz E G (some .int) (fun v I' J' => ∃ r, v = some (zi r) ∧ ((¬ (0 ≤ w ∧ w ≤ 2) ∧ r = -1 ∧ I' = I ∧ J' = J) ∨ ((0 ≤ w ∧ w ≤ 2) ∧ 20000 < pr (I 3) (I 2 0) ∧ r = -8 ∧ I' = I ∧ J' = J) ∨ ((0 ≤ w ∧ w ≤ 2) ∧ pr (I 3) (I 2 0) ≤ 20000 ∧ cch I' J' ∧ fr [87, 88, 89, 91, 92, 93, 95, 96, 97, 98, 99] I I' ∧ fr [90, 94] J J' ∧ ∃ al le ofl fi, PSp (I 2 0) (I 3) al le ofl fi ∧ ((w = 0 ∧ r = al) ∨ (w = 1 ∧ al = 0 ∧ r = -5) ∨ (w = 1 ∧ 0 < al ∧ r = le) ∨ (w = 2 ∧ r = ofl))))) → (0 ≤ w ∧ w ≤ 2) → Xz E G I J 11 [some (zr G 0), some (zi w)] [] := by
    intro E ok okr hw2
    have dummy :  Xz E G I J 11 [some (zr G 0), some (zi w)] [] := by
      refine Z_aload0 (pc := 11) ok dX11_parts_11 ?_
      refine g_X11_state (pc := 12) (t := 1) ok dX11_parts_12 kw340 rfl rfl ?_
      refine g_X8_row (pc := 15) (t := 2) ok dX11_parts_15 kw148 rfl rfl ?_
      refine Z_callVId (pc := 18) ok dX11_parts_18 cw_X11_138 rfl rfl (by decide) (c_dear2 h1) rfl rfl (by decide) (Nat.le_of_ble_eq_true rfl) ?_
      refine Z_if_eqB (pc := 21) (tgt := 27) ok dX11_parts_21 rfl (fun h => ?_) (fun h => ?_)
      · refine Z_aload0 (pc := 27) ok dX11_parts_27 ?_
        refine g_X11_found (pc := 28) (t := 96) ok dX11_parts_28 kw345 rfl rfl ?_
        refine Z_aload0 (pc := 31) ok dX11_parts_31 ?_
        refine g_X11_state (pc := 32) (t := 1) ok dX11_parts_32 kw340 rfl rfl ?_
        refine g_X8_row (pc := 35) (t := 2) ok dX11_parts_35 kw148 rfl rfl ?_
        refine Z_callVV (pc := 38) ok dX11_parts_38 cw_X11_142 rfl rfl (by decide) (c_lookThrough rfl (Or.inl rfl) h1 (show pr (I 3) (I 2 0) ≤ 20000 by omega) hd hp hco) rfl rfl (by decide) (Nat.le_of_ble_eq_true rfl) (fun I1 J1 q => ?_)
        obtain ⟨s1, s2, s3, s4, s5, s6⟩ := q
        have f5 := fr_look s5
        have f6 := fr_lookJ s6
        have hal : 0 ≤ I1 96 4 ∧ I1 96 4 ≤ pr (I 3) (I 2 0) := PSp_al hc0 s1
        refine Z_iload1 (pc := 41) ok dX11_parts_41 ?_
        refine Z_if_ne (pc := 42) (tgt := 53) ok dX11_parts_42 rfl (by first | omega | (simp [sz, uz]; omega)) (fun h2 => ?_) (fun h2 => ?_)
        · refine Z_iload1 (pc := 53) ok dX11_parts_53 ?_
          refine Z_iconst (pc := 54) ok dX11_parts_54 ?_
          refine Z_icmp_ne (pc := 55) (tgt := 81) ok dX11_parts_55 rfl (by first | omega | (simp [sz, uz]; omega)) (by first | omega | (simp [sz, uz]; omega)) (fun h3 => ?_) (fun h3 => ?_)
          · refine Z_aload0 (pc := 81) ok dX11_parts_81 ?_
            refine g_X11_found (pc := 82) (t := 96) ok dX11_parts_82 kw345 rfl rfl ?_
            refine g_X3_ofLeast (pc := 85) ok dX11_parts_85 kw240 rfl ?_
            refine Z_iret (pc := 88) ok okr dX11_parts_88 ?_
            exact ⟨_, rfl, Or.inr (Or.inr ⟨hw2, by omega, ⟨s3, s4, s2⟩, f5, f6, _, _, _, _, s1, Or.inr (Or.inr (Or.inr ⟨by omega, rfl⟩))⟩)⟩
          · refine Z_aload0 (pc := 58) ok dX11_parts_58 ?_
            refine g_X11_found (pc := 59) (t := 96) ok dX11_parts_59 kw345 rfl rfl ?_
            refine g_X3_all (pc := 62) ok dX11_parts_62 kw236 rfl ?_
            refine Z_if_ne (pc := 65) (tgt := 73) ok dX11_parts_65 rfl (by first | omega | (simp [sz, uz]; omega)) (fun h4 => ?_) (fun h4 => ?_)
            · refine Z_aload0 (pc := 73) ok dX11_parts_73 ?_
              refine g_X11_found (pc := 74) (t := 96) ok dX11_parts_74 kw345 rfl rfl ?_
              refine g_X3_least (pc := 77) ok dX11_parts_77 kw238 rfl ?_
              refine Z_iret (pc := 80) ok okr dX11_parts_80 ?_
              exact ⟨_, rfl, Or.inr (Or.inr ⟨hw2, by omega, ⟨s3, s4, s2⟩, f5, f6, _, _, _, _, s1, Or.inr (Or.inr (Or.inl ⟨by omega, by omega, rfl⟩))⟩)⟩
            · refine Z_bipush (pc := 68) ok dX11_parts_68 (by decide) ?_
              refine Z_goto (pc := 70) (tgt := 80) ok dX11_parts_70 rfl ?_
              refine Z_iret (pc := 80) ok okr dX11_parts_80 ?_
              exact ⟨_, rfl, Or.inr (Or.inr ⟨hw2, by omega, ⟨s3, s4, s2⟩, f5, f6, _, _, _, _, s1, Or.inr (Or.inl ⟨by omega, h4, rfl⟩)⟩)⟩
        · refine Z_aload0 (pc := 45) ok dX11_parts_45 ?_
          refine g_X11_found (pc := 46) (t := 96) ok dX11_parts_46 kw345 rfl rfl ?_
          refine g_X3_all (pc := 49) ok dX11_parts_49 kw236 rfl ?_
          refine Z_iret (pc := 52) ok okr dX11_parts_52 ?_
          exact ⟨_, rfl, Or.inr (Or.inr ⟨hw2, by omega, ⟨s3, s4, s2⟩, f5, f6, _, _, _, _, s1, Or.inl ⟨h2, rfl⟩⟩)⟩
      · refine Z_bipush (pc := 24) ok dX11_parts_24 (by decide) ?_
        refine Z_iret (pc := 26) ok okr dX11_parts_26 ?_
        exact ⟨_, rfl, Or.inr (Or.inl ⟨hw2, h, rfl, rfl, rfl⟩)⟩
    exact dummy
  refine Cz.of rfl (Nat.le_of_ble_eq_true rfl) [some (zr G 0), some (zi w)] rfl (fun E ok okr hE => ?_)
  refine Z_iload1 (pc := 0) ok dX11_parts_0 ?_
  refine Z_if_lt (pc := 1) (tgt := 9) ok dX11_parts_1 rfl (by first | omega | (simp [sz, uz]; omega)) (fun h => ?_) (fun h => ?_)
  · refine Z_iconst (pc := 9) ok dX11_parts_9 ?_
    refine Z_iret (pc := 10) ok okr dX11_parts_10 ?_
    exact ⟨_, rfl, Or.inl ⟨by omega, rfl, rfl, rfl⟩⟩
  · refine Z_iload1 (pc := 4) ok dX11_parts_4 ?_
    refine Z_iconst (pc := 5) ok dX11_parts_5 ?_
    refine Z_icmp_le (pc := 6) (tgt := 11) ok dX11_parts_6 rfl (by first | omega | (simp [sz, uz]; omega)) (by first | omega | (simp [sz, uz]; omega)) (fun h2 => ?_) (fun h2 => ?_)
    · exact main E ok okr ⟨h, h2⟩
    · refine Z_iconst (pc := 9) ok dX11_parts_9 ?_
      refine Z_iret (pc := 10) ok okr dX11_parts_10 ?_
      exact ⟨_, rfl, Or.inl ⟨by omega, rfl, rfl, rfl⟩⟩
theorem c_part {e : Int} (he : -2147483648 ≤ e ∧ e ≤ 2147483647) (h1 : gR (I 2 0) (I 3)) (hcc : cch I J) : K_X11_part l G [zr G 0, zi e] I J (fun v I' J' => ∃ r, v = some (zi r) ∧ ((¬ (0 ≤ e ∧ e < I 2 0) ∧ r = -1 ∧ I' = I ∧ J' = J) ∨ ((0 ≤ e ∧ e < I 2 0) ∧ 20000 < pr (I 3) (I 2 0) ∧ r = -8 ∧ I' = I ∧ J' = J) ∨ ((0 ≤ e ∧ e < I 2 0) ∧ pr (I 3) (I 2 0) ≤ 20000 ∧ cch I' J' ∧ fr [87, 88, 89, 91, 92, 93, 95, 96, 97, 98, 99] I I' ∧ fr [90, 94] J J' ∧ ∃ al le ofl fi, PSp (I 2 0) (I 3) al le ofl fi ∧ ((al = 0 ∧ r = -5) ∨ (0 < al ∧ r = fi e))))) := by
  obtain ⟨hd, hp, hco⟩ := hcc
  have hn := h1.1
  have hc0 : ∀ e, 0 ≤ I 3 e := fun e => (h1.2.1 e).1
  refine Cz.of rfl (Nat.le_of_ble_eq_true rfl) [some (zr G 0), some (zi e), none] rfl (fun E ok okr hE => ?_)
  refine Z_aload0 (pc := 0) ok dX11_part_0 ?_
  refine g_X11_state (pc := 1) (t := 1) ok dX11_part_1 kw340 rfl rfl ?_
  refine g_X8_row (pc := 4) (t := 2) ok dX11_part_4 kw148 rfl rfl ?_
  refine Z_astore2 (pc := 7) ok (by decide) dX11_part_7 rfl ?_
  refine Z_aload2 (pc := 8) ok dX11_part_8 ?_
  refine Z_iload1 (pc := 9) ok dX11_part_9 ?_
  refine Z_callVId (pc := 10) ok dX11_part_10 cw_X11_106 rfl rfl (by decide) (c_Row_has rfl he (by omega)) rfl rfl (by decide) (Nat.le_of_ble_eq_true rfl) ?_
  refine Z_if_neB (pc := 13) (tgt := 18) ok dX11_part_13 rfl (fun h0 => ?_) (fun h0 => ?_)
  · refine Z_aload2 (pc := 18) ok dX11_part_18 ?_
    refine Z_callVId (pc := 19) ok dX11_part_19 cw_X11_138 rfl rfl (by decide) (c_dear2 h1) rfl rfl (by decide) (Nat.le_of_ble_eq_true rfl) ?_
    refine Z_if_eqB (pc := 22) (tgt := 28) ok dX11_part_22 rfl (fun h => ?_) (fun h => ?_)
    · refine Z_aload0 (pc := 28) ok dX11_part_28 ?_
      refine g_X11_found (pc := 29) (t := 96) ok dX11_part_29 kw345 rfl rfl ?_
      refine Z_aload2 (pc := 32) ok dX11_part_32 ?_
      refine Z_callVV (pc := 33) ok dX11_part_33 cw_X11_142 rfl rfl (by decide) (c_lookThrough rfl (Or.inl rfl) h1 (show pr (I 3) (I 2 0) ≤ 20000 by omega) hd hp hco) rfl rfl (by decide) (Nat.le_of_ble_eq_true rfl) (fun I1 J1 q => ?_)
      obtain ⟨s1, s2, s3, s4, s5, s6⟩ := q
      have f5 := fr_look s5
      have f6 := fr_lookJ s6
      have hal : 0 ≤ I1 96 4 ∧ I1 96 4 ≤ pr (I 3) (I 2 0) := PSp_al hc0 s1
      refine Z_aload0 (pc := 36) ok dX11_part_36 ?_
      refine g_X11_found (pc := 37) (t := 96) ok dX11_part_37 kw345 rfl rfl ?_
      refine g_X3_all (pc := 40) ok dX11_part_40 kw236 rfl ?_
      refine Z_if_ne (pc := 43) (tgt := 51) ok dX11_part_43 rfl (by first | omega | (simp [sz, uz]; omega)) (fun h2 => ?_) (fun h2 => ?_)
      · refine Z_aload0 (pc := 51) ok dX11_part_51 ?_
        refine g_X11_found (pc := 52) (t := 96) ok dX11_part_52 kw345 rfl rfl ?_
        refine g_X3_first (pc := 55) (t := 99) ok dX11_part_55 kw234 rfl rfl ?_
        refine Z_iload1 (pc := 58) ok dX11_part_58 ?_
        refine Z_iald (pc := 59) (L := 30) ok dX11_part_59 rfl rfl (by first | omega | (simp [sz, uz]; omega)) ?_
        refine Z_iret (pc := 60) ok okr dX11_part_60 ?_
        exact ⟨_, rfl, Or.inr (Or.inr ⟨h0, by omega, ⟨s3, s4, s2⟩, f5, f6, _, _, _, _, s1, Or.inr ⟨by omega, rfl⟩⟩)⟩
      · refine Z_bipush (pc := 46) ok dX11_part_46 (by decide) ?_
        refine Z_goto (pc := 48) (tgt := 60) ok dX11_part_48 rfl ?_
        refine Z_iret (pc := 60) ok okr dX11_part_60 ?_
        exact ⟨_, rfl, Or.inr (Or.inr ⟨h0, by omega, ⟨s3, s4, s2⟩, f5, f6, _, _, _, _, s1, Or.inl ⟨h2, rfl⟩⟩)⟩
    · refine Z_bipush (pc := 25) ok dX11_part_25 (by decide) ?_
      refine Z_iret (pc := 27) ok okr dX11_part_27 ?_
      exact ⟨_, rfl, Or.inr (Or.inl ⟨h0, h, rfl, rfl, rfl⟩)⟩
  · refine Z_iconst (pc := 16) ok dX11_part_16 ?_
    refine Z_iret (pc := 17) ok okr dX11_part_17 ?_
    exact ⟨_, rfl, Or.inl ⟨h0, rfl, rfl, rfl⟩⟩
theorem c_take (h1 : gR (I 2 0) (I 3)) (hcc : cch I J) : K_X11_take l G [zr G 0] I J (fun v I' J' => ∃ r, v = some (zi r) ∧ ((20000 < pr (I 3) (I 2 0) ∧ r = -8 ∧ I' = I ∧ J' = J) ∨ (pr (I 3) (I 2 0) ≤ 20000 ∧ cch I' J' ∧ fr [3, 87, 88, 89, 91, 92, 93, 95, 96, 97, 98, 99] I I' ∧ fr [90, 94] J J' ∧ ∃ al le ofl fi, PSp (I 2 0) (I 3) al le ofl fi ∧ ((al = 0 ∧ r = -5 ∧ I' 3 = I 3) ∨ (0 < al ∧ r = le ∧ I' 3 = fun e => I 3 e - fi e))))) := by
  refine Cz.of rfl (Nat.le_of_ble_eq_true rfl) [some (zr G 0), none] rfl (fun E ok okr hE => ?_)
  refine Z_aload0 (pc := 0) ok dX11_take_0 ?_
  refine g_X11_state (pc := 1) (t := 1) ok dX11_take_1 kw340 rfl rfl ?_
  refine g_X8_row (pc := 4) (t := 2) ok dX11_take_4 kw148 rfl rfl ?_
  refine Z_astore1 (pc := 7) ok (by decide) dX11_take_7 rfl ?_
  refine Z_aload1 (pc := 8) ok dX11_take_8 ?_
  refine Z_callVId (pc := 9) ok dX11_take_9 cw_X11_138 rfl rfl (by decide) (c_dear2 h1) rfl rfl (by decide) (Nat.le_of_ble_eq_true rfl) ?_
  refine Z_if_eqB (pc := 12) (tgt := 18) ok dX11_take_12 rfl (fun h => ?_) (fun h => ?_)
  · refine Z_aload0 (pc := 18) ok dX11_take_18 ?_
    refine Z_aload1 (pc := 19) ok dX11_take_19 ?_
    refine Z_callVI (pc := 20) ok dX11_take_20 cw_X11_158 rfl rfl (by decide) (c_lose rfl (Or.inl rfl) h1 (show pr (I 3) (I 2 0) ≤ 20000 by omega) hcc) rfl rfl (by decide) (Nat.le_of_ble_eq_true rfl) (fun r I1 J1 q => ?_)
    obtain ⟨al, le, ofl, fi, s1, s2, s3, s4, s5, s6⟩ := q
    rcases s6 with ⟨rfl, a1, a2⟩ | ⟨rfl, a1, a2⟩
    · refine Z_if_eq (pc := 23) (tgt := 36) ok dX11_take_23 rfl (by first | omega | (simp [sz, uz]; omega)) (fun h => by exfalso; omega) (fun _ => ?_)
      refine Z_aload0 (pc := 26) ok dX11_take_26 ?_
      refine g_X11_found (pc := 27) (t := 96) ok dX11_take_27 kw345 rfl rfl ?_
      refine g_X3_least (pc := 30) ok dX11_take_30 kw238 rfl ?_
      refine Z_goto (pc := 33) (tgt := 38) ok dX11_take_33 rfl ?_
      refine Z_iret (pc := 38) ok okr dX11_take_38 ?_
      exact ⟨_, rfl, Or.inr ⟨by omega, s3, s4, s5, _, _, _, _, s1, Or.inr ⟨a1, s2, a2⟩⟩⟩
    · refine Z_if_eq (pc := 23) (tgt := 36) ok dX11_take_23 rfl (by first | omega | (simp [sz, uz]; omega)) (fun _ => ?_) (fun h => by exfalso; omega)
      refine Z_bipush (pc := 36) ok dX11_take_36 (by decide) ?_
      refine Z_iret (pc := 38) ok okr dX11_take_38 ?_
      exact ⟨_, rfl, Or.inr ⟨by omega, s3, s4, s5, _, _, _, _, s1, Or.inl ⟨a1, rfl, a2⟩⟩⟩
  · refine Z_bipush (pc := 15) ok dX11_take_15 (by decide) ?_
    refine Z_iret (pc := 17) ok okr dX11_take_17 ?_
    exact ⟨_, rfl, Or.inl ⟨h, rfl, rfl, rfl⟩⟩
theorem c_pieces (h1 : gR (I 2 0) (I 3)) (hcc : cch I J) : K_X11_pieces l G [zr G 0] I J (fun v I' J' => ∃ r, v = some (zi r) ∧ ((20000 < pr (I 3) (I 2 0) ∧ r = -8 ∧ I' = I ∧ J' = J) ∨ (pr (I 3) (I 2 0) ≤ 20000 ∧ cch I' J' ∧ fr [87, 88, 89, 91, 92, 93, 95, 96, 97, 98, 99, 116, 117] I I' ∧ fr [90, 94] J J' ∧ ∃ (m : Nat) (x : Int → Int), r = m ∧ rch (I 2 0) m (I 3) x ∧ noP (I 2 0) x))) := by
  have hn := h1.1
  refine Cz.of rfl (Nat.le_of_ble_eq_true rfl) [some (zr G 0), none, none] rfl (fun E ok okr hE => ?_)
  refine Z_aload0 (pc := 0) ok dX11_pieces_0 ?_
  refine g_X11_state (pc := 1) (t := 1) ok dX11_pieces_1 kw340 rfl rfl ?_
  refine g_X8_row (pc := 4) (t := 2) ok dX11_pieces_4 kw148 rfl rfl ?_
  refine Z_callVId (pc := 7) ok dX11_pieces_7 cw_X11_138 rfl rfl (by decide) (c_dear2 h1) rfl rfl (by decide) (Nat.le_of_ble_eq_true rfl) ?_
  refine Z_if_eqB (pc := 10) (tgt := 16) ok dX11_pieces_10 rfl (fun h => ?_) (fun h => ?_)
  · refine Z_aload0 (pc := 16) ok dX11_pieces_16 ?_
    refine g_X11_remaining (pc := 17) (t := 116) ok dX11_pieces_17 kw350 rfl rfl ?_
    refine Z_aload0 (pc := 20) ok dX11_pieces_20 ?_
    refine g_X11_state (pc := 21) (t := 1) ok dX11_pieces_21 kw340 rfl rfl ?_
    refine g_X8_row (pc := 24) (t := 2) ok dX11_pieces_24 kw148 rfl rfl ?_
    refine Z_callVVd (pc := 27) ok dX11_pieces_27 cw_X11_161 rfl rfl (by decide) (c_Row_become rfl rfl) rfl rfl (by decide) (Nat.le_of_ble_eq_true rfl) ?_
    refine Z_iconst (pc := 30) ok dX11_pieces_30 ?_
    refine Z_istore1 (pc := 31) ok (by decide) dX11_pieces_31 rfl ?_
    refine Z_iconst (pc := 32) ok dX11_pieces_32 ?_
    refine Z_istore2 (pc := 33) ok (by decide) dX11_pieces_33 rfl ?_
    refine Z_gen (fun T hT => ?_)
    have t116 : T 116 0 = I 2 0 := by rw [hT]; simp [sz, uz]
    have t117 : T 117 = I 3 := by rw [hT]; simp [sz]
    have fT : fr [87, 88, 89, 91, 92, 93, 95, 96, 97, 98, 99, 116, 117] I T := by rw [hT]; exact (fr.rf.st rfl).st rfl
    have cT : cch T J := by
      rw [hT]
      obtain ⟨hd, hp, hco⟩ := hcc
      refine ⟨dOk_c hd (by simp [sz]) (by simp [sz]), ?_, ?_⟩
      · unfold pkOk at *; simp only [sz_ne _ _ (show (87 : Nat) ≠ 117 by decide), sz_ne _ _ (show (87 : Nat) ≠ 116 by decide)]; exact hp
      · unfold cOk at *
        simp only [sz_ne _ _ (show (96 : Nat) ≠ 117 by decide), sz_ne _ _ (show (96 : Nat) ≠ 116 by decide), sz_ne _ _ (show (97 : Nat) ≠ 117 by decide), sz_ne _ _ (show (97 : Nat) ≠ 116 by decide), sz_ne _ _ (show (98 : Nat) ≠ 117 by decide), sz_ne _ _ (show (98 : Nat) ≠ 116 by decide), sz_ne _ _ (show (99 : Nat) ≠ 117 by decide), sz_ne _ _ (show (99 : Nat) ≠ 116 by decide)]
        exact hco
    clear hT
    have hu := su_le (f := I 3) (g := fun _ => 9) (e := I 2 0) (fun j _ _ => (h1.2.1 j).2)
    rw [su_k _ (by omega)] at hu
    have H : ∀ i : Int, 0 ≤ i → i ≤ 270 → ∀ (I1 J1 : Mz) (c : Int → Int), I1 116 0 = I 2 0 → I1 117 = c → gR (I 2 0) c → (∀ e, c e ≤ I 3 e) → su c (I 2 0) ≤ 270 - i → rch (I 2 0) i.toNat (I 3) c → cch I1 J1 → fr [87, 88, 89, 91, 92, 93, 95, 96, 97, 98, 99, 116, 117] I I1 → fr [90, 94] J J1 → Xz E G I1 J1 34 [some (zr G 0), some (zi i), some (zi i)] [] := by
      refine zUp ?_ ?_
      · intro I1 J1 c y1 y2 y3 y4 y5 y6 y7 y8 y9
        refine Z_iload2 (pc := 34) ok dX11_pieces_34 ?_
        refine Z_sipush (pc := 35) ok dX11_pieces_35 (by decide) ?_
        refine Z_icmp_ge (pc := 38) (tgt := 61) ok dX11_pieces_38 rfl (by first | omega | (simp [sz, uz]; omega)) (by first | omega | (simp [sz, uz]; omega)) (fun _ => ?_) (fun h => by exfalso; omega)
        refine Z_iload1 (pc := 61) ok dX11_pieces_61 ?_
        refine Z_iret (pc := 62) ok okr dX11_pieces_62 ?_
        refine ⟨_, rfl, Or.inr ⟨by omega, y7, y8, y9, 270, c, rfl, y6, ?_⟩⟩
        -- nothing is left
        have hz : ∀ t, vld (I 2 0) c t → ¬ good (I 2 0) t := by
          intro t ht hg
          have := su_le (f := t) (g := c) (e := I 2 0) (fun j _ _ => (ht.1 j).2)
          have := hg.1
          omega
        have hSV : ∀ F : (Int → Int) → Prop, (∀ t, vld (I 2 0) c t → ¬ F t) → SV c (I 2 0).toNat 0 (fun t => zb (F t)) = 0 := by
          intro F hF
          have hc0 : ∀ e, 0 ≤ c e := fun e => (y3.2.1 e).1
          rw [← SV_su hc0, su_c (g := fun _ => 0) (fun j _ _ => zb_f (hF _ (dcv_v (by omega) hc0 j))), su_00]
        exact ⟨0, 0, fun _ => 0, (hSV _ hz).symm, fun _ => rfl, fun q => by omega⟩
      · intro i i0 i1 ih I1 J1 c y1 y2 y3 y4 y5 y6 y7 y8 y9
        have hc0 : ∀ e, 0 ≤ c e := fun e => (y3.2.1 e).1
        have hpl := pr_le hc0 y4 (I 2 0)
        refine Z_iload2 (pc := 34) ok dX11_pieces_34 ?_
        refine Z_sipush (pc := 35) ok dX11_pieces_35 (by decide) ?_
        refine Z_icmp_ge (pc := 38) (tgt := 61) ok dX11_pieces_38 rfl (by first | omega | (simp [sz, uz]; omega)) (by first | omega | (simp [sz, uz]; omega)) (fun h => by exfalso; omega) (fun _ => ?_)
        refine Z_aload0 (pc := 41) ok dX11_pieces_41 ?_
        refine Z_aload0 (pc := 42) ok dX11_pieces_42 ?_
        refine g_X11_remaining (pc := 43) (t := 116) ok dX11_pieces_43 kw350 rfl rfl ?_
        refine Z_callVI (pc := 46) ok dX11_pieces_46 cw_X11_158 rfl rfl (by decide) (c_lose (k := 116) rfl (Or.inr rfl) (by show gR (I1 116 0) (I1 117); rw [y1, y2]; exact y3) (by show pr (I1 117) (I1 116 0) ≤ 20000; rw [y1, y2]; omega) y7) rfl rfl (by decide) (Nat.le_of_ble_eq_true rfl) (fun r I2 J2 q => ?_)
        obtain ⟨al, le, ofl, fi, s1, s2, s3, s4, s5, s6⟩ := q
        have s1 : PSp (I1 116 0) (I1 117) al le ofl fi := s1
        rw [y1, y2] at s1
        have f8 : fr [87, 88, 89, 91, 92, 93, 95, 96, 97, 98, 99, 116, 117] I I2 := y8.tr (s4.sub rfl)
        rcases s6 with ⟨rfl, a1, a2⟩ | ⟨rfl, a1, a2⟩
        · obtain ⟨g1, g2, g3, g4, g5⟩ := s1.2.2 a1
          have a2 : I2 117 = fun e => I1 117 e - fi e := a2
          rw [y2] at a2
          refine Z_if_eq (pc := 49) (tgt := 61) ok dX11_pieces_49 rfl (by first | omega | (simp [sz, uz]; omega)) (fun h => by exfalso; omega) (fun _ => ?_)
          refine Z_iinc1 (pc := 52) ok (by decide) dX11_pieces_52 rfl ?_
          refine Z_iinc2 (pc := 55) ok (by decide) dX11_pieces_55 rfl ?_
          refine Z_goto (pc := 58) (tgt := 34) ok dX11_pieces_58 rfl ?_
          have hsub : su (fun e => c e - fi e) (I 2 0) = su c (I 2 0) - su fi (I 2 0) := by
            have := su_add (fun e => c e - fi e) fi (I 2 0)
            rw [su_c (g := c) (fun j _ _ => by show c j - fi j + fi j = c j; omega)] at this
            omega
          refine ih I2 J2 (fun e => c e - fi e) (by rw [s4.at 116 rfl]; exact y1) a2 ⟨hn, fun e => ?_, fun e he => ?_⟩ (fun e => ?_) ?_ ?_ s3 f8 (y9.tr s5)
          · have := g3.1 e; have := (y3.2.1 e); show 0 ≤ c e - fi e ∧ c e - fi e ≤ 9; omega
          · show c e - fi e = 0
            rw [y3.2.2 e he, g3.2 e he]; rfl
          · have := g3.1 e; have := y4 e; show c e - fi e ≤ I 3 e; omega
          · have := g1.1; omega
          · rw [show (i + 1).toNat = i.toNat + 1 by omega]
            exact ⟨c, y6, al, le, ofl, fi, s1, a1, rfl⟩
        · refine Z_if_eq (pc := 49) (tgt := 61) ok dX11_pieces_49 rfl (by first | omega | (simp [sz, uz]; omega)) (fun _ => ?_) (fun h => by exfalso; omega)
          refine Z_iload1 (pc := 61) ok dX11_pieces_61 ?_
          refine Z_iret (pc := 62) ok okr dX11_pieces_62 ?_
          refine ⟨_, rfl, Or.inr ⟨by omega, s3, f8, y9.tr s5, i.toNat, c, by omega, y6, le, ofl, fi, by rw [a1] at s1; exact s1⟩⟩
    exact H 0 (by omega) (by omega) T J (I 3) t116 t117 h1 (fun _ => Int.le_refl _) (by omega) rfl cT fT fr.rf
  · refine Z_bipush (pc := 13) ok dX11_pieces_13 (by decide) ?_
    refine Z_iret (pc := 15) ok okr dX11_pieces_15 ?_
    exact ⟨_, rfl, Or.inl ⟨h, rfl, rfl, rfl⟩⟩
end
