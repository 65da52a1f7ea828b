/-! texts: what is spelled, what is read -/
def tx (f : Int → Int) (s : Int) (L : List Int) : Prop := s = (L.length : Int) ∧ ∀ i : Nat, i < L.length → f (i : Int) = L.getD i 0
theorem tx_nil (f : Int → Int) : tx f 0 [] := ⟨rfl, fun i h => by simp at h⟩
theorem tx_add {f : Int → Int} {s : Int} {L : List Int} (h : tx f s L) (a : Int) : tx (uz f s a) (s + 1) (L ++ [a]) := by
  obtain ⟨h1, h2⟩ := h
  subst h1
  refine ⟨by simp, fun i hi => ?_⟩
  simp at hi
  by_cases hi2 : i = L.length
  · subst hi2; rw [uz_eq]; simp [List.getD_eq_getElem?_getD]
  · rw [uz_ne _ _ (by omega), h2 i (by omega)]
    simp only [List.getD_eq_getElem?_getD]
    rw [List.getElem?_append_left (by omega)]
def numL (v : Int) : List Int := if 9 < v then [48 + v / 10, 48 + v % 10] else [48 + v % 10]
def itemL (e c : Int) : List Int := numL e ++ (if 1 < c then 120 :: numL c else [])
def spE (c : Int → Int) : Nat → List Int
  | 0 => []
  | e + 1 => if 0 < c e then spE c e ++ (if spE c e = [] then [] else [44]) ++ itemL e (c e) else spE c e
def SPL (n : Int) (c : Int → Int) : List Int := numL n ++ [58] ++ spE c n.toNat
theorem numL_len (v : Int) : (numL v).length ≤ 2 := by simp only [numL]; split <;> simp
theorem numL_1 {v : Int} (h : 0 ≤ v ∧ v ≤ 9) : numL v = [48 + v] := by
  rw [numL, if_neg (by omega), Int.emod_eq_of_lt (by omega) (by omega)]
theorem itemL_len {e c : Int} (hc : 0 ≤ c ∧ c ≤ 9) : (itemL e c).length ≤ 4 := by
  have h1 := numL_len e
  have h2 : (numL c).length = 1 := by rw [numL_1 hc]; rfl
  simp only [itemL]; split <;> simp <;> omega
theorem itemL_ne (e c : Int) : itemL e c ≠ [] := by
  simp only [itemL, numL]; split <;> simp
theorem spE_len {c : Int → Int} (hc : ∀ e, 0 ≤ c e ∧ c e ≤ 9) : ∀ e : Nat, (spE c e).length ≤ 5 * e
  | 0 => Nat.le_refl _
  | e + 1 => by
    have h1 := spE_len hc e
    have h2 := itemL_len (e := e) (hc e)
    simp only [spE]; split
    · simp only [List.length_append]
      split <;> simp <;> omega
    · omega
section
variable {l : Launch} {G : Gw} {I J : Mz}
theorem c_Sp_append {L : List Int} (ht : tx (I 115) (I 114 0) L) (hl : L.length < 160) (a : Int) : K_X7_append l G [zr G 114, zi a] I J (fun v I' J' => v = none ∧ (tx (I' 115) (I' 114 0) (L ++ [a]) ∧ fr [114, 115] I I' ∧ J' = J)) := by
  have h0 := ht.1
  refine Cz.of rfl (Nat.le_of_ble_eq_true rfl) [some (zr G 114), some (zi a)] rfl (fun E ok okr hE => ?_)
  refine Z_aload0 (pc := 0) ok dX7_append_0 ?_
  refine g_X7_size (pc := 1) ok dX7_append_1 kw329 rfl ?_
  refine Z_sipush (pc := 4) ok dX7_append_4 (by decide) ?_
  refine Z_icmp_ge (pc := 7) (tgt := 30) ok dX7_append_7 rfl (by first | omega | (simp [sz, uz]; omega)) (by first | omega | (simp [sz, uz]; omega)) (fun h => by exfalso; omega) (fun _ => ?_)
  refine Z_aload0 (pc := 10) ok dX7_append_10 ?_
  refine g_X7_bytes (pc := 11) (t := 115) ok dX7_append_11 kw331 rfl rfl ?_
  refine Z_aload0 (pc := 14) ok dX7_append_14 ?_
  refine g_X7_size (pc := 15) ok dX7_append_15 kw329 rfl ?_
  refine Z_iload1 (pc := 18) ok dX7_append_18 ?_
  refine Z_iast (pc := 19) (L := 160) ok dX7_append_19 rfl rfl (by first | omega | (simp [sz, uz]; omega)) ?_
  refine Z_aload0 (pc := 20) ok dX7_append_20 ?_
  refine Z_dup (pc := 21) ok dX7_append_21 rfl ?_
  refine g_X7_size (pc := 22) ok dX7_append_22 kw329 rfl ?_
  refine Z_iconst (pc := 25) ok dX7_append_25 ?_
  refine Z_iadd (pc := 26) ok dX7_append_26 ?_
  refine p_X7_size (pc := 27) ok dX7_append_27 kw329 rfl ?_
  refine Z_vret (pc := 30) ok okr dX7_append_30 ?_
  refine ⟨rfl, ?_, (fr.rf.st rfl).st rfl, rfl⟩
  have h1 := tx_add ht a
  simp only [sz_ne _ _ (show (115 : Nat) ≠ 114 by decide), sz_ne _ _ (show (114 : Nat) ≠ 115 by decide), sz_eq, uz_eq]
  exact h1
theorem c_Sp_number {L : List Int} (ht : tx (I 115) (I 114 0) L) {a : Int} (ha : 0 ≤ a ∧ a ≤ 99) (hl : L.length < 158) : K_X7_number l G [zr G 114, zi a] I J (fun v I' J' => v = none ∧ (tx (I' 115) (I' 114 0) (L ++ numL a) ∧ fr [114, 115] I I' ∧ J' = J)) := by
  refine Cz.of rfl (Nat.le_of_ble_eq_true rfl) [some (zr G 114), some (zi a)] rfl (fun E ok okr hE => ?_)
  refine Z_iload1 (pc := 0) ok dX7_number_0 ?_
  refine Z_bipush (pc := 1) ok dX7_number_1 (by decide) ?_
  refine Z_icmp_le (pc := 3) (tgt := 17) ok dX7_number_3 rfl (by first | omega | (simp [sz, uz]; omega)) (by first | omega | (simp [sz, uz]; omega)) (fun h => ?_) (fun h => ?_)
  · refine Z_aload0 (pc := 17) ok dX7_number_17 ?_
    refine Z_bipush (pc := 18) ok dX7_number_18 (by decide) ?_
    refine Z_iload1 (pc := 20) ok dX7_number_20 ?_
    refine Z_bipush (pc := 21) ok dX7_number_21 (by decide) ?_
    refine Z_irem (pc := 23) ok dX7_number_23 (by omega) (by omega) (by omega) (by omega) ?_
    refine Z_iadd (pc := 24) ok dX7_number_24 ?_
    refine Z_callVV (pc := 25) ok dX7_number_25 cw_X7_28 rfl rfl (by decide) (c_Sp_append ht (by omega) _) rfl rfl (by decide) (Nat.le_of_ble_eq_true rfl) (fun I1 J1 q => ?_)
    refine Z_vret (pc := 28) ok okr dX7_number_28 ?_
    obtain ⟨q1, q2, q3⟩ := q
    rw [numL, if_neg (by omega)]
    exact ⟨rfl, q1, q2, q3⟩
  · refine Z_aload0 (pc := 6) ok dX7_number_6 ?_
    refine Z_bipush (pc := 7) ok dX7_number_7 (by decide) ?_
    refine Z_iload1 (pc := 9) ok dX7_number_9 ?_
    refine Z_bipush (pc := 10) ok dX7_number_10 (by decide) ?_
    refine Z_idiv (pc := 12) ok dX7_number_12 (by omega) (by omega) (by omega) (by omega) ?_
    refine Z_iadd (pc := 13) ok dX7_number_13 ?_
    refine Z_callVV (pc := 14) ok dX7_number_14 cw_X7_28 rfl rfl (by decide) (c_Sp_append ht (by omega) _) rfl rfl (by decide) (Nat.le_of_ble_eq_true rfl) (fun I1 J1 q => ?_)
    obtain ⟨q1, q2, rfl⟩ := q
    refine Z_aload0 (pc := 17) ok dX7_number_17 ?_
    refine Z_bipush (pc := 18) ok dX7_number_18 (by decide) ?_
    refine Z_iload1 (pc := 20) ok dX7_number_20 ?_
    refine Z_bipush (pc := 21) ok dX7_number_21 (by decide) ?_
    refine Z_irem (pc := 23) ok dX7_number_23 (by omega) (by omega) (by omega) (by omega) ?_
    refine Z_iadd (pc := 24) ok dX7_number_24 ?_
    refine Z_callVV (pc := 25) ok dX7_number_25 cw_X7_28 rfl rfl (by decide) (c_Sp_append q1 (by simp; omega) _) rfl rfl (by decide) (Nat.le_of_ble_eq_true rfl) (fun I2 J2 q => ?_)
    refine Z_vret (pc := 28) ok okr dX7_number_28 ?_
    obtain ⟨q3, q4, q5⟩ := q
    rw [numL, if_pos h]
    rw [List.append_assoc] at q3
    exact ⟨rfl, q3, q2.tr q4, q5⟩
theorem c_Sp_item {L : List Int} (ht : tx (I 115) (I 114 0) L) {e c : Int} (he : 0 ≤ e ∧ e ≤ 99) (hc : 0 ≤ c ∧ c ≤ 9) (hl : L.length < 150) : K_X7_item l G [zr G 114, zi e, zi c] I J (fun v I' J' => v = none ∧ (tx (I' 115) (I' 114 0) (L ++ itemL e c) ∧ fr [114, 115] I I' ∧ J' = J)) := by
  have hn := numL_len e
  refine Cz.of rfl (Nat.le_of_ble_eq_true rfl) [some (zr G 114), some (zi e), some (zi c)] rfl (fun E ok okr hE => ?_)
  refine Z_aload0 (pc := 0) ok dX7_item_0 ?_
  refine Z_iload1 (pc := 1) ok dX7_item_1 ?_
  refine Z_callVV (pc := 2) ok dX7_item_2 cw_X7_24 rfl rfl (by decide) (c_Sp_number ht he (by omega)) rfl rfl (by decide) (Nat.le_of_ble_eq_true rfl) (fun I1 J1 q => ?_)
  obtain ⟨q1, q2, rfl⟩ := q
  refine Z_iload2 (pc := 5) ok dX7_item_5 ?_
  refine Z_iconst (pc := 6) ok dX7_item_6 ?_
  refine Z_icmp_le (pc := 7) (tgt := 21) ok dX7_item_7 rfl (by first | omega | (simp [sz, uz]; omega)) (by first | omega | (simp [sz, uz]; omega)) (fun h => ?_) (fun h => ?_)
  · refine Z_vret (pc := 21) ok okr dX7_item_21 ?_
    rw [itemL, if_neg (by omega), List.append_nil]
    exact ⟨rfl, q1, q2, rfl⟩
  · refine Z_aload0 (pc := 10) ok dX7_item_10 ?_
    refine Z_bipush (pc := 11) ok dX7_item_11 (by decide) ?_
    refine Z_callVV (pc := 13) ok dX7_item_13 cw_X7_28 rfl rfl (by decide) (c_Sp_append q1 (by simp; omega) _) rfl rfl (by decide) (Nat.le_of_ble_eq_true rfl) (fun I2 J2 q => ?_)
    obtain ⟨q3, q4, rfl⟩ := q
    refine Z_aload0 (pc := 16) ok dX7_item_16 ?_
    refine Z_iload2 (pc := 17) ok dX7_item_17 ?_
    refine Z_callVV (pc := 18) ok dX7_item_18 cw_X7_24 rfl rfl (by decide) (c_Sp_number q3 (by omega) (by simp; omega)) rfl rfl (by decide) (Nat.le_of_ble_eq_true rfl) (fun I3 J3 q => ?_)
    refine Z_vret (pc := 21) ok okr dX7_item_21 ?_
    obtain ⟨q5, q6, q7⟩ := q
    rw [itemL, if_pos h]
    rw [List.append_assoc, List.append_assoc] at q5
    exact ⟨rfl, q5, (q2.tr q4).tr q6, q7⟩
theorem c_spell (h1 : gR (I 2 0) (I 3)) : K_X7_spell l G [zr G 114, zr G 2] I J (fun v I' J' => v = none ∧ (tx (I' 115) (I' 114 0) (SPL (I 2 0) (I 3)) ∧ fr [114, 115] I I' ∧ J' = J)) := by
  have hn := h1.1
  have hnl := numL_len (I 2 0)
  refine Cz.of rfl (Nat.le_of_ble_eq_true rfl) [some (zr G 114), some (zr G 2), none, none] rfl (fun E ok okr hE => ?_)
  refine Z_aload0 (pc := 0) ok dX7_spell_0 ?_
  refine Z_iconst (pc := 1) ok dX7_spell_1 ?_
  refine p_X7_size (pc := 2) ok dX7_spell_2 kw329 rfl ?_
  refine Z_aload0 (pc := 5) ok dX7_spell_5 ?_
  refine Z_aload1 (pc := 6) ok dX7_spell_6 ?_
  refine g_X5_n (pc := 7) ok dX7_spell_7 kw95 rfl ?_
  rw [sz_ne _ _ (show (2 : Nat) ≠ 114 by decide)]
  refine Z_callVV (pc := 10) ok dX7_spell_10 cw_X7_24 rfl rfl (by decide) (c_Sp_number (L := []) (by rw [sz_eq, uz_eq]; exact tx_nil _) (show 0 ≤ I 2 0 ∧ I 2 0 ≤ 99 by omega) (by simp)) rfl rfl (by decide) (Nat.le_of_ble_eq_true rfl) (fun I1 J1 q => ?_)
  obtain ⟨q1, q2, rfl⟩ := q
  rw [List.nil_append] at q1
  refine Z_aload0 (pc := 13) ok dX7_spell_13 ?_
  refine Z_bipush (pc := 14) ok dX7_spell_14 (by decide) ?_
  refine Z_callVV (pc := 16) ok dX7_spell_16 cw_X7_28 rfl rfl (by decide) (c_Sp_append q1 (by omega) _) rfl rfl (by decide) (Nat.le_of_ble_eq_true rfl) (fun I2 J2 q => ?_)
  refine Z_iconst (pc := 19) ok dX7_spell_19 ?_
  refine Z_istore2 (pc := 20) ok (by decide) dX7_spell_20 rfl ?_
  refine Z_iconst (pc := 21) ok dX7_spell_21 ?_
  refine Z_istore3 (pc := 22) ok (by decide) dX7_spell_22 rfl ?_
  obtain ⟨q3, q4, rfl⟩ := q
  have f2 : fr [114, 115] I I2 := ((fr.rf.st rfl).tr q2).tr q4
  have H : ∀ e : Int, 0 ≤ e → e ≤ I 2 0 → ∀ I3 : Mz, fr [114, 115] I I3 → tx (I3 115) (I3 114 0) (numL (I 2 0) ++ [58] ++ spE (I 3) e.toNat) → Xz E G I3 J2 23 [some (zr G 114), some (zr G 2), some (zi (zb (spE (I 3) e.toNat ≠ []))), some (zi e)] [] := by
    refine zUp ?_ ?_
    · intro I3 g1 g2
      have e2 : I3 2 0 = I 2 0 := by rw [g1.at 2 rfl]
      refine Z_iload3 (pc := 23) ok dX7_spell_23 ?_
      refine Z_aload1 (pc := 24) ok dX7_spell_24 ?_
      refine g_X5_n (pc := 25) ok dX7_spell_25 kw95 rfl ?_
      refine Z_icmp_ge (pc := 28) (tgt := 69) ok dX7_spell_28 rfl (by first | omega | (simp [sz, uz]; omega)) (by first | omega | (simp [sz, uz]; omega)) (fun _ => ?_) (fun h => by exfalso; omega)
      refine Z_vret (pc := 69) ok okr dX7_spell_69 ?_
      exact ⟨rfl, g2, g1, rfl⟩
    · intro e e0 e1 ih I3 g1 g2
      have e2 : I3 2 0 = I 2 0 := by rw [g1.at 2 rfl]
      have e3 : I3 3 = I 3 := g1.at 3 rfl
      have e3e := congrFun e3 e
      have hce := h1.2.1 e
      have hsl := spE_len h1.2.1 e.toNat
      rw [show (e + 1).toNat = e.toNat + 1 by omega, spE, show ((e.toNat : Nat) : Int) = e by omega] at ih
      refine Z_iload3 (pc := 23) ok dX7_spell_23 ?_
      refine Z_aload1 (pc := 24) ok dX7_spell_24 ?_
      refine g_X5_n (pc := 25) ok dX7_spell_25 kw95 rfl ?_
      refine Z_icmp_ge (pc := 28) (tgt := 69) ok dX7_spell_28 rfl (by first | omega | (simp [sz, uz]; omega)) (by first | omega | (simp [sz, uz]; omega)) (fun h => by exfalso; omega) (fun _ => ?_)
      refine Z_aload1 (pc := 31) ok dX7_spell_31 ?_
      refine g_X5_counts (pc := 32) (t := 3) ok dX7_spell_32 kw99 rfl rfl ?_
      refine Z_iload3 (pc := 35) ok dX7_spell_35 ?_
      refine Z_iald (pc := 36) (L := 30) ok dX7_spell_36 rfl rfl (by first | omega | (simp [sz, uz]; omega)) ?_
      refine Z_if_le (pc := 37) (tgt := 63) ok dX7_spell_37 rfl (by first | omega | (simp [sz, uz]; omega)) (fun h => ?_) (fun h => ?_)
      · refine Z_iinc3 (pc := 63) ok (by decide) dX7_spell_63 rfl ?_
        refine Z_goto (pc := 66) (tgt := 23) ok dX7_spell_66 rfl ?_
        rw [if_neg (by omega)] at ih
        exact ih I3 g1 g2
      · rw [if_pos (by omega)] at ih
        have hne : ∀ L : List Int, L ++ itemL e (I 3 e) ≠ [] := fun L q => itemL_ne e (I 3 e) (List.append_eq_nil_iff.mp q).2
        refine Z_iload2 (pc := 40) ok dX7_spell_40 ?_
        refine Z_if_eqB (pc := 41) (tgt := 50) ok dX7_spell_41 rfl (fun h2 => ?_) (fun h2 => ?_)
        · have h2 : spE (I 3) e.toNat = [] := Classical.byContradiction fun q => h2 q
          rw [if_pos h2, List.append_nil, zb_t (hne _)] at ih
          refine Z_iconst (pc := 50) ok dX7_spell_50 ?_
          refine Z_istore2 (pc := 51) ok (by decide) dX7_spell_51 rfl ?_
          refine Z_aload0 (pc := 52) ok dX7_spell_52 ?_
          refine Z_iload3 (pc := 53) ok dX7_spell_53 ?_
          refine Z_aload1 (pc := 54) ok dX7_spell_54 ?_
          refine g_X5_counts (pc := 55) (t := 3) ok dX7_spell_55 kw99 rfl rfl ?_
          refine Z_iload3 (pc := 58) ok dX7_spell_58 ?_
          refine Z_iald (pc := 59) (L := 30) ok dX7_spell_59 rfl rfl (by first | omega | (simp [sz, uz]; omega)) ?_
          rw [e3]
          refine Z_callVV (pc := 60) ok dX7_spell_60 cw_X7_34 rfl rfl (by decide) (c_Sp_item g2 (by omega) hce (by simp; omega)) rfl rfl (by decide) (Nat.le_of_ble_eq_true rfl) (fun I4 J4 q => ?_)
          refine Z_iinc3 (pc := 63) ok (by decide) dX7_spell_63 rfl ?_
          refine Z_goto (pc := 66) (tgt := 23) ok dX7_spell_66 rfl ?_
          obtain ⟨q5, q6, rfl⟩ := q
          rw [List.append_assoc] at q5
          exact ih I4 (g1.tr q6) q5
        · rw [if_neg h2, zb_t (hne _)] at ih
          refine Z_aload0 (pc := 44) ok dX7_spell_44 ?_
          refine Z_bipush (pc := 45) ok dX7_spell_45 (by decide) ?_
          refine Z_callVV (pc := 47) ok dX7_spell_47 cw_X7_28 rfl rfl (by decide) (c_Sp_append g2 (by simp; omega) _) rfl rfl (by decide) (Nat.le_of_ble_eq_true rfl) (fun I4 J4 q => ?_)
          obtain ⟨q5, q6, rfl⟩ := q
          have e4 : I4 3 = I 3 := by rw [q6.at 3 rfl]; exact e3
          refine Z_iconst (pc := 50) ok dX7_spell_50 ?_
          refine Z_istore2 (pc := 51) ok (by decide) dX7_spell_51 rfl ?_
          refine Z_aload0 (pc := 52) ok dX7_spell_52 ?_
          refine Z_iload3 (pc := 53) ok dX7_spell_53 ?_
          refine Z_aload1 (pc := 54) ok dX7_spell_54 ?_
          refine g_X5_counts (pc := 55) (t := 3) ok dX7_spell_55 kw99 rfl rfl ?_
          refine Z_iload3 (pc := 58) ok dX7_spell_58 ?_
          refine Z_iald (pc := 59) (L := 30) ok dX7_spell_59 rfl rfl (by first | omega | (simp [sz, uz]; omega)) ?_
          rw [e4]
          refine Z_callVV (pc := 60) ok dX7_spell_60 cw_X7_34 rfl rfl (by decide) (c_Sp_item q5 (by omega) hce (by simp; omega)) rfl rfl (by decide) (Nat.le_of_ble_eq_true rfl) (fun I5 J5 q => ?_)
          refine Z_iinc3 (pc := 63) ok (by decide) dX7_spell_63 rfl ?_
          refine Z_goto (pc := 66) (tgt := 23) ok dX7_spell_66 rfl ?_
          obtain ⟨q7, q8, rfl⟩ := q
          refine ih I5 ((g1.tr q6).tr q8) ?_
          simp only [List.append_assoc] at q7 ⊢
          exact q7
  have h0 := H 0 (by omega) (by omega) I2 f2 (by show tx (I2 115) (I2 114 0) (numL (I 2 0) ++ [58] ++ []); rw [List.append_nil]; exact q3)
  have e0 : zb (spE (I 3) (0 : Int).toNat ≠ []) = 0 := zb_f (fun q => q rfl)
  rw [e0] at h0
  exact h0
theorem c_spelled {i : Int} (hi : -2147483648 ≤ i ∧ i ≤ 2147483647) (h1 : gR (I 2 0) (I 3)) : K_X11_spelled l G [zr G 0, zi i] I J (fun v I' J' => ∃ r, v = some (zi r) ∧ (fr [114, 115] I I' ∧ J' = J ∧ ((i = -1 ∧ r = ((SPL (I 2 0) (I 3)).length : Int)) ∨ ((0 ≤ i ∧ i < ((SPL (I 2 0) (I 3)).length : Int)) ∧ r = (SPL (I 2 0) (I 3)).getD i.toNat 0) ∨ ((i < -1 ∨ ((SPL (I 2 0) (I 3)).length : Int) ≤ i) ∧ r = -1)))) := by
  have hn := h1.1
  have hl : (SPL (I 2 0) (I 3)).length ≤ 153 := by
    have h2 := numL_len (I 2 0)
    have h3 := spE_len h1.2.1 (I 2 0).toNat
    simp only [SPL, List.length_append, List.length_singleton]; omega
  refine Cz.of rfl (Nat.le_of_ble_eq_true rfl) [some (zr G 0), some (zi i)] rfl (fun E ok okr hE => ?_)
  refine Z_aload0 (pc := 0) ok dX11_spelled_0 ?_
  refine g_X11_spelling (pc := 1) (t := 114) ok dX11_spelled_1 kw349 rfl rfl ?_
  refine Z_aload0 (pc := 4) ok dX11_spelled_4 ?_
  refine g_X11_state (pc := 5) (t := 1) ok dX11_spelled_5 kw340 rfl rfl ?_
  refine g_X8_row (pc := 8) (t := 2) ok dX11_spelled_8 kw148 rfl rfl ?_
  refine Z_callVV (pc := 11) ok dX11_spelled_11 cw_X11_283 rfl rfl (by decide) (c_spell h1) rfl rfl (by decide) (Nat.le_of_ble_eq_true rfl) (fun I1 J1 q => ?_)
  obtain ⟨q1, q2, q3⟩ := q
  have s1 := q1.1
  refine Z_iload1 (pc := 14) ok dX11_spelled_14 ?_
  refine Z_iconst (pc := 15) ok dX11_spelled_15 ?_
  refine Z_icmp_ne (pc := 16) (tgt := 27) ok dX11_spelled_16 rfl (by first | omega | (simp [sz, uz]; omega)) (by first | omega | (simp [sz, uz]; omega)) (fun h => ?_) (fun h => ?_)
  · refine Z_iload1 (pc := 27) ok dX11_spelled_27 ?_
    refine Z_if_lt (pc := 28) (tgt := 42) ok dX11_spelled_28 rfl (by first | omega | (simp [sz, uz]; omega)) (fun h2 => ?_) (fun h2 => ?_)
    · refine Z_iconst (pc := 42) ok dX11_spelled_42 ?_
      refine Z_goto (pc := 43) (tgt := 55) ok dX11_spelled_43 rfl ?_
      refine Z_iret (pc := 55) ok okr dX11_spelled_55 ?_
      exact ⟨_, rfl, q2, q3, Or.inr (Or.inr ⟨Or.inl (by omega), rfl⟩)⟩
    · refine Z_iload1 (pc := 31) ok dX11_spelled_31 ?_
      refine Z_aload0 (pc := 32) ok dX11_spelled_32 ?_
      refine g_X11_spelling (pc := 33) (t := 114) ok dX11_spelled_33 kw349 rfl rfl ?_
      refine g_X7_size (pc := 36) ok dX11_spelled_36 kw330 rfl ?_
      refine Z_icmp_lt (pc := 39) (tgt := 46) ok dX11_spelled_39 rfl (by first | omega | (simp [sz, uz]; omega)) (by first | omega | (simp [sz, uz]; omega)) (fun h3 => ?_) (fun h3 => ?_)
      · refine Z_aload0 (pc := 46) ok dX11_spelled_46 ?_
        refine g_X11_spelling (pc := 47) (t := 114) ok dX11_spelled_47 kw349 rfl rfl ?_
        refine g_X7_bytes (pc := 50) (t := 115) ok dX11_spelled_50 kw332 rfl rfl ?_
        refine Z_iload1 (pc := 53) ok dX11_spelled_53 ?_
        refine Z_iald (pc := 54) (L := 160) ok dX11_spelled_54 rfl rfl (by first | omega | (simp [sz, uz]; omega)) ?_
        refine Z_iret (pc := 55) ok okr dX11_spelled_55 ?_
        have := q1.2 i.toNat (by omega)
        rw [Int.toNat_of_nonneg h2] at this
        exact ⟨_, rfl, q2, q3, Or.inr (Or.inl ⟨by omega, this⟩)⟩
      · refine Z_iconst (pc := 42) ok dX11_spelled_42 ?_
        refine Z_goto (pc := 43) (tgt := 55) ok dX11_spelled_43 rfl ?_
        refine Z_iret (pc := 55) ok okr dX11_spelled_55 ?_
        exact ⟨_, rfl, q2, q3, Or.inr (Or.inr ⟨Or.inr (by omega), rfl⟩)⟩
  · refine Z_aload0 (pc := 19) ok dX11_spelled_19 ?_
    refine g_X11_spelling (pc := 20) (t := 114) ok dX11_spelled_20 kw349 rfl rfl ?_
    refine g_X7_size (pc := 23) ok dX11_spelled_23 kw330 rfl ?_
    refine Z_iret (pc := 26) ok okr dX11_spelled_26 ?_
    exact ⟨_, rfl, q2, q3, Or.inl ⟨h, s1⟩⟩
end
/-! what is read -/
def fg (B : Int → Int) (s a : Int) : Int := if (a < s ∧ 48 ≤ B a) ∧ B a ≤ 57 then B a - 48 else -1
def nuV (B : Int → Int) (s a : Int) : Int := if fg B s a < 0 then -1 else if 0 ≤ fg B s (a + 1) then fg B s a * 10 + fg B s (a + 1) else fg B s a
def nuA (B : Int → Int) (s a : Int) : Int := if fg B s a < 0 then a else if 0 ≤ fg B s (a + 1) then a + 2 else a + 1
def itX (B : Int → Int) (s a : Int) : Prop := nuA B s a < s ∧ B (nuA B s a) = 120
def itF (B : Int → Int) (s a : Int) : Prop := nuV B s a < 0 ∨ (itX B s a ∧ fg B s (nuA B s a + 1) < 1)
noncomputable def itC (B : Int → Int) (s a : Int) : Int := @ite Int (itX B s a) (Classical.propDecidable _) (fg B s (nuA B s a + 1)) 1
noncomputable def itA (B : Int → Int) (s a : Int) : Int := @ite Int (nuV B s a < 0) (Classical.propDecidable _) (nuA B s a) (@ite Int (itX B s a) (Classical.propDecidable _) (@ite Int (fg B s (nuA B s a + 1) < 1) (Classical.propDecidable _) (nuA B s a + 1) (nuA B s a + 2)) (nuA B s a))
noncomputable def rdW (b e c w : Int) (t : Int → Int) : Int := @ite Int (w = 1 ∨ b ≤ e ∨ (e < 30 ∧ 9 < t e + c)) (Classical.propDecidable _) 1 0
def rdT (e c : Int) (t : Int → Int) : Int → Int := if e < 30 then uz t e (t e + c) else t
noncomputable def rdI (B : Int → Int) (s b : Int) : Nat → Int → Int → (Int → Int) → Int × Int × Int × (Int → Int)
  | 0, a, w, t => (0, a, w, t)
  | m + 1, a, w, t => @ite _ (itF B s a) (Classical.propDecidable _) (0, itA B s a, w, t) (@ite _ (itA B s a = s) (Classical.propDecidable _) (1, s, rdW b (nuV B s a) (itC B s a) w t, rdT (nuV B s a) (itC B s a) t) (@ite _ (B (itA B s a) = 44) (Classical.propDecidable _) (rdI B s b m (itA B s a + 1) (rdW b (nuV B s a) (itC B s a) w t) (rdT (nuV B s a) (itC B s a) t)) (0, itA B s a, rdW b (nuV B s a) (itC B s a) w t, rdT (nuV B s a) (itC B s a) t)))
/-- the whole TAPE: whether it is a TEXT, where it stops, its N, whether WRONG, its COUNTS -/
noncomputable def rdA (B : Int → Int) (s : Int) : Int × Int × Int × (Int → Int) := @ite _ (nuV B s 0 < 0 ∨ ¬ (nuA B s 0 < s ∧ B (nuA B s 0) = 58)) (Classical.propDecidable _) (0, nuA B s 0, 0, fun _ => 0) (@ite _ (nuA B s 0 + 1 = s) (Classical.propDecidable _) (1, s, 0, fun _ => 0) (rdI B s (nuV B s 0) 100 (nuA B s 0 + 1) 0 (fun _ => 0)))
theorem fg_b (B : Int → Int) (s a : Int) : -1 ≤ fg B s a ∧ fg B s a ≤ 9 := by
  simp only [fg]; split <;> omega
theorem fg_s {B : Int → Int} {s a : Int} (h : 0 ≤ fg B s a) : a < s := by
  simp only [fg] at h; split at h <;> omega
theorem nuV_b (B : Int → Int) (s a : Int) : -1 ≤ nuV B s a ∧ nuV B s a ≤ 99 := by
  have h1 := fg_b B s a
  have h2 := fg_b B s (a + 1)
  simp only [nuV]; split
  · omega
  · split <;> omega
theorem nuA_b (B : Int → Int) (s a : Int) : a ≤ nuA B s a ∧ (0 ≤ nuV B s a → a < nuA B s a ∧ nuA B s a ≤ s) ∧ (nuV B s a < 0 → nuA B s a = a) := by
  have h1 := fg_b B s a
  have h2 := fg_b B s (a + 1)
  simp only [nuV, nuA]
  by_cases h : fg B s a < 0
  · rw [if_pos h, if_pos h]; omega
  · rw [if_neg h, if_neg h]
    have h3 := fg_s (Int.not_lt.mp h)
    by_cases h4 : 0 ≤ fg B s (a + 1)
    · rw [if_pos h4, if_pos h4]
      have := fg_s h4; omega
    · rw [if_neg h4, if_neg h4]; omega
theorem itA_b {B : Int → Int} {s a : Int} (h : ¬ itF B s a) : a < itA B s a ∧ itA B s a ≤ s := by
  have h1 := nuA_b B s a
  have hv : ¬ nuV B s a < 0 := fun q => h (Or.inl q)
  have h2 := h1.2.1 (by omega)
  simp only [itA]; rw [if_neg hv]
  by_cases hx : itX B s a
  · have hg : ¬ fg B s (nuA B s a + 1) < 1 := fun q => h (Or.inr ⟨hx, q⟩)
    rw [if_pos hx, if_neg hg]
    have := fg_s (B := B) (s := s) (a := nuA B s a + 1) (by omega)
    omega
  · rw [if_neg hx]; omega
section
variable {l : Launch} {G : Gw} {I J : Mz}
/-- the tape as it may be -/
def tpOk (I : Mz) : Prop := (0 ≤ I 110 2 ∧ I 110 2 ≤ 100) ∧ (∀ j, 0 ≤ j → j < I 110 2 → 32 ≤ I 111 j ∧ I 111 j ≤ 126)
theorem c_figure (ht : tpOk I) (ha : 0 ≤ I 110 3 ∧ I 110 3 ≤ 200) : K_X9_figure l G [zr G 110] I J (pR (some (zi (fg (I 111) (I 110 2) (I 110 3)))) I J) := by
  have h0 := ht.1
  refine Cz.of rfl (Nat.le_of_ble_eq_true rfl) [some (zr G 110)] rfl (fun E ok okr hE => ?_)
  refine Z_aload0 (pc := 0) ok dX9_figure_0 ?_
  refine g_X9_at (pc := 1) ok dX9_figure_1 kw308 rfl ?_
  refine Z_aload0 (pc := 4) ok dX9_figure_4 ?_
  refine g_X9_size (pc := 5) ok dX9_figure_5 kw306 rfl ?_
  refine Z_icmp_ge (pc := 8) (tgt := 39) ok dX9_figure_8 rfl (by first | omega | (simp [sz, uz]; omega)) (by first | omega | (simp [sz, uz]; omega)) (fun h => ?_) (fun h => ?_)
  · refine Z_iconst (pc := 39) ok dX9_figure_39 ?_
    refine Z_iret (pc := 40) ok okr dX9_figure_40 ?_
    exact ⟨by rw [fg, if_neg (by omega)], rfl, rfl⟩
  · have hb := ht.2 (I 110 3) ha.1 h
    refine Z_aload0 (pc := 11) ok dX9_figure_11 ?_
    refine g_X9_bytes (pc := 12) (t := 111) ok dX9_figure_12 kw304 rfl rfl ?_
    refine Z_aload0 (pc := 15) ok dX9_figure_15 ?_
    refine g_X9_at (pc := 16) ok dX9_figure_16 kw308 rfl ?_
    refine Z_iald (pc := 19) (L := 100) ok dX9_figure_19 rfl rfl (by first | omega | (simp [sz, uz]; omega)) ?_
    refine Z_bipush (pc := 20) ok dX9_figure_20 (by decide) ?_
    refine Z_icmp_lt (pc := 22) (tgt := 39) ok dX9_figure_22 rfl (by first | omega | (simp [sz, uz]; omega)) (by first | omega | (simp [sz, uz]; omega)) (fun h2 => ?_) (fun h2 => ?_)
    · refine Z_iconst (pc := 39) ok dX9_figure_39 ?_
      refine Z_iret (pc := 40) ok okr dX9_figure_40 ?_
      exact ⟨by rw [fg, if_neg (by omega)], rfl, rfl⟩
    · refine Z_aload0 (pc := 25) ok dX9_figure_25 ?_
      refine g_X9_bytes (pc := 26) (t := 111) ok dX9_figure_26 kw304 rfl rfl ?_
      refine Z_aload0 (pc := 29) ok dX9_figure_29 ?_
      refine g_X9_at (pc := 30) ok dX9_figure_30 kw308 rfl ?_
      refine Z_iald (pc := 33) (L := 100) ok dX9_figure_33 rfl rfl (by first | omega | (simp [sz, uz]; omega)) ?_
      refine Z_bipush (pc := 34) ok dX9_figure_34 (by decide) ?_
      refine Z_icmp_le (pc := 36) (tgt := 41) ok dX9_figure_36 rfl (by first | omega | (simp [sz, uz]; omega)) (by first | omega | (simp [sz, uz]; omega)) (fun h3 => ?_) (fun h3 => ?_)
      · refine Z_aload0 (pc := 41) ok dX9_figure_41 ?_
        refine g_X9_bytes (pc := 42) (t := 111) ok dX9_figure_42 kw304 rfl rfl ?_
        refine Z_aload0 (pc := 45) ok dX9_figure_45 ?_
        refine g_X9_at (pc := 46) ok dX9_figure_46 kw308 rfl ?_
        refine Z_iald (pc := 49) (L := 100) ok dX9_figure_49 rfl rfl (by first | omega | (simp [sz, uz]; omega)) ?_
        refine Z_bipush (pc := 50) ok dX9_figure_50 (by decide) ?_
        refine Z_isub (pc := 52) ok dX9_figure_52 ?_
        refine Z_iret (pc := 53) ok okr dX9_figure_53 ?_
        exact ⟨by rw [fg, if_pos (by omega)], rfl, rfl⟩
      · refine Z_iconst (pc := 39) ok dX9_figure_39 ?_
        refine Z_iret (pc := 40) ok okr dX9_figure_40 ?_
        exact ⟨by rw [fg, if_neg (by omega)], rfl, rfl⟩
theorem tp_at {I : Mz} (ht : tpOk I) (v : Int) : tpOk (sz I 110 (uz (I 110) 3 v)) := by
  simp only [tpOk, sz_eq, sz_ne _ _ (show (111 : Nat) ≠ 110 by decide), uz_ne _ _ (show (2 : Int) ≠ 3 by decide)]
  exact ht
theorem c_number (ht : tpOk I) (ha : 0 ≤ I 110 3 ∧ I 110 3 ≤ 100) : K_X9_number l G [zr G 110] I J (pR (some (zi (nuV (I 111) (I 110 2) (I 110 3)))) (sz I 110 (uz (I 110) 3 (nuA (I 111) (I 110 2) (I 110 3)))) J) := by
  have hb1 := fg_b (I 111) (I 110 2) (I 110 3)
  have hb2 := fg_b (I 111) (I 110 2) (I 110 3 + 1)
  refine Cz.of rfl (Nat.le_of_ble_eq_true rfl) [some (zr G 110), none, none] rfl (fun E ok okr hE => ?_)
  refine Z_aload0 (pc := 0) ok dX9_number_0 ?_
  refine Z_callVId (pc := 1) ok dX9_number_1 cw_X9_53 rfl rfl (by decide) (c_figure ht (by omega)) rfl rfl (by decide) (Nat.le_of_ble_eq_true rfl) ?_
  refine Z_istore1 (pc := 4) ok (by decide) dX9_number_4 rfl ?_
  refine Z_iload1 (pc := 5) ok dX9_number_5 ?_
  refine Z_if_ge (pc := 6) (tgt := 11) ok dX9_number_6 rfl (by first | omega | (simp [sz, uz]; omega)) (fun h => ?_) (fun h => ?_)
  · refine Z_aload0 (pc := 11) ok dX9_number_11 ?_
    refine Z_dup (pc := 12) ok dX9_number_12 rfl ?_
    refine g_X9_at (pc := 13) ok dX9_number_13 kw308 rfl ?_
    refine Z_iconst (pc := 16) ok dX9_number_16 ?_
    refine Z_iadd (pc := 17) ok dX9_number_17 ?_
    refine p_X9_at (pc := 18) ok dX9_number_18 kw308 rfl ?_
    refine Z_aload0 (pc := 21) ok dX9_number_21 ?_
    refine Z_callVId (pc := 22) ok dX9_number_22 cw_X9_53 rfl rfl (by decide) (c_figure (tp_at ht _) (by rw [sz_eq, uz_eq]; omega)) rfl rfl (by decide) (Nat.le_of_ble_eq_true rfl) ?_
    refine Z_istore2 (pc := 25) ok (by decide) dX9_number_25 rfl ?_
    have e : fg (sz I 110 (uz (I 110) 3 (I 110 3 + 1)) 111) (sz I 110 (uz (I 110) 3 (I 110 3 + 1)) 110 2) (sz I 110 (uz (I 110) 3 (I 110 3 + 1)) 110 3) = fg (I 111) (I 110 2) (I 110 3 + 1) := by
      simp only [sz_eq, sz_ne _ _ (show (111 : Nat) ≠ 110 by decide), uz_ne _ _ (show (2 : Int) ≠ 3 by decide), uz_eq]
    rw [e]
    refine Z_iload2 (pc := 26) ok dX9_number_26 ?_
    refine Z_if_lt (pc := 27) (tgt := 47) ok dX9_number_27 rfl (by first | omega | (simp [sz, uz]; omega)) (fun h2 => ?_) (fun h2 => ?_)
    · refine Z_iload1 (pc := 47) ok dX9_number_47 ?_
      refine Z_iret (pc := 48) ok okr dX9_number_48 ?_
      refine ⟨?_, ?_, rfl⟩
      · rw [nuV, if_neg (by omega), if_neg (by omega)]
      · rw [nuA, if_neg (by omega), if_neg (by omega)]
    · refine Z_iload1 (pc := 30) ok dX9_number_30 ?_
      refine Z_bipush (pc := 31) ok dX9_number_31 (by decide) ?_
      refine Z_imul (pc := 33) ok dX9_number_33 ?_
      refine Z_iload2 (pc := 34) ok dX9_number_34 ?_
      refine Z_iadd (pc := 35) ok dX9_number_35 ?_
      refine Z_istore1 (pc := 36) ok (by decide) dX9_number_36 rfl ?_
      refine Z_aload0 (pc := 37) ok dX9_number_37 ?_
      refine Z_dup (pc := 38) ok dX9_number_38 rfl ?_
      refine g_X9_at (pc := 39) ok dX9_number_39 kw308 rfl ?_
      refine Z_iconst (pc := 42) ok dX9_number_42 ?_
      refine Z_iadd (pc := 43) ok dX9_number_43 ?_
      refine p_X9_at (pc := 44) ok dX9_number_44 kw308 rfl ?_
      refine Z_iload1 (pc := 47) ok dX9_number_47 ?_
      refine Z_iret (pc := 48) ok okr dX9_number_48 ?_
      refine ⟨?_, ?_, rfl⟩
      · rw [nuV, if_neg (by omega), if_pos h2]
      · rw [nuA, if_neg (by omega), if_pos h2, sz_sz, sz_eq, uz_uz, uz_eq, show I 110 3 + 1 + 1 = I 110 3 + 2 by omega]
  · refine Z_iconst (pc := 9) ok dX9_number_9 ?_
    refine Z_iret (pc := 10) ok okr dX9_number_10 ?_
    refine ⟨?_, ?_, rfl⟩
    · rw [nuV, if_pos h]
    · rw [nuA, if_pos h, uz_self, sz_self]
theorem c_passes (ht : tpOk I) (ha : 0 ≤ I 110 3 ∧ I 110 3 ≤ 200) {g : Int} (hg : 0 ≤ g ∧ g ≤ 200) : K_X9_passes l G [zr G 110, zi g] I J (fun v I' J' => ∃ r, v = some (zi r) ∧ (J' = J ∧ ((r = 1 ∧ (I 110 3 < I 110 2 ∧ I 111 (I 110 3) = g) ∧ I' = sz I 110 (uz (I 110) 3 (I 110 3 + 1))) ∨ (r = 0 ∧ ¬ (I 110 3 < I 110 2 ∧ I 111 (I 110 3) = g) ∧ I' = I)))) := by
  have h0 := ht.1
  refine Cz.of rfl (Nat.le_of_ble_eq_true rfl) [some (zr G 110), some (zi g)] rfl (fun E ok okr hE => ?_)
  refine Z_aload0 (pc := 0) ok dX9_passes_0 ?_
  refine g_X9_at (pc := 1) ok dX9_passes_1 kw308 rfl ?_
  refine Z_aload0 (pc := 4) ok dX9_passes_4 ?_
  refine g_X9_size (pc := 5) ok dX9_passes_5 kw306 rfl ?_
  refine Z_icmp_ge (pc := 8) (tgt := 24) ok dX9_passes_8 rfl (by first | omega | (simp [sz, uz]; omega)) (by first | omega | (simp [sz, uz]; omega)) (fun h => ?_) (fun h => ?_)
  · refine Z_iconst (pc := 24) ok dX9_passes_24 ?_
    refine Z_bret (pc := 25) ok okr dX9_passes_25 (by first | exact Or.inl rfl | exact Or.inr rfl | exact zb_01 _ | assumption | omega) ?_
    exact ⟨_, rfl, rfl, Or.inr ⟨rfl, by omega, rfl⟩⟩
  · have hb := ht.2 (I 110 3) ha.1 h
    refine Z_aload0 (pc := 11) ok dX9_passes_11 ?_
    refine g_X9_bytes (pc := 12) (t := 111) ok dX9_passes_12 kw304 rfl rfl ?_
    refine Z_aload0 (pc := 15) ok dX9_passes_15 ?_
    refine g_X9_at (pc := 16) ok dX9_passes_16 kw308 rfl ?_
    refine Z_iald (pc := 19) (L := 100) ok dX9_passes_19 rfl rfl (by first | omega | (simp [sz, uz]; omega)) ?_
    refine Z_iload1 (pc := 20) ok dX9_passes_20 ?_
    refine Z_icmp_eq (pc := 21) (tgt := 26) ok dX9_passes_21 rfl (by first | omega | (simp [sz, uz]; omega)) (by first | omega | (simp [sz, uz]; omega)) (fun h2 => ?_) (fun h2 => ?_)
    · refine Z_aload0 (pc := 26) ok dX9_passes_26 ?_
      refine Z_dup (pc := 27) ok dX9_passes_27 rfl ?_
      refine g_X9_at (pc := 28) ok dX9_passes_28 kw308 rfl ?_
      refine Z_iconst (pc := 31) ok dX9_passes_31 ?_
      refine Z_iadd (pc := 32) ok dX9_passes_32 ?_
      refine p_X9_at (pc := 33) ok dX9_passes_33 kw308 rfl ?_
      refine Z_iconst (pc := 36) ok dX9_passes_36 ?_
      refine Z_bret (pc := 37) ok okr dX9_passes_37 (by first | exact Or.inl rfl | exact Or.inr rfl | exact zb_01 _ | assumption | omega) ?_
      exact ⟨_, rfl, rfl, Or.inl ⟨rfl, ⟨h, h2⟩, rfl⟩⟩
    · refine Z_iconst (pc := 24) ok dX9_passes_24 ?_
      refine Z_bret (pc := 25) ok okr dX9_passes_25 (by first | exact Or.inl rfl | exact Or.inr rfl | exact zb_01 _ | assumption | omega) ?_
      exact ⟨_, rfl, rfl, Or.inr ⟨rfl, fun q => h2 q.2, rfl⟩⟩
end
