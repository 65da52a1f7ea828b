/-! the reference: parts -/
def lvO (I : Mz) (n : Int) : Prop := ∀ e k, 0 ≤ e → e < n → 0 ≤ k → k < 30 → I 129 (30 * e + k) = LV n e k
theorem mT_c {I I' : Mz} (h : mT I) (h1 : I' 126 = I 126) (h2 : I' 127 = I 127) : mT I' := by
  unfold mT at *; rw [h1, h2]; exact h
theorem lvO_c {I I' : Mz} {n : Int} (h : lvO I n) (h1 : I' 129 = I 129) : lvO I' n := by
  unfold lvO at *; rw [h1]; exact h
theorem LV_outZ {n : Int} (h2 : 2 ≤ n ∧ n ≤ 30) {e : Int} (h0 : 0 ≤ e) (he : e < n) {i : Int} (hi : i < 0 ∨ DG n ≤ i) : LV n e i = 0 := by
  obtain ⟨k, rfl⟩ := Int.eq_ofNat_of_zero_le h0
  exact LV_out h2 k he i hi
theorem SV_pos {n : Int} {c t : Int → Int} (hn : 0 ≤ n) (hc : ∀ e, 0 ≤ c e) (ht : vld n c t) {P : (Int → Int) → Prop} (hp : P t) : 0 < SV c n.toNat 0 (fun t => zb (P t)) := by
  obtain ⟨k, k1, k2⟩ := dcv_on (t := t) hc n.toNat 0 ht.1 (fun j hj => ht.2 j (by omega))
  rw [← SV_su hc]
  have h5 := su_le (f := fun j => if j = k then 1 else 0) (g := fun k => zb (P (dcv c n.toNat 0 k))) (e := prR c n.toNat 0) (fun j j0 j1 => by
    show (if j = k then 1 else 0) ≤ zb (P (dcv c n.toNat 0 j))
    split
    · next q => rw [q, k2, zb_t hp]; exact Int.le_refl _
    · rcases zb_01 (P (dcv c n.toNat 0 j)) with q | q <;> omega)
  rw [su_one k1.1 k1.2 (fun j _ _ hj => if_neg hj), if_pos rfl] at h5
  omega
theorem SV_nn (c : Int → Int) : ∀ (m : Nat) (e : Int) (F : (Int → Int) → Prop), 0 ≤ SV c m e (fun t => zb (F t))
  | 0, e, F => by simp only [SV]; rcases zb_01 (F fun _ => 0) with q | q <;> omega
  | m + 1, e, F => by simp only [SV]; exact su_nn (fun j _ _ => SV_nn c m (e + 1) (fun t => F (fun i => if i = e then j else t i)))
def gI (n : Int) (c : Int → Int) (N : Int → Int) (V : (Int → Int) → Prop) (bW bM : Int) (be : Int → Int) : Prop := (∀ w, 0 ≤ N w) ∧ 0 ≤ bM ∧ (∀ t, V t → good n t → 0 < N (su t n)) ∧ (bM = 0 → ∀ w, N w = 0) ∧ (0 < bM → bM = N bW ∧ (∀ w, w < bW → N w = 0) ∧ (0 ≤ bW ∧ bW ≤ 270) ∧ ∃ fi, (∀ j, 0 ≤ j → j < n → be j = fi j) ∧ V fi ∧ good n fi ∧ su fi n = bW ∧ vld n c fi ∧ ∀ t, V t → good n t → su t n = bW → t = fi ∨ lgt n fi t)
def mix (e : Int) (p t : Int → Int) : Int → Int := fun j => if j < e then p j else t j
def cmp (n : Int) (c : Int → Int) (e : Int) (p s : Int → Int) : Prop := vld n c s ∧ ∀ j, 0 ≤ j → j < e → s j = p j
section
variable {l : Launch} {G : Gw} {I J : Mz}
theorem m_tellsLeaves {n : Int} (h121 : I 121 0 = n) (hn : 2 ≤ n ∧ n ≤ 30) (hT : mT I) : K_X12_tellsLeaves l G [zr G 121] I J (fun v I' J' => v = none ∧ (fr [128, 129, 131] I I' ∧ J' = J ∧ lvO I' n)) := by
  have hdg := dg_b hn
  have ed := hT.2 n hn.1 hn.2
  refine Cz.of rfl (Nat.le_of_ble_eq_true rfl) [some (zr G 121), none, none] rfl (fun E ok okr hE => ?_)
  refine Z_iconst (pc := 0) ok dX12_tellsLeaves_0 ?_
  refine Z_istore1 (pc := 1) ok (by decide) dX12_tellsLeaves_1 rfl ?_
  have H : ∀ e : Int, 0 ≤ e → e ≤ n → ∀ I1 : Mz, fr [128, 129, 131] I I1 → (∀ e' k, 0 ≤ e' → e' < e → 0 ≤ k → k < 30 → I1 129 (30 * e' + k) = LV n e' k) → ∀ w, Xz E G I1 J 2 [some (zr G 121), some (zi e), w] [] := by
    refine zUp ?_ ?_
    · intro I1 f1 h1 w
      have e0 : I1 121 0 = n := by rw [f1.at 121 rfl]; exact h121
      refine Z_iload1 (pc := 2) ok dX12_tellsLeaves_2 ?_
      refine Z_aload0 (pc := 3) ok dX12_tellsLeaves_3 ?_
      refine g_X12_n (pc := 4) ok dX12_tellsLeaves_4 kw905 rfl ?_
      refine Z_icmp_ge (pc := 7) (tgt := 102) ok dX12_tellsLeaves_7 rfl (by first | omega | (simp [sz, uz] <;> omega)) (by first | omega | (simp [sz, uz] <;> omega)) (fun _ => ?_) (fun h => by exfalso; omega)
      refine Z_vret (pc := 102) ok okr dX12_tellsLeaves_102 ?_
      exact ⟨rfl, f1, rfl, h1⟩
    · intro e e0 e1 ih I1 f1 h1 w
      have q0 : I1 121 0 = n := by rw [f1.at 121 rfl]; exact h121
      refine Z_iload1 (pc := 2) ok dX12_tellsLeaves_2 ?_
      refine Z_aload0 (pc := 3) ok dX12_tellsLeaves_3 ?_
      refine g_X12_n (pc := 4) ok dX12_tellsLeaves_4 kw905 rfl ?_
      refine Z_icmp_ge (pc := 7) (tgt := 102) ok dX12_tellsLeaves_7 rfl (by first | omega | (simp [sz, uz] <;> omega)) (by first | omega | (simp [sz, uz] <;> omega)) (fun h => by exfalso; omega) (fun _ => ?_)
      refine Z_iconst (pc := 10) ok dX12_tellsLeaves_10 ?_
      refine Z_istore2 (pc := 11) ok (by decide) dX12_tellsLeaves_11 rfl ?_
      have H3 : ∀ k : Int, 0 ≤ k → k ≤ 30 → ∀ I2 : Mz, fr [128, 129, 131] I I2 → (∀ e' k', 0 ≤ e' → e' < e → 0 ≤ k' → k' < 30 → I2 129 (30 * e' + k') = LV n e' k') → I2 128 = LV n e → (∀ k', 0 ≤ k' → k' < k → I2 129 (30 * e + k') = LV n e k') → Xz E G I2 J 50 [some (zr G 121), some (zi e), some (zi k)] [] := by
        refine zUp ?_ ?_
        · intro I2 f2 a1 a2 a3
          refine Z_iload2 (pc := 50) ok dX12_tellsLeaves_50 ?_
          refine Z_bipush (pc := 51) ok dX12_tellsLeaves_51 (by decide) ?_
          refine Z_icmp_ge (pc := 53) (tgt := 96) ok dX12_tellsLeaves_53 rfl (by first | omega | (simp [sz, uz] <;> omega)) (by first | omega | (simp [sz, uz] <;> omega)) (fun _ => ?_) (fun h => by exfalso; omega)
          refine Z_iinc1 (pc := 96) ok (by decide) dX12_tellsLeaves_96 rfl ?_
          refine Z_goto (pc := 99) (tgt := 2) ok dX12_tellsLeaves_99 rfl ?_
          refine ih I2 f2 (fun e' k b0 b1 b2 b3 => ?_) _
          by_cases q : e' = e
          · rw [q]; exact a3 k b2 b3
          · exact a1 e' k b0 (by omega) b2 b3
        · intro k k0 k1 ih3 I2 f2 a1 a2 a3
          have x0 : I2 121 0 = n := by rw [f2.at 121 rfl]; exact h121
          have x1 : I2 127 (I2 121 0) = DG n := by rw [f2.at 127 rfl, x0]; exact ed
          have fin : ∀ v, v = LV n e k → Xz E G (sz I2 129 (uz (I2 129) (30 * e + k) v)) J 50 [some (zr G 121), some (zi e), some (zi (k + 1))] [] := by
            intro v hv
            refine ih3 _ (f2.st rfl) (fun e' k' b0 b1 b2 b3 => ?_) (by rw [sz_ne _ _ (by decide)]; exact a2) (fun k' b0 b1 => ?_)
            · rw [sz_eq, uz_ne _ _ (by omega)]; exact a1 e' k' b0 b1 b2 b3
            · rw [sz_eq]
              by_cases q : k' = k
              · rw [q, uz_eq]; exact hv
              · rw [uz_ne _ _ (by omega)]; exact a3 k' b0 (by omega)
          refine Z_iload2 (pc := 50) ok dX12_tellsLeaves_50 ?_
          refine Z_bipush (pc := 51) ok dX12_tellsLeaves_51 (by decide) ?_
          refine Z_icmp_ge (pc := 53) (tgt := 96) ok dX12_tellsLeaves_53 rfl (by first | omega | (simp [sz, uz] <;> omega)) (by first | omega | (simp [sz, uz] <;> omega)) (fun h => by exfalso; omega) (fun _ => ?_)
          refine Z_aload0 (pc := 56) ok dX12_tellsLeaves_56 ?_
          refine g_X12_leaves (pc := 57) (t := 129) ok dX12_tellsLeaves_57 kw914 rfl rfl ?_
          refine Z_bipush (pc := 60) ok dX12_tellsLeaves_60 (by decide) ?_
          refine Z_iload1 (pc := 62) ok dX12_tellsLeaves_62 ?_
          refine Z_imul (pc := 63) ok dX12_tellsLeaves_63 ?_
          refine Z_iload2 (pc := 64) ok dX12_tellsLeaves_64 ?_
          refine Z_iadd (pc := 65) ok dX12_tellsLeaves_65 ?_
          refine Z_iload2 (pc := 66) ok dX12_tellsLeaves_66 ?_
          refine Z_aload0 (pc := 67) ok dX12_tellsLeaves_67 ?_
          refine g_X12_degrees (pc := 68) (t := 127) ok dX12_tellsLeaves_68 kw912 rfl rfl ?_
          refine Z_aload0 (pc := 71) ok dX12_tellsLeaves_71 ?_
          refine g_X12_n (pc := 72) ok dX12_tellsLeaves_72 kw905 rfl ?_
          refine Z_iald (pc := 75) (L := 31) ok dX12_tellsLeaves_75 rfl rfl (by first | omega | (simp [sz, uz] <;> omega)) ?_
          refine Z_icmp_ge (pc := 76) (tgt := 88) ok dX12_tellsLeaves_76 rfl (by omega) (by rw [x1]; omega) (fun h => ?_) (fun h => ?_)
          · refine Z_iconst (pc := 88) ok dX12_tellsLeaves_88 ?_
            refine Z_iast (pc := 89) (L := 900) ok dX12_tellsLeaves_89 rfl rfl (by first | omega | (simp [sz, uz] <;> omega)) ?_
            refine Z_iinc2 (pc := 90) ok (by decide) dX12_tellsLeaves_90 rfl ?_
            refine Z_goto (pc := 93) (tgt := 50) ok dX12_tellsLeaves_93 rfl ?_
            exact fin 0 (by rw [x1] at h; rw [LV_outZ hn e0 e1 (Or.inr h)])
          · refine Z_aload0 (pc := 79) ok dX12_tellsLeaves_79 ?_
            refine g_X12_left (pc := 80) (t := 128) ok dX12_tellsLeaves_80 kw913 rfl rfl ?_
            refine Z_iload2 (pc := 83) ok dX12_tellsLeaves_83 ?_
            refine Z_iald (pc := 84) (L := 62) ok dX12_tellsLeaves_84 rfl rfl (by first | omega | (simp [sz, uz] <;> omega)) ?_
            refine Z_goto (pc := 85) (tgt := 89) ok dX12_tellsLeaves_85 rfl ?_
            refine Z_iast (pc := 89) (L := 900) ok dX12_tellsLeaves_89 rfl rfl (by first | omega | (simp [sz, uz] <;> omega)) ?_
            refine Z_iinc2 (pc := 90) ok (by decide) dX12_tellsLeaves_90 rfl ?_
            refine Z_goto (pc := 93) (tgt := 50) ok dX12_tellsLeaves_93 rfl ?_
            exact fin _ (by rw [a2])
      have H2 : ∀ k : Int, 0 ≤ k → k ≤ 30 → ∀ f : Int → Int, (∀ j, 0 ≤ j → j < k → f j = un e j) → Xz E G (sz I1 131 f) J 12 [some (zr G 121), some (zi e), some (zi k)] [] := by
        refine zUp ?_ ?_
        · intro f hf
          refine Z_ext1 (g := un e) (by decide) (fun j j0 j1 => hf j j0 (by have : j < 30 := j1; omega)) ?_
          refine Z_iload2 (pc := 12) ok dX12_tellsLeaves_12 ?_
          refine Z_bipush (pc := 13) ok dX12_tellsLeaves_13 (by decide) ?_
          refine Z_icmp_ge (pc := 15) (tgt := 40) ok dX12_tellsLeaves_15 rfl (by first | omega | (simp [sz, uz] <;> omega)) (by first | omega | (simp [sz, uz] <;> omega)) (fun _ => ?_) (fun h => by exfalso; omega)
          refine Z_aload0 (pc := 40) ok dX12_tellsLeaves_40 ?_
          refine Z_aload0 (pc := 41) ok dX12_tellsLeaves_41 ?_
          refine g_X12_one (pc := 42) (t := 131) ok dX12_tellsLeaves_42 kw916 rfl rfl ?_
          refine Z_callVVd (pc := 45) ok dX12_tellsLeaves_45 cw_X12_121 rfl rfl (by decide) (m_divided rfl rfl (by decide) (by rw [sz_ne _ _ (by decide)]; exact q0) hn (mT_c hT (by rw [sz_ne _ _ (by decide)]; exact f1.at 126 rfl) (by rw [sz_ne _ _ (by decide)]; exact f1.at 127 rfl)) (by rw [sz_eq]; intro x hx; simp only [un]; rw [if_neg (by omega)])) rfl rfl (by first | decide | omega) (Nat.le_of_ble_eq_true rfl) ?_
          refine Z_iconst (pc := 48) ok dX12_tellsLeaves_48 ?_
          refine Z_istore2 (pc := 49) ok (by decide) dX12_tellsLeaves_49 rfl ?_
          rw [sz_eq]
          refine H3 0 (by omega) (by omega) _ ((f1.st rfl).st rfl) (fun e' k' b0 b1 b2 b3 => ?_) (by rw [sz_eq]; rfl) (fun k' b0 b1 => by omega)
          rw [sz_ne _ _ (by decide), sz_ne _ _ (by decide)]
          exact h1 e' k' b0 b1 b2 b3
        · intro k k0 k1 ih2 f hf
          refine Z_iload2 (pc := 12) ok dX12_tellsLeaves_12 ?_
          refine Z_bipush (pc := 13) ok dX12_tellsLeaves_13 (by decide) ?_
          refine Z_icmp_ge (pc := 15) (tgt := 40) ok dX12_tellsLeaves_15 rfl (by first | omega | (simp [sz, uz] <;> omega)) (by first | omega | (simp [sz, uz] <;> omega)) (fun h => by exfalso; omega) (fun _ => ?_)
          refine Z_aload0 (pc := 18) ok dX12_tellsLeaves_18 ?_
          refine g_X12_one (pc := 19) (t := 131) ok dX12_tellsLeaves_19 kw916 rfl rfl ?_
          refine Z_iload2 (pc := 22) ok dX12_tellsLeaves_22 ?_
          refine Z_iload2 (pc := 23) ok dX12_tellsLeaves_23 ?_
          refine Z_iload1 (pc := 24) ok dX12_tellsLeaves_24 ?_
          refine Z_icmp_ne (pc := 25) (tgt := 32) ok dX12_tellsLeaves_25 rfl (by first | omega | (simp [sz, uz] <;> omega)) (by first | omega | (simp [sz, uz] <;> omega)) (fun h => ?_) (fun h => ?_)
          · refine Z_iconst (pc := 32) ok dX12_tellsLeaves_32 ?_
            refine Z_iast (pc := 33) (L := 30) ok dX12_tellsLeaves_33 rfl rfl (by first | omega | (simp [sz, uz] <;> omega)) ?_
            refine Z_iinc2 (pc := 34) ok (by decide) dX12_tellsLeaves_34 rfl ?_
            refine Z_goto (pc := 37) (tgt := 12) ok dX12_tellsLeaves_37 rfl ?_
            rw [sz_sz, sz_eq]
            exact ih2 _ (upto_s (p := fun j x => x = un e j) hf (by simp [un, h]))
          · refine Z_iconst (pc := 28) ok dX12_tellsLeaves_28 ?_
            refine Z_goto (pc := 29) (tgt := 33) ok dX12_tellsLeaves_29 rfl ?_
            refine Z_iast (pc := 33) (L := 30) ok dX12_tellsLeaves_33 rfl rfl (by first | omega | (simp [sz, uz] <;> omega)) ?_
            refine Z_iinc2 (pc := 34) ok (by decide) dX12_tellsLeaves_34 rfl ?_
            refine Z_goto (pc := 37) (tgt := 12) ok dX12_tellsLeaves_37 rfl ?_
            rw [sz_sz, sz_eq]
            exact ih2 _ (upto_s (p := fun j x => x = un e j) hf (by simp [un, h]))
      have h0 := H2 0 (by omega) (by omega) (I1 131) (fun j j0 j1 => by omega)
      rw [sz_self] at h0
      exact h0
  exact H 0 (by omega) (by omega) I fr.rf (fun e' k b0 b1 => by omega) none
theorem m_adds {n e o : Int} (h121 : I 121 0 = n) (hn : 2 ≤ n ∧ n ≤ 30) (hT : mT I) (hv : lvO I n) (he : 0 ≤ e ∧ e < n) : K_X12_adds l G [zr G 121, zi e, zi o] I J (pR none (sz I 130 (fun k => I 130 k + o * LV n e k)) J) := by
  have hdg := dg_b hn
  have ed := hT.2 n hn.1 hn.2
  refine Cz.of rfl (Nat.le_of_ble_eq_true rfl) [some (zr G 121), some (zi e), some (zi o), none] rfl (fun E ok okr hE => ?_)
  refine Z_iconst (pc := 0) ok dX12_adds_0 ?_
  refine Z_istore3 (pc := 1) ok (by decide) dX12_adds_1 rfl ?_
  have H : ∀ k : Int, 0 ≤ k → k ≤ DG n → ∀ f : Int → Int, (∀ j, 0 ≤ j → j < k → f j = I 130 j + o * LV n e j) → (∀ j, j < 0 ∨ k ≤ j → f j = I 130 j) → Xz E G (sz I 130 f) J 2 [some (zr G 121), some (zi e), some (zi o), some (zi k)] [] := by
    refine zUp ?_ ?_
    · intro f f1 f2
      have x1 : sz I 130 f 127 (sz I 130 f 121 0) = DG n := by rw [sz_ne _ _ (by decide), sz_ne _ _ (by decide), h121]; exact ed
      refine Z_iload3 (pc := 2) ok dX12_adds_2 ?_
      refine Z_aload0 (pc := 3) ok dX12_adds_3 ?_
      refine g_X12_degrees (pc := 4) (t := 127) ok dX12_adds_4 kw912 rfl rfl ?_
      refine Z_aload0 (pc := 7) ok dX12_adds_7 ?_
      refine g_X12_n (pc := 8) ok dX12_adds_8 kw905 rfl ?_
      refine Z_iald (pc := 11) (L := 31) ok dX12_adds_11 rfl rfl (by first | omega | (simp [sz, uz] <;> omega)) ?_
      refine Z_icmp_ge (pc := 12) (tgt := 43) ok dX12_adds_12 rfl (by omega) (by rw [x1]; omega) (fun h => ?_) (fun h => absurd h ((by rw [x1]; omega)))
      refine Z_vret (pc := 43) ok okr dX12_adds_43 ?_
      refine ⟨rfl, ?_, rfl⟩
      congr 1
      funext j
      by_cases q : 0 ≤ j ∧ j < DG n
      · exact f1 j q.1 q.2
      · rw [f2 j (by omega), LV_outZ hn he.1 he.2 (by omega), Int.mul_zero, Int.add_zero]
    · intro k k0 k1 ih f f1 f2
      have x1 : sz I 130 f 127 (sz I 130 f 121 0) = DG n := by rw [sz_ne _ _ (by decide), sz_ne _ _ (by decide), h121]; exact ed
      have x2 : sz I 130 f 129 (30 * e + k) = LV n e k := by rw [sz_ne _ _ (by decide)]; exact hv e k he.1 he.2 k0 (by omega)
      refine Z_iload3 (pc := 2) ok dX12_adds_2 ?_
      refine Z_aload0 (pc := 3) ok dX12_adds_3 ?_
      refine g_X12_degrees (pc := 4) (t := 127) ok dX12_adds_4 kw912 rfl rfl ?_
      refine Z_aload0 (pc := 7) ok dX12_adds_7 ?_
      refine g_X12_n (pc := 8) ok dX12_adds_8 kw905 rfl ?_
      refine Z_iald (pc := 11) (L := 31) ok dX12_adds_11 rfl rfl (by first | omega | (simp [sz, uz] <;> omega)) ?_
      refine Z_icmp_ge (pc := 12) (tgt := 43) ok dX12_adds_12 rfl (by omega) (by rw [x1]; omega) (fun h => absurd h ((by rw [x1]; omega))) (fun h => ?_)
      refine Z_aload0 (pc := 15) ok dX12_adds_15 ?_
      refine g_X12_sums (pc := 16) (t := 130) ok dX12_adds_16 kw915 rfl rfl ?_
      refine Z_iload3 (pc := 19) ok dX12_adds_19 ?_
      refine Z_dup2 (pc := 20) ok dX12_adds_20 rfl rfl ?_
      refine Z_iald (pc := 21) (L := 30) ok dX12_adds_21 rfl rfl (by first | omega | (simp [sz, uz] <;> omega)) ?_
      refine Z_iload2 (pc := 22) ok dX12_adds_22 ?_
      refine Z_aload0 (pc := 23) ok dX12_adds_23 ?_
      refine g_X12_leaves (pc := 24) (t := 129) ok dX12_adds_24 kw914 rfl rfl ?_
      refine Z_bipush (pc := 27) ok dX12_adds_27 (by decide) ?_
      refine Z_iload1 (pc := 29) ok dX12_adds_29 ?_
      refine Z_imul (pc := 30) ok dX12_adds_30 ?_
      refine Z_iload3 (pc := 31) ok dX12_adds_31 ?_
      refine Z_iadd (pc := 32) ok dX12_adds_32 ?_
      refine Z_iald (pc := 33) (L := 900) ok dX12_adds_33 rfl rfl (by first | omega | (simp [sz, uz] <;> omega)) ?_
      refine Z_imul (pc := 34) ok dX12_adds_34 ?_
      refine Z_iadd (pc := 35) ok dX12_adds_35 ?_
      refine Z_iast (pc := 36) (L := 30) ok dX12_adds_36 rfl rfl (by first | omega | (simp [sz, uz] <;> omega)) ?_
      refine Z_iinc3 (pc := 37) ok (by decide) dX12_adds_37 rfl ?_
      refine Z_goto (pc := 40) (tgt := 2) ok dX12_adds_40 rfl ?_
      rw [x2, sz_sz, sz_eq]
      refine ih _ (upto_s (p := fun j x => x = I 130 j + o * LV n e j) f1 (by rw [f2 k (by omega)])) (fun j hj => ?_)
      rw [uz_ne _ _ (by omega)]; exact f2 j (by omega)
  have h0 := H 0 (by omega) (by omega) (I 130) (fun j j0 j1 => by omega) (fun _ _ => rfl)
  rw [sz_self] at h0
  exact h0
theorem m_areNothing {n : Int} (h121 : I 121 0 = n) (hn : 2 ≤ n ∧ n ≤ 30) (hT : mT I) {p : Int → Int} (hp : ∀ e, 0 ≤ p e ∧ p e ≤ 9) (h130 : I 130 = rst n p) : K_X12_areNothing l G [zr G 121] I J (pR (some (zi (zb (nou n p)))) I J) := by
  have hdg := dg_b hn
  have ed := hT.2 n hn.1 hn.2
  rw [← h121] at ed
  refine Cz.of rfl (Nat.le_of_ble_eq_true rfl) [some (zr G 121), none, none] rfl (fun E ok okr hE => ?_)
  refine Z_iconst (pc := 0) ok dX12_areNothing_0 ?_
  refine Z_istore1 (pc := 1) ok (by decide) dX12_areNothing_1 rfl ?_
  refine Z_iconst (pc := 2) ok dX12_areNothing_2 ?_
  refine Z_istore2 (pc := 3) ok (by decide) dX12_areNothing_3 rfl ?_
  have H : ∀ i : Int, 0 ≤ i → i ≤ DG n → Xz E G I J 4 [some (zr G 121), some (zi (zb (∀ j, 0 ≤ j → j < i → rst n p j = 0))), some (zi i)] [] := by
    refine zUp ?_ ?_
    · refine Z_iload2 (pc := 4) ok dX12_areNothing_4 ?_
      refine Z_aload0 (pc := 5) ok dX12_areNothing_5 ?_
      refine g_X12_degrees (pc := 6) (t := 127) ok dX12_areNothing_6 kw912 rfl rfl ?_
      refine Z_aload0 (pc := 9) ok dX12_areNothing_9 ?_
      refine g_X12_n (pc := 10) ok dX12_areNothing_10 kw905 rfl ?_
      refine Z_iald (pc := 13) (L := 31) ok dX12_areNothing_13 rfl rfl (by first | omega | (simp [sz, uz] <;> omega)) ?_
      refine Z_icmp_ge (pc := 14) (tgt := 40) ok dX12_areNothing_14 rfl (by omega) (by rw [ed, h121]; omega) (fun h => ?_) (fun h => absurd h ((by rw [ed, h121]; omega)))
      refine Z_iload1 (pc := 40) ok dX12_areNothing_40 ?_
      refine Z_bret (pc := 41) ok okr dX12_areNothing_41 (by first | exact Or.inl rfl | exact Or.inr rfl | exact zb_01 _ | assumption | omega) ?_
      exact ⟨rfl, rfl, rfl⟩
    · intro i i0 i1 ih
      have hb := rst_b hn hp i
      have e130 : I 130 i = rst n p i := by rw [h130]
      refine Z_iload2 (pc := 4) ok dX12_areNothing_4 ?_
      refine Z_aload0 (pc := 5) ok dX12_areNothing_5 ?_
      refine g_X12_degrees (pc := 6) (t := 127) ok dX12_areNothing_6 kw912 rfl rfl ?_
      refine Z_aload0 (pc := 9) ok dX12_areNothing_9 ?_
      refine g_X12_n (pc := 10) ok dX12_areNothing_10 kw905 rfl ?_
      refine Z_iald (pc := 13) (L := 31) ok dX12_areNothing_13 rfl rfl (by first | omega | (simp [sz, uz] <;> omega)) ?_
      refine Z_icmp_ge (pc := 14) (tgt := 40) ok dX12_areNothing_14 rfl (by omega) (by rw [ed, h121]; omega) (fun h => absurd h ((by rw [ed, h121]; omega))) (fun h => ?_)
      refine Z_iload1 (pc := 17) ok dX12_areNothing_17 ?_
      refine Z_aload0 (pc := 18) ok dX12_areNothing_18 ?_
      refine g_X12_sums (pc := 19) (t := 130) ok dX12_areNothing_19 kw915 rfl rfl ?_
      refine Z_iload2 (pc := 22) ok dX12_areNothing_22 ?_
      refine Z_iald (pc := 23) (L := 30) ok dX12_areNothing_23 rfl rfl (by first | omega | (simp [sz, uz] <;> omega)) ?_
      refine Z_if_ne (pc := 24) (tgt := 31) ok dX12_areNothing_24 rfl (by first | omega | (simp [sz, uz] <;> omega)) (fun h => ?_) (fun h => ?_)
      · rw [e130] at h
        rw [zb_f (fun q => h (q i i0 (by omega)))] at ih
        refine Z_iconst (pc := 31) ok dX12_areNothing_31 ?_
        refine Z_iand0 (pc := 32) ok dX12_areNothing_32 (zb_01 _) ?_
        refine Z_istore1 (pc := 33) ok (by decide) dX12_areNothing_33 rfl ?_
        refine Z_iinc2 (pc := 34) ok (by decide) dX12_areNothing_34 rfl ?_
        refine Z_goto (pc := 37) (tgt := 4) ok dX12_areNothing_37 rfl ?_
        exact ih
      · rw [e130] at h
        have e : (∀ j, 0 ≤ j → j < i + 1 → rst n p j = 0) = (∀ j, 0 ≤ j → j < i → rst n p j = 0) := propext ⟨fun q j j0 j1 => q j j0 (by omega), fun q j j0 j1 => by by_cases x : j = i; rw [x]; exact h; exact q j j0 (by omega)⟩
        rw [e] at ih
        refine Z_iconst (pc := 27) ok dX12_areNothing_27 ?_
        refine Z_goto (pc := 28) (tgt := 32) ok dX12_areNothing_28 rfl ?_
        refine Z_iand1 (pc := 32) ok dX12_areNothing_32 (zb_01 _) ?_
        refine Z_istore1 (pc := 33) ok (by decide) dX12_areNothing_33 rfl ?_
        refine Z_iinc2 (pc := 34) ok (by decide) dX12_areNothing_34 rfl ?_
        refine Z_goto (pc := 37) (tgt := 4) ok dX12_areNothing_37 rfl ?_
        exact ih
  have h0 := H 0 (by omega) (by omega)
  rw [zb_t (fun j j0 j1 => by omega)] at h0
  exact h0
end
