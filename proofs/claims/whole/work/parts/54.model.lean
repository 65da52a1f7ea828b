/-! the division of the reference's constructor -/
section
variable {l : Launch} {G : Gw} {I J : Mz}
theorem m_divides {L q : List Int} {s g : Nat} {d : Int} (hL : L.length = 62) (h128 : I 128 = lf L) (hg : I 127 d = g) (hq : ∀ i : Int, 0 ≤ i → i < g → I 126 (31 * d + i) = lf q i) (h1 : 1 ≤ g) (hgs : g ≤ s) (hs : s ≤ 30) (hd : 0 ≤ d ∧ d ≤ 30) : K_X12_divides l G [zr G 121, zi s, zi d] I J (pR none (sz I 128 (lf (dvL q g s L))) J) := by
  have e26 : ∀ f : Int → Int, sz I 128 f 126 = I 126 := fun f => sz_ne _ _ (by decide)
  refine Cz.of rfl (Nat.le_of_ble_eq_true rfl) [some (zr G 121), some (zi s), some (zi d), none, none, none] rfl (fun E ok okr hE => ?_)
  refine Z_aload0 (pc := 0) ok dX12_divides_0 ?_
  refine g_X12_degrees (pc := 1) (t := 127) ok dX12_divides_1 kw912 rfl rfl ?_
  refine Z_iload2 (pc := 4) ok dX12_divides_4 ?_
  refine Z_iald (pc := 5) (L := 31) ok dX12_divides_5 rfl rfl (by first | omega | (simp [sz, uz] <;> omega)) ?_
  rw [hg]
  refine Z_istore3 (pc := 6) ok (by decide) dX12_divides_6 rfl ?_
  refine Z_iload1 (pc := 7) ok dX12_divides_7 ?_
  refine Z_istore4 (pc := 8) ok (by decide) dX12_divides_8 rfl ?_
  generalize hF : dvO q g (s + 1 - g) s L = F
  have hFl : F.length = 62 := by rw [← hF]; exact dvO_len _ _ _ _ _ hL
  have hfin : dvL q g s L = shL s g F := by rw [← hF]; rfl
  rw [hfin] at okr
  have H2 : ∀ k : Int, 0 ≤ k → k ≤ 62 → ∀ f : Int → Int, (∀ j, 0 ≤ j → j < k → f j = lf (shL s g F) j) → (∀ j, k ≤ j ∨ j < 0 → f j = lf F j) → ∀ w5, Xz E G (sz I 128 f) J 75 [some (zr G 121), some (zi s), some (zi d), some (zi g), some (zi k), w5] [] := by
    refine zUp ?_ ?_
    · intro f f1 f2 w5
      refine Z_iload4 (pc := 75) ok dX12_divides_75 ?_
      refine Z_bipush (pc := 77) ok dX12_divides_77 (by decide) ?_
      refine Z_icmp_ge (pc := 79) (tgt := 116) ok dX12_divides_79 rfl (by first | omega | (simp [sz, uz] <;> omega)) (by first | omega | (simp [sz, uz] <;> omega)) (fun _ => ?_) (fun h => by exfalso; omega)
      refine Z_vret (pc := 116) ok okr dX12_divides_116 ?_
      have hf : f = lf (shL s g F) := by
        funext j
        by_cases hj : 0 ≤ j ∧ j < 62
        · exact f1 j hj.1 hj.2
        · rw [f2 j (by omega), lf_0 hFl (by omega), lf_0 (shL_len _ _ _) (by omega)]
      rw [hf]
      exact ⟨rfl, rfl, rfl⟩
    · intro k k0 k1 ih f f1 f2 w5
      refine Z_iload4 (pc := 75) ok dX12_divides_75 ?_
      refine Z_bipush (pc := 77) ok dX12_divides_77 (by decide) ?_
      refine Z_icmp_ge (pc := 79) (tgt := 116) ok dX12_divides_79 rfl (by first | omega | (simp [sz, uz] <;> omega)) (by first | omega | (simp [sz, uz] <;> omega)) (fun h => by exfalso; omega) (fun _ => ?_)
      refine Z_aload0 (pc := 82) ok dX12_divides_82 ?_
      refine g_X12_left (pc := 83) (t := 128) ok dX12_divides_83 kw913 rfl rfl ?_
      refine Z_iload4 (pc := 86) ok dX12_divides_86 ?_
      refine Z_iload4 (pc := 88) ok dX12_divides_88 ?_
      refine Z_iload1 (pc := 90) ok dX12_divides_90 ?_
      refine Z_iload3 (pc := 91) ok dX12_divides_91 ?_
      refine Z_isub (pc := 92) ok dX12_divides_92 ?_
      refine Z_icmp_gt (pc := 93) (tgt := 108) ok dX12_divides_93 rfl (by first | omega | (simp [sz, uz] <;> omega)) (by first | omega | (simp [sz, uz] <;> omega)) (fun h => ?_) (fun h => ?_)
      · refine Z_iconst (pc := 108) ok dX12_divides_108 ?_
        refine Z_iast (pc := 109) (L := 62) ok dX12_divides_109 rfl rfl (by first | omega | (simp [sz, uz] <;> omega)) ?_
        refine Z_iinc4 (pc := 110) ok (by decide) dX12_divides_110 rfl ?_
        refine Z_goto (pc := 113) (tgt := 75) ok dX12_divides_113 rfl ?_
        rw [sz_sz, sz_eq]
        refine ih _ (upto_s (p := fun j x => x = lf (shL s g F) j) f1 ?_) (fun j hj => by rw [uz_ne _ _ (by omega)]; exact f2 j (by omega)) _
        rw [lf_shL hgs, if_neg (by omega)]
      · refine Z_aload0 (pc := 96) ok dX12_divides_96 ?_
        refine g_X12_left (pc := 97) (t := 128) ok dX12_divides_97 kw913 rfl rfl ?_
        refine Z_iload4 (pc := 100) ok dX12_divides_100 ?_
        refine Z_iload3 (pc := 102) ok dX12_divides_102 ?_
        refine Z_iadd (pc := 103) ok dX12_divides_103 ?_
        refine Z_iald (pc := 104) (L := 62) ok dX12_divides_104 rfl rfl (by first | omega | (simp [sz, uz] <;> omega)) ?_
        refine Z_goto (pc := 105) (tgt := 109) ok dX12_divides_105 rfl ?_
        refine Z_iast (pc := 109) (L := 62) ok dX12_divides_109 rfl rfl (by first | omega | (simp [sz, uz] <;> omega)) ?_
        refine Z_iinc4 (pc := 110) ok (by decide) dX12_divides_110 rfl ?_
        refine Z_goto (pc := 113) (tgt := 75) ok dX12_divides_113 rfl ?_
        rw [sz_sz, sz_eq]
        refine ih _ (upto_s (p := fun j x => x = lf (shL s g F) j) f1 ?_) (fun j hj => by rw [uz_ne _ _ (by omega)]; exact f2 j (by omega)) _
        rw [lf_shL hgs, if_pos (by omega), f2 _ (by omega)]
  have H : ∀ t : Int, (g : Int) - 1 ≤ t → t ≤ s → ∀ M : List Int, M.length = 62 → dvO q g (t + 1 - g).toNat t.toNat M = F → ∀ w5, Xz E G (sz I 128 (lf M)) J 10 [some (zr G 121), some (zi s), some (zi d), some (zi g), some (zi t), w5] [] := by
    refine zDown ?_ ?_
    · intro _ M hM hdv w5
      refine Z_iload4 (pc := 10) ok dX12_divides_10 ?_
      refine Z_iload3 (pc := 12) ok dX12_divides_12 ?_
      refine Z_icmp_lt (pc := 13) (tgt := 72) ok dX12_divides_13 rfl (by first | omega | (simp [sz, uz] <;> omega)) (by first | omega | (simp [sz, uz] <;> omega)) (fun _ => ?_) (fun h => by exfalso; omega)
      refine Z_iconst (pc := 72) ok dX12_divides_72 ?_
      refine Z_istore4 (pc := 73) ok (by decide) dX12_divides_73 rfl ?_
      rw [show ((g : Int) - 1 + 1 - g).toNat = 0 by omega] at hdv
      have hdv : M = F := hdv
      rw [hdv]
      exact H2 0 (by omega) (by omega) _ (fun j a b => by omega) (fun _ _ => rfl) _
    · intro t t0 ih ts M hM hdv w5
      refine Z_iload4 (pc := 10) ok dX12_divides_10 ?_
      refine Z_iload3 (pc := 12) ok dX12_divides_12 ?_
      refine Z_icmp_lt (pc := 13) (tgt := 72) ok dX12_divides_13 rfl (by first | omega | (simp [sz, uz] <;> omega)) (by first | omega | (simp [sz, uz] <;> omega)) (fun h => by exfalso; omega) (fun _ => ?_)
      refine Z_iconst (pc := 16) ok dX12_divides_16 ?_
      refine Z_istore5 (pc := 17) ok (by decide) dX12_divides_17 rfl ?_
      rw [show (t + 1 - g).toNat = (t - 1 + 1 - g).toNat + 1 by omega] at hdv
      have hdv : dvO q g (t - 1 + 1 - g).toNat (t.toNat - 1) (stL q g t.toNat M) = F := hdv
      have ih := ih (by omega) (stL q g t.toNat M) (stL_len _ _ _ _) (by rw [show (t - 1).toNat = t.toNat - 1 by omega]; exact hdv)
      have H3 : ∀ i : Int, 0 ≤ i → i ≤ g → ∀ f : Int → Int, (∀ j, t - g ≤ j → j < t - g + i → f j = lf M j - lf M t * lf q (j - (t - g))) → (∀ j, j < t - g ∨ t - g + i ≤ j → f j = lf M j) → Xz E G (sz I 128 f) J 19 [some (zr G 121), some (zi s), some (zi d), some (zi g), some (zi t), some (zi i)] [] := by
        refine zUp ?_ ?_
        · intro f f1 f2
          refine Z_iload5 (pc := 19) ok dX12_divides_19 ?_
          refine Z_iload3 (pc := 21) ok dX12_divides_21 ?_
          refine Z_icmp_ge (pc := 22) (tgt := 66) ok dX12_divides_22 rfl (by first | omega | (simp [sz, uz] <;> omega)) (by first | omega | (simp [sz, uz] <;> omega)) (fun _ => ?_) (fun h => by exfalso; omega)
          refine Z_iinc4 (pc := 66) ok (by decide) dX12_divides_66 rfl ?_
          refine Z_goto (pc := 69) (tgt := 10) ok dX12_divides_69 rfl ?_
          have hf : f = lf (stL q g t.toNat M) := by
            funext j
            rw [lf_stL hM (by omega) (by omega), show ((t.toNat : Nat) : Int) = t by omega]
            by_cases hj : t - g ≤ j ∧ j < t
            · rw [if_pos hj]; exact f1 j hj.1 (by omega)
            · rw [if_neg hj]; exact f2 j (by omega)
          rw [hf]
          exact ih _
        · intro i i0 i1 ih3 f f1 f2
          refine Z_iload5 (pc := 19) ok dX12_divides_19 ?_
          refine Z_iload3 (pc := 21) ok dX12_divides_21 ?_
          refine Z_icmp_ge (pc := 22) (tgt := 66) ok dX12_divides_22 rfl (by first | omega | (simp [sz, uz] <;> omega)) (by first | omega | (simp [sz, uz] <;> omega)) (fun h => by exfalso; omega) (fun _ => ?_)
          refine Z_aload0 (pc := 25) ok dX12_divides_25 ?_
          refine g_X12_left (pc := 26) (t := 128) ok dX12_divides_26 kw913 rfl rfl ?_
          refine Z_iload4 (pc := 29) ok dX12_divides_29 ?_
          refine Z_iload3 (pc := 31) ok dX12_divides_31 ?_
          refine Z_isub (pc := 32) ok dX12_divides_32 ?_
          refine Z_iload5 (pc := 33) ok dX12_divides_33 ?_
          refine Z_iadd (pc := 35) ok dX12_divides_35 ?_
          refine Z_dup2 (pc := 36) ok dX12_divides_36 rfl rfl ?_
          refine Z_iald (pc := 37) (L := 62) ok dX12_divides_37 rfl rfl (by first | omega | (simp [sz, uz] <;> omega)) ?_
          refine Z_aload0 (pc := 38) ok dX12_divides_38 ?_
          refine g_X12_left (pc := 39) (t := 128) ok dX12_divides_39 kw913 rfl rfl ?_
          refine Z_iload4 (pc := 42) ok dX12_divides_42 ?_
          refine Z_iald (pc := 44) (L := 62) ok dX12_divides_44 rfl rfl (by first | omega | (simp [sz, uz] <;> omega)) ?_
          refine Z_aload0 (pc := 45) ok dX12_divides_45 ?_
          refine g_X12_phis (pc := 46) (t := 126) ok dX12_divides_46 kw911 rfl rfl ?_
          refine Z_bipush (pc := 49) ok dX12_divides_49 (by decide) ?_
          refine Z_iload2 (pc := 51) ok dX12_divides_51 ?_
          refine Z_imul (pc := 52) ok dX12_divides_52 ?_
          refine Z_iload5 (pc := 53) ok dX12_divides_53 ?_
          refine Z_iadd (pc := 55) ok dX12_divides_55 ?_
          refine Z_iald (pc := 56) (L := 961) ok dX12_divides_56 rfl rfl (by first | omega | (simp [sz, uz] <;> omega)) ?_
          refine Z_imul (pc := 57) ok dX12_divides_57 ?_
          refine Z_isub (pc := 58) ok dX12_divides_58 ?_
          refine Z_iast (pc := 59) (L := 62) ok dX12_divides_59 rfl rfl (by first | omega | (simp [sz, uz] <;> omega)) ?_
          refine Z_iinc5 (pc := 60) ok (by decide) dX12_divides_60 rfl ?_
          refine Z_goto (pc := 63) (tgt := 19) ok dX12_divides_63 rfl ?_
          rw [e26, hq i i0 i1, sz_sz, sz_eq]
          refine ih3 _ (fun j j0 j1 => ?_) (fun j hj => ?_)
          · by_cases hji : j = t - g + i
            · rw [hji, uz_eq, f2 _ (by omega), f2 t (by omega), show t - g + i - (t - g) = i by omega]
            · rw [uz_ne _ _ hji]; exact f1 j j0 (by omega)
          · rw [uz_ne _ _ (by omega)]; exact f2 j (by omega)
      exact H3 0 (by omega) (by omega) _ (fun j a b => by omega) (fun _ _ => rfl)
  have h0 := H s (by omega) (by omega) L hL (by rw [← hF]; congr 1; omega) none
  rw [← h128, sz_self] at h0
  exact h0
end
def tS (I : Mz) (P D F : Int → Int) : Mz := sz (sz (sz I 126 P) 127 D) 128 F
theorem tS_126 (I : Mz) (P D F : Int → Int) : tS I P D F 126 = P := by simp [tS, sz]
theorem tS_127 (I : Mz) (P D F : Int → Int) : tS I P D F 127 = D := by simp [tS, sz]
theorem tS_128 (I : Mz) (P D F : Int → Int) : tS I P D F 128 = F := by simp [tS, sz]
theorem tS_u126 (I : Mz) (P D F f : Int → Int) : sz (tS I P D F) 126 f = tS I f D F := by
  funext a; simp only [tS, sz]; split <;> (try split) <;> (try split) <;> (try split) <;> first | rfl | (exfalso; omega)
theorem tS_u127 (I : Mz) (P D F f : Int → Int) : sz (tS I P D F) 127 f = tS I P f F := by
  funext a; simp only [tS, sz]; split <;> (try split) <;> (try split) <;> (try split) <;> first | rfl | (exfalso; omega)
theorem tS_u128 (I : Mz) (P D F f : Int → Int) : sz (tS I P D F) 128 f = tS I P D f := by
  funext a; simp only [tS, sz]; split <;> (try split) <;> (try split) <;> (try split) <;> first | rfl | (exfalso; omega)
theorem tS_self (I : Mz) : tS I (I 126) (I 127) (I 128) = I := by
  unfold tS; rw [sz_self]
  rw [show I 127 = sz I 127 (I 127) 127 from by rw [sz_eq], sz_self, show I 128 = I 128 from rfl, sz_self, sz_self]
theorem tS_fr (I : Mz) (P D F : Int → Int) : fr [126, 127, 128] I (tS I P D F) := ((fr.rf.st rfl).st rfl).st rfl
section
variable {E : Ev} {G : Gw} {I J : Mz}
theorem m_tables (ok : Ok E G RX12 cX12_init 4 2) (kk : ∀ P D F : Int → Int, (∀ (d : Nat) (i : Int), 1 ≤ d → d < 31 → 0 ≤ i → i ≤ gT d → P (31 * d + i) = lf (qT d) i) → (∀ d : Nat, 1 ≤ d → d < 31 → D d = gT d) → ∀ w1 w2 w3, Xz E G (tS I P D F) J 351 [some (zr G 121), w1, w2, w3] []) : Xz E G I J 226 [some (zr G 121), none, none, none] [] := by
  have HA : ∀ m : Int, 1 ≤ m → m ≤ 31 → ∀ P D F : Int → Int, (∀ (d : Nat) (i : Int), 1 ≤ d → (d : Int) < m → 0 ≤ i → i ≤ gT d → P (31 * d + i) = lf (qT d) i) → (∀ d : Nat, 1 ≤ d → (d : Int) < m → D d = gT d) → ∀ w2 w3, Xz E G (tS I P D F) J 228 [some (zr G 121), some (zi m), w2, w3] [] := by
    refine zUp ?_ ?_
    · intro P D F hP hD w2 w3
      refine Z_iload1 (pc := 228) ok dX12_init_228 ?_
      refine Z_bipush (pc := 229) ok dX12_init_229 (by decide) ?_
      refine Z_icmp_gt (pc := 231) (tgt := 351) ok dX12_init_231 rfl (by first | omega | (simp [sz, uz] <;> omega)) (by first | omega | (simp [sz, uz] <;> omega)) (fun _ => ?_) (fun h => by exfalso; omega)
      exact kk P D F (fun d i a b c e => hP d i a (by omega) c e) (fun d a b => hD d a (by omega)) _ _ _
    · intro m m0 m1 ih P D F hP hD w2 w3
      obtain ⟨mn, rfl⟩ : ∃ mn : Nat, m = (mn : Int) := ⟨m.toNat, by omega⟩
      have hok := okM_at (m := mn) (by omega) (by omega)
      have hgm := gT_b (d := mn) (by omega)
      have HD : ∀ i : Int, 0 ≤ i → i ≤ (gT mn : Int) + 1 → ∀ P' D' : Int → Int, (∀ (d : Nat) (i : Int), 1 ≤ d → (d : Int) < mn → 0 ≤ i → i ≤ gT d → P' (31 * d + i) = lf (qT d) i) → (∀ d : Nat, 1 ≤ d → (d : Int) < (mn : Int) + 1 → D' d = gT d) → (∀ j, 0 ≤ j → j < i → P' (31 * mn + j) = lf (qT mn) j) → Xz E G (tS I P' D' (lf (rnM mn (mn - 1)).1)) J 317 [some (zr G 121), some (zi (mn : Int)), some (zi (gT mn : Int)), some (zi i)] [] := by
        refine zUp ?_ ?_
        · intro P' D' hP' hD' hj
          refine Z_iload3 (pc := 317) ok dX12_init_317 ?_
          refine Z_iload2 (pc := 318) ok dX12_init_318 ?_
          refine Z_icmp_gt (pc := 319) (tgt := 345) ok dX12_init_319 rfl (by first | omega | (simp [sz, uz] <;> omega)) (by first | omega | (simp [sz, uz] <;> omega)) (fun _ => ?_) (fun h => by exfalso; omega)
          refine Z_iinc1 (pc := 345) ok (by decide) dX12_init_345 rfl ?_
          refine Z_goto (pc := 348) (tgt := 228) ok dX12_init_348 rfl ?_
          refine ih P' D' _ (fun d i a b c e => ?_) hD' _ _
          by_cases hd : d = mn
          · subst hd; exact hj i c (by omega)
          · exact hP' d i a (by omega) c e
        · intro i i0 i1 ih2 P' D' hP' hD' hj
          refine Z_iload3 (pc := 317) ok dX12_init_317 ?_
          refine Z_iload2 (pc := 318) ok dX12_init_318 ?_
          refine Z_icmp_gt (pc := 319) (tgt := 345) ok dX12_init_319 rfl (by first | omega | (simp [sz, uz] <;> omega)) (by first | omega | (simp [sz, uz] <;> omega)) (fun h => by exfalso; omega) (fun _ => ?_)
          refine Z_aload0 (pc := 322) ok dX12_init_322 ?_
          refine g_X12_phis (pc := 323) (t := 126) ok dX12_init_323 kw911 rfl rfl ?_
          refine Z_bipush (pc := 326) ok dX12_init_326 (by decide) ?_
          refine Z_iload1 (pc := 328) ok dX12_init_328 ?_
          refine Z_imul (pc := 329) ok dX12_init_329 ?_
          refine Z_iload3 (pc := 330) ok dX12_init_330 ?_
          refine Z_iadd (pc := 331) ok dX12_init_331 ?_
          refine Z_aload0 (pc := 332) ok dX12_init_332 ?_
          refine g_X12_left (pc := 333) (t := 128) ok dX12_init_333 kw913 rfl rfl ?_
          refine Z_iload3 (pc := 336) ok dX12_init_336 ?_
          refine Z_iald (pc := 337) (L := 62) ok dX12_init_337 rfl rfl (by first | omega | (simp [sz, uz] <;> omega)) ?_
          refine Z_iast (pc := 338) (L := 961) ok dX12_init_338 rfl rfl (by first | omega | (simp [sz, uz] <;> omega)) ?_
          refine Z_iinc3 (pc := 339) ok (by decide) dX12_init_339 rfl ?_
          refine Z_goto (pc := 342) (tgt := 317) ok dX12_init_342 rfl ?_
          rw [tS_126, tS_128, tS_u126]
          refine ih2 _ _ (fun d j a b c e => ?_) hD' (fun j a b => ?_)
          · have := gT_b (d := d) (by omega)
            rw [uz_ne _ _ (by omega)]; exact hP' d j a b c e
          · by_cases hji : j = i
            · rw [hji, uz_eq]
              have := hok.2 i.toNat (by omega)
              unfold lf
              rw [if_pos i0, if_pos i0, this]
            · rw [uz_ne _ _ (by omega)]; exact hj j a (by omega)
      have HC : ∀ d : Int, 1 ≤ d → d ≤ mn → Xz E G (tS I P D (lf (rnM mn (d - 1).toNat).1)) J 276 [some (zr G 121), some (zi (mn : Int)), some (zi ((rnM mn (d - 1).toNat).2 : Int)), some (zi d)] [] := by
        refine zUp ?_ ?_
        · refine Z_iload3 (pc := 276) ok dX12_init_276 ?_
          refine Z_iload1 (pc := 277) ok dX12_init_277 ?_
          refine Z_icmp_ge (pc := 278) (tgt := 308) ok dX12_init_278 rfl (by first | omega | (simp [sz, uz] <;> omega)) (by first | omega | (simp [sz, uz] <;> omega)) (fun _ => ?_) (fun h => by exfalso; omega)
          refine Z_aload0 (pc := 308) ok dX12_init_308 ?_
          refine g_X12_degrees (pc := 309) (t := 127) ok dX12_init_309 kw912 rfl rfl ?_
          refine Z_iload1 (pc := 312) ok dX12_init_312 ?_
          refine Z_iload2 (pc := 313) ok dX12_init_313 ?_
          refine Z_iast (pc := 314) (L := 31) ok dX12_init_314 rfl rfl (by first | omega | (simp [sz, uz] <;> omega)) ?_
          refine Z_iconst (pc := 315) ok dX12_init_315 ?_
          refine Z_istore3 (pc := 316) ok (by decide) dX12_init_316 rfl ?_
          rw [tS_127, tS_u127, show ((mn : Int) - 1).toNat = mn - 1 by omega, hok.1]
          refine HD 0 (by omega) (by omega) _ _ hP (fun d a b => ?_) (fun j a b => by omega)
          by_cases hd : d = mn
          · subst hd; rw [uz_eq]
          · rw [uz_ne _ _ (by omega)]; exact hD d a (by omega)
        · intro d d0 d1 ih2
          obtain ⟨k, rfl⟩ : ∃ k : Nat, d = (k : Int) + 1 := ⟨(d - 1).toNat, by omega⟩
          rw [show ((k : Int) + 1 - 1).toNat = k by omega]
          rw [show ((k : Int) + 1 + 1 - 1).toNat = k + 1 by omega] at ih2
          have hb := szM_b (m := mn) (d := k) (by omega) (by omega)
          have hs2 := szM_e mn k
          refine Z_iload3 (pc := 276) ok dX12_init_276 ?_
          refine Z_iload1 (pc := 277) ok dX12_init_277 ?_
          refine Z_icmp_ge (pc := 278) (tgt := 308) ok dX12_init_278 rfl (by first | omega | (simp [sz, uz] <;> omega)) (by first | omega | (simp [sz, uz] <;> omega)) (fun h => by exfalso; omega) (fun _ => ?_)
          refine Z_iload1 (pc := 281) ok dX12_init_281 ?_
          refine Z_iload3 (pc := 282) ok dX12_init_282 ?_
          refine Z_irem (pc := 283) ok dX12_init_283 (by omega) (by omega) (by omega) (by omega) ?_
          refine Z_if_ne (pc := 284) (tgt := 302) ok dX12_init_284 rfl (em_r (by omega) (by omega)) (fun h => ?_) (fun h => ?_)
          · refine Z_iinc3 (pc := 302) ok (by decide) dX12_init_302 rfl ?_
            refine Z_goto (pc := 305) (tgt := 276) ok dX12_init_305 rfl ?_
            have e1 : rnM mn (k + 1) = rnM mn k := by
              show (if mn % (k + 1) = 0 then _ else _) = _
              rw [if_neg (fun q => h (by have : (((mn % (k + 1) : Nat) : Int)) = 0 := by omega
                                         rw [Int.natCast_emod] at this
                                         exact this))]
            rw [e1] at ih2
            exact ih2
          · have hmod : mn % (k + 1) = 0 := by
              have : ((mn % (k + 1) : Nat) : Int) = 0 := by rw [Int.natCast_emod]; exact h
              omega
            have hb2 := hb.2 hmod (by omega)
            have hDk := hD (k + 1) (by omega) (by omega)
            have hDk : D ((k : Int) + 1) = gT (k + 1) := hDk
            have e1 : rnM mn (k + 1) = (dvL (qT (k + 1)) (gT (k + 1)) (rnM mn k).2 (rnM mn k).1, (rnM mn k).2 - gT (k + 1)) := by
              show (if mn % (k + 1) = 0 then _ else _) = _
              rw [if_pos hmod]
            refine Z_aload0 (pc := 287) ok dX12_init_287 ?_
            refine Z_iload2 (pc := 288) ok dX12_init_288 ?_
            refine Z_iload3 (pc := 289) ok dX12_init_289 ?_
            refine Z_callVVd (pc := 290) ok dX12_init_290 cw_X12_93 rfl rfl (by decide) (m_divides (q := qT (k + 1)) (g := gT (k + 1)) (rnM_len mn k) (tS_128 _ _ _ _) (by rw [tS_127]; exact hDk) (fun i a b => by rw [tS_126]; exact hP (k + 1) i (by omega) (by omega) a (by omega)) hb2.2 (by rw [hs2]; exact hb2.1) (by rw [hs2]; exact hb.1) (by omega)) rfl rfl (by first | decide | omega) (Nat.le_of_ble_eq_true rfl) ?_
            refine Z_iload2 (pc := 293) ok dX12_init_293 ?_
            refine Z_aload0 (pc := 294) ok dX12_init_294 ?_
            refine g_X12_degrees (pc := 295) (t := 127) ok dX12_init_295 kw912 rfl rfl ?_
            refine Z_iload3 (pc := 298) ok dX12_init_298 ?_
            refine Z_iald (pc := 299) (L := 31) ok dX12_init_299 rfl rfl (by first | omega | (simp [sz, uz] <;> omega)) ?_
            rw [tS_u128, tS_127, hDk]
            refine Z_isub (pc := 300) ok dX12_init_300 ?_
            refine Z_istore2 (pc := 301) ok (by decide) dX12_init_301 rfl ?_
            refine Z_iinc3 (pc := 302) ok (by decide) dX12_init_302 rfl ?_
            refine Z_goto (pc := 305) (tgt := 276) ok dX12_init_305 rfl ?_
            have e2 : ((rnM mn k).2 : Int) - (gT (k + 1) : Int) = ((rnM mn (k + 1)).2 : Int) := by
              rw [e1]
              show _ = (((rnM mn k).2 - gT (k + 1) : Nat) : Int)
              rw [hs2]; omega
            have e3 : dvL (qT (k + 1)) (gT (k + 1)) (rnM mn k).2 (rnM mn k).1 = (rnM mn (k + 1)).1 := by rw [e1]
            rw [e2, e3]
            exact ih2
      have HB : ∀ k : Int, 0 ≤ k → k ≤ 62 → ∀ F : Int → Int, (∀ j, 0 ≤ j → j < k → F j = lf (iniL mn) j) → ∀ w3, Xz E G (tS I P D F) J 236 [some (zr G 121), some (zi (mn : Int)), some (zi k), w3] [] := by
        refine zUp ?_ ?_
        · intro F hF w3
          refine Z_ext1 (g := lf (iniL mn)) (by decide) (fun j h0 h1 => hF j h0 (by have : j < 62 := h1; omega)) ?_
          refine Z_iload2 (pc := 236) ok dX12_init_236 ?_
          refine Z_bipush (pc := 237) ok dX12_init_237 (by decide) ?_
          refine Z_icmp_ge (pc := 239) (tgt := 272) ok dX12_init_239 rfl (by first | omega | (simp [sz, uz] <;> omega)) (by first | omega | (simp [sz, uz] <;> omega)) (fun _ => ?_) (fun h => by exfalso; omega)
          refine Z_iload1 (pc := 272) ok dX12_init_272 ?_
          refine Z_istore2 (pc := 273) ok (by decide) dX12_init_273 rfl ?_
          refine Z_iconst (pc := 274) ok dX12_init_274 ?_
          refine Z_istore3 (pc := 275) ok (by decide) dX12_init_275 rfl ?_
          have h0 := HC 1 (by omega) (by omega)
          exact h0
        · intro k k0 k1 ih2 F hF w3
          refine Z_iload2 (pc := 236) ok dX12_init_236 ?_
          refine Z_bipush (pc := 237) ok dX12_init_237 (by decide) ?_
          refine Z_icmp_ge (pc := 239) (tgt := 272) ok dX12_init_239 rfl (by first | omega | (simp [sz, uz] <;> omega)) (by first | omega | (simp [sz, uz] <;> omega)) (fun h => by exfalso; omega) (fun _ => ?_)
          refine Z_aload0 (pc := 242) ok dX12_init_242 ?_
          refine g_X12_left (pc := 243) (t := 128) ok dX12_init_243 kw913 rfl rfl ?_
          refine Z_iload2 (pc := 246) ok dX12_init_246 ?_
          refine Z_iload2 (pc := 247) ok dX12_init_247 ?_
          refine Z_iload1 (pc := 248) ok dX12_init_248 ?_
          refine Z_icmp_ne (pc := 249) (tgt := 256) ok dX12_init_249 rfl (by first | omega | (simp [sz, uz] <;> omega)) (by first | omega | (simp [sz, uz] <;> omega)) (fun h => ?_) (fun h => ?_)
          · refine Z_iload2 (pc := 256) ok dX12_init_256 ?_
            refine Z_if_ne (pc := 257) (tgt := 264) ok dX12_init_257 rfl (by first | omega | (simp [sz, uz] <;> omega)) (fun h2 => ?_) (fun h2 => ?_)
            · refine Z_iconst (pc := 264) ok dX12_init_264 ?_
              refine Z_iast (pc := 265) (L := 62) ok dX12_init_265 rfl rfl (by first | omega | (simp [sz, uz] <;> omega)) ?_
              refine Z_iinc2 (pc := 266) ok (by decide) dX12_init_266 rfl ?_
              refine Z_goto (pc := 269) (tgt := 236) ok dX12_init_269 rfl ?_
              rw [tS_128, tS_u128]
              exact ih2 _ (upto_s (p := fun j x => x = lf (iniL mn) j) hF (by rw [lf_iniL _ (by omega), if_neg h, if_neg h2])) _
            · refine Z_iconst (pc := 260) ok dX12_init_260 ?_
              refine Z_goto (pc := 261) (tgt := 265) ok dX12_init_261 rfl ?_
              refine Z_iast (pc := 265) (L := 62) ok dX12_init_265 rfl rfl (by first | omega | (simp [sz, uz] <;> omega)) ?_
              refine Z_iinc2 (pc := 266) ok (by decide) dX12_init_266 rfl ?_
              refine Z_goto (pc := 269) (tgt := 236) ok dX12_init_269 rfl ?_
              rw [tS_128, tS_u128]
              exact ih2 _ (upto_s (p := fun j x => x = lf (iniL mn) j) hF (by rw [lf_iniL _ (by omega), if_neg h, if_pos h2])) _
          · refine Z_iconst (pc := 252) ok dX12_init_252 ?_
            refine Z_goto (pc := 253) (tgt := 265) ok dX12_init_253 rfl ?_
            refine Z_iast (pc := 265) (L := 62) ok dX12_init_265 rfl rfl (by first | omega | (simp [sz, uz] <;> omega)) ?_
            refine Z_iinc2 (pc := 266) ok (by decide) dX12_init_266 rfl ?_
            refine Z_goto (pc := 269) (tgt := 236) ok dX12_init_269 rfl ?_
            rw [tS_128, tS_u128]
            exact ih2 _ (upto_s (p := fun j x => x = lf (iniL mn) j) hF (by rw [lf_iniL _ (by omega), if_pos h])) _
      refine Z_iload1 (pc := 228) ok dX12_init_228 ?_
      refine Z_bipush (pc := 229) ok dX12_init_229 (by decide) ?_
      refine Z_icmp_gt (pc := 231) (tgt := 351) ok dX12_init_231 rfl (by first | omega | (simp [sz, uz] <;> omega)) (by first | omega | (simp [sz, uz] <;> omega)) (fun h => by exfalso; omega) (fun _ => ?_)
      refine Z_iconst (pc := 234) ok dX12_init_234 ?_
      refine Z_istore2 (pc := 235) ok (by decide) dX12_init_235 rfl ?_
      exact HB 0 (by omega) (by omega) F (fun j a b => by omega) _
  have h0 := HA 1 (by omega) (by omega) (I 126) (I 127) (I 128) (fun d i a b => by omega) (fun d a b => by omega) none none
  rw [tS_self] at h0
  refine Z_iconst (pc := 226) ok dX12_init_226 ?_
  refine Z_istore1 (pc := 227) ok (by decide) dX12_init_227 rfl ?_
  exact h0
end
