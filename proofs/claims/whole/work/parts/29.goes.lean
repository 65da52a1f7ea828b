/-! the reference: goes, looks -/
theorem gI_no {n : Int} {c N be : Int → Int} {V : (Int → Int) → Prop} {bW bM : Int} {p : Int → Int} (h : gI n c N V bW bM be) (hp : ¬ good n p) : gI n c N (fun s => V s ∨ s = p) bW bM be := by
  obtain ⟨a1, a2, a3, a4, a5⟩ := h
  refine ⟨a1, a2, ?_, a4, fun q => ?_⟩
  · rintro t (q | q) hg
    · exact a3 t q hg
    · rw [q] at hg; exact absurd hg hp
  · obtain ⟨b1, b2, b3, fi, c1, c2, c3, c4, c5, c6⟩ := a5 q
    refine ⟨b1, b2, b3, fi, c1, Or.inl c2, c3, c4, c5, ?_⟩
    rintro t (x | x) hg hs
    · exact c6 t x hg hs
    · rw [x] at hg; exact absurd hg hp
theorem gI_iff {n : Int} {c N N' be : Int → Int} {V V' : (Int → Int) → Prop} {bW bM : Int} (h : gI n c N V bW bM be) (hN : N = N') (hV : ∀ s, V s ↔ V' s) : gI n c N' V' bW bM be := by
  have : V = V' := funext fun s => propext (hV s)
  rw [← hN, ← this]; exact h
/-- a new one that counts: lighter than all, as light, heavier -/
theorem gI_new {n : Int} {c N be be' : Int → Int} {V : (Int → Int) → Prop} {bW bM : Int} {p : Int → Int} (h : gI n c N V bW bM be) (hp : good n p) (hv : vld n c p) (hw : 0 ≤ su p n ∧ su p n ≤ 270) (hl : bM = 0 ∨ su p n < bW) (hbe : ∀ j, 0 ≤ j → j < n → be' j = p j) : gI n c (fun w => N w + zb (good n p ∧ su p n = w)) (fun s => V s ∨ s = p) (su p n) 1 be' := by
  obtain ⟨a1, a2, a3, a4, a5⟩ := h
  have hN0 : N (su p n) = 0 ∧ ∀ w, w < su p n → N w = 0 := by
    rcases hl with q | q
    · exact ⟨a4 q _, fun w _ => a4 q w⟩
    · by_cases q2 : bM = 0
      · exact ⟨a4 q2 _, fun w _ => a4 q2 w⟩
      · obtain ⟨b1, b2, _⟩ := a5 (by omega)
        exact ⟨b2 _ q, fun w hw => b2 w (by omega)⟩
  refine ⟨fun w => ?_, by omega, ?_, fun q => by omega, fun _ => ⟨?_, fun w hw2 => ?_, hw, p, hbe, Or.inr rfl, hp, rfl, hv, ?_⟩⟩
  · have := a1 w; show 0 ≤ N w + zb (good n p ∧ su p n = w); rcases zb_01 (good n p ∧ su p n = w) with q | q <;> omega
  · rintro t (q | q) hg
    · have := a3 t q hg; show 0 < N (su t n) + zb (good n p ∧ su p n = su t n); rcases zb_01 (good n p ∧ su p n = su t n) with q | q <;> omega
    · rw [q]; show 0 < N (su p n) + zb (good n p ∧ su p n = su p n); rw [zb_t ⟨hp, rfl⟩]; have := a1 (su p n); omega
  · show 1 = N (su p n) + zb (good n p ∧ su p n = su p n); rw [zb_t ⟨hp, rfl⟩, hN0.1]; rfl
  · show N w + zb (good n p ∧ su p n = w) = 0; rw [zb_f (fun q => by omega), hN0.2 w hw2]; rfl
  · rintro t (q | q) hg hs
    · have := a3 t q hg; rw [hs, hN0.1] at this; omega
    · exact Or.inl q
theorem gI_same {n : Int} {c N be : Int → Int} {V : (Int → Int) → Prop} {bW bM : Int} {p : Int → Int} (h : gI n c N V bW bM be) (hp : good n p) (hl : 0 < bM ∧ su p n = bW) (ho : ∀ t, V t → lgt n t p) : gI n c (fun w => N w + zb (good n p ∧ su p n = w)) (fun s => V s ∨ s = p) bW (bM + 1) be := by
  obtain ⟨a1, a2, a3, a4, a5⟩ := h
  obtain ⟨b1, b2, b3, fi, c1, c2, c3, c4, c5, c6⟩ := a5 hl.1
  refine ⟨fun w => ?_, by omega, ?_, fun q => by omega, fun _ => ⟨?_, fun w hw2 => ?_, b3, fi, c1, Or.inl c2, c3, c4, c5, ?_⟩⟩
  · have := a1 w; show 0 ≤ N w + zb (good n p ∧ su p n = w); rcases zb_01 (good n p ∧ su p n = w) with q | q <;> omega
  · rintro t (q | q) hg
    · have := a3 t q hg; show 0 < N (su t n) + zb (good n p ∧ su p n = su t n); rcases zb_01 (good n p ∧ su p n = su t n) with q | q <;> omega
    · rw [q]; show 0 < N (su p n) + zb (good n p ∧ su p n = su p n); rw [zb_t ⟨hp, rfl⟩]; have := a1 (su p n); omega
  · show bM + 1 = N bW + zb (good n p ∧ su p n = bW); rw [zb_t ⟨hp, hl.2⟩]; omega
  · show N w + zb (good n p ∧ su p n = w) = 0; rw [zb_f (fun q => by omega), b2 w hw2]; rfl
  · rintro t (q | q) hg hs
    · exact c6 t q hg hs
    · rw [q]; exact Or.inr (ho fi c2)
theorem gI_more {n : Int} {c N be : Int → Int} {V : (Int → Int) → Prop} {bW bM : Int} {p : Int → Int} (h : gI n c N V bW bM be) (hp : good n p) (hl : 0 < bM ∧ bW < su p n) : gI n c (fun w => N w + zb (good n p ∧ su p n = w)) (fun s => V s ∨ s = p) bW bM be := by
  obtain ⟨a1, a2, a3, a4, a5⟩ := h
  obtain ⟨b1, b2, b3, fi, c1, c2, c3, c4, c5, c6⟩ := a5 hl.1
  refine ⟨fun w => ?_, by omega, ?_, fun q => by omega, fun _ => ⟨?_, fun w hw2 => ?_, b3, fi, c1, Or.inl c2, c3, c4, c5, ?_⟩⟩
  · have := a1 w; show 0 ≤ N w + zb (good n p ∧ su p n = w); rcases zb_01 (good n p ∧ su p n = w) with q | q <;> omega
  · rintro t (q | q) hg
    · have := a3 t q hg; show 0 < N (su t n) + zb (good n p ∧ su p n = su t n); rcases zb_01 (good n p ∧ su p n = su t n) with q | q <;> omega
    · rw [q]; show 0 < N (su p n) + zb (good n p ∧ su p n = su p n); rw [zb_t ⟨hp, rfl⟩]; have := a1 (su p n); omega
  · show bM = N bW + zb (good n p ∧ su p n = bW); rw [zb_f (fun q => by omega)]; omega
  · show N w + zb (good n p ∧ su p n = w) = 0; rw [zb_f (fun q => by omega), b2 w hw2]; rfl
  · rintro t (q | q) hg hs
    · exact c6 t q hg hs
    · rw [q] at hs; omega
theorem m_goes {l : Launch} {G : Gw} {n : Int} {c : Int → Int} (hg : gR n c) : ∀ (m : Nat) (e : Int) (I J : Mz) (p N : Int → Int) (V : (Int → Int) → Prop), e + m = n → 0 ≤ e → I 121 0 = n → mT I → lvO I n → (∀ j, 0 ≤ j → j < n → I 134 j = c j) → I 130 = rst n p → (∀ j, 0 ≤ j → j < e → I 132 j = p j) → (∀ j, 0 ≤ p j ∧ p j ≤ c j) → (∀ j, j < 0 ∨ e ≤ j → p j = 0) → gI n c N V (I 121 16) (I 121 17) (I 133) → (∀ t, V t → ∀ s, cmp n c e p s → lgt n t s) → I 121 17 + prR c m e ≤ 1000000 → K_X12_goes (m + 2) l G [zr G 121, zi e, zi (su p n)] I J (fun v I' J' => v = none ∧ (J' = J ∧ fr [121, 130, 132, 133] I I' ∧ (∀ q, q ≠ 15 → q ≠ 16 → q ≠ 17 → I' 121 q = I 121 q) ∧ I' 130 = I 130 ∧ (∀ j, 0 ≤ j → j < e → I' 132 j = I 132 j) ∧ I' 121 15 = I 121 15 + SV c m e (fun t => zb (good n (mix e p t))) ∧ gI n c (fun w => N w + SV c m e (fun t => zb (good n (mix e p t) ∧ su (mix e p t) n = w))) (fun s => V s ∨ cmp n c e p s) (I' 121 16) (I' 121 17) (I' 133) ∧ I' 121 17 ≤ I 121 17 + prR c m e)) := by
  have hn := hg.1
  have hc0 : ∀ e, 0 ≤ c e := fun e => (hg.2.1 e).1
  intro m
  induction m with
  | zero =>
    intro e I J p N V hem e0 h121 hT hv h134 h130 h132 hp hpz hgI hord hbd
    have hen : e = n := by omega
    subst hen
    have hvp : vld e c p := ⟨hp, hpz⟩
    have hp9 : ∀ j, 0 ≤ p j ∧ p j ≤ 9 := fun j => by have := hp j; have := (hg.2.1 j).2; omega
    have hsu : 0 ≤ su p e ∧ su p e ≤ 270 := by
      have a1 := su_nn (f := p) (e := e) (fun j _ _ => (hp j).1)
      have a2 := su_le (f := p) (g := fun _ => 9) (e := e) (fun j _ _ => (hp9 j).2)
      rw [su_k _ (by omega)] at a2
      omega
    have hmix : mix e p (fun _ => 0) = p := by
      funext j; simp only [mix]; split
      · rfl
      · rw [hpz j (by omega)]
    have hcmp : ∀ s, cmp e c e p s ↔ s = p := fun s => ⟨fun q => vld_eq q.1 hvp q.2, fun q => by rw [q]; exact ⟨hvp, fun _ _ _ => rfl⟩⟩
    have hSV1 : SV c 0 e (fun t => zb (good e (mix e p t))) = zb (good e p) := by simp only [SV, hmix]
    have hSV2 : (fun w => N w + SV c 0 e (fun t => zb (good e (mix e p t) ∧ su (mix e p t) e = w))) = fun w => N w + zb (good e p ∧ su p e = w) := by funext w; simp only [SV, hmix]
    have hVV : (fun s => V s ∨ cmp e c e p s) = fun s => V s ∨ s = p := funext fun s => propext (by rw [hcmp s])
    rw [hSV1, hSV2, hVV]
    have hprR : prR c 0 e = 1 := rfl
    rw [hprR] at hbd ⊢
    have hb0 := hgI.2.1
    have ho : ∀ t, V t → lgt e t p := fun t ht => hord t ht p ((hcmp p).mpr rfl)
    -- nothing is to be told
    have none_ : ¬ good e p → (none : Option Value) = none ∧ (J = J ∧ fr [121, 130, 132, 133] I I ∧ (∀ q, q ≠ 15 → q ≠ 16 → q ≠ 17 → I 121 q = I 121 q) ∧ I 130 = I 130 ∧ (∀ j, 0 ≤ j → j < e → I 132 j = I 132 j) ∧ I 121 15 = I 121 15 + zb (good e p) ∧ gI e c (fun w => N w + zb (good e p ∧ su p e = w)) (fun s => V s ∨ s = p) (I 121 16) (I 121 17) (I 133) ∧ I 121 17 ≤ I 121 17 + 1) := by
      intro q
      refine ⟨rfl, rfl, fr.rf, fun _ _ _ _ => rfl, rfl, fun _ _ _ => rfl, by rw [zb_f q]; omega, gI_iff (gI_no hgI q) ?_ (fun _ => Iff.rfl), by omega⟩
      funext w; rw [zb_f (fun x => q x.1)]; omega
    refine Cz.of rfl (Nat.le_of_ble_eq_true rfl) [some (zr G 121), some (zi e), some (zi (su p e)), none] rfl (fun E ok okr hE => ?_)
    refine Z_iload1 (pc := 0) ok dX12_goes_0 ?_
    refine Z_aload0 (pc := 1) ok dX12_goes_1 ?_
    refine g_X12_n (pc := 2) ok dX12_goes_2 kw905 rfl ?_
    refine Z_icmp_ne (pc := 5) (tgt := 115) ok dX12_goes_5 rfl (by first | omega | (simp [sz, uz] <;> omega)) (by first | omega | (simp [sz, uz] <;> omega)) (fun h => by exfalso; omega) (fun _ => ?_)
    refine Z_iload2 (pc := 8) ok dX12_goes_8 ?_
    refine Z_if_le (pc := 9) (tgt := 114) ok dX12_goes_9 rfl (by first | omega | (simp [sz, uz] <;> omega)) (fun h1 => ?_) (fun h1 => ?_)
    · refine Z_vret (pc := 114) ok okr dX12_goes_114 ?_
      exact none_ (fun q => by have := q.1; omega)
    · refine Z_aload0 (pc := 12) ok dX12_goes_12 ?_
      refine Z_callVId (pc := 13) ok dX12_goes_13 cw_X12_134 rfl rfl (by decide) (m_areNothing h121 hn hT hp9 h130) rfl rfl (by first | decide | omega) (Nat.le_of_ble_eq_true rfl) ?_
      refine Z_if_eqB (pc := 16) (tgt := 114) ok dX12_goes_16 rfl (fun h2 => ?_) (fun h2 => ?_)
      · refine Z_vret (pc := 114) ok okr dX12_goes_114 ?_
        exact none_ (fun q => h2 q.2)
      · have hgood : good e p := ⟨h1, h2⟩
        -- the loop that keeps the best
        have keep : ∀ i : Int, 0 ≤ i → i ≤ e → ∀ I1 : Mz, fr [121, 130, 132, 133] I I1 → (∀ q, q ≠ 15 → q ≠ 16 → q ≠ 17 → I1 121 q = I 121 q) → I1 130 = I 130 → I1 132 = I 132 → I1 121 15 = I 121 15 + 1 → I1 121 16 = su p e → I1 121 17 = 1 → (∀ j, 0 ≤ j → j < i → I1 133 j = p j) → (I 121 17 = 0 ∨ su p e < I 121 16) → Xz E G I1 J 88 [some (zr G 121), some (zi e), some (zi (su p e)), some (zi i)] [] := by
          refine zUp ?_ ?_
          · intro I1 f1 f2 f3 f4 f5 f6 f7 f8 f9
            have x0 : I1 121 0 = e := by rw [f2 0 (by decide) (by decide) (by decide)]; exact h121
            refine Z_iload3 (pc := 88) ok dX12_goes_88 ?_
            refine Z_aload0 (pc := 89) ok dX12_goes_89 ?_
            refine g_X12_n (pc := 90) ok dX12_goes_90 kw905 rfl ?_
            refine Z_icmp_ge (pc := 93) (tgt := 114) ok dX12_goes_93 rfl (by first | omega | (simp [sz, uz] <;> omega)) (by first | omega | (simp [sz, uz] <;> omega)) (fun _ => ?_) (fun h => by exfalso; omega)
            refine Z_vret (pc := 114) ok okr dX12_goes_114 ?_
            refine ⟨rfl, rfl, f1, f2, f3, fun j _ _ => by rw [f4], by rw [zb_t hgood]; exact f5, ?_, by omega⟩
            rw [f6, f7]
            exact gI_new hgI hgood hvp hsu f9 f8
          · intro i i0 i1 ih I1 f1 f2 f3 f4 f5 f6 f7 f8 f9
            have x0 : I1 121 0 = e := by rw [f2 0 (by decide) (by decide) (by decide)]; exact h121
            refine Z_iload3 (pc := 88) ok dX12_goes_88 ?_
            refine Z_aload0 (pc := 89) ok dX12_goes_89 ?_
            refine g_X12_n (pc := 90) ok dX12_goes_90 kw905 rfl ?_
            refine Z_icmp_ge (pc := 93) (tgt := 114) ok dX12_goes_93 rfl (by first | omega | (simp [sz, uz] <;> omega)) (by first | omega | (simp [sz, uz] <;> omega)) (fun h => by exfalso; omega) (fun _ => ?_)
            refine Z_aload0 (pc := 96) ok dX12_goes_96 ?_
            refine g_X12_best (pc := 97) (t := 133) ok dX12_goes_97 kw918 rfl rfl ?_
            refine Z_iload3 (pc := 100) ok dX12_goes_100 ?_
            refine Z_aload0 (pc := 101) ok dX12_goes_101 ?_
            refine g_X12_tried (pc := 102) (t := 132) ok dX12_goes_102 kw917 rfl rfl ?_
            refine Z_iload3 (pc := 105) ok dX12_goes_105 ?_
            refine Z_iald (pc := 106) (L := 30) ok dX12_goes_106 rfl rfl (by first | omega | (simp [sz, uz] <;> omega)) ?_
            refine Z_iast (pc := 107) (L := 30) ok dX12_goes_107 rfl rfl (by first | omega | (simp [sz, uz] <;> omega)) ?_
            refine Z_iinc3 (pc := 108) ok (by decide) dX12_goes_108 rfl ?_
            refine Z_goto (pc := 111) (tgt := 88) ok dX12_goes_111 rfl ?_
            refine ih _ (f1.st rfl) (fun q a b d => by rw [sz_ne _ _ (by decide)]; exact f2 q a b d) (by rw [sz_ne _ _ (by decide)]; exact f3) (by rw [sz_ne _ _ (by decide)]; exact f4) (by rw [sz_ne _ _ (by decide)]; exact f5) (by rw [sz_ne _ _ (by decide)]; exact f6) (by rw [sz_ne _ _ (by decide)]; exact f7) (by rw [sz_eq]; exact upto_s (p := fun j x => x = p j) f8 (by rw [f4]; exact h132 i i0 i1)) f9
        -- behind the count of the best
        have mid : ∀ b : Int, (b = I 121 17 ∨ b = I 121 17 + 1) → (b = I 121 17 + 1 ↔ (0 < I 121 17 ∧ su p e = I 121 16)) → Xz E G (sz I 121 (uz (uz (I 121) 15 (I 121 15 + 1)) 17 b)) J 61 [some (zr G 121), some (zi e), some (zi (su p e)), none] [] := by
          intro b hb1 hb2
          have y0 : ∀ q, q ≠ 15 → q ≠ 17 → sz I 121 (uz (uz (I 121) 15 (I 121 15 + 1)) 17 b) 121 q = I 121 q := fun q a d => by rw [sz_eq, uz_ne _ _ d, uz_ne _ _ a]
          have y15 : sz I 121 (uz (uz (I 121) 15 (I 121 15 + 1)) 17 b) 121 15 = I 121 15 + 1 := by rw [sz_eq, uz_ne _ _ (by decide), uz_eq]
          have y17 : sz I 121 (uz (uz (I 121) 15 (I 121 15 + 1)) 17 b) 121 17 = b := by rw [sz_eq, uz_eq]
          have y16 := y0 16 (by decide) (by decide)
          have yn : ∀ a, a ≠ 121 → sz I 121 (uz (uz (I 121) 15 (I 121 15 + 1)) 17 b) a = I a := fun a ha => sz_ne _ _ ha
          have yf : fr [121, 130, 132, 133] I (sz I 121 (uz (uz (I 121) 15 (I 121 15 + 1)) 17 b)) := fr.rf.st rfl
          generalize sz I 121 (uz (uz (I 121) 15 (I 121 15 + 1)) 17 b) = T at *
          have hbW : 0 < I 121 17 → 0 ≤ I 121 16 ∧ I 121 16 ≤ 270 := fun q => (hgI.2.2.2.2 q).2.2.1
          have take : (I 121 17 = 0 ∨ su p e < I 121 16) → Xz E G T J 76 [some (zr G 121), some (zi e), some (zi (su p e)), none] [] := by
            intro hq
            refine Z_aload0 (pc := 76) ok dX12_goes_76 ?_
            refine Z_iload2 (pc := 77) ok dX12_goes_77 ?_
            refine p_X12_bestWeight (pc := 78) ok dX12_goes_78 kw921 rfl ?_
            refine Z_aload0 (pc := 81) ok dX12_goes_81 ?_
            refine Z_iconst (pc := 82) ok dX12_goes_82 ?_
            refine p_X12_bestMany (pc := 83) ok dX12_goes_83 kw922 rfl ?_
            refine Z_iconst (pc := 86) ok dX12_goes_86 ?_
            refine Z_istore3 (pc := 87) ok (by decide) dX12_goes_87 rfl ?_
            refine keep 0 (by omega) (by omega) _ ((yf.st rfl).st rfl) (fun q a b d => ?_) ?_ ?_ ?_ ?_ ?_ (fun j j0 j1 => by omega) hq
            · rw [sz_eq, uz_ne _ _ d, sz_eq, uz_ne _ _ b]; exact y0 q a d
            · rw [sz_ne _ _ (by decide), sz_ne _ _ (by decide)]; exact yn 130 (by decide)
            · rw [sz_ne _ _ (by decide), sz_ne _ _ (by decide)]; exact yn 132 (by decide)
            · rw [sz_eq, uz_ne _ _ (by decide), sz_eq, uz_ne _ _ (by decide)]; exact y15
            · rw [sz_eq, uz_ne _ _ (by decide), sz_eq, uz_eq]
            · rw [sz_eq, uz_eq]
          refine Z_aload0 (pc := 61) ok dX12_goes_61 ?_
          refine g_X12_bestMany (pc := 62) ok dX12_goes_62 kw922 rfl ?_
          refine Z_if_eq (pc := 65) (tgt := 76) ok dX12_goes_65 rfl (by first | omega | (simp [sz, uz] <;> omega)) (fun h5 => ?_) (fun h5 => ?_)
          · refine take (Or.inl ?_)
            omega
          · have hpos : 0 < I 121 17 := by
              rcases hb1 with q | q
              · omega
              · exact (hb2.mp q).1
            have hbW := hbW hpos
            refine Z_iload2 (pc := 68) ok dX12_goes_68 ?_
            refine Z_aload0 (pc := 69) ok dX12_goes_69 ?_
            refine g_X12_bestWeight (pc := 70) ok dX12_goes_70 kw921 rfl ?_
            refine Z_icmp_ge (pc := 73) (tgt := 114) ok dX12_goes_73 rfl (by first | omega | (simp [sz, uz] <;> omega)) (by first | omega | (simp [sz, uz] <;> omega)) (fun h6 => ?_) (fun h6 => ?_)
            · rw [y16] at h6
              refine Z_vret (pc := 114) ok okr dX12_goes_114 ?_
              refine ⟨rfl, rfl, yf, fun q a b d => y0 q a d, yn 130 (by decide), fun j _ _ => by rw [yn 132 (by decide)], by rw [zb_t hgood]; exact y15, ?_, by omega⟩
              rw [y16, y17, yn 133 (by decide)]
              by_cases q : su p e = I 121 16
              · rw [hb2.mpr ⟨hpos, q⟩]
                exact gI_same hgI hgood ⟨hpos, q⟩ ho
              · have : b = I 121 17 := by
                  rcases hb1 with x | x
                  · exact x
                  · exact absurd (hb2.mp x).2 q
                rw [this]
                exact gI_more hgI hgood ⟨hpos, by omega⟩
            · rw [y16] at h6
              exact take (Or.inr h6)
        have hbW : 0 < I 121 17 → 0 ≤ I 121 16 ∧ I 121 16 ≤ 270 := fun q => (hgI.2.2.2.2 q).2.2.1
        have z17 : sz I 121 (uz (I 121) 15 (I 121 15 + 1)) 121 17 = I 121 17 := by rw [sz_eq, uz_ne _ _ (by decide)]
        have z16 : sz I 121 (uz (I 121) 15 (I 121 15 + 1)) 121 16 = I 121 16 := by rw [sz_eq, uz_ne _ _ (by decide)]
        refine Z_aload0 (pc := 19) ok dX12_goes_19 ?_
        refine Z_dup (pc := 20) ok dX12_goes_20 rfl ?_
        refine g_X12_partMany (pc := 21) ok dX12_goes_21 kw920 rfl ?_
        refine Z_iconst (pc := 24) ok dX12_goes_24 ?_
        refine Z_iadd (pc := 25) ok dX12_goes_25 ?_
        refine p_X12_partMany (pc := 26) ok dX12_goes_26 kw920 rfl ?_
        refine Z_aload0 (pc := 29) ok dX12_goes_29 ?_
        refine Z_aload0 (pc := 30) ok dX12_goes_30 ?_
        refine g_X12_bestMany (pc := 31) ok dX12_goes_31 kw922 rfl ?_
        refine Z_if_le (pc := 34) (tgt := 54) ok dX12_goes_34 rfl (by first | omega | (simp [sz, uz] <;> omega)) (fun h7 => ?_) (fun h7 => ?_)
        · rw [z17] at h7
          refine Z_aload0 (pc := 54) ok dX12_goes_54 ?_
          refine g_X12_bestMany (pc := 55) ok dX12_goes_55 kw922 rfl ?_
          refine p_X12_bestMany (pc := 58) ok dX12_goes_58 kw922 rfl ?_
          rw [z17, sz_sz, sz_eq]
          exact mid (I 121 17) (Or.inl rfl) ⟨fun q => by omega, fun q => by omega⟩
        · rw [z17] at h7
          have hbW := hbW h7
          refine Z_iload2 (pc := 37) ok dX12_goes_37 ?_
          refine Z_aload0 (pc := 38) ok dX12_goes_38 ?_
          refine g_X12_bestWeight (pc := 39) ok dX12_goes_39 kw921 rfl ?_
          refine Z_icmp_ne (pc := 42) (tgt := 54) ok dX12_goes_42 rfl (by first | omega | (simp [sz, uz] <;> omega)) (by first | omega | (simp [sz, uz] <;> omega)) (fun h8 => ?_) (fun h8 => ?_)
          · rw [z16] at h8
            refine Z_aload0 (pc := 54) ok dX12_goes_54 ?_
            refine g_X12_bestMany (pc := 55) ok dX12_goes_55 kw922 rfl ?_
            refine p_X12_bestMany (pc := 58) ok dX12_goes_58 kw922 rfl ?_
            rw [z17, sz_sz, sz_eq]
            exact mid (I 121 17) (Or.inl rfl) ⟨fun q => by omega, fun q => absurd q.2 h8⟩
          · rw [z16] at h8
            refine Z_aload0 (pc := 45) ok dX12_goes_45 ?_
            refine g_X12_bestMany (pc := 46) ok dX12_goes_46 kw922 rfl ?_
            refine Z_iconst (pc := 49) ok dX12_goes_49 ?_
            refine Z_iadd (pc := 50) ok dX12_goes_50 ?_
            refine Z_goto (pc := 51) (tgt := 58) ok dX12_goes_51 rfl ?_
            refine p_X12_bestMany (pc := 58) ok dX12_goes_58 kw922 rfl ?_
            rw [z17, sz_sz, sz_eq]
            exact mid (I 121 17 + 1) (Or.inr rfl) ⟨fun _ => ⟨h7, h8⟩, fun _ => rfl⟩
  | succ m ihm =>
    intro e I J p N V hem e0 h121 hT hv h134 h130 h132 hp hpz hgI hord hbd
    have hen : e < n := by omega
    have hpe : p e = 0 := hpz e (by omega)
    have hce := hg.2.1 e
    have hPm := prR_pos hc0 m (e + 1)
    have hprR : prR c (m + 1) e = (c e + 1) * prR c m (e + 1) := rfl
    have hrst : ∀ v : Int, (fun k => I 130 k + v * LV n e k) = rst n (uz p e v) := fun v => by
      funext k; rw [h130, rst_uz p e0 hen, hpe, Int.sub_zero, Int.mul_comm]
    have hmix : ∀ (v : Int) (t : Int → Int), mix (e + 1) (uz p e v) t = mix e p (fun j => if j = e then v else t j) := by
      intro v t
      funext j
      simp only [mix]
      by_cases q : j = e
      · rw [if_pos (by omega), if_neg (by omega), if_pos q, q, uz_eq]
      · by_cases q2 : j < e
        · rw [if_pos (by omega), if_pos q2, uz_ne _ _ q]
        · rw [if_neg (by omega), if_neg q2, if_neg q]
    generalize hfd : (fun u => SV c m (e + 1) (fun t => zb (good n (mix e p (fun j => if j = e then u else t j))))) = f
    generalize hfwd : (fun (w u : Int) => SV c m (e + 1) (fun t => zb (good n (mix e p (fun j => if j = e then u else t j)) ∧ su (mix e p (fun j => if j = e then u else t j)) n = w))) = fw
    have hS1 : SV c (m + 1) e (fun t => zb (good n (mix e p t))) = su f (c e + 1) := by rw [← hfd]; rfl
    have hS2 : ∀ w, SV c (m + 1) e (fun t => zb (good n (mix e p t) ∧ su (mix e p t) n = w)) = su (fw w) (c e + 1) := fun w => by rw [← hfwd]; rfl
    have hf1 : ∀ v, f v = SV c m (e + 1) (fun t => zb (good n (mix (e + 1) (uz p e v) t))) := fun v => by rw [← hfd]; simp only [hmix]
    have hfw1 : ∀ w v, fw w v = SV c m (e + 1) (fun t => zb (good n (mix (e + 1) (uz p e v) t) ∧ su (mix (e + 1) (uz p e v) t) n = w)) := fun w v => by rw [← hfwd]; simp only [hmix]
    rw [hS1]
    simp only [hS2]
    clear hS1 hS2 hfd hfwd
    refine Cz.of rfl (Nat.le_of_ble_eq_true rfl) [some (zr G 121), some (zi e), some (zi (su p n)), none] rfl (fun E ok okr hE => ?_)
    subst hE
    refine Z_iload1 (pc := 0) ok dX12_goes_0 ?_
    refine Z_aload0 (pc := 1) ok dX12_goes_1 ?_
    refine g_X12_n (pc := 2) ok dX12_goes_2 kw905 rfl ?_
    refine Z_icmp_ne (pc := 5) (tgt := 115) ok dX12_goes_5 rfl (by first | omega | (simp [sz, uz] <;> omega)) (by first | omega | (simp [sz, uz] <;> omega)) (fun _ => ?_) (fun h => by exfalso; omega)
    refine Z_aload0 (pc := 115) ok dX12_goes_115 ?_
    refine Z_iload1 (pc := 116) ok dX12_goes_116 ?_
    refine Z_aload0 (pc := 117) ok dX12_goes_117 ?_
    refine g_X12_from (pc := 118) (t := 134) ok dX12_goes_118 kw919 rfl rfl ?_
    refine Z_iload1 (pc := 121) ok dX12_goes_121 ?_
    refine Z_iald (pc := 122) (L := 30) ok dX12_goes_122 rfl rfl (by first | omega | (simp [sz, uz] <;> omega)) ?_
    rw [h134 e e0 hen]
    refine Z_callVVd (pc := 123) ok dX12_goes_123 cw_X12_146 rfl rfl (by decide) (m_adds h121 hn hT hv ⟨e0, hen⟩) rfl rfl (by first | decide | omega) (Nat.le_of_ble_eq_true rfl) ?_
    refine Z_aload0 (pc := 126) ok dX12_goes_126 ?_
    refine g_X12_from (pc := 127) (t := 134) ok dX12_goes_127 kw919 rfl rfl ?_
    refine Z_iload1 (pc := 130) ok dX12_goes_130 ?_
    refine Z_iald (pc := 131) (L := 30) ok dX12_goes_131 rfl rfl (by first | omega | (simp [sz, uz] <;> omega)) ?_
    rw [hrst, sz_ne _ _ (show (134 : Nat) ≠ 130 by decide), h134 e e0 hen]
    refine Z_istore3 (pc := 132) ok (by decide) dX12_goes_132 rfl ?_
    have H : ∀ v : Int, -1 ≤ v → v ≤ c e → ∀ I1 : Mz, fr [121, 130, 132, 133] I I1 → (∀ q, q ≠ 15 → q ≠ 16 → q ≠ 17 → I1 121 q = I 121 q) → I1 130 = rst n (uz p e (if v < 0 then 0 else v)) → (∀ j, 0 ≤ j → j < e → I1 132 j = I 132 j) → I1 121 15 = I 121 15 + (su f (c e + 1) - su f (v + 1)) → gI n c (fun w => N w + (su (fw w) (c e + 1) - su (fw w) (v + 1))) (fun s => V s ∨ (cmp n c e p s ∧ v < s e)) (I1 121 16) (I1 121 17) (I1 133) → I1 121 17 ≤ I 121 17 + (c e - v) * prR c m (e + 1) → Xz E G I1 J 133 [some (zr G 121), some (zi e), some (zi (su p n)), some (zi v)] [] := by
      refine zDown ?_ ?_
      · intro _ I1 k1 k2 k3 k4 k5 k6 k7
        refine Z_iload3 (pc := 133) ok dX12_goes_133 ?_
        refine Z_if_lt (pc := 134) (tgt := 174) ok dX12_goes_134 rfl (by first | omega | (simp [sz, uz] <;> omega)) (fun _ => ?_) (fun h => by exfalso; omega)
        refine Z_vret (pc := 174) ok okr dX12_goes_174 ?_
        refine ⟨rfl, rfl, k1, k2, ?_, k4, ?_, gI_iff k6 ?_ (fun s => ⟨fun q => ?_, fun q => ?_⟩), ?_⟩
        · rw [k3, if_pos (by decide), ← hpe, uz_self, h130]
        · rw [k5, show (-1 : Int) + 1 = 0 from rfl, su_0]; omega
        · funext w; rw [show (-1 : Int) + 1 = 0 from rfl, su_0]; omega
        · rcases q with q | q
          · exact Or.inl q
          · exact Or.inr q.1
        · rcases q with q | q
          · exact Or.inl q
          · exact Or.inr ⟨q, by have := (q.1.1 e).1; omega⟩
        · rw [hprR]
          rw [show c e - -1 = c e + 1 by omega] at k7
          exact k7
      · intro v v0 ih v1 I1 k1 k2 k3 k4 k5 k6 k7
        have hv0 : ¬ v < 0 := by omega
        rw [if_neg hv0] at k3
        have hs : su p n + v = su (uz p e v) n := by rw [su_uz _ e0 hen, hpe]; omega
        have j121 : I1 121 0 = n := by rw [k2 0 (by decide) (by decide) (by decide)]; exact h121
        have jT : mT I1 := mT_c hT (k1.at 126 rfl) (k1.at 127 rfl)
        have jv : lvO I1 n := lvO_c hv (k1.at 129 rfl)
        have hm1 : (c e - v) * prR c m (e + 1) + prR c m (e + 1) = (c e - (v - 1)) * prR c m (e + 1) := by
          rw [show c e - (v - 1) = (c e - v) + 1 by omega, Int.add_mul, Int.one_mul]
        have hm2 : (c e - (v - 1)) * prR c m (e + 1) ≤ (c e + 1) * prR c m (e + 1) := Int.mul_le_mul_of_nonneg_right (by omega) (by omega)
        refine Z_iload3 (pc := 133) ok dX12_goes_133 ?_
        refine Z_if_lt (pc := 134) (tgt := 174) ok dX12_goes_134 rfl (by first | omega | (simp [sz, uz] <;> omega)) (fun h => by exfalso; omega) (fun _ => ?_)
        refine Z_aload0 (pc := 137) ok dX12_goes_137 ?_
        refine g_X12_tried (pc := 138) (t := 132) ok dX12_goes_138 kw917 rfl rfl ?_
        refine Z_iload1 (pc := 141) ok dX12_goes_141 ?_
        refine Z_iload3 (pc := 142) ok dX12_goes_142 ?_
        refine Z_iast (pc := 143) (L := 30) ok dX12_goes_143 rfl rfl (by first | omega | (simp [sz, uz] <;> omega)) ?_
        refine Z_aload0 (pc := 144) ok dX12_goes_144 ?_
        refine Z_iload1 (pc := 145) ok dX12_goes_145 ?_
        refine Z_iconst (pc := 146) ok dX12_goes_146 ?_
        refine Z_iadd (pc := 147) ok dX12_goes_147 ?_
        refine Z_iload2 (pc := 148) ok dX12_goes_148 ?_
        refine Z_iload3 (pc := 149) ok dX12_goes_149 ?_
        refine Z_iadd (pc := 150) ok dX12_goes_150 ?_
        rw [hs]
        have hordv : ∀ t, (V t ∨ (cmp n c e p t ∧ v < t e)) → ∀ s, cmp n c (e + 1) (uz p e v) s → lgt n t s := fun t ht s hs => by
          have hse : s e = v := by rw [hs.2 e e0 (by omega), uz_eq]
          have hsp : ∀ j, 0 ≤ j → j < e → s j = p j := fun j j0 j1 => by rw [hs.2 j j0 (by omega), uz_ne _ _ (by omega)]
          rcases ht with q | q
          · exact hord t q s ⟨hs.1, hsp⟩
          · exact ⟨e, e0, hen, fun j j0 j1 => by rw [q.1.2 j j0 j1, hsp j j0 j1], by omega⟩
        have hcall := ihm (e + 1) (sz I1 132 (uz (I1 132) e v)) J (uz p e v) (fun w => N w + (su (fw w) (c e + 1) - su (fw w) (v + 1))) (fun s => V s ∨ (cmp n c e p s ∧ v < s e)) (by omega) (by omega) (by rw [sz_ne _ _ (by decide)]; exact j121) (mT_c jT (by rw [sz_ne _ _ (by decide)]) (by rw [sz_ne _ _ (by decide)])) (lvO_c jv (by rw [sz_ne _ _ (by decide)])) (by rw [sz_ne _ _ (by decide), k1.at 134 rfl]; exact h134) (by rw [sz_ne _ _ (by decide)]; exact k3) (by rw [sz_eq]; exact upto_s (p := fun j x => x = uz p e v j) (fun j j0 j1 => by rw [k4 j j0 j1, h132 j j0 j1, uz_ne _ _ (by omega)]) (by rw [uz_eq])) (fun j => by by_cases q : j = e; rw [q, uz_eq]; omega; rw [uz_ne _ _ q]; exact hp j) (fun j hj => by rw [uz_ne _ _ (by omega)]; exact hpz j (by omega)) (by rw [sz_ne _ _ (by decide), sz_ne _ _ (by decide)]; exact k6) hordv (by rw [sz_ne _ _ (by decide)]; omega)
        refine Z_callVV (pc := 151) ok dX12_goes_151 cw_X12_149 rfl rfl (by decide) (hcall) rfl rfl (by first | decide | omega) (Nat.le_of_ble_eq_true rfl) (fun I2 J2 x => ?_)
        obtain ⟨rfl, x1, x2, x3, x4, x5, x6, x7⟩ := x
        rw [sz_ne _ _ (show (121 : Nat) ≠ 132 by decide)] at x2 x5 x7
        rw [sz_ne _ _ (show (130 : Nat) ≠ 132 by decide), k3] at x3
        have y1 : fr [121, 130, 132, 133] I I2 := fun q hq => by rw [x1 q hq, sz_ne _ _ (fun z => hq (by simp [z]))]; exact k1 q hq
        have y121 : I2 121 0 = n := by rw [x2 0 (by decide) (by decide) (by decide)]; exact j121
        have yT : mT I2 := mT_c hT (y1.at 126 rfl) (y1.at 127 rfl)
        have yv : lvO I2 n := lvO_c hv (y1.at 129 rfl)
        have fin : ∀ o : Int, (fun k => I2 130 k + o * LV n e k) = rst n (uz p e (if v - 1 < 0 then 0 else v - 1)) → Xz E G (sz I2 130 (fun k => I2 130 k + o * LV n e k)) J2 133 [some (zr G 121), some (zi e), some (zi (su p n)), some (zi (v + -1))] [] := by
          intro o ho
          rw [show v + -1 = v - 1 by omega]
          refine ih (by omega) _ (y1.st rfl) (fun q a b d => ?_) ?_ (fun j j0 j1 => ?_) ?_ ?_ ?_
          · rw [sz_ne _ _ (by decide), x2 q a b d]; exact k2 q a b d
          · rw [sz_eq]; exact ho
          · rw [sz_ne _ _ (by decide), x4 j j0 (by omega), sz_eq, uz_ne _ _ (by omega)]; exact k4 j j0 j1
          · rw [sz_ne _ _ (by decide), x5, k5, ← hf1, show v - 1 + 1 = v by omega, su_s f (show 0 ≤ v by omega)]; omega
          · rw [sz_ne _ _ (by decide), sz_ne _ _ (by decide)]
            refine gI_iff x6 ?_ (fun s => ⟨fun q => ?_, fun q => ?_⟩)
            · funext w; rw [← hfw1, show v - 1 + 1 = v by omega, su_s (fw w) (show 0 ≤ v by omega)]; omega
            · rcases q with (q | q) | q
              · exact Or.inl q
              · exact Or.inr ⟨q.1, by omega⟩
              · refine Or.inr ⟨⟨q.1, fun j j0 j1 => by rw [q.2 j j0 (by omega), uz_ne _ _ (by omega)]⟩, ?_⟩
                rw [q.2 e e0 (by omega), uz_eq]; omega
            · rcases q with q | q
              · exact Or.inl (Or.inl q)
              · by_cases z : v < s e
                · exact Or.inl (Or.inr ⟨q.1, z⟩)
                · refine Or.inr ⟨q.1.1, fun j j0 j1 => ?_⟩
                  by_cases z2 : j = e
                  · rw [z2, uz_eq]; omega
                  · rw [uz_ne _ _ z2]; exact q.1.2 j j0 (by omega)
          · rw [sz_ne _ _ (by decide)]; omega
        have hro : ∀ o : Int, (fun k => I2 130 k + o * LV n e k) = rst n (uz p e (v + o)) := fun o => by
          funext k
          rw [x3, rst_uz p e0 hen, rst_uz p e0 hen, hpe, Int.sub_zero, Int.sub_zero, Int.mul_add, Int.mul_comm o]; omega
        refine Z_aload0 (pc := 154) ok dX12_goes_154 ?_
        refine Z_iload1 (pc := 155) ok dX12_goes_155 ?_
        refine Z_iload3 (pc := 156) ok dX12_goes_156 ?_
        refine Z_if_le (pc := 157) (tgt := 164) ok dX12_goes_157 rfl (by first | omega | (simp [sz, uz] <;> omega)) (fun h9 => ?_) (fun h9 => ?_)
        · have hve : v = 0 := by omega
          refine Z_iconst (pc := 164) ok dX12_goes_164 ?_
          refine Z_callVVd (pc := 165) ok dX12_goes_165 cw_X12_146 rfl rfl (by decide) (m_adds y121 hn yT yv ⟨e0, hen⟩) rfl rfl (by first | decide | omega) (Nat.le_of_ble_eq_true rfl) ?_
          refine Z_iinc3 (pc := 168) ok (by decide) dX12_goes_168 rfl ?_
          refine Z_goto (pc := 171) (tgt := 133) ok dX12_goes_171 rfl ?_
          refine fin 0 ?_
          rw [hro, if_pos (by omega), hve]; rfl
        · refine Z_iconst (pc := 160) ok dX12_goes_160 ?_
          refine Z_goto (pc := 161) (tgt := 165) ok dX12_goes_161 rfl ?_
          refine Z_callVVd (pc := 165) ok dX12_goes_165 cw_X12_146 rfl rfl (by decide) (m_adds y121 hn yT yv ⟨e0, hen⟩) rfl rfl (by first | decide | omega) (Nat.le_of_ble_eq_true rfl) ?_
          refine Z_iinc3 (pc := 168) ok (by decide) dX12_goes_168 rfl ?_
          refine Z_goto (pc := 171) (tgt := 133) ok dX12_goes_171 rfl ?_
          refine fin (-1) ?_
          rw [hro, if_neg (by omega)]; rfl
    refine H (c e) (by omega) (by omega) _ (fr.rf.st rfl) (fun q a b d => by rw [sz_ne _ _ (by decide)]) (by rw [sz_eq, if_neg (by omega)]) (fun j j0 j1 => by rw [sz_ne _ _ (by decide)]) (by rw [sz_ne _ _ (by decide)]; omega) ?_ (by rw [sz_ne _ _ (by decide), Int.sub_self, Int.zero_mul]; omega)
    rw [sz_ne _ _ (by decide), sz_ne _ _ (by decide)]
    refine gI_iff hgI (by funext w; omega) (fun s => ⟨fun q => Or.inl q, fun q => ?_⟩)
    rcases q with q | q
    · exact q
    · have := (q.1.1.1 e).2; omega
/-- what looks finds -/
theorem gI_PSp {n : Int} {c N be : Int → Int} (hn : 2 ≤ n ∧ n ≤ 30) (hc : ∀ e, 0 ≤ c e) {bW bM al : Int} (hN : ∀ w, N w = SV c n.toNat 0 (fun t => zb (good n t ∧ su t n = w))) (hal : al = SV c n.toNat 0 (fun t => zb (good n t))) (h : gI n c N (fun s => vld n c s) bW bM be) : ∃ fi, (0 < al → ∀ j, 0 ≤ j → j < n → be j = fi j) ∧ PSp n c al bW bM fi ∧ (al = 0 ↔ bM = 0) ∧ 0 ≤ bM := by
  obtain ⟨a1, a2, a3, a4, a5⟩ := h
  have hp : ∀ t, vld n c t → good n t → 0 < al := fun t ht hg => by rw [hal]; exact SV_pos (by omega) hc ht hg
  by_cases hb : bM = 0
  · have hno : ∀ t, vld n c t → ¬ good n t := fun t ht hg => by
      have := a3 t ht hg
      rw [a4 hb] at this; omega
    have hz : al = 0 := by
      rw [hal, ← SV_su hc, su_c (g := fun _ => 0) (fun j _ _ => zb_f (hno _ (dcv_v (by omega) hc j))), su_00]
    exact ⟨be, fun q => by omega, ⟨hal, fun _ => hb, fun q => by omega⟩, ⟨fun _ => hb, fun _ => hz⟩, a2⟩
  · obtain ⟨b1, b2, b3, fi, c1, c2, c3, c4, c5, c6⟩ := a5 (by omega)
    have := hp fi c2 c3
    refine ⟨fi, fun _ => c1, ⟨hal, fun q => by omega, fun _ => ⟨c3, c4, c2, fun t ht hg => ⟨?_, fun q => c6 t ht hg q⟩, by rw [b1, hN]⟩⟩, ⟨fun q => by omega, fun q => absurd q hb⟩, a2⟩
    by_cases q : su t n < bW
    · have h5 := a3 t ht hg
      rw [b2 _ q] at h5; omega
    · omega
/-- what the reference holds behind looks -/
def mL (n : Int) (c : Int → Int) (I : Mz) : Prop := ∃ fi, (0 < I 121 15 → ∀ j, 0 ≤ j → j < n → I 133 j = fi j) ∧ PSp n c (I 121 15) (I 121 16) (I 121 17) fi ∧ (I 121 15 = 0 ↔ I 121 17 = 0) ∧ 0 ≤ I 121 17
section
variable {l : Launch} {G : Gw} {I J : Mz}
theorem m_looks {n : Int} {c : Int → Int} (hg : gR n c) (h121 : I 121 0 = n) (hT : mT I) (hv : lvO I n) (h134 : ∀ j, 0 ≤ j → j < n → I 134 j = c j) (hpr : pr c n ≤ 20000) : K_X12_looks l G [zr G 121] I J (fun v I' J' => v = none ∧ (J' = J ∧ fr [121, 130, 132, 133] I I' ∧ (∀ q, q ≠ 15 → q ≠ 16 → q ≠ 17 → I' 121 q = I 121 q) ∧ mL n c I')) := by
  have hn := hg.1
  have hc0 : ∀ e, 0 ≤ c e := fun e => (hg.2.1 e).1
  refine Cz.of rfl (Nat.le_of_ble_eq_true rfl) [some (zr G 121), none] rfl (fun E ok okr hE => ?_)
  refine Z_aload0 (pc := 0) ok dX12_looks_0 ?_
  refine Z_iconst (pc := 1) ok dX12_looks_1 ?_
  refine p_X12_partMany (pc := 2) ok dX12_looks_2 kw920 rfl ?_
  refine Z_aload0 (pc := 5) ok dX12_looks_5 ?_
  refine Z_iconst (pc := 6) ok dX12_looks_6 ?_
  refine p_X12_bestMany (pc := 7) ok dX12_looks_7 kw922 rfl ?_
  refine Z_aload0 (pc := 10) ok dX12_looks_10 ?_
  refine Z_iconst (pc := 11) ok dX12_looks_11 ?_
  refine p_X12_bestWeight (pc := 12) ok dX12_looks_12 kw921 rfl ?_
  refine Z_iconst (pc := 15) ok dX12_looks_15 ?_
  refine Z_istore1 (pc := 16) ok (by decide) dX12_looks_16 rfl ?_
  refine Z_gen (fun T hT0 => ?_)
  have t15 : T 121 15 = 0 := by rw [hT0]; simp [sz, uz]
  have t16 : T 121 16 = 0 := by rw [hT0]; simp [sz, uz]
  have t17 : T 121 17 = 0 := by rw [hT0]; simp [sz, uz]
  have tq : ∀ q, q ≠ 15 → q ≠ 16 → q ≠ 17 → T 121 q = I 121 q := fun q a b d => by rw [hT0]; simp [sz, uz, a, b, d]
  have tn : ∀ a, a ≠ 121 → T a = I a := fun a ha => by rw [hT0]; simp [sz, ha]
  clear hT0
  have fT : fr [121, 130, 132, 133] I T := fun a ha => tn a (fun q => ha (by simp [q]))
  have H : ∀ k : Int, 0 ≤ k → k ≤ 30 → ∀ f : Int → Int, (∀ j, 0 ≤ j → j < k → f j = 0) → Xz E G (sz T 130 f) J 17 [some (zr G 121), some (zi k)] [] := by
    refine zUp ?_ ?_
    · intro f hf
      refine Z_ext1 (g := rst n (fun _ => 0)) (by decide) (fun j j0 j1 => ?_) ?_
      · rw [hf j j0 (by have : j < 30 := j1; omega)]
        simp only [rst]
        rw [su_c (g := fun _ => 0) (fun j _ _ => Int.mul_zero _), su_00]
      · refine Z_iload1 (pc := 17) ok dX12_looks_17 ?_
        refine Z_bipush (pc := 18) ok dX12_looks_18 (by decide) ?_
        refine Z_icmp_ge (pc := 20) (tgt := 36) ok dX12_looks_20 rfl (by first | omega | (simp [sz, uz] <;> omega)) (by first | omega | (simp [sz, uz] <;> omega)) (fun _ => ?_) (fun h => by exfalso; omega)
        refine Z_aload0 (pc := 36) ok dX12_looks_36 ?_
        refine Z_iconst (pc := 37) ok dX12_looks_37 ?_
        refine Z_iconst (pc := 38) ok dX12_looks_38 ?_
        have hz : (0 : Int) = su (fun _ => 0) n := (su_00 n).symm
        have hgI0 : gI n c (fun _ => 0) (fun _ => False) 0 0 (I 133) := ⟨fun _ => Int.le_refl 0, Int.le_refl 0, fun _ q => q.elim, fun _ _ => rfl, fun q => by omega⟩
        have hcall := m_goes (l := E.2.1) (G := G) hg n.toNat 0 (sz T 130 (rst n (fun _ => 0))) J (fun _ => 0) (fun _ => 0) (fun _ => False) (by omega) (by omega) (by rw [sz_ne _ _ (by decide), tq 0 (by decide) (by decide) (by decide)]; exact h121) (mT_c hT (by rw [sz_ne _ _ (by decide)]; exact tn 126 (by decide)) (by rw [sz_ne _ _ (by decide)]; exact tn 127 (by decide))) (lvO_c hv (by rw [sz_ne _ _ (by decide)]; exact tn 129 (by decide))) (by rw [sz_ne _ _ (by decide), tn 134 (by decide)]; exact h134) (by rw [sz_eq]) (fun j j0 j1 => by omega) (fun j => ⟨Int.le_refl 0, hc0 j⟩) (fun _ _ => rfl) (by rw [sz_ne _ _ (by decide), sz_ne _ _ (by decide), t16, t17, tn 133 (by decide)]; exact hgI0) (fun t q => q.elim) (by rw [sz_ne _ _ (by decide), t17, ← pr_R]; omega)
        rw [← hz] at hcall
        refine Z_callVV (pc := 39) ok dX12_looks_39 cw_X12_149 rfl rfl (by decide) (hcall) rfl rfl (by first | decide | omega) (Nat.le_of_ble_eq_true rfl) (fun I1 J1 x => ?_)
        refine Z_vret (pc := 42) ok okr dX12_looks_42 ?_
        obtain ⟨rfl, x1, x2, x3, x4, x5, x6, x7⟩ := x
        have emix : ∀ t : Int → Int, (∀ j, j < 0 → t j = 0) → mix 0 (fun _ => 0) t = t := fun t ht => by
          funext j; simp only [mix]; split
          · next q => rw [ht j q]
          · rfl
        rw [sz_ne _ _ (show (121 : Nat) ≠ 130 by decide)] at x2 x5
        have e15 : I1 121 15 = SV c n.toNat 0 (fun t => zb (good n t)) := by
          rw [x5, t15, Int.zero_add]
          exact SV_c _ _ _ _ (fun t ht => by rw [emix t (fun j hj => ht j (Or.inl hj))])
        refine ⟨rfl, rfl, fun a ha => by rw [x1 a ha, sz_ne _ _ (fun q => ha (by simp [q]))]; exact fT a ha, fun q a b d => by rw [x2 q a b d]; exact tq q a b d, ?_⟩
        refine gI_PSp hn hc0 (fun w => rfl) e15 (gI_iff x6 ?_ (fun s => ⟨fun q => ?_, fun q => Or.inr ⟨q, fun j j0 j1 => by omega⟩⟩))
        · funext w
          rw [Int.zero_add]
          exact SV_c _ _ _ _ (fun t ht => by rw [emix t (fun j hj => ht j (Or.inl hj))])
        · rcases q with q | q
          · exact q.elim
          · exact q.1
    · intro k k0 k1 ih f hf
      refine Z_iload1 (pc := 17) ok dX12_looks_17 ?_
      refine Z_bipush (pc := 18) ok dX12_looks_18 (by decide) ?_
      refine Z_icmp_ge (pc := 20) (tgt := 36) ok dX12_looks_20 rfl (by first | omega | (simp [sz, uz] <;> omega)) (by first | omega | (simp [sz, uz] <;> omega)) (fun h => by exfalso; omega) (fun _ => ?_)
      refine Z_aload0 (pc := 23) ok dX12_looks_23 ?_
      refine g_X12_sums (pc := 24) (t := 130) ok dX12_looks_24 kw915 rfl rfl ?_
      refine Z_iload1 (pc := 27) ok dX12_looks_27 ?_
      refine Z_iconst (pc := 28) ok dX12_looks_28 ?_
      refine Z_iast (pc := 29) (L := 30) ok dX12_looks_29 rfl rfl (by first | omega | (simp [sz, uz] <;> omega)) ?_
      refine Z_iinc1 (pc := 30) ok (by decide) dX12_looks_30 rfl ?_
      refine Z_goto (pc := 33) (tgt := 17) ok dX12_looks_33 rfl ?_
      rw [sz_sz, sz_eq]
      exact ih _ (upto_s (p := fun _ x => x = 0) hf rfl)
  have h0 := H 0 (by omega) (by omega) (T 130) (fun j j0 j1 => by omega)
  rw [sz_self] at h0
  exact h0
theorem m_looksAtRow (hg : gR (I 121 0) (I 122)) (hT : mT I) (hpr : pr (I 122) (I 121 0) ≤ 20000) : K_X12_looksAtRow l G [zr G 121] I J (fun v I' J' => v = none ∧ (J' = J ∧ fr [121, 128, 129, 130, 131, 132, 133, 134] I I' ∧ (∀ q, q ≠ 15 → q ≠ 16 → q ≠ 17 → I' 121 q = I 121 q) ∧ lvO I' (I 121 0) ∧ (∀ j, 0 ≤ j → j < I 121 0 → I' 134 j = I 122 j) ∧ mL (I 121 0) (I 122) I')) := by
  have hn := hg.1
  refine Cz.of rfl (Nat.le_of_ble_eq_true rfl) [some (zr G 121), none] rfl (fun E ok okr hE => ?_)
  refine Z_aload0 (pc := 0) ok dX12_looksAtRow_0 ?_
  refine Z_callVV (pc := 1) ok dX12_looksAtRow_1 cw_X12_152 rfl rfl (by decide) (m_tellsLeaves rfl hn hT) rfl rfl (by first | decide | omega) (Nat.le_of_ble_eq_true rfl) (fun I1 J1 x => ?_)
  obtain ⟨x1, rfl, x3⟩ := x
  have e121 : I1 121 = I 121 := x1.at 121 rfl
  have e122 : I1 122 = I 122 := x1.at 122 rfl
  refine Z_iconst (pc := 4) ok dX12_looksAtRow_4 ?_
  refine Z_istore1 (pc := 5) ok (by decide) dX12_looksAtRow_5 rfl ?_
  have H : ∀ e : Int, 0 ≤ e → e ≤ I 121 0 → ∀ f : Int → Int, (∀ j, 0 ≤ j → j < e → f j = I 122 j) → Xz E G (sz I1 134 f) J1 6 [some (zr G 121), some (zi e)] [] := by
    refine zUp ?_ ?_
    · intro f hf
      have e0 : sz I1 134 f 121 0 = I 121 0 := by rw [sz_ne _ _ (by decide), e121]
      refine Z_iload1 (pc := 6) ok dX12_looksAtRow_6 ?_
      refine Z_aload0 (pc := 7) ok dX12_looksAtRow_7 ?_
      refine g_X12_n (pc := 8) ok dX12_looksAtRow_8 kw905 rfl ?_
      refine Z_icmp_ge (pc := 11) (tgt := 32) ok dX12_looksAtRow_11 rfl (by first | omega | (simp [sz, uz] <;> omega)) (by first | omega | (simp [sz, uz] <;> omega)) (fun _ => ?_) (fun h => by exfalso; omega)
      refine Z_aload0 (pc := 32) ok dX12_looksAtRow_32 ?_
      refine Z_callVV (pc := 33) ok dX12_looksAtRow_33 cw_X12_155 rfl rfl (by decide) (m_looks hg e0 (mT_c hT (by rw [sz_ne _ _ (by decide)]; exact x1.at 126 rfl) (by rw [sz_ne _ _ (by decide)]; exact x1.at 127 rfl)) (lvO_c x3 (by rw [sz_ne _ _ (by decide)])) (by rw [sz_eq]; exact hf) hpr) rfl rfl (by first | decide | omega) (Nat.le_of_ble_eq_true rfl) (fun I2 J2 y => ?_)
      refine Z_vret (pc := 36) ok okr dX12_looksAtRow_36 ?_
      obtain ⟨y1, y2, y3, y4⟩ := y
      have f2 : fr [121, 128, 129, 130, 131, 132, 133, 134] I I2 := ((x1.sub rfl).st (k := 134) rfl).tr (y2.sub rfl)
      refine ⟨rfl, y1, f2, fun q a b d => by rw [y3 q a b d, sz_ne _ _ (by decide), e121], lvO_c x3 (by rw [y2.at 129 rfl, sz_ne _ _ (by decide)]), fun j j0 j1 => by rw [y2.at 134 rfl, sz_eq]; exact hf j j0 j1, y4⟩
    · intro e e0 e1 ih f hf
      have e2 : sz I1 134 f 121 0 = I 121 0 := by rw [sz_ne _ _ (by decide), e121]
      refine Z_iload1 (pc := 6) ok dX12_looksAtRow_6 ?_
      refine Z_aload0 (pc := 7) ok dX12_looksAtRow_7 ?_
      refine g_X12_n (pc := 8) ok dX12_looksAtRow_8 kw905 rfl ?_
      refine Z_icmp_ge (pc := 11) (tgt := 32) ok dX12_looksAtRow_11 rfl (by first | omega | (simp [sz, uz] <;> omega)) (by first | omega | (simp [sz, uz] <;> omega)) (fun h => by exfalso; omega) (fun _ => ?_)
      refine Z_aload0 (pc := 14) ok dX12_looksAtRow_14 ?_
      refine g_X12_from (pc := 15) (t := 134) ok dX12_looksAtRow_15 kw919 rfl rfl ?_
      refine Z_iload1 (pc := 18) ok dX12_looksAtRow_18 ?_
      refine Z_aload0 (pc := 19) ok dX12_looksAtRow_19 ?_
      refine g_X12_row (pc := 20) (t := 122) ok dX12_looksAtRow_20 kw906 rfl rfl ?_
      refine Z_iload1 (pc := 23) ok dX12_looksAtRow_23 ?_
      refine Z_iald (pc := 24) (L := 30) ok dX12_looksAtRow_24 rfl rfl (by first | omega | (simp [sz, uz] <;> omega)) ?_
      refine Z_iast (pc := 25) (L := 30) ok dX12_looksAtRow_25 rfl rfl (by first | omega | (simp [sz, uz] <;> omega)) ?_
      refine Z_iinc1 (pc := 26) ok (by decide) dX12_looksAtRow_26 rfl ?_
      refine Z_goto (pc := 29) (tgt := 6) ok dX12_looksAtRow_29 rfl ?_
      rw [sz_ne _ _ (show (122 : Nat) ≠ 134 by decide), e122, sz_sz, sz_eq]
      exact ih _ (upto_s (p := fun j x => x = I 122 j) hf rfl)
  have h0 := H 0 (by omega) (by omega) (I1 134) (fun j j0 j1 => by omega)
  rw [sz_self] at h0
  exact h0
theorem m_primitive (h1 : gR (I 121 0) (I 122)) (hT : mT I) : K_X12_primitive l G [zr G 121] I J (fun v I' J' => ∃ r, v = some (zi r) ∧ (J' = J ∧ fr [121, 128, 129, 130, 131, 132, 133, 134] I I' ∧ (∀ q, q ≠ 15 → q ≠ 16 → q ≠ 17 → I' 121 q = I 121 q) ∧ ((20000 < pr (I 122) (I 121 0) ∧ r = -8) ∨ (pr (I 122) (I 121 0) ≤ 20000 ∧ ∃ al le ofl fi, PSp (I 121 0) (I 122) al le ofl fi ∧ r = zb (al = 1 ∧ le = su (I 122) (I 121 0)))))) := by
  have hn := h1.1
  have hc0 : ∀ e, 0 ≤ I 122 e := fun e => (h1.2.1 e).1
  refine Cz.of rfl (Nat.le_of_ble_eq_true rfl) [some (zr G 121)] rfl (fun E ok okr hE => ?_)
  refine Z_aload0 (pc := 0) ok dX12_primitive_0 ?_
  refine Z_callVId (pc := 1) ok dX12_primitive_1 cw_X12_158 rfl rfl (by decide) (m_isDear h1) rfl rfl (by first | decide | omega) (Nat.le_of_ble_eq_true rfl) ?_
  refine Z_if_eqB (pc := 4) (tgt := 10) ok dX12_primitive_4 rfl (fun h => ?_) (fun h => ?_)
  · refine Z_aload0 (pc := 10) ok dX12_primitive_10 ?_
    refine Z_callVV (pc := 11) ok dX12_primitive_11 cw_X12_161 rfl rfl (by decide) (m_looksAtRow h1 hT (by omega)) rfl rfl (by first | decide | omega) (Nat.le_of_ble_eq_true rfl) (fun I1 J1 x => ?_)
    obtain ⟨rfl, x1, x2, x3, x4, fi, y1, y2, y3, y4⟩ := x
    have hal := PSp_al hc0 y2
    have e0 := x2 0 (by decide) (by decide) (by decide)
    have e122 : I1 122 = I 122 := x1.at 122 rfl
    have hsu := gR_su h1
    refine Z_aload0 (pc := 14) ok dX12_primitive_14 ?_
    refine g_X12_partMany (pc := 15) ok dX12_primitive_15 kw920 rfl ?_
    refine Z_iconst (pc := 18) ok dX12_primitive_18 ?_
    refine Z_icmp_ne (pc := 19) (tgt := 37) ok dX12_primitive_19 rfl (by first | omega | (simp [sz, uz] <;> omega)) (by first | omega | (simp [sz, uz] <;> omega)) (fun h2 => ?_) (fun h2 => ?_)
    · refine Z_iconst (pc := 37) ok dX12_primitive_37 ?_
      refine Z_iret (pc := 38) ok okr dX12_primitive_38 ?_
      exact ⟨_, rfl, rfl, x1, x2, Or.inr ⟨by omega, _, _, _, _, y2, by rw [zb_f (fun q => h2 q.1)]⟩⟩
    · have hle : 0 ≤ I1 121 16 ∧ I1 121 16 ≤ 270 := by
        obtain ⟨a1, a2, a3, a4, a5⟩ := y2.2.2 (by omega)
        have b1 := su_nn (f := fi) (e := I 121 0) (fun j _ _ => (a3.1 j).1)
        have b2 := su_le (f := fi) (g := fun _ => 9) (e := I 121 0) (fun j _ _ => by have := (a3.1 j).2; have := (h1.2.1 j).2; omega)
        rw [su_k _ (by omega)] at b2
        omega
      refine Z_aload0 (pc := 22) ok dX12_primitive_22 ?_
      refine g_X12_bestWeight (pc := 23) ok dX12_primitive_23 kw921 rfl ?_
      refine Z_aload0 (pc := 26) ok dX12_primitive_26 ?_
      refine Z_callVId (pc := 27) ok dX12_primitive_27 cw_X12_115 rfl rfl (by decide) (m_weight (by rw [e0]; exact hn)) rfl rfl (by first | decide | omega) (Nat.le_of_ble_eq_true rfl) ?_
      rw [e0, e122]
      refine Z_icmp_ne (pc := 30) (tgt := 37) ok dX12_primitive_30 rfl (by first | omega | (simp [sz, uz] <;> omega)) (by first | omega | (simp [sz, uz] <;> omega)) (fun h3 => ?_) (fun h3 => ?_)
      · refine Z_iconst (pc := 37) ok dX12_primitive_37 ?_
        refine Z_iret (pc := 38) ok okr dX12_primitive_38 ?_
        exact ⟨_, rfl, rfl, x1, x2, Or.inr ⟨by omega, _, _, _, _, y2, by rw [zb_f (fun q => h3 q.2)]⟩⟩
      · refine Z_iconst (pc := 33) ok dX12_primitive_33 ?_
        refine Z_goto (pc := 34) (tgt := 38) ok dX12_primitive_34 rfl ?_
        refine Z_iret (pc := 38) ok okr dX12_primitive_38 ?_
        exact ⟨_, rfl, rfl, x1, x2, Or.inr ⟨by omega, _, _, _, _, y2, by rw [zb_t ⟨h2, h3⟩]⟩⟩
  · refine Z_bipush (pc := 7) ok dX12_primitive_7 (by decide) ?_
    refine Z_iret (pc := 9) ok okr dX12_primitive_9 ?_
    exact ⟨_, rfl, rfl, fr.rf, fun _ _ _ _ => rfl, Or.inl ⟨h, rfl⟩⟩
theorem m_parts {w : Int} (hw : -2147483648 ≤ w ∧ w ≤ 2147483647) (h1 : gR (I 121 0) (I 122)) (hT : mT I) : K_X12_parts l G [zr G 121, zi w] I J (fun v I' J' => ∃ r, v = some (zi r) ∧ (J' = J ∧ fr [121, 128, 129, 130, 131, 132, 133, 134] I I' ∧ (∀ q, q ≠ 15 → q ≠ 16 → q ≠ 17 → I' 121 q = I 121 q) ∧ ((¬ (0 ≤ w ∧ w ≤ 2) ∧ r = -1) ∨ ((0 ≤ w ∧ w ≤ 2) ∧ 20000 < pr (I 122) (I 121 0) ∧ r = -8) ∨ ((0 ≤ w ∧ w ≤ 2) ∧ pr (I 122) (I 121 0) ≤ 20000 ∧ ∃ al le ofl fi, PSp (I 121 0) (I 122) al le ofl fi ∧ ((w = 0 ∧ r = al) ∨ (w = 1 ∧ al = 0 ∧ r = -5) ∨ (w = 1 ∧ 0 < al ∧ r = le) ∨ (w = 2 ∧ r = ofl)))))) := by
  have hc0 : ∀ e, 0 ≤ I 122 e := fun e => (h1.2.1 e).1
  refine Cz.of rfl (Nat.le_of_ble_eq_true rfl) [some (zr G 121), some (zi w)] rfl (fun E ok okr hE => ?_)
  refine Z_iload1 (pc := 0) ok dX12_parts_0 ?_
  refine Z_i2l (pc := 1) ok dX12_parts_1 (by first | omega | (simp [sz, uz] <;> omega)) ?_
  refine Z_lconst (pc := 2) (z := 0) ok dX12_parts_2 (by decide) ?_
  refine Z_ldc2 (pc := 3) (z := 2) ok dX12_parts_3 kw1022 (by decide) ?_
  refine Z_callSId (pc := 6) ok dX12_parts_6 cw_X12_97 (m_in (by omega) (by omega) (by omega)) rfl rfl (by first | decide | omega) (Nat.le_of_ble_eq_true rfl) ?_
  refine Z_if_neB (pc := 9) (tgt := 14) ok dX12_parts_9 rfl (fun h0 => ?_) (fun h0 => ?_)
  · refine Z_aload0 (pc := 14) ok dX12_parts_14 ?_
    refine Z_callVId (pc := 15) ok dX12_parts_15 cw_X12_158 rfl rfl (by decide) (m_isDear h1) rfl rfl (by first | decide | omega) (Nat.le_of_ble_eq_true rfl) ?_
    refine Z_if_eqB (pc := 18) (tgt := 24) ok dX12_parts_18 rfl (fun h => ?_) (fun h => ?_)
    · refine Z_aload0 (pc := 24) ok dX12_parts_24 ?_
      refine Z_callVV (pc := 25) ok dX12_parts_25 cw_X12_161 rfl rfl (by decide) (m_looksAtRow h1 hT (by omega)) rfl rfl (by first | decide | omega) (Nat.le_of_ble_eq_true rfl) (fun I1 J1 x => ?_)
      obtain ⟨rfl, x1, x2, x3, x4, fi, y1, y2, y3, y4⟩ := x
      have hal := PSp_al hc0 y2
      have hbm : I1 121 17 ≤ 20000 := by
        by_cases q : 0 < I1 121 15
        · obtain ⟨a1, a2, a3, a4, a5⟩ := y2.2.2 q
          have hp := prR_pos hc0 (I 121 0).toNat 0
          have := su_zb (fun k => good (I 121 0) (dcv (I 122) (I 121 0).toNat 0 k) ∧ su (dcv (I 122) (I 121 0).toNat 0 k) (I 121 0) = I1 121 16) (e := prR (I 122) (I 121 0).toNat 0) (by omega)
          rw [SV_su hc0 (I 121 0).toNat 0 (fun t => zb (good (I 121 0) t ∧ su t (I 121 0) = I1 121 16)), ← a5, ← pr_R] at this
          omega
        · have := y3.mp (by omega); omega
      refine Z_iload1 (pc := 28) ok dX12_parts_28 ?_
      refine Z_if_ne (pc := 29) (tgt := 39) ok dX12_parts_29 rfl (by first | omega | (simp [sz, uz] <;> omega)) (fun h2 => ?_) (fun h2 => ?_)
      · refine Z_iload1 (pc := 39) ok dX12_parts_39 ?_
        refine Z_iconst (pc := 40) ok dX12_parts_40 ?_
        refine Z_icmp_ne (pc := 41) (tgt := 51) ok dX12_parts_41 rfl (by first | omega | (simp [sz, uz] <;> omega)) (by first | omega | (simp [sz, uz] <;> omega)) (fun h3 => ?_) (fun h3 => ?_)
        · refine Z_aload0 (pc := 51) ok dX12_parts_51 ?_
          refine g_X12_bestMany (pc := 52) ok dX12_parts_52 kw922 rfl ?_
          refine Z_if_ne (pc := 55) (tgt := 63) ok dX12_parts_55 rfl (by first | omega | (simp [sz, uz] <;> omega)) (fun h4 => ?_) (fun h4 => ?_)
          · refine Z_aload0 (pc := 63) ok dX12_parts_63 ?_
            refine g_X12_bestWeight (pc := 64) ok dX12_parts_64 kw921 rfl ?_
            refine Z_iret (pc := 67) ok okr dX12_parts_67 ?_
            exact ⟨_, rfl, rfl, x1, x2, Or.inr (Or.inr ⟨h0, by omega, _, _, _, _, y2, Or.inr (Or.inr (Or.inl ⟨by omega, by have := y3; omega, rfl⟩))⟩)⟩
          · refine Z_bipush (pc := 58) ok dX12_parts_58 (by decide) ?_
            refine Z_goto (pc := 60) (tgt := 67) ok dX12_parts_60 rfl ?_
            refine Z_iret (pc := 67) ok okr dX12_parts_67 ?_
            exact ⟨_, rfl, rfl, x1, x2, Or.inr (Or.inr ⟨h0, by omega, _, _, _, _, y2, Or.inr (Or.inl ⟨by omega, y3.mpr h4, rfl⟩)⟩)⟩
        · refine Z_aload0 (pc := 44) ok dX12_parts_44 ?_
          refine g_X12_bestMany (pc := 45) ok dX12_parts_45 kw922 rfl ?_
          refine Z_goto (pc := 48) (tgt := 67) ok dX12_parts_48 rfl ?_
          refine Z_iret (pc := 67) ok okr dX12_parts_67 ?_
          exact ⟨_, rfl, rfl, x1, x2, Or.inr (Or.inr ⟨h0, by omega, _, _, _, _, y2, Or.inr (Or.inr (Or.inr ⟨h3, rfl⟩))⟩)⟩
      · refine Z_aload0 (pc := 32) ok dX12_parts_32 ?_
        refine g_X12_partMany (pc := 33) ok dX12_parts_33 kw920 rfl ?_
        refine Z_goto (pc := 36) (tgt := 67) ok dX12_parts_36 rfl ?_
        refine Z_iret (pc := 67) ok okr dX12_parts_67 ?_
        exact ⟨_, rfl, rfl, x1, x2, Or.inr (Or.inr ⟨h0, by omega, _, _, _, _, y2, Or.inl ⟨h2, rfl⟩⟩)⟩
    · refine Z_bipush (pc := 21) ok dX12_parts_21 (by decide) ?_
      refine Z_iret (pc := 23) ok okr dX12_parts_23 ?_
      exact ⟨_, rfl, rfl, fr.rf, fun _ _ _ _ => rfl, Or.inr (Or.inl ⟨h0, h, rfl⟩)⟩
  · refine Z_iconst (pc := 12) ok dX12_parts_12 ?_
    refine Z_iret (pc := 13) ok okr dX12_parts_13 ?_
    exact ⟨_, rfl, rfl, fr.rf, fun _ _ _ _ => rfl, Or.inl ⟨h0, rfl⟩⟩
end
