/-! the reference's constructor; the first invariant -/
def I0z : Mz := fun k j => if kd k = 5 ∧ j = 0 then 6 else if kd k = 2 ∧ j = 0 then -1 else if k = 121 ∧ j = 0 then 6 else if k = 136 ∧ 0 ≤ j ∧ j < 3 then -1 else 0
def J0z : Mz := fun _ _ => 0
theorem zI0 : zI I0z = I0 := by
  funext k j
  unfold zI I0z I0
  by_cases h1 : kd k = 5 ∧ j = 0
  · rw [if_pos ⟨h1.1, by omega⟩, if_pos h1]; rfl
  · rw [if_neg (fun q => h1 ⟨q.1, by omega⟩), if_neg h1]
    by_cases h2 : kd k = 2 ∧ j = 0
    · rw [if_pos ⟨h2.1, by omega⟩, if_pos h2]; rfl
    · rw [if_neg (fun q => h2 ⟨q.1, by omega⟩), if_neg h2]
      by_cases h3 : k = 121 ∧ j = 0
      · rw [if_pos ⟨h3.1, by omega⟩, if_pos h3]; rfl
      · rw [if_neg (fun q => h3 ⟨q.1, by omega⟩), if_neg h3]
        by_cases h4 : k = 136 ∧ j < 3
        · rw [if_pos ⟨h4.1, by omega, by omega⟩, if_pos h4]; rfl
        · rw [if_neg (fun q => h4 ⟨q.1, by omega⟩), if_neg h4]; rfl
theorem zJ0 : zJ J0z = J0 := rfl
/-- as Ck.of, for any end -/
def OkrQ (E : Ev) (h : Nat) (Qc : Array Value → State → Outcome → State → Prop) (mc ms : Nat) : Prop := match E with
  | (_, _, _, _, s, _, args, below, meth, _, Q, _, _, _, _) => meth.sig.returnType = none ∧ meth.locks = false ∧ Q = MQ below Qc args s mc ms (fun q => h ≤ q)
theorem CkQ.of {l : Launch} {y : MethodName} {cc : ByteArray} {nv d : Nat} {G : Gw} {h : Nat} {as : List Value} {n : Nat} {c : Nat → va_E} {Qc : Array Value → State → Outcome → State → Prop} {mc ms : Nat} (hy : plainName y.cls = true) (hyn : y.name = "<init>") (hn : (lg_sl as).length ≤ nv) (lo : List (Option Value)) (hlo : lo = loE as ++ List.replicate (nv - (lg_sl as).length) none)
    (body : ∀ E : Ev, OkC E G h y.cls cc nv d mc ms → OkrQ E h Qc mc ms → EmI E → En0 E = n → E.2.1 = l → Nj E G n c 0 0 lo []) : Met l y (.code y cc nv none :: mS) (rmC d mc ms) (va_Pc as (fun U => va_P G.1 vwCl (wn G n c) U.heap ∧ U.heap.size = h + n ∧ Wc G U ∧ ∀ i, G.2.2 i = h + i)) Qc mc ms (fun q => h ≤ q) := by
  refine Met.ofW (cc := cc) (maxL := nv) (ret := none) hy rfl ?_
  intro p e s m args below meth cd s₁ B hml hv
  obtain ⟨rfl, hP, hsz, hK, hG⟩ := hv
  have hts := atoms_spec (ws := .code y cc nv none :: mS) B.pre
  have hown : s.vm.findClass y.cls = some m.cls := findClass_of_methodNamed B.named
  have hin : meth.name = y.name := (name_of_methodNamed B.named B.method).1
  have hl := lv_entry as (n := nv) hn
  rw [lg_entry_eq]
  have hb := body (p, l, e, rmC d mc ms, s, m, as.toArray, below, meth, cd, MQ below Qc as.toArray s mc ms (fun q => h ≤ q), (fun q => h ≤ q), nv, n, 0) ⟨B.exec, B.bytes, hml, hown, fun w hw => hts w (List.mem_cons_of_mem _ hw), hK, rfl, hG, rfl, Nat.le_refl _, Nat.le_refl _, Nat.le_refl _, Nat.le_refl _, hsz⟩ ⟨B.returns, B.notSynchronized, rfl⟩ (hin.trans hyn) rfl rfl s.heap [] hP va_S.rf _ ⟨hl.1, hl.2.1, fun i v hi => ?_⟩
  · rw [Nat.sub_self] at hb
    exact hb
  · subst hlo
    by_cases hlt : i < (loE as).length
    · rw [List.getElem?_append_left hlt] at hi
      have := loE_args as 0 i v hi
      rw [Nat.zero_add] at this
      exact hl.2.2 (i, v) this
    · rw [List.getElem?_append_right (by omega)] at hi
      have h3 := List.mem_of_getElem? hi
      rw [List.mem_replicate] at h3
      cases h3.2
/-- all cells stand: on with the judgement V -/
def Esw (E : Ev) (cl sl : Nat) : Ev := match E with
  | (p, l, e, R, s, m, args, below, meth, c, Q, A, nL, _, _) => (p, l, e, R, s, m, args, below, meth, c, Q, A, nL, cl, sl)
section
variable {E : Ev} {G : Gw} {h sl : Nat} {c : Nat → va_E} {own : String} {cc : ByteArray} {nv d mc ms pc n0 : Nat} {lo : List (Option Value)} {st : List Value}
theorem N_V {I J : Mz} (hE : En0 E = n0) (hc : ∀ j, j < 147 → c j = cel G (zI I) (zJ J) j) (k : Xz (Esw E (147 - n0) sl) G I J pc lo st) : Nj E G 147 c sl pc lo st := by
  obtain ⟨p, l, e, R, s, m, args, below, meth, cd, Q, A, nL, n1, s0⟩ := E
  have hE : n1 = n0 := hE
  subst hE
  exact fun H locs hP hS ls hl => k H locs (by rw [wl_wn, ← wn_c hc]; exact hP) hS ls hl
theorem OkC.v (ok : OkC E G h own cc nv d mc ms) (hE : En0 E = n0) (h1 : 147 - n0 ≤ mc) (h2 : sl ≤ ms) : Ok (Esw E (147 - n0) sl) G own cc nv d := by
  obtain ⟨p, l, e, R, s, m, args, below, meth, cd, Q, A, nL, n1, s0⟩ := E
  obtain ⟨o1, o2, o3, o4, o5, o6, o7, o8, o9, o10, o11, o12, o13, o14⟩ := ok
  subst o7
  exact ⟨o1, o2, o3, o4, o5, o6.1, fun i j _ _ q => by rw [o8, o8] at q; omega, fun q hq => by
    obtain ⟨k, _, rfl⟩ := hq
    show h ≤ G.2.2 k
    rw [o8]; omega, o9, o10, o11, by omega, by omega⟩
def QM (G : Gw) (h : Nat) : Array Value → State → Outcome → State → Prop := fun _ st oc t => (oc = .returned none ∧ ∃ I1, (fr [126, 127, 128] I0z I1 ∧ mT I1) ∧ va_P G.1 vwCl (wl G (zI I1) (zJ J0z)) t.heap) ∧ va_F (fun q => h ≤ q) st t
theorem V_retM {I1 : Mz} (ok : OkC E G h own cc nv d mc ms) (hE : En0 E = n0) (or : OkrQ E h (QM G h) (147 - n0) ms) (hd : decode cc pc = .ok (.return_, 1)) (hsl : sl ≤ ms) (hf : fr [126, 127, 128] I0z I1) (hm : mT I1) : Xz (Esw E (147 - n0) sl) G I1 J0z pc lo [] := by
  obtain ⟨p, l, e, R, s, m, args, below, meth, cd, Q, A, nL, n1, s0⟩ := E
  obtain ⟨o1, o2, o3, o4, o5, o6, o7, o8, o9, o10, o11, o12, o13, o14⟩ := ok
  obtain ⟨r1, r2, r3⟩ := or
  subst o7
  subst r3
  intro H locs hP hS ls hls
  refine W.widen (k := 147 - n0) (n := ms) (Nat.le_refl _) hsl ?_
  exact W.vret o1 o2 r1 (fun t ht hW => ⟨⟨rfl, I1, ⟨hf, hm⟩, by rw [ht]; exact hP⟩, hS.F ht⟩) hS.2.2 hd r2
end
theorem mT_of {I : Mz} {P D F : Int → Int} (hP : ∀ (d : Nat) (i : Int), 1 ≤ d → d < 31 → 0 ≤ i → i ≤ gT d → P (31 * d + i) = lf (qT d) i) (hD : ∀ d : Nat, 1 ≤ d → d < 31 → D d = gT d) : mT (tS I P D F) := by
  refine ⟨fun m i m0 m1 i0 i1 => ?_, fun m m0 m1 => ?_⟩
  · obtain ⟨k, rfl⟩ : ∃ k : Nat, m = (k : Int) := ⟨m.toNat, by omega⟩
    have hk : ¬ k = 1 := by omega
    have hg : gT k = (DG k).toNat := by unfold gT; rw [if_neg hk]
    rw [tS_126, hP k i (by omega) (by omega) i0 (by rw [hg]; omega)]
    unfold lf qT PH
    rw [if_pos i0, if_pos i0, if_neg hk]
    rfl
  · obtain ⟨k, rfl⟩ : ∃ k : Nat, m = (k : Int) := ⟨m.toNat, by omega⟩
    have hk : ¬ k = 1 := by omega
    have hg : gT k = (DG k).toNat := by unfold gT; rw [if_neg hk]
    have := (dg_b (n := (k : Int)) ⟨by omega, by omega⟩).1
    rw [tS_127, hD k (by omega) (by omega), hg]
    omega
theorem cel_121 {G : Gw} : cel G I0 J0 121 = .inr (12, [.int 6, .ref (G.2.2 122), .ref (G.2.2 123), .int 0, .ref (G.2.2 124), .ref (G.2.2 125), .ref (G.2.2 126), .ref (G.2.2 127), .ref (G.2.2 128), .ref (G.2.2 129), .ref (G.2.2 130), .ref (G.2.2 131), .ref (G.2.2 132), .ref (G.2.2 133), .ref (G.2.2 134), .int 0, .int 0, .int 0, .ref (G.2.2 135), .ref (G.2.2 136), .ref (G.2.2 137), .ref (G.2.2 138), .ref (G.2.2 139), .ref (G.2.2 140), .ref (G.2.2 141), .int 0, .int 0, .int 0, .ref (G.2.2 142), .int 0, .int 0, .int 0, .int 0, .ref (G.2.2 143), .ref (G.2.2 144), .ref (G.2.2 145), .ref (G.2.2 146)]) := by
  rw [cel_o (ci := 12) rfl (by decide)]
  have h0 : ∀ j : Nat, j ≠ 0 → I0 121 j = 0 := fun j hj => by
    unfold I0
    rw [if_neg (fun q => hj q.2), if_neg (fun q => hj q.2), if_neg (fun q => hj q.2), if_neg (fun q => by omega)]
  have h1 : I0 121 0 = 6 := rfl
  unfold fv
  rw [show kd 121 = 12 from rfl]
  rw [show ft 12 = [true, false, false, true, false, false, false, false, false, false, false, false, false, false, false, true, true, true, false, false, false, false, false, false, false, true, true, true, false, true, true, true, true, false, false, false, false] from rfl]
  simp only [List.mapIdx_cons, List.mapIdx_nil, if_true, Bool.false_eq_true, if_false, h1]
  rw [h0 3 (by decide)]
  rfl
theorem k_X12 {l : Launch} {G : Gw} {h : Nat} {c : Nat → va_E} (hc0 : ∀ j, j < 121 → c j = cel G I0 J0 j) (hc : c 121 = .inr (12, [.int 0, .null, .null, .int 0, .null, .null, .null, .null, .null, .null, .null, .null, .null, .null, .null, .int 0, .int 0, .int 0, .null, .null, .null, .null, .null, .null, .null, .int 0, .int 0, .int 0, .null, .int 0, .int 0, .int 0, .int 0, .null, .null, .null, .null])) : Met l yX12_init (.code yX12_init cX12_init 4 none :: mS) (rmC 2 25 8042) (va_Pc [.ref (G.2.2 121)] (fun U => va_P G.1 vwCl (wn G 122 c) U.heap ∧ U.heap.size = h + 122 ∧ Wc G U ∧ ∀ i, G.2.2 i = h + i)) (QM G h) 25 8042 (fun q => h ≤ q) := by
  refine CkQ.of (by decide +kernel) rfl (Nat.le_of_ble_eq_true rfl) [some (.ref (G.2.2 121)), none, none, none] rfl (fun E ok or hi hE _ => ?_)
  have ok : OkC E G h RX12 cX12_init 4 2 25 8042 := ok
  refine N_c (B0_eq (G := G) hc) ?_
  refine N_aload0 ok dX12_init_0 ?_
  refine N_objInit ok dX12_init_1 kw900 (by omega) rfl ?_
  refine N_aload0 ok dX12_init_4 ?_
  refine N_bipush (v := 6) ok dX12_init_5 (by decide) ?_
  refine N_pI (j := 0) (fs' := [.int 6, .null, .null, .int 0, .null, .null, .null, .null, .null, .null, .null, .null, .null, .null, .null, .int 0, .int 0, .int 0, .null, .null, .null, .null, .null, .null, .null, .int 0, .int 0, .int 0, .null, .int 0, .int 0, .int 0, .int 0, .null, .null, .null, .null]) ok dX12_init_7 (by omega) rfl inX12 tyX12_ok nmX12 kw905 rfl (by decide) rfl rfl rfl (Nat.le_of_ble_eq_true rfl) rfl ?_
  refine N_aload0 ok dX12_init_10 ?_
  refine N_bipush (v := 30) ok dX12_init_11 (by decide) ?_
  refine N_newI (N := 30) ok hE dX12_init_13 (tl1 (by omega)) rfl rfl (by decide) (by decide) (by decide) (by decide) (by omega) (by omega) (by omega) ?_
  refine N_pF (j := 1) (fs' := [.int 6, .ref (G.2.2 122), .null, .int 0, .null, .null, .null, .null, .null, .null, .null, .null, .null, .null, .null, .int 0, .int 0, .int 0, .null, .null, .null, .null, .null, .null, .null, .int 0, .int 0, .int 0, .null, .int 0, .int 0, .int 0, .int 0, .null, .null, .null, .null]) ok hi dX12_init_15 (by omega) rfl inX12 tyX12_ok nmX12 kw906 rfl (by decide) rfl rfl rfl rfl (Nat.le_of_ble_eq_true rfl) rfl ?_
  refine N_aload0 ok dX12_init_18 ?_
  refine N_bipush (v := 16) ok dX12_init_19 (by decide) ?_
  refine N_newI (N := 16) ok hE dX12_init_21 (tl1 (by omega)) rfl rfl (by decide) (by decide) (by decide) (by decide) (by omega) (by omega) (by omega) ?_
  refine N_pF (j := 2) (fs' := [.int 6, .ref (G.2.2 122), .ref (G.2.2 123), .int 0, .null, .null, .null, .null, .null, .null, .null, .null, .null, .null, .null, .int 0, .int 0, .int 0, .null, .null, .null, .null, .null, .null, .null, .int 0, .int 0, .int 0, .null, .int 0, .int 0, .int 0, .int 0, .null, .null, .null, .null]) ok hi dX12_init_23 (by omega) rfl inX12 tyX12_ok nmX12 kw907 rfl (by decide) rfl rfl rfl rfl (Nat.le_of_ble_eq_true rfl) rfl ?_
  refine N_aload0 ok dX12_init_26 ?_
  refine N_iconst (v := 2) ok dX12_init_27 (by decide) ?_
  refine N_newI (N := 2) ok hE dX12_init_28 (tl1 (by omega)) rfl rfl (by decide) (by decide) (by decide) (by decide) (by omega) (by omega) (by omega) ?_
  refine N_pF (j := 4) (fs' := [.int 6, .ref (G.2.2 122), .ref (G.2.2 123), .int 0, .ref (G.2.2 124), .null, .null, .null, .null, .null, .null, .null, .null, .null, .null, .int 0, .int 0, .int 0, .null, .null, .null, .null, .null, .null, .null, .int 0, .int 0, .int 0, .null, .int 0, .int 0, .int 0, .int 0, .null, .null, .null, .null]) ok hi dX12_init_30 (by omega) rfl inX12 tyX12_ok nmX12 kw909 rfl (by decide) rfl rfl rfl rfl (Nat.le_of_ble_eq_true rfl) rfl ?_
  refine N_aload0 ok dX12_init_33 ?_
  refine N_sipush (v := 496) ok dX12_init_34 (by decide) ?_
  refine N_newI (N := 496) ok hE dX12_init_37 (tl1 (by omega)) rfl rfl (by decide) (by decide) (by decide) (by decide) (by omega) (by omega) (by omega) ?_
  refine N_pF (j := 5) (fs' := [.int 6, .ref (G.2.2 122), .ref (G.2.2 123), .int 0, .ref (G.2.2 124), .ref (G.2.2 125), .null, .null, .null, .null, .null, .null, .null, .null, .null, .int 0, .int 0, .int 0, .null, .null, .null, .null, .null, .null, .null, .int 0, .int 0, .int 0, .null, .int 0, .int 0, .int 0, .int 0, .null, .null, .null, .null]) ok hi dX12_init_39 (by omega) rfl inX12 tyX12_ok nmX12 kw910 rfl (by decide) rfl rfl rfl rfl (Nat.le_of_ble_eq_true rfl) rfl ?_
  refine N_aload0 ok dX12_init_42 ?_
  refine N_sipush (v := 961) ok dX12_init_43 (by decide) ?_
  refine N_newI (N := 961) ok hE dX12_init_46 (tl1 (by omega)) rfl rfl (by decide) (by decide) (by decide) (by decide) (by omega) (by omega) (by omega) ?_
  refine N_pF (j := 6) (fs' := [.int 6, .ref (G.2.2 122), .ref (G.2.2 123), .int 0, .ref (G.2.2 124), .ref (G.2.2 125), .ref (G.2.2 126), .null, .null, .null, .null, .null, .null, .null, .null, .int 0, .int 0, .int 0, .null, .null, .null, .null, .null, .null, .null, .int 0, .int 0, .int 0, .null, .int 0, .int 0, .int 0, .int 0, .null, .null, .null, .null]) ok hi dX12_init_48 (by omega) rfl inX12 tyX12_ok nmX12 kw911 rfl (by decide) rfl rfl rfl rfl (Nat.le_of_ble_eq_true rfl) rfl ?_
  refine N_aload0 ok dX12_init_51 ?_
  refine N_bipush (v := 31) ok dX12_init_52 (by decide) ?_
  refine N_newI (N := 31) ok hE dX12_init_54 (tl1 (by omega)) rfl rfl (by decide) (by decide) (by decide) (by decide) (by omega) (by omega) (by omega) ?_
  refine N_pF (j := 7) (fs' := [.int 6, .ref (G.2.2 122), .ref (G.2.2 123), .int 0, .ref (G.2.2 124), .ref (G.2.2 125), .ref (G.2.2 126), .ref (G.2.2 127), .null, .null, .null, .null, .null, .null, .null, .int 0, .int 0, .int 0, .null, .null, .null, .null, .null, .null, .null, .int 0, .int 0, .int 0, .null, .int 0, .int 0, .int 0, .int 0, .null, .null, .null, .null]) ok hi dX12_init_56 (by omega) rfl inX12 tyX12_ok nmX12 kw912 rfl (by decide) rfl rfl rfl rfl (Nat.le_of_ble_eq_true rfl) rfl ?_
  refine N_aload0 ok dX12_init_59 ?_
  refine N_bipush (v := 62) ok dX12_init_60 (by decide) ?_
  refine N_newI (N := 62) ok hE dX12_init_62 (tl1 (by omega)) rfl rfl (by decide) (by decide) (by decide) (by decide) (by omega) (by omega) (by omega) ?_
  refine N_pF (j := 8) (fs' := [.int 6, .ref (G.2.2 122), .ref (G.2.2 123), .int 0, .ref (G.2.2 124), .ref (G.2.2 125), .ref (G.2.2 126), .ref (G.2.2 127), .ref (G.2.2 128), .null, .null, .null, .null, .null, .null, .int 0, .int 0, .int 0, .null, .null, .null, .null, .null, .null, .null, .int 0, .int 0, .int 0, .null, .int 0, .int 0, .int 0, .int 0, .null, .null, .null, .null]) ok hi dX12_init_64 (by omega) rfl inX12 tyX12_ok nmX12 kw913 rfl (by decide) rfl rfl rfl rfl (Nat.le_of_ble_eq_true rfl) rfl ?_
  refine N_aload0 ok dX12_init_67 ?_
  refine N_sipush (v := 900) ok dX12_init_68 (by decide) ?_
  refine N_newI (N := 900) ok hE dX12_init_71 (tl1 (by omega)) rfl rfl (by decide) (by decide) (by decide) (by decide) (by omega) (by omega) (by omega) ?_
  refine N_pF (j := 9) (fs' := [.int 6, .ref (G.2.2 122), .ref (G.2.2 123), .int 0, .ref (G.2.2 124), .ref (G.2.2 125), .ref (G.2.2 126), .ref (G.2.2 127), .ref (G.2.2 128), .ref (G.2.2 129), .null, .null, .null, .null, .null, .int 0, .int 0, .int 0, .null, .null, .null, .null, .null, .null, .null, .int 0, .int 0, .int 0, .null, .int 0, .int 0, .int 0, .int 0, .null, .null, .null, .null]) ok hi dX12_init_73 (by omega) rfl inX12 tyX12_ok nmX12 kw914 rfl (by decide) rfl rfl rfl rfl (Nat.le_of_ble_eq_true rfl) rfl ?_
  refine N_aload0 ok dX12_init_76 ?_
  refine N_bipush (v := 30) ok dX12_init_77 (by decide) ?_
  refine N_newI (N := 30) ok hE dX12_init_79 (tl1 (by omega)) rfl rfl (by decide) (by decide) (by decide) (by decide) (by omega) (by omega) (by omega) ?_
  refine N_pF (j := 10) (fs' := [.int 6, .ref (G.2.2 122), .ref (G.2.2 123), .int 0, .ref (G.2.2 124), .ref (G.2.2 125), .ref (G.2.2 126), .ref (G.2.2 127), .ref (G.2.2 128), .ref (G.2.2 129), .ref (G.2.2 130), .null, .null, .null, .null, .int 0, .int 0, .int 0, .null, .null, .null, .null, .null, .null, .null, .int 0, .int 0, .int 0, .null, .int 0, .int 0, .int 0, .int 0, .null, .null, .null, .null]) ok hi dX12_init_81 (by omega) rfl inX12 tyX12_ok nmX12 kw915 rfl (by decide) rfl rfl rfl rfl (Nat.le_of_ble_eq_true rfl) rfl ?_
  refine N_aload0 ok dX12_init_84 ?_
  refine N_bipush (v := 30) ok dX12_init_85 (by decide) ?_
  refine N_newI (N := 30) ok hE dX12_init_87 (tl1 (by omega)) rfl rfl (by decide) (by decide) (by decide) (by decide) (by omega) (by omega) (by omega) ?_
  refine N_pF (j := 11) (fs' := [.int 6, .ref (G.2.2 122), .ref (G.2.2 123), .int 0, .ref (G.2.2 124), .ref (G.2.2 125), .ref (G.2.2 126), .ref (G.2.2 127), .ref (G.2.2 128), .ref (G.2.2 129), .ref (G.2.2 130), .ref (G.2.2 131), .null, .null, .null, .int 0, .int 0, .int 0, .null, .null, .null, .null, .null, .null, .null, .int 0, .int 0, .int 0, .null, .int 0, .int 0, .int 0, .int 0, .null, .null, .null, .null]) ok hi dX12_init_89 (by omega) rfl inX12 tyX12_ok nmX12 kw916 rfl (by decide) rfl rfl rfl rfl (Nat.le_of_ble_eq_true rfl) rfl ?_
  refine N_aload0 ok dX12_init_92 ?_
  refine N_bipush (v := 30) ok dX12_init_93 (by decide) ?_
  refine N_newI (N := 30) ok hE dX12_init_95 (tl1 (by omega)) rfl rfl (by decide) (by decide) (by decide) (by decide) (by omega) (by omega) (by omega) ?_
  refine N_pF (j := 12) (fs' := [.int 6, .ref (G.2.2 122), .ref (G.2.2 123), .int 0, .ref (G.2.2 124), .ref (G.2.2 125), .ref (G.2.2 126), .ref (G.2.2 127), .ref (G.2.2 128), .ref (G.2.2 129), .ref (G.2.2 130), .ref (G.2.2 131), .ref (G.2.2 132), .null, .null, .int 0, .int 0, .int 0, .null, .null, .null, .null, .null, .null, .null, .int 0, .int 0, .int 0, .null, .int 0, .int 0, .int 0, .int 0, .null, .null, .null, .null]) ok hi dX12_init_97 (by omega) rfl inX12 tyX12_ok nmX12 kw917 rfl (by decide) rfl rfl rfl rfl (Nat.le_of_ble_eq_true rfl) rfl ?_
  refine N_aload0 ok dX12_init_100 ?_
  refine N_bipush (v := 30) ok dX12_init_101 (by decide) ?_
  refine N_newI (N := 30) ok hE dX12_init_103 (tl1 (by omega)) rfl rfl (by decide) (by decide) (by decide) (by decide) (by omega) (by omega) (by omega) ?_
  refine N_pF (j := 13) (fs' := [.int 6, .ref (G.2.2 122), .ref (G.2.2 123), .int 0, .ref (G.2.2 124), .ref (G.2.2 125), .ref (G.2.2 126), .ref (G.2.2 127), .ref (G.2.2 128), .ref (G.2.2 129), .ref (G.2.2 130), .ref (G.2.2 131), .ref (G.2.2 132), .ref (G.2.2 133), .null, .int 0, .int 0, .int 0, .null, .null, .null, .null, .null, .null, .null, .int 0, .int 0, .int 0, .null, .int 0, .int 0, .int 0, .int 0, .null, .null, .null, .null]) ok hi dX12_init_105 (by omega) rfl inX12 tyX12_ok nmX12 kw918 rfl (by decide) rfl rfl rfl rfl (Nat.le_of_ble_eq_true rfl) rfl ?_
  refine N_aload0 ok dX12_init_108 ?_
  refine N_bipush (v := 30) ok dX12_init_109 (by decide) ?_
  refine N_newI (N := 30) ok hE dX12_init_111 (tl1 (by omega)) rfl rfl (by decide) (by decide) (by decide) (by decide) (by omega) (by omega) (by omega) ?_
  refine N_pF (j := 14) (fs' := [.int 6, .ref (G.2.2 122), .ref (G.2.2 123), .int 0, .ref (G.2.2 124), .ref (G.2.2 125), .ref (G.2.2 126), .ref (G.2.2 127), .ref (G.2.2 128), .ref (G.2.2 129), .ref (G.2.2 130), .ref (G.2.2 131), .ref (G.2.2 132), .ref (G.2.2 133), .ref (G.2.2 134), .int 0, .int 0, .int 0, .null, .null, .null, .null, .null, .null, .null, .int 0, .int 0, .int 0, .null, .int 0, .int 0, .int 0, .int 0, .null, .null, .null, .null]) ok hi dX12_init_113 (by omega) rfl inX12 tyX12_ok nmX12 kw919 rfl (by decide) rfl rfl rfl rfl (Nat.le_of_ble_eq_true rfl) rfl ?_
  refine N_aload0 ok dX12_init_116 ?_
  refine N_bipush (v := 30) ok dX12_init_117 (by decide) ?_
  refine N_newI (N := 30) ok hE dX12_init_119 (tl1 (by omega)) rfl rfl (by decide) (by decide) (by decide) (by decide) (by omega) (by omega) (by omega) ?_
  refine N_pF (j := 18) (fs' := [.int 6, .ref (G.2.2 122), .ref (G.2.2 123), .int 0, .ref (G.2.2 124), .ref (G.2.2 125), .ref (G.2.2 126), .ref (G.2.2 127), .ref (G.2.2 128), .ref (G.2.2 129), .ref (G.2.2 130), .ref (G.2.2 131), .ref (G.2.2 132), .ref (G.2.2 133), .ref (G.2.2 134), .int 0, .int 0, .int 0, .ref (G.2.2 135), .null, .null, .null, .null, .null, .null, .int 0, .int 0, .int 0, .null, .int 0, .int 0, .int 0, .int 0, .null, .null, .null, .null]) ok hi dX12_init_121 (by omega) rfl inX12 tyX12_ok nmX12 kw923 rfl (by decide) rfl rfl rfl rfl (Nat.le_of_ble_eq_true rfl) rfl ?_
  refine N_aload0 ok dX12_init_124 ?_
  refine N_iconst (v := 3) ok dX12_init_125 (by decide) ?_
  refine N_newa (t := 0) (N := 3) (a0 := (3, .inl (fun _ => 0))) ok dX12_init_126 rfl rfl ra_int kw108 (fun _ => rfl) (by decide) (by decide) (by decide) (by omega) (by omega) (by omega) ?_
  refine N_dup ok dX12_init_128 rfl ?_
  refine N_iconst (v := 0) ok dX12_init_129 (by decide) ?_
  refine N_iconst (v := -1) ok dX12_init_130 (by decide) ?_
  refine N_iA (i := 0) ok dX12_init_131 (by omega) rfl (by decide) (by decide) ?_
  refine N_dup ok dX12_init_132 rfl ?_
  refine N_iconst (v := 1) ok dX12_init_133 (by decide) ?_
  refine N_iconst (v := -1) ok dX12_init_134 (by decide) ?_
  refine N_iA (i := 1) ok dX12_init_135 (by omega) rfl (by decide) (by decide) ?_
  refine N_dup ok dX12_init_136 rfl ?_
  refine N_iconst (v := 2) ok dX12_init_137 (by decide) ?_
  refine N_iconst (v := -1) ok dX12_init_138 (by decide) ?_
  refine N_iA (i := 2) ok dX12_init_139 (by omega) rfl (by decide) (by decide) ?_
  refine N_e (ud_same ?_) ?_
  · rw [tl1 (by omega) _ (Nat.le_refl _)]
    rw [cel_i rfl]
    have : I0 136 = upd (upd (upd (fun _ => 0) 0 (-1)) 1 (-1)) 2 (-1) := by
      funext j
      have hj : j = 0 ∨ j = 1 ∨ j = 2 ∨ 3 ≤ j := by omega
      rcases hj with rfl | rfl | rfl | hj
      · rfl
      · rfl
      · rfl
      · have e1 : I0 136 j = 0 := by simp [I0, show kd 136 = 13 from rfl]; omega
        rw [e1]; simp [upd, show j ≠ 0 by omega, show j ≠ 1 by omega, show j ≠ 2 by omega]
    rw [this]
    rfl
  refine N_pF (j := 19) (fs' := [.int 6, .ref (G.2.2 122), .ref (G.2.2 123), .int 0, .ref (G.2.2 124), .ref (G.2.2 125), .ref (G.2.2 126), .ref (G.2.2 127), .ref (G.2.2 128), .ref (G.2.2 129), .ref (G.2.2 130), .ref (G.2.2 131), .ref (G.2.2 132), .ref (G.2.2 133), .ref (G.2.2 134), .int 0, .int 0, .int 0, .ref (G.2.2 135), .ref (G.2.2 136), .null, .null, .null, .null, .null, .int 0, .int 0, .int 0, .null, .int 0, .int 0, .int 0, .int 0, .null, .null, .null, .null]) ok hi dX12_init_140 (by omega) rfl inX12 tyX12_ok nmX12 kw924 rfl (by decide) rfl rfl rfl rfl (Nat.le_of_ble_eq_true rfl) rfl ?_
  refine N_aload0 ok dX12_init_143 ?_
  refine N_bipush (v := 90) ok dX12_init_144 (by decide) ?_
  refine N_newL (N := 90) ok hE dX12_init_146 (tl1 (by omega)) rfl rfl (by decide) (by decide) (by decide) (by omega) (by omega) (by omega) ?_
  refine N_pF (j := 20) (fs' := [.int 6, .ref (G.2.2 122), .ref (G.2.2 123), .int 0, .ref (G.2.2 124), .ref (G.2.2 125), .ref (G.2.2 126), .ref (G.2.2 127), .ref (G.2.2 128), .ref (G.2.2 129), .ref (G.2.2 130), .ref (G.2.2 131), .ref (G.2.2 132), .ref (G.2.2 133), .ref (G.2.2 134), .int 0, .int 0, .int 0, .ref (G.2.2 135), .ref (G.2.2 136), .ref (G.2.2 137), .null, .null, .null, .null, .int 0, .int 0, .int 0, .null, .int 0, .int 0, .int 0, .int 0, .null, .null, .null, .null]) ok hi dX12_init_148 (by omega) rfl inX12 tyX12_ok nmX12 kw925 rfl (by decide) rfl rfl rfl rfl (Nat.le_of_ble_eq_true rfl) rfl ?_
  refine N_aload0 ok dX12_init_151 ?_
  refine N_bipush (v := 30) ok dX12_init_152 (by decide) ?_
  refine N_newI (N := 30) ok hE dX12_init_154 (tl1 (by omega)) rfl rfl (by decide) (by decide) (by decide) (by decide) (by omega) (by omega) (by omega) ?_
  refine N_pF (j := 21) (fs' := [.int 6, .ref (G.2.2 122), .ref (G.2.2 123), .int 0, .ref (G.2.2 124), .ref (G.2.2 125), .ref (G.2.2 126), .ref (G.2.2 127), .ref (G.2.2 128), .ref (G.2.2 129), .ref (G.2.2 130), .ref (G.2.2 131), .ref (G.2.2 132), .ref (G.2.2 133), .ref (G.2.2 134), .int 0, .int 0, .int 0, .ref (G.2.2 135), .ref (G.2.2 136), .ref (G.2.2 137), .ref (G.2.2 138), .null, .null, .null, .int 0, .int 0, .int 0, .null, .int 0, .int 0, .int 0, .int 0, .null, .null, .null, .null]) ok hi dX12_init_156 (by omega) rfl inX12 tyX12_ok nmX12 kw926 rfl (by decide) rfl rfl rfl rfl (Nat.le_of_ble_eq_true rfl) rfl ?_
  refine N_aload0 ok dX12_init_159 ?_
  refine N_sipush (v := 201) ok dX12_init_160 (by decide) ?_
  refine N_newI (N := 201) ok hE dX12_init_163 (tl1 (by omega)) rfl rfl (by decide) (by decide) (by decide) (by decide) (by omega) (by omega) (by omega) ?_
  refine N_pF (j := 22) (fs' := [.int 6, .ref (G.2.2 122), .ref (G.2.2 123), .int 0, .ref (G.2.2 124), .ref (G.2.2 125), .ref (G.2.2 126), .ref (G.2.2 127), .ref (G.2.2 128), .ref (G.2.2 129), .ref (G.2.2 130), .ref (G.2.2 131), .ref (G.2.2 132), .ref (G.2.2 133), .ref (G.2.2 134), .int 0, .int 0, .int 0, .ref (G.2.2 135), .ref (G.2.2 136), .ref (G.2.2 137), .ref (G.2.2 138), .ref (G.2.2 139), .null, .null, .int 0, .int 0, .int 0, .null, .int 0, .int 0, .int 0, .int 0, .null, .null, .null, .null]) ok hi dX12_init_165 (by omega) rfl inX12 tyX12_ok nmX12 kw927 rfl (by decide) rfl rfl rfl rfl (Nat.le_of_ble_eq_true rfl) rfl ?_
  refine N_aload0 ok dX12_init_168 ?_
  refine N_sipush (v := 4096) ok dX12_init_169 (by decide) ?_
  refine N_newZ (N := 4096) ok hE dX12_init_172 (tl1 (by omega)) rfl rfl (by decide) (by decide) (by omega) (by omega) (by omega) ?_
  refine N_pF (j := 23) (fs' := [.int 6, .ref (G.2.2 122), .ref (G.2.2 123), .int 0, .ref (G.2.2 124), .ref (G.2.2 125), .ref (G.2.2 126), .ref (G.2.2 127), .ref (G.2.2 128), .ref (G.2.2 129), .ref (G.2.2 130), .ref (G.2.2 131), .ref (G.2.2 132), .ref (G.2.2 133), .ref (G.2.2 134), .int 0, .int 0, .int 0, .ref (G.2.2 135), .ref (G.2.2 136), .ref (G.2.2 137), .ref (G.2.2 138), .ref (G.2.2 139), .ref (G.2.2 140), .null, .int 0, .int 0, .int 0, .null, .int 0, .int 0, .int 0, .int 0, .null, .null, .null, .null]) ok hi dX12_init_174 (by omega) rfl inX12 tyX12_ok nmX12 kw928 rfl (by decide) rfl rfl rfl rfl (Nat.le_of_ble_eq_true rfl) rfl ?_
  refine N_aload0 ok dX12_init_177 ?_
  refine N_bipush (v := 100) ok dX12_init_178 (by decide) ?_
  refine N_newI (N := 100) ok hE dX12_init_180 (tl1 (by omega)) rfl rfl (by decide) (by decide) (by decide) (by decide) (by omega) (by omega) (by omega) ?_
  refine N_pF (j := 24) (fs' := [.int 6, .ref (G.2.2 122), .ref (G.2.2 123), .int 0, .ref (G.2.2 124), .ref (G.2.2 125), .ref (G.2.2 126), .ref (G.2.2 127), .ref (G.2.2 128), .ref (G.2.2 129), .ref (G.2.2 130), .ref (G.2.2 131), .ref (G.2.2 132), .ref (G.2.2 133), .ref (G.2.2 134), .int 0, .int 0, .int 0, .ref (G.2.2 135), .ref (G.2.2 136), .ref (G.2.2 137), .ref (G.2.2 138), .ref (G.2.2 139), .ref (G.2.2 140), .ref (G.2.2 141), .int 0, .int 0, .int 0, .null, .int 0, .int 0, .int 0, .int 0, .null, .null, .null, .null]) ok hi dX12_init_182 (by omega) rfl inX12 tyX12_ok nmX12 kw929 rfl (by decide) rfl rfl rfl rfl (Nat.le_of_ble_eq_true rfl) rfl ?_
  refine N_aload0 ok dX12_init_185 ?_
  refine N_sipush (v := 300) ok dX12_init_186 (by decide) ?_
  refine N_newI (N := 300) ok hE dX12_init_189 (tl1 (by omega)) rfl rfl (by decide) (by decide) (by decide) (by decide) (by omega) (by omega) (by omega) ?_
  refine N_pF (j := 28) (fs' := [.int 6, .ref (G.2.2 122), .ref (G.2.2 123), .int 0, .ref (G.2.2 124), .ref (G.2.2 125), .ref (G.2.2 126), .ref (G.2.2 127), .ref (G.2.2 128), .ref (G.2.2 129), .ref (G.2.2 130), .ref (G.2.2 131), .ref (G.2.2 132), .ref (G.2.2 133), .ref (G.2.2 134), .int 0, .int 0, .int 0, .ref (G.2.2 135), .ref (G.2.2 136), .ref (G.2.2 137), .ref (G.2.2 138), .ref (G.2.2 139), .ref (G.2.2 140), .ref (G.2.2 141), .int 0, .int 0, .int 0, .ref (G.2.2 142), .int 0, .int 0, .int 0, .int 0, .null, .null, .null, .null]) ok hi dX12_init_191 (by omega) rfl inX12 tyX12_ok nmX12 kw933 rfl (by decide) rfl rfl rfl rfl (Nat.le_of_ble_eq_true rfl) rfl ?_
  refine N_aload0 ok dX12_init_194 ?_
  refine N_bipush (v := 30) ok dX12_init_195 (by decide) ?_
  refine N_newI (N := 30) ok hE dX12_init_197 (tl1 (by omega)) rfl rfl (by decide) (by decide) (by decide) (by decide) (by omega) (by omega) (by omega) ?_
  refine N_pF (j := 33) (fs' := [.int 6, .ref (G.2.2 122), .ref (G.2.2 123), .int 0, .ref (G.2.2 124), .ref (G.2.2 125), .ref (G.2.2 126), .ref (G.2.2 127), .ref (G.2.2 128), .ref (G.2.2 129), .ref (G.2.2 130), .ref (G.2.2 131), .ref (G.2.2 132), .ref (G.2.2 133), .ref (G.2.2 134), .int 0, .int 0, .int 0, .ref (G.2.2 135), .ref (G.2.2 136), .ref (G.2.2 137), .ref (G.2.2 138), .ref (G.2.2 139), .ref (G.2.2 140), .ref (G.2.2 141), .int 0, .int 0, .int 0, .ref (G.2.2 142), .int 0, .int 0, .int 0, .int 0, .ref (G.2.2 143), .null, .null, .null]) ok hi dX12_init_199 (by omega) rfl inX12 tyX12_ok nmX12 kw938 rfl (by decide) rfl rfl rfl rfl (Nat.le_of_ble_eq_true rfl) rfl ?_
  refine N_aload0 ok dX12_init_202 ?_
  refine N_bipush (v := 16) ok dX12_init_203 (by decide) ?_
  refine N_newI (N := 16) ok hE dX12_init_205 (tl1 (by omega)) rfl rfl (by decide) (by decide) (by decide) (by decide) (by omega) (by omega) (by omega) ?_
  refine N_pF (j := 34) (fs' := [.int 6, .ref (G.2.2 122), .ref (G.2.2 123), .int 0, .ref (G.2.2 124), .ref (G.2.2 125), .ref (G.2.2 126), .ref (G.2.2 127), .ref (G.2.2 128), .ref (G.2.2 129), .ref (G.2.2 130), .ref (G.2.2 131), .ref (G.2.2 132), .ref (G.2.2 133), .ref (G.2.2 134), .int 0, .int 0, .int 0, .ref (G.2.2 135), .ref (G.2.2 136), .ref (G.2.2 137), .ref (G.2.2 138), .ref (G.2.2 139), .ref (G.2.2 140), .ref (G.2.2 141), .int 0, .int 0, .int 0, .ref (G.2.2 142), .int 0, .int 0, .int 0, .int 0, .ref (G.2.2 143), .ref (G.2.2 144), .null, .null]) ok hi dX12_init_207 (by omega) rfl inX12 tyX12_ok nmX12 kw939 rfl (by decide) rfl rfl rfl rfl (Nat.le_of_ble_eq_true rfl) rfl ?_
  refine N_aload0 ok dX12_init_210 ?_
  refine N_iconst (v := 2) ok dX12_init_211 (by decide) ?_
  refine N_newI (N := 2) ok hE dX12_init_212 (tl1 (by omega)) rfl rfl (by decide) (by decide) (by decide) (by decide) (by omega) (by omega) (by omega) ?_
  refine N_pF (j := 35) (fs' := [.int 6, .ref (G.2.2 122), .ref (G.2.2 123), .int 0, .ref (G.2.2 124), .ref (G.2.2 125), .ref (G.2.2 126), .ref (G.2.2 127), .ref (G.2.2 128), .ref (G.2.2 129), .ref (G.2.2 130), .ref (G.2.2 131), .ref (G.2.2 132), .ref (G.2.2 133), .ref (G.2.2 134), .int 0, .int 0, .int 0, .ref (G.2.2 135), .ref (G.2.2 136), .ref (G.2.2 137), .ref (G.2.2 138), .ref (G.2.2 139), .ref (G.2.2 140), .ref (G.2.2 141), .int 0, .int 0, .int 0, .ref (G.2.2 142), .int 0, .int 0, .int 0, .int 0, .ref (G.2.2 143), .ref (G.2.2 144), .ref (G.2.2 145), .null]) ok hi dX12_init_214 (by omega) rfl inX12 tyX12_ok nmX12 kw940 rfl (by decide) rfl rfl rfl rfl (Nat.le_of_ble_eq_true rfl) rfl ?_
  refine N_aload0 ok dX12_init_217 ?_
  refine N_sipush (v := 496) ok dX12_init_218 (by decide) ?_
  refine N_newI (N := 496) ok hE dX12_init_221 (tl1 (by omega)) rfl rfl (by decide) (by decide) (by decide) (by decide) (by omega) (by omega) (by omega) ?_
  refine N_pF (j := 36) (fs' := [.int 6, .ref (G.2.2 122), .ref (G.2.2 123), .int 0, .ref (G.2.2 124), .ref (G.2.2 125), .ref (G.2.2 126), .ref (G.2.2 127), .ref (G.2.2 128), .ref (G.2.2 129), .ref (G.2.2 130), .ref (G.2.2 131), .ref (G.2.2 132), .ref (G.2.2 133), .ref (G.2.2 134), .int 0, .int 0, .int 0, .ref (G.2.2 135), .ref (G.2.2 136), .ref (G.2.2 137), .ref (G.2.2 138), .ref (G.2.2 139), .ref (G.2.2 140), .ref (G.2.2 141), .int 0, .int 0, .int 0, .ref (G.2.2 142), .int 0, .int 0, .int 0, .int 0, .ref (G.2.2 143), .ref (G.2.2 144), .ref (G.2.2 145), .ref (G.2.2 146)]) ok hi dX12_init_223 (by omega) rfl inX12 tyX12_ok nmX12 kw941 rfl (by decide) rfl rfl rfl rfl (Nat.le_of_ble_eq_true rfl) rfl ?_
  refine N_V (I := I0z) (J := J0z) hE (fun j hj => ?_) ?_
  · rw [zI0, zJ0]
    by_cases h1 : j = 121
    · subst h1; rw [ud_eq, cel_121]
    · rw [ud_ne _ _ h1]
      by_cases h2 : j < 121
      · rw [fin_lt h2, hc0 j h2]
      · rw [fin_ge (by omega)]
  refine m_tables (ok.v hE (by decide) (by omega)) (fun P D F hP hD w1 w2 w3 => ?_)
  exact V_retM ok hE or dX12_init_351 (by omega) (tS_fr _ _ _ _) (mT_of hP hD)
/-- the first invariant -/
theorem I0_gR {k : Nat} (hk : kd k = 5) (hk1 : kd (k + 1) = 13) (h6 : k + 1 ≠ 136) : gR (I0z k 0) (I0z (k + 1)) := by
  have e1 : I0z k 0 = 6 := by unfold I0z; rw [if_pos ⟨hk, rfl⟩]
  have e2 : k + 1 ≠ 121 := fun q => by rw [q] at hk1; revert hk1; decide
  have e3 : I0z (k + 1) = fun _ => 0 := by
    funext j; unfold I0z
    rw [if_neg (by rw [hk1]; omega), if_neg (by rw [hk1]; omega), if_neg (by omega), if_neg (by omega)]
  rw [e1, e3]
  exact gR_z ⟨by omega, by omega⟩
theorem I0_0 {k : Nat} (h5 : kd k ≠ 5) (h2 : kd k ≠ 2) (h1 : k ≠ 121) (h6 : k ≠ 136) (j : Int) : I0z k j = 0 := by
  unfold I0z
  rw [if_neg (fun q => h5 q.1), if_neg (fun q => h2 q.1), if_neg (fun q => h1 q.1), if_neg (fun q => h6 q.1)]
theorem Inv_0 {I1 : Mz} (hf : fr [126, 127, 128] I0z I1) (hm : mT I1) : Inv I1 J0z := by
  have e : ∀ a, [126, 127, 128].contains a = false → I1 a = I0z a := fun a ha => hf.at a ha
  have z : ∀ a, [126, 127, 128].contains a = false → kd a ≠ 5 → kd a ≠ 2 → a ≠ 121 → a ≠ 136 → ∀ j, I1 a j = 0 := fun a h1 h2 h3 h4 h5 j => by rw [e a h1]; exact I0_0 h2 h3 h4 h5 j
  have zf : ∀ a, [126, 127, 128].contains a = false → kd a ≠ 5 → kd a ≠ 2 → a ≠ 121 → a ≠ 136 → I1 a = fun _ => 0 := fun a h1 h2 h3 h4 h5 => funext (z a h1 h2 h3 h4 h5)
  have q121 : ∀ j : Int, j ≠ 0 → I1 121 j = 0 := fun j hj => by
    rw [e 121 rfl]; unfold I0z
    rw [if_neg (fun q => by revert q; simp [show kd 121 = 12 from rfl]), if_neg (fun q => by revert q; simp [show kd 121 = 12 from rfl]), if_neg (fun q => hj q.2), if_neg (fun q => by omega)]
  have n121 : I1 121 0 = 6 := by rw [e 121 rfl]; rfl
  have n2 : I1 2 0 = 6 := by rw [e 2 rfl]; rfl
  refine ⟨⟨⟨?_, ?_, ?_⟩, ?_, ?_, ?_⟩, ⟨?_, ?_, ?_, ?_, ?_, ?_⟩, ⟨?_, ?_, ?_⟩, ⟨⟨?_, ?_⟩, ?_, ?_⟩, ⟨?_, ?_, ?_⟩, ?_, hm⟩
  · rw [e 2 rfl, e 3 rfl]; exact I0_gR rfl rfl (by decide)
  · rw [n121, n2]
  · rw [zf 122 rfl (by decide) (by decide) (by decide) (by decide), zf 3 rfl (by decide) (by decide) (by decide) (by decide)]
  · have e4 := z 4 rfl (by decide) (by decide) (by decide) (by decide) 0
    exact ⟨⟨by rw [e4]; omega, fun i a b => by rw [e4] at b; omega⟩, by rw [q121 3 (by decide), e4], fun i a b => by rw [e4] at b; omega⟩
  · have e4 := z 8 rfl (by decide) (by decide) (by decide) (by decide) 0
    exact ⟨⟨by rw [e4]; omega, fun i a b => by rw [e4] at b; omega⟩, by rw [z 124 rfl (by decide) (by decide) (by decide) (by decide), e4], fun i a b => by rw [e4] at b; omega⟩
  · have e4 := z 26 rfl (by decide) (by decide) (by decide) (by decide) 0
    exact ⟨⟨by rw [e4]; omega, fun i a b => by rw [e4] at b; omega⟩, by rw [z 124 rfl (by decide) (by decide) (by decide) (by decide), e4], fun i a b => by rw [e4] at b; omega⟩
  · exact Or.inl (z 0 rfl (by decide) (by decide) (by decide) (by decide) 2)
  · rw [q121 30 (by decide), z 0 rfl (by decide) (by decide) (by decide) (by decide) 2]
  · rw [e 45 rfl, e 46 rfl]; exact I0_gR rfl rfl (by decide)
  · rw [z 51 rfl (by decide) (by decide) (by decide) (by decide) 0]; omega
  · rw [z 69 rfl (by decide) (by decide) (by decide) (by decide) 0]; omega
  · intro q; rw [z 0 rfl (by decide) (by decide) (by decide) (by decide) 2] at q; omega
  · intro i i0 i1
    have hi : i = 0 ∨ i = 1 ∨ i = 2 := by omega
    refine ⟨?_, fun j => by show (-9223372036854775808 : Int) ≤ 0 ∧ (0 : Int) ≤ 9223372036854775807; omega⟩
    rcases hi with rfl | rfl | rfl
    · rw [show lc 0 = 104 from rfl, e 104 rfl]; show (-1 : Int) ≤ -1 ∧ (-1 : Int) ≤ 30; omega
    · rw [show lc 1 = 106 from rfl, e 106 rfl]; show (-1 : Int) ≤ -1 ∧ (-1 : Int) ≤ 30; omega
    · rw [show lc 2 = 108 from rfl, e 108 rfl]; show (-1 : Int) ≤ -1 ∧ (-1 : Int) ≤ 30; omega
  · intro i i0 i1
    have hi : i = 0 ∨ i = 1 ∨ i = 2 := by omega
    refine ⟨?_, fun j _ _ => rfl⟩
    rcases hi with rfl | rfl | rfl
    · rw [show lc 0 = 104 from rfl, e 104 rfl, e 136 rfl]; rfl
    · rw [show lc 1 = 106 from rfl, e 106 rfl, e 136 rfl]; rfl
    · rw [show lc 2 = 108 from rfl, e 108 rfl, e 136 rfl]; rfl
  · intro j; show (-9223372036854775808 : Int) ≤ 0 ∧ (0 : Int) ≤ 9223372036854775807; omega
  · rw [z 110 rfl (by decide) (by decide) (by decide) (by decide) 2]; omega
  · intro j a b; rw [z 110 rfl (by decide) (by decide) (by decide) (by decide) 2] at b; omega
  · rw [q121 25 (by decide), z 110 rfl (by decide) (by decide) (by decide) (by decide) 2]
  · rw [zf 141 rfl (by decide) (by decide) (by decide) (by decide), zf 111 rfl (by decide) (by decide) (by decide) (by decide)]
  · exact Or.inl (z 87 rfl (by decide) (by decide) (by decide) (by decide) 0)
  · exact Or.inl (z 87 rfl (by decide) (by decide) (by decide) (by decide) 1)
  · refine ⟨?_, Or.inl (z 96 rfl (by decide) (by decide) (by decide) (by decide) 2)⟩
    rw [e 97 rfl, e 98 rfl]; exact I0_gR rfl rfl (by decide)
  · exact Or.inl (z 100 rfl (by decide) (by decide) (by decide) (by decide) 2)
