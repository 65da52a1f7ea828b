/-! numbers that many methods ask for -/
def isP (p n : Int) : Prop := 2 ≤ p ∧ p ≤ n ∧ n % p = 0 ∧ ∀ d, 2 ≤ d → d < p → p % d ≠ 0
def shr (u n : Int) : Prop := ∃ d, 2 ≤ d ∧ d ≤ n ∧ u % d = 0 ∧ n % d = 0
def cCh (a v n : Int) : Prop := (a = 1 → (1 ≤ v ∧ v ≤ 99) ∧ ¬ shr v n) ∧ (a = 3 → isP v n)
def mv (a v n e : Int) : Int := if a = 0 then (e + v) % n else if a = 2 then (n - e) % n else e * v % n
def lsF (n p : Int) : Nat → Int → Int
  | 0, t => t
  | m + 1, t => if t % p = 1 then t else lsF n p m (t + n / p)
def lst (n p : Int) : Int := if n % (p * p) = 0 then 1 else lsF n p (p - 1).toNat (n / p)
theorem xor_s {a b : Int} (ha : -2147483648 ≤ a ∧ a ≤ 2147483647) (hb : 0 ≤ b ∧ b ≤ 2147483647) : (0 ≤ (Int32.ofInt a ^^^ Int32.ofInt b).toInt) ↔ 0 ≤ a := by
  have e1 : (Int32.ofInt a ^^^ Int32.ofInt b).toBitVec.msb = ((Int32.ofInt a).toBitVec.msb ^^ (Int32.ofInt b).toBitVec.msb) := by rw [Int32.toBitVec_xor, BitVec.msb_xor]
  rw [BitVec.msb_eq_toInt, BitVec.msb_eq_toInt, BitVec.msb_eq_toInt] at e1
  have e2 : (Int32.ofInt a).toBitVec.toInt = a := t32 ha
  have e3 : (Int32.ofInt b).toBitVec.toInt = b := t32 (by omega)
  have e4 : (Int32.ofInt a ^^^ Int32.ofInt b).toBitVec.toInt = (Int32.ofInt a ^^^ Int32.ofInt b).toInt := rfl
  rw [e2, e3, e4] at e1
  have hb0 : decide (b < 0) = false := by simp; omega
  rw [hb0, Bool.xor_false] at e1
  have := decide_eq_decide.mp e1
  omega
theorem tmod_e {x y : Int} (hy : 0 < y) : (if 0 ≤ x ∨ x.tmod y = 0 then x.tmod y else x.tmod y + y) = x % y := by
  have h1 := Int.tmod_eq_emod (a := x) (b := y)
  by_cases h : 0 ≤ x
  · rw [if_pos (Or.inl h)]; rw [if_pos (Or.inl h)] at h1; omega
  · by_cases h2 : y ∣ x
    · rw [if_pos (Or.inr h2)] at h1
      have h3 := Int.emod_eq_zero_of_dvd h2
      rw [if_pos (Or.inr (by omega))]; omega
    · rw [if_neg (by rintro (q | q); exact h q; exact h2 q)] at h1
      have h3 := em_b x hy
      have h5 : (y.natAbs : Int) = y := Int.natAbs_of_nonneg (by omega)
      rw [if_neg (by rintro (q | q); exact h q; omega)]; omega
theorem rc_kd {k : Nat} {j : Int} (h : kd k = 6) (hj : j.toNat < 8) : kd (rc k j) = 5 := sh_rkd h hj
theorem rc_rf {k : Nat} {j : Int} (h : kd k = 6) (hj : j.toNat < 8) : rf (k + 1) j.toNat = rc k j := sh_row h hj
section
variable {l : Launch} {G : Gw} {I J : Mz}
theorem Z_ixor {E : Ev} {own : String} {cc : ByteArray} {n d pc : Nat} {lo : List (Option Value)} {st : List Value} (ok : Ok E G own cc n d) {a b : Int} (hd : decode cc pc = .ok (.ixor, 1)) (ha : -2147483648 ≤ a ∧ a ≤ 2147483647) (hb : 0 ≤ b ∧ b ≤ 2147483647) (k : ∀ w : Int, (-2147483648 ≤ w ∧ w ≤ 2147483647) → (0 ≤ w ↔ 0 ≤ a) → Xz E G I J (pc + 1) lo (zi w :: st)) : Xz E G I J pc lo (zi b :: zi a :: st) := by
  have h := k (Int32.ofInt a ^^^ Int32.ofInt b).toInt ⟨Int32.le_toInt _, Int.le_of_lt_add_one (Int32.toInt_lt _)⟩ (xor_s ha hb)
  refine V_ixor ok hd ?_
  have e : zi (Int32.ofInt a ^^^ Int32.ofInt b).toInt = .int (Int32.ofInt a ^^^ Int32.ofInt b) := by simp [zi]
  rw [e] at h
  exact h
theorem Met.ofF {y : MethodName} {ws ws' : List Cond} {rm : Room} {Pc : Array Value → State → Prop} {Qc : Array Value → State → Outcome → State → Prop} {mc ms : Nat} {fr : Addr → Prop} {cc : ByteArray} {maxL : Nat} {ret : Option FieldType}
    (hy : plainFor y = true) (hw : ws = Cond.code y cc maxL ret :: ws')
    (body : ∀ p e s m args below meth c s₁, BodyLoose p l y (headSpec ws rm) cc maxL ret e s m args below meth c s₁ → c.maxLocals = maxL → Pc args s → W p l e (headSpec ws rm).room s m args below meth c s.heap [] 0 0 (MQ below Qc args s mc ms fr) (entryFrame m args maxL)) : Met l y ws rm Pc Qc mc ms fr := by
  refine MetFree.of_bodySF (code := cc) (maxLocals := maxL) (ret := ret) hy ?_ ?_
  · intro args s m h hn
    obtain ⟨meth, c, h1, h2, h3, h4, h5, h6, -, -⟩ := Cond.code_spec hn (atoms_spec (ws := ws) h _ (by rw [hw]; exact List.mem_cons_self))
    exact ⟨meth, c, h1, h2, h3, h4, h5, h6⟩
  · intro p e s m args below meth c s₁ B hml hP _
    obtain ⟨t, a1, o, b1, b2, b3⟩ := body p e s m args below meth c s₁ B hml hP s₁ (by rw [B.state]; rfl) (Stand.of_body B)
    exact ⟨t, o, a1, b1, b2, ⟨b3.1, b3.2⟩⟩
theorem Cz.ofF {y : MethodName} {cc : ByteArray} {n : Nat} {ret : Option FieldType} {d : Nat} {as : List Value} {post : Option Value → Mz → Mz → Prop} (hy : plainFor y = true) (hn : (lg_sl as).length ≤ n) (lo : List (Option Value)) (hlo : lo = loE as ++ List.replicate (n - (lg_sl as).length) none)
    (body : ∀ E : Ev, Ok E G y.cls cc n d → Oz E G ret post → E.2.1 = l → Xz E G I J 0 lo []) : Cz l y cc n ret d G as I J post := by
  refine Met.ofF (cc := cc) (maxL := n) (ret := ret) hy rfl ?_
  intro p e s m args below meth c s₁ B hml hv
  obtain ⟨rfl, ⟨hP, hK⟩, hj⟩ := hv
  have hts := atoms_spec (ws := .code y cc n ret :: mS) B.pre
  have hown : s.vm.findClass y.cls = some m.cls := findClass_of_methodNamed B.named
  have hl := lv_entry as (n := n) hn
  rw [lg_entry_eq]
  refine body (p, l, e, rmD d, s, m, as.toArray, below, meth, c, MQ below (Qw G (pZ post)) as.toArray s 0 0 (Aw G), Aw G, n, 0, 0) ⟨B.exec, B.bytes, hml, hown, fun w hw => hts w (List.mem_cons_of_mem _ hw), hK, hj, fun _ h => h, rfl, Nat.le_refl _, Nat.le_refl _, Nat.le_refl _, Nat.le_refl _⟩ ⟨B.returns, B.notSynchronized, rfl, rfl⟩ rfl s.heap [] hP va_S.rf _ ⟨hl.1, hl.2.1, fun i v hi => ?_⟩
  subst hlo
  by_cases hlt : i < (loE as).length
  · rw [List.getElem?_append_left hlt] at hi
    have := loE_args as 0 i v hi
    rw [Nat.zero_add] at this
    exact hl.2.2 (i, v) this
  · rw [List.getElem?_append_right (by omega)] at hi
    have h3 := List.mem_of_getElem? hi
    rw [List.mem_replicate] at h3
    cases h3.2
theorem c_floorMod {x y : Int} (hx : -2147483648 ≤ x ∧ x ≤ 2147483647) (hy : 0 < y ∧ y ≤ 30) : K_J9_floorMod_7cf53 l G [zi x, zi y] I J (pR (some (zi (x % y))) I J) := by
  have h1 := tmod_e (x := x) hy.1
  have h2 := em_b x hy.1
  have h3 : -y ≤ x.tmod y ∧ x.tmod y < y := by
    by_cases h : 0 ≤ x ∨ x.tmod y = 0
    · rw [if_pos h] at h1; omega
    · rw [if_neg h] at h1; omega
  refine Cz.ofF (by decide +kernel) (Nat.le_of_ble_eq_true rfl) [some (zi x), some (zi y), none] rfl (fun E ok okr hE => ?_)
  refine Z_iload0 (pc := 0) ok dJ9_floorMod_7cf53_0 ?_
  refine Z_iload1 (pc := 1) ok dJ9_floorMod_7cf53_1 ?_
  refine Z_iremT (pc := 2) ok dJ9_floorMod_7cf53_2 hx hy.1 (by omega) ?_
  refine Z_istore2 (pc := 3) ok (by decide) dJ9_floorMod_7cf53_3 rfl ?_
  refine Z_iload0 (pc := 4) ok dJ9_floorMod_7cf53_4 ?_
  refine Z_iload1 (pc := 5) ok dJ9_floorMod_7cf53_5 ?_
  refine Z_ixor (pc := 6) ok dJ9_floorMod_7cf53_6 hx (by omega) (fun w hw hs => ?_)
  refine Z_if_ge (pc := 7) (tgt := 18) ok dJ9_floorMod_7cf53_7 rfl hw (fun h => ?_) (fun h => ?_)
  · refine Z_iload2 (pc := 18) ok dJ9_floorMod_7cf53_18 ?_
    refine Z_iret (pc := 19) ok okr dJ9_floorMod_7cf53_19 ?_
    rw [if_pos (Or.inl (hs.mp h))] at h1
    exact ⟨by rw [h1], rfl, rfl⟩
  · refine Z_iload2 (pc := 10) ok dJ9_floorMod_7cf53_10 ?_
    refine Z_if_eq (pc := 11) (tgt := 18) ok dJ9_floorMod_7cf53_11 rfl (by omega) (fun h4 => ?_) (fun h4 => ?_)
    · refine Z_iload2 (pc := 18) ok dJ9_floorMod_7cf53_18 ?_
      refine Z_iret (pc := 19) ok okr dJ9_floorMod_7cf53_19 ?_
      rw [if_pos (Or.inr h4)] at h1
      exact ⟨by rw [h1], rfl, rfl⟩
    · refine Z_iload2 (pc := 14) ok dJ9_floorMod_7cf53_14 ?_
      refine Z_iload1 (pc := 15) ok dJ9_floorMod_7cf53_15 ?_
      refine Z_iadd (pc := 16) ok dJ9_floorMod_7cf53_16 ?_
      refine Z_iret (pc := 17) ok okr dJ9_floorMod_7cf53_17 ?_
      rw [if_neg (by rintro (q | q); have := hs.mpr q; omega; exact h4 q)] at h1
      exact ⟨by rw [h1], rfl, rfl⟩
theorem c_isBase {a : Int} (ha : -2147483648 ≤ a ∧ a ≤ 2147483647) : K_X11_isBase l G [zi a] I J (pR (some (zi (zb (2 ≤ a ∧ a ≤ 30)))) I J) := by
  refine Cz.of rfl (Nat.le_of_ble_eq_true rfl) [some (zi a)] rfl (fun E ok okr hE => ?_)
  refine Z_iload0 (pc := 0) ok dX11_isBase_0 ?_
  refine Z_iconst (pc := 1) ok dX11_isBase_1 ?_
  refine Z_icmp_lt (pc := 2) (tgt := 15) ok dX11_isBase_2 rfl (by omega) (by omega) (fun h2 => ?_) (fun h2 => ?_)
  · refine Z_iconst (pc := 15) ok dX11_isBase_15 ?_
    refine Z_bret (pc := 16) ok okr dX11_isBase_16 (by first | exact Or.inl rfl | exact Or.inr rfl | exact zb_01 _ | assumption | omega) ?_
    first | (exfalso; omega) | exact ⟨rfl, rfl, rfl⟩ | exact ⟨by rw [zb_t (by omega)], rfl, rfl⟩ | exact ⟨by rw [zb_f (by omega)], rfl, rfl⟩
  · refine Z_iload0 (pc := 5) ok dX11_isBase_5 ?_
    refine Z_bipush (pc := 6) ok dX11_isBase_6 (by decide) ?_
    refine Z_icmp_gt (pc := 8) (tgt := 15) ok dX11_isBase_8 rfl (by omega) (by omega) (fun h8 => ?_) (fun h8 => ?_)
    · refine Z_iconst (pc := 15) ok dX11_isBase_15 ?_
      refine Z_bret (pc := 16) ok okr dX11_isBase_16 (by first | exact Or.inl rfl | exact Or.inr rfl | exact zb_01 _ | assumption | omega) ?_
      first | (exfalso; omega) | exact ⟨rfl, rfl, rfl⟩ | exact ⟨by rw [zb_t (by omega)], rfl, rfl⟩ | exact ⟨by rw [zb_f (by omega)], rfl, rfl⟩
    · refine Z_iconst (pc := 11) ok dX11_isBase_11 ?_
      refine Z_goto (pc := 12) (tgt := 16) ok dX11_isBase_12 rfl ?_
      refine Z_bret (pc := 16) ok okr dX11_isBase_16 (by first | exact Or.inl rfl | exact Or.inr rfl | exact zb_01 _ | assumption | omega) ?_
      first | (exfalso; omega) | exact ⟨rfl, rfl, rfl⟩ | exact ⟨by rw [zb_t (by omega)], rfl, rfl⟩ | exact ⟨by rw [zb_f (by omega)], rfl, rfl⟩
theorem c_isShelf {a : Int} (ha : -2147483648 ≤ a ∧ a ≤ 2147483647) : K_X11_isShelf l G [zi a] I J (pR (some (zi (zb (0 ≤ a ∧ a < 2)))) I J) := by
  refine Cz.of rfl (Nat.le_of_ble_eq_true rfl) [some (zi a)] rfl (fun E ok okr hE => ?_)
  refine Z_iload0 (pc := 0) ok dX11_isShelf_0 ?_
  refine Z_if_lt (pc := 1) (tgt := 13) ok dX11_isShelf_1 rfl (by omega) (fun h1 => ?_) (fun h1 => ?_)
  · refine Z_iconst (pc := 13) ok dX11_isShelf_13 ?_
    refine Z_bret (pc := 14) ok okr dX11_isShelf_14 (by first | exact Or.inl rfl | exact Or.inr rfl | exact zb_01 _ | assumption | omega) ?_
    first | (exfalso; omega) | exact ⟨rfl, rfl, rfl⟩ | exact ⟨by rw [zb_t (by omega)], rfl, rfl⟩ | exact ⟨by rw [zb_f (by omega)], rfl, rfl⟩
  · refine Z_iload0 (pc := 4) ok dX11_isShelf_4 ?_
    refine Z_iconst (pc := 5) ok dX11_isShelf_5 ?_
    refine Z_icmp_ge (pc := 6) (tgt := 13) ok dX11_isShelf_6 rfl (by omega) (by omega) (fun h6 => ?_) (fun h6 => ?_)
    · refine Z_iconst (pc := 13) ok dX11_isShelf_13 ?_
      refine Z_bret (pc := 14) ok okr dX11_isShelf_14 (by first | exact Or.inl rfl | exact Or.inr rfl | exact zb_01 _ | assumption | omega) ?_
      first | (exfalso; omega) | exact ⟨rfl, rfl, rfl⟩ | exact ⟨by rw [zb_t (by omega)], rfl, rfl⟩ | exact ⟨by rw [zb_f (by omega)], rfl, rfl⟩
    · refine Z_iconst (pc := 9) ok dX11_isShelf_9 ?_
      refine Z_goto (pc := 10) (tgt := 14) ok dX11_isShelf_10 rfl ?_
      refine Z_bret (pc := 14) ok okr dX11_isShelf_14 (by first | exact Or.inl rfl | exact Or.inr rfl | exact zb_01 _ | assumption | omega) ?_
      first | (exfalso; omega) | exact ⟨rfl, rfl, rfl⟩ | exact ⟨by rw [zb_t (by omega)], rfl, rfl⟩ | exact ⟨by rw [zb_f (by omega)], rfl, rfl⟩
theorem c_isList {a : Int} (ha : -2147483648 ≤ a ∧ a ≤ 2147483647) : K_X11_isList l G [zi a] I J (pR (some (zi (zb (0 ≤ a ∧ a < 3)))) I J) := by
  refine Cz.of rfl (Nat.le_of_ble_eq_true rfl) [some (zi a)] rfl (fun E ok okr hE => ?_)
  refine Z_iload0 (pc := 0) ok dX11_isList_0 ?_
  refine Z_if_lt (pc := 1) (tgt := 13) ok dX11_isList_1 rfl (by omega) (fun h1 => ?_) (fun h1 => ?_)
  · refine Z_iconst (pc := 13) ok dX11_isList_13 ?_
    refine Z_bret (pc := 14) ok okr dX11_isList_14 (by first | exact Or.inl rfl | exact Or.inr rfl | exact zb_01 _ | assumption | omega) ?_
    first | (exfalso; omega) | exact ⟨rfl, rfl, rfl⟩ | exact ⟨by rw [zb_t (by omega)], rfl, rfl⟩ | exact ⟨by rw [zb_f (by omega)], rfl, rfl⟩
  · refine Z_iload0 (pc := 4) ok dX11_isList_4 ?_
    refine Z_iconst (pc := 5) ok dX11_isList_5 ?_
    refine Z_icmp_ge (pc := 6) (tgt := 13) ok dX11_isList_6 rfl (by omega) (by omega) (fun h6 => ?_) (fun h6 => ?_)
    · refine Z_iconst (pc := 13) ok dX11_isList_13 ?_
      refine Z_bret (pc := 14) ok okr dX11_isList_14 (by first | exact Or.inl rfl | exact Or.inr rfl | exact zb_01 _ | assumption | omega) ?_
      first | (exfalso; omega) | exact ⟨rfl, rfl, rfl⟩ | exact ⟨by rw [zb_t (by omega)], rfl, rfl⟩ | exact ⟨by rw [zb_f (by omega)], rfl, rfl⟩
    · refine Z_iconst (pc := 9) ok dX11_isList_9 ?_
      refine Z_goto (pc := 10) (tgt := 14) ok dX11_isList_10 rfl ?_
      refine Z_bret (pc := 14) ok okr dX11_isList_14 (by first | exact Or.inl rfl | exact Or.inr rfl | exact zb_01 _ | assumption | omega) ?_
      first | (exfalso; omega) | exact ⟨rfl, rfl, rfl⟩ | exact ⟨by rw [zb_t (by omega)], rfl, rfl⟩ | exact ⟨by rw [zb_f (by omega)], rfl, rfl⟩
theorem c_isPrimeOf {p n : Int} (hp : -2147483648 ≤ p ∧ p ≤ 2147483647) (hn : 2 ≤ n ∧ n ≤ 30) : K_X11_isPrimeOf l G [zi p, zi n] I J (pR (some (zi (zb (isP p n)))) I J) := by
  refine Cz.of rfl (Nat.le_of_ble_eq_true rfl) [some (zi p), some (zi n), none] rfl (fun E ok okr hE => ?_)
  refine Z_iload0 (pc := 0) ok dX11_isPrimeOf_0 ?_
  refine Z_iconst (pc := 1) ok dX11_isPrimeOf_1 ?_
  refine Z_icmp_lt (pc := 2) (tgt := 16) ok dX11_isPrimeOf_2 rfl (by omega) (by omega) (fun h1 => ?_) (fun h1 => ?_)
  · refine Z_iconst (pc := 16) ok dX11_isPrimeOf_16 ?_
    refine Z_bret (pc := 17) ok okr dX11_isPrimeOf_17 (by first | exact Or.inl rfl | exact Or.inr rfl | exact zb_01 _ | assumption | omega) ?_
    exact ⟨by rw [zb_f (fun q => by have := q.1; omega)], rfl, rfl⟩
  · refine Z_iload0 (pc := 5) ok dX11_isPrimeOf_5 ?_
    refine Z_iload1 (pc := 6) ok dX11_isPrimeOf_6 ?_
    refine Z_icmp_gt (pc := 7) (tgt := 16) ok dX11_isPrimeOf_7 rfl (by omega) (by omega) (fun h2 => ?_) (fun h2 => ?_)
    · refine Z_iconst (pc := 16) ok dX11_isPrimeOf_16 ?_
      refine Z_bret (pc := 17) ok okr dX11_isPrimeOf_17 (by first | exact Or.inl rfl | exact Or.inr rfl | exact zb_01 _ | assumption | omega) ?_
      exact ⟨by rw [zb_f (fun q => by have := q.2.1; omega)], rfl, rfl⟩
    · refine Z_iload1 (pc := 10) ok dX11_isPrimeOf_10 ?_
      refine Z_iload0 (pc := 11) ok dX11_isPrimeOf_11 ?_
      refine Z_irem (pc := 12) ok dX11_isPrimeOf_12 (by omega) (by omega) (by omega) (by omega) ?_
      refine Z_if_eq (pc := 13) (tgt := 18) ok dX11_isPrimeOf_13 rfl (em_r (by omega) (by omega)) (fun h3 => ?_) (fun h3 => ?_)
      · refine Z_iconst (pc := 18) ok dX11_isPrimeOf_18 ?_
        refine Z_istore2 (pc := 19) ok (by decide) dX11_isPrimeOf_19 rfl ?_
        have H : ∀ d : Int, 2 ≤ d → d ≤ p → (∀ j, 2 ≤ j → j < d → p % j ≠ 0) → Xz E G I J 20 [some (zi p), some (zi n), some (zi d)] [] := by
          refine zUp ?_ ?_
          · intro hj
            refine Z_iload2 (pc := 20) ok dX11_isPrimeOf_20 ?_
            refine Z_iload0 (pc := 21) ok dX11_isPrimeOf_21 ?_
            refine Z_icmp_ge (pc := 22) (tgt := 39) ok dX11_isPrimeOf_22 rfl (by omega) (by omega) (fun _ => ?_) (fun h => by exfalso; omega)
            refine Z_iconst (pc := 39) ok dX11_isPrimeOf_39 ?_
            refine Z_bret (pc := 40) ok okr dX11_isPrimeOf_40 (by first | exact Or.inl rfl | exact Or.inr rfl | exact zb_01 _ | assumption | omega) ?_
            exact ⟨by rw [zb_t ⟨h1, h2, h3, hj⟩], rfl, rfl⟩
          · intro d d0 d1 ih hj
            refine Z_iload2 (pc := 20) ok dX11_isPrimeOf_20 ?_
            refine Z_iload0 (pc := 21) ok dX11_isPrimeOf_21 ?_
            refine Z_icmp_ge (pc := 22) (tgt := 39) ok dX11_isPrimeOf_22 rfl (by omega) (by omega) (fun h => by exfalso; omega) (fun _ => ?_)
            refine Z_iload0 (pc := 25) ok dX11_isPrimeOf_25 ?_
            refine Z_iload2 (pc := 26) ok dX11_isPrimeOf_26 ?_
            refine Z_irem (pc := 27) ok dX11_isPrimeOf_27 (by omega) (by omega) (by omega) (by omega) ?_
            refine Z_if_ne (pc := 28) (tgt := 33) ok dX11_isPrimeOf_28 rfl (em_r (by omega) (by omega)) (fun hd => ?_) (fun hd => ?_)
            · refine Z_iinc2 (pc := 33) ok (by decide) dX11_isPrimeOf_33 rfl ?_
              refine Z_goto (pc := 36) (tgt := 20) ok dX11_isPrimeOf_36 rfl ?_
              exact ih (fun j h3 h4 => by by_cases h5 : j = d; subst h5; exact hd; exact hj j h3 (by omega))
            · refine Z_iconst (pc := 31) ok dX11_isPrimeOf_31 ?_
              refine Z_bret (pc := 32) ok okr dX11_isPrimeOf_32 (by first | exact Or.inl rfl | exact Or.inr rfl | exact zb_01 _ | assumption | omega) ?_
              exact ⟨by rw [zb_f (fun q => q.2.2.2 d d0 d1 hd)], rfl, rfl⟩
        exact H 2 (by omega) (by omega) (fun j h3 h4 => by omega)
      · refine Z_iconst (pc := 16) ok dX11_isPrimeOf_16 ?_
        refine Z_bret (pc := 17) ok okr dX11_isPrimeOf_17 (by first | exact Or.inl rfl | exact Or.inr rfl | exact zb_01 _ | assumption | omega) ?_
        exact ⟨by rw [zb_f (fun q => h3 q.2.2.1)], rfl, rfl⟩
theorem c_shareDivisor {u n : Int} (hu : 0 ≤ u ∧ u ≤ 2147483647) (hn : 2 ≤ n ∧ n ≤ 30) : K_X11_shareDivisor l G [zi u, zi n] I J (pR (some (zi (zb (shr u n)))) I J) := by
  refine Cz.of rfl (Nat.le_of_ble_eq_true rfl) [some (zi u), some (zi n), none] rfl (fun E ok okr hE => ?_)
  refine Z_iconst (pc := 0) ok dX11_shareDivisor_0 ?_
  refine Z_istore2 (pc := 1) ok (by decide) dX11_shareDivisor_1 rfl ?_
  have H : ∀ d : Int, 2 ≤ d → d ≤ n + 1 → (∀ j, 2 ≤ j → j < d → ¬ (u % j = 0 ∧ n % j = 0)) → Xz E G I J 2 [some (zi u), some (zi n), some (zi d)] [] := by
    refine zUp ?_ ?_
    · intro hj
      refine Z_iload2 (pc := 2) ok dX11_shareDivisor_2 ?_
      refine Z_iload1 (pc := 3) ok dX11_shareDivisor_3 ?_
      refine Z_icmp_gt (pc := 4) (tgt := 27) ok dX11_shareDivisor_4 rfl (by omega) (by omega) (fun _ => ?_) (fun h => by exfalso; omega)
      refine Z_iconst (pc := 27) ok dX11_shareDivisor_27 ?_
      refine Z_bret (pc := 28) ok okr dX11_shareDivisor_28 (by first | exact Or.inl rfl | exact Or.inr rfl | exact zb_01 _ | assumption | omega) ?_
      exact ⟨by rw [zb_f (fun ⟨d, q1, q2, q3⟩ => hj d q1 (by omega) q3)], rfl, rfl⟩
    · intro d d0 d1 ih hj
      refine Z_iload2 (pc := 2) ok dX11_shareDivisor_2 ?_
      refine Z_iload1 (pc := 3) ok dX11_shareDivisor_3 ?_
      refine Z_icmp_gt (pc := 4) (tgt := 27) ok dX11_shareDivisor_4 rfl (by omega) (by omega) (fun h => by exfalso; omega) (fun _ => ?_)
      refine Z_iload0 (pc := 7) ok dX11_shareDivisor_7 ?_
      refine Z_iload2 (pc := 8) ok dX11_shareDivisor_8 ?_
      refine Z_irem (pc := 9) ok dX11_shareDivisor_9 (by omega) (by omega) (by omega) (by omega) ?_
      refine Z_if_ne (pc := 10) (tgt := 21) ok dX11_shareDivisor_10 rfl (em_r (by omega) (by omega)) (fun hd => ?_) (fun hd => ?_)
      · refine Z_iinc2 (pc := 21) ok (by decide) dX11_shareDivisor_21 rfl ?_
        refine Z_goto (pc := 24) (tgt := 2) ok dX11_shareDivisor_24 rfl ?_
        exact ih (fun j h3 h4 => by by_cases h5 : j = d; subst h5; exact fun q => hd q.1; exact hj j h3 (by omega))
      · refine Z_iload1 (pc := 13) ok dX11_shareDivisor_13 ?_
        refine Z_iload2 (pc := 14) ok dX11_shareDivisor_14 ?_
        refine Z_irem (pc := 15) ok dX11_shareDivisor_15 (by omega) (by omega) (by omega) (by omega) ?_
        refine Z_if_ne (pc := 16) (tgt := 21) ok dX11_shareDivisor_16 rfl (em_r (by omega) (by omega)) (fun he => ?_) (fun he => ?_)
        · refine Z_iinc2 (pc := 21) ok (by decide) dX11_shareDivisor_21 rfl ?_
          refine Z_goto (pc := 24) (tgt := 2) ok dX11_shareDivisor_24 rfl ?_
          exact ih (fun j h3 h4 => by by_cases h5 : j = d; subst h5; exact fun q => he q.2; exact hj j h3 (by omega))
        · refine Z_iconst (pc := 19) ok dX11_shareDivisor_19 ?_
          refine Z_bret (pc := 20) ok okr dX11_shareDivisor_20 (by first | exact Or.inl rfl | exact Or.inr rfl | exact zb_01 _ | assumption | omega) ?_
          exact ⟨by rw [zb_t ⟨d, d0, by omega, hd, he⟩], rfl, rfl⟩
  exact H 2 (by omega) (by omega) (fun j h3 h4 => by omega)
theorem c_canChange {a v n : Int} (ha : 0 ≤ a ∧ a ≤ 3) (hv : -2147483648 ≤ v ∧ v ≤ 2147483647) (hn : 2 ≤ n ∧ n ≤ 30) : K_X11_canChange l G [zi a, zi v, zi n] I J (pR (some (zi (zb (cCh a v n)))) I J) := by
  refine Cz.of rfl (Nat.le_of_ble_eq_true rfl) [some (zi a), some (zi v), some (zi n)] rfl (fun E ok okr hE => ?_)
  refine Z_iload0 (pc := 0) ok dX11_canChange_0 ?_
  refine Z_iconst (pc := 1) ok dX11_canChange_1 ?_
  refine Z_icmp_ne (pc := 2) (tgt := 30) ok dX11_canChange_2 rfl (by omega) (by omega) (fun h1 => ?_) (fun h1 => ?_)
  · refine Z_iload0 (pc := 30) ok dX11_canChange_30 ?_
    refine Z_iconst (pc := 31) ok dX11_canChange_31 ?_
    refine Z_icmp_ne (pc := 32) (tgt := 43) ok dX11_canChange_32 rfl (by omega) (by omega) (fun h2 => ?_) (fun h2 => ?_)
    · refine Z_iconst (pc := 43) ok dX11_canChange_43 ?_
      refine Z_goto (pc := 44) (tgt := 48) ok dX11_canChange_44 rfl ?_
      refine Z_bret (pc := 48) ok okr dX11_canChange_48 (by first | exact Or.inl rfl | exact Or.inr rfl | exact zb_01 _ | assumption | omega) ?_
      exact ⟨by rw [zb_t ⟨fun q => absurd q h1, fun q => absurd q h2⟩], rfl, rfl⟩
    · refine Z_iload1 (pc := 35) ok dX11_canChange_35 ?_
      refine Z_iload2 (pc := 36) ok dX11_canChange_36 ?_
      refine Z_callSId (pc := 37) ok dX11_canChange_37 cw_X11_168 (c_isPrimeOf hv hn) rfl rfl (by decide) (Nat.le_of_ble_eq_true rfl) ?_
      refine Z_if_eqB (pc := 40) (tgt := 47) ok dX11_canChange_40 rfl (fun h3 => ?_) (fun h3 => ?_)
      · refine Z_iconst (pc := 47) ok dX11_canChange_47 ?_
        refine Z_bret (pc := 48) ok okr dX11_canChange_48 (by first | exact Or.inl rfl | exact Or.inr rfl | exact zb_01 _ | assumption | omega) ?_
        exact ⟨by rw [zb_f (fun q => h3 (q.2 h2))], rfl, rfl⟩
      · refine Z_iconst (pc := 43) ok dX11_canChange_43 ?_
        refine Z_goto (pc := 44) (tgt := 48) ok dX11_canChange_44 rfl ?_
        refine Z_bret (pc := 48) ok okr dX11_canChange_48 (by first | exact Or.inl rfl | exact Or.inr rfl | exact zb_01 _ | assumption | omega) ?_
        exact ⟨by rw [zb_t ⟨fun q => absurd q h1, fun _ => h3⟩], rfl, rfl⟩
  · refine Z_iload1 (pc := 5) ok dX11_canChange_5 ?_
    refine Z_iconst (pc := 6) ok dX11_canChange_6 ?_
    refine Z_icmp_lt (pc := 7) (tgt := 28) ok dX11_canChange_7 rfl (by omega) (by omega) (fun h2 => ?_) (fun h2 => ?_)
    · refine Z_iconst (pc := 28) ok dX11_canChange_28 ?_
      refine Z_bret (pc := 29) ok okr dX11_canChange_29 (by first | exact Or.inl rfl | exact Or.inr rfl | exact zb_01 _ | assumption | omega) ?_
      exact ⟨by rw [zb_f (fun q => by have := (q.1 h1).1; omega)], rfl, rfl⟩
    · refine Z_iload1 (pc := 10) ok dX11_canChange_10 ?_
      refine Z_bipush (pc := 11) ok dX11_canChange_11 (by decide) ?_
      refine Z_icmp_gt (pc := 13) (tgt := 28) ok dX11_canChange_13 rfl (by omega) (by omega) (fun h3 => ?_) (fun h3 => ?_)
      · refine Z_iconst (pc := 28) ok dX11_canChange_28 ?_
        refine Z_bret (pc := 29) ok okr dX11_canChange_29 (by first | exact Or.inl rfl | exact Or.inr rfl | exact zb_01 _ | assumption | omega) ?_
        exact ⟨by rw [zb_f (fun q => by have := (q.1 h1).1; omega)], rfl, rfl⟩
      · refine Z_iload1 (pc := 16) ok dX11_canChange_16 ?_
        refine Z_iload2 (pc := 17) ok dX11_canChange_17 ?_
        refine Z_callSId (pc := 18) ok dX11_canChange_18 cw_X11_306 (c_shareDivisor (by omega) hn) rfl rfl (by decide) (Nat.le_of_ble_eq_true rfl) ?_
        refine Z_if_neB (pc := 21) (tgt := 28) ok dX11_canChange_21 rfl (fun h4 => ?_) (fun h4 => ?_)
        · refine Z_iconst (pc := 28) ok dX11_canChange_28 ?_
          refine Z_bret (pc := 29) ok okr dX11_canChange_29 (by first | exact Or.inl rfl | exact Or.inr rfl | exact zb_01 _ | assumption | omega) ?_
          exact ⟨by rw [zb_f (fun q => (q.1 h1).2 h4)], rfl, rfl⟩
        · refine Z_iconst (pc := 24) ok dX11_canChange_24 ?_
          refine Z_goto (pc := 25) (tgt := 29) ok dX11_canChange_25 rfl ?_
          refine Z_bret (pc := 29) ok okr dX11_canChange_29 (by first | exact Or.inl rfl | exact Or.inr rfl | exact zb_01 _ | assumption | omega) ?_
          exact ⟨by rw [zb_t ⟨fun _ => ⟨by omega, h4⟩, fun q => by omega⟩], rfl, rfl⟩
theorem c_rootBehind {a v n e : Int} (ha : 0 ≤ a ∧ a ≤ 3) (hv : -2147483648 ≤ v ∧ v ≤ 2147483647) (hv2 : a = 1 ∨ a = 3 → 0 ≤ v ∧ v ≤ 99) (hn : 2 ≤ n ∧ n ≤ 30) (he : 0 ≤ e ∧ e < n) : K_X11_rootBehind l G [zi a, zi v, zi n, zi e] I J (pR (some (zi (mv a v n e))) I J) := by
  have h0 : a = 0 ∨ a = 1 ∨ a = 2 ∨ a = 3 := by omega
  have h5 := em_b v (show 0 < n by omega)
  rcases h0 with rfl | rfl | rfl | rfl
  · refine Cz.of rfl (Nat.le_of_ble_eq_true rfl) [some (zi 0), some (zi v), some (zi n), some (zi e)] rfl (fun E ok okr hE => ?_)
    refine Z_iload0 (pc := 0) ok dX11_rootBehind_0 ?_
    refine Z_look (pc := 1) (off := 27) (tgt := 28) ok dX11_rootBehind_1 (by decide) (by decide) (by decide) rfl ?_
    refine Z_iload3 (pc := 28) ok dX11_rootBehind_28 ?_
    refine Z_iload1 (pc := 29) ok dX11_rootBehind_29 ?_
    refine Z_iload2 (pc := 30) ok dX11_rootBehind_30 ?_
    refine Z_callSId (pc := 31) ok dX11_rootBehind_31 cw_X11_309 (c_floorMod hv (by omega)) rfl rfl (by decide) (Nat.le_of_ble_eq_true rfl) ?_
    refine Z_iadd (pc := 34) ok dX11_rootBehind_34 ?_
    refine Z_iload2 (pc := 35) ok dX11_rootBehind_35 ?_
    refine Z_irem (pc := 36) ok dX11_rootBehind_36 (by omega) (by omega) (by omega) (by omega) ?_
    refine Z_iret (pc := 37) ok okr dX11_rootBehind_37 ?_
    refine ⟨?_, rfl, rfl⟩
    rw [mv, if_pos rfl, Int.add_emod_emod]
  · have := hv2 (by omega)
    have h6 : 0 ≤ e * v := Int.mul_nonneg he.1 this.1
    have h7 : e * v ≤ 30 * 99 := Int.mul_le_mul (by omega) (by omega) (by omega) (by omega)
    refine Cz.of rfl (Nat.le_of_ble_eq_true rfl) [some (zi 1), some (zi v), some (zi n), some (zi e)] rfl (fun E ok okr hE => ?_)
    refine Z_iload0 (pc := 0) ok dX11_rootBehind_0 ?_
    refine Z_look (pc := 1) (off := 43) (tgt := 44) ok dX11_rootBehind_1 (by decide) (by decide) (by decide) rfl ?_
    refine Z_iload3 (pc := 44) ok dX11_rootBehind_44 ?_
    refine Z_iload1 (pc := 45) ok dX11_rootBehind_45 ?_
    refine Z_imul (pc := 46) ok dX11_rootBehind_46 ?_
    refine Z_iload2 (pc := 47) ok dX11_rootBehind_47 ?_
    refine Z_irem (pc := 48) ok dX11_rootBehind_48 (by omega) (by omega) (by omega) (by omega) ?_
    refine Z_iret (pc := 49) ok okr dX11_rootBehind_49 ?_
    exact ⟨rfl, rfl, rfl⟩
  · refine Cz.of rfl (Nat.le_of_ble_eq_true rfl) [some (zi 2), some (zi v), some (zi n), some (zi e)] rfl (fun E ok okr hE => ?_)
    refine Z_iload0 (pc := 0) ok dX11_rootBehind_0 ?_
    refine Z_look (pc := 1) (off := 37) (tgt := 38) ok dX11_rootBehind_1 (by decide) (by decide) (by decide) rfl ?_
    refine Z_iload2 (pc := 38) ok dX11_rootBehind_38 ?_
    refine Z_iload3 (pc := 39) ok dX11_rootBehind_39 ?_
    refine Z_isub (pc := 40) ok dX11_rootBehind_40 ?_
    refine Z_iload2 (pc := 41) ok dX11_rootBehind_41 ?_
    refine Z_irem (pc := 42) ok dX11_rootBehind_42 (by omega) (by omega) (by omega) (by omega) ?_
    refine Z_iret (pc := 43) ok okr dX11_rootBehind_43 ?_
    exact ⟨rfl, rfl, rfl⟩
  · have := hv2 (by omega)
    have h6 : 0 ≤ e * v := Int.mul_nonneg he.1 this.1
    have h7 : e * v ≤ 30 * 99 := Int.mul_le_mul (by omega) (by omega) (by omega) (by omega)
    refine Cz.of rfl (Nat.le_of_ble_eq_true rfl) [some (zi 3), some (zi v), some (zi n), some (zi e)] rfl (fun E ok okr hE => ?_)
    refine Z_iload0 (pc := 0) ok dX11_rootBehind_0 ?_
    refine Z_look (pc := 1) (off := 43) (tgt := 44) ok dX11_rootBehind_1 (by decide) (by decide) (by decide) rfl ?_
    refine Z_iload3 (pc := 44) ok dX11_rootBehind_44 ?_
    refine Z_iload1 (pc := 45) ok dX11_rootBehind_45 ?_
    refine Z_imul (pc := 46) ok dX11_rootBehind_46 ?_
    refine Z_iload2 (pc := 47) ok dX11_rootBehind_47 ?_
    refine Z_irem (pc := 48) ok dX11_rootBehind_48 (by omega) (by omega) (by omega) (by omega) ?_
    refine Z_iret (pc := 49) ok okr dX11_rootBehind_49 ?_
    exact ⟨rfl, rfl, rfl⟩
theorem c_squareDivides {n p : Int} (hn : 2 ≤ n ∧ n ≤ 30) (hp : 2 ≤ p ∧ p ≤ 30) : K_X11_squareDivides l G [zi n, zi p] I J (pR (some (zi (zb (n % (p * p) = 0)))) I J) := by
  have h1 : 2 * 2 ≤ p * p := Int.mul_le_mul hp.1 hp.1 (by omega) (by omega)
  have h2 : p * p ≤ 30 * 30 := Int.mul_le_mul hp.2 hp.2 (by omega) (by omega)
  refine Cz.of rfl (Nat.le_of_ble_eq_true rfl) [some (zi n), some (zi p)] rfl (fun E ok okr hE => ?_)
  refine Z_iload0 (pc := 0) ok dX11_squareDivides_0 ?_
  refine Z_iload1 (pc := 1) ok dX11_squareDivides_1 ?_
  refine Z_iload1 (pc := 2) ok dX11_squareDivides_2 ?_
  refine Z_imul (pc := 3) ok dX11_squareDivides_3 ?_
  refine Z_irem (pc := 4) ok dX11_squareDivides_4 (by omega) (by omega) (by omega) (by omega) ?_
  refine Z_if_ne (pc := 5) (tgt := 12) ok dX11_squareDivides_5 rfl (em_r (by omega) (by omega)) (fun h => ?_) (fun h => ?_)
  · refine Z_iconst (pc := 12) ok dX11_squareDivides_12 ?_
    refine Z_bret (pc := 13) ok okr dX11_squareDivides_13 (by first | exact Or.inl rfl | exact Or.inr rfl | exact zb_01 _ | assumption | omega) ?_
    exact ⟨by rw [zb_f h], rfl, rfl⟩
  · refine Z_iconst (pc := 8) ok dX11_squareDivides_8 ?_
    refine Z_goto (pc := 9) (tgt := 13) ok dX11_squareDivides_9 rfl ?_
    refine Z_bret (pc := 13) ok okr dX11_squareDivides_13 (by first | exact Or.inl rfl | exact Or.inr rfl | exact zb_01 _ | assumption | omega) ?_
    exact ⟨by rw [zb_t h], rfl, rfl⟩
theorem c_layerStep {n p : Int} (hn : 2 ≤ n ∧ n ≤ 30) (hp : 2 ≤ p ∧ p ≤ 30) : K_X11_layerStep l G [zi n, zi p] I J (pR (some (zi (lst n p))) I J) := by
  have hd := di_b (a := n) (b := p) (by omega) (by omega)
  refine Cz.of rfl (Nat.le_of_ble_eq_true rfl) [some (zi n), some (zi p), none, none] rfl (fun E ok okr hE => ?_)
  refine Z_iload0 (pc := 0) ok dX11_layerStep_0 ?_
  refine Z_iload1 (pc := 1) ok dX11_layerStep_1 ?_
  refine Z_callSId (pc := 2) ok dX11_layerStep_2 cw_X11_326 (c_squareDivides hn hp) rfl rfl (by decide) (Nat.le_of_ble_eq_true rfl) ?_
  refine Z_if_eqB (pc := 5) (tgt := 10) ok dX11_layerStep_5 rfl (fun h => ?_) (fun h => ?_)
  · refine Z_iload0 (pc := 10) ok dX11_layerStep_10 ?_
    refine Z_iload1 (pc := 11) ok dX11_layerStep_11 ?_
    refine Z_idiv (pc := 12) ok dX11_layerStep_12 (by omega) (by omega) (by omega) (by omega) ?_
    refine Z_istore2 (pc := 13) ok (by decide) dX11_layerStep_13 rfl ?_
    refine Z_iconst (pc := 14) ok dX11_layerStep_14 ?_
    refine Z_istore3 (pc := 15) ok (by decide) dX11_layerStep_15 rfl ?_
    have H : ∀ i : Int, 1 ≤ i → i ≤ p → ∀ t : Int, (0 ≤ t ∧ t ≤ 30 * i) → lsF n p (p - i).toNat t = lsF n p (p - 1).toNat (n / p) → Xz E G I J 16 [some (zi n), some (zi p), some (zi t), some (zi i)] [] := by
      refine zUp ?_ ?_
      · intro t ht hl
        refine Z_iload3 (pc := 16) ok dX11_layerStep_16 ?_
        refine Z_iload1 (pc := 17) ok dX11_layerStep_17 ?_
        refine Z_icmp_ge (pc := 18) (tgt := 40) ok dX11_layerStep_18 rfl (by omega) (by omega) (fun _ => ?_) (fun h => by exfalso; omega)
        refine Z_iload2 (pc := 40) ok dX11_layerStep_40 ?_
        refine Z_iret (pc := 41) ok okr dX11_layerStep_41 ?_
        refine ⟨?_, rfl, rfl⟩
        rw [lst, if_neg h, ← hl, Int.sub_self]; rfl
      · intro i i0 i1 ih t ht hl
        have e : (p - i).toNat = (p - (i + 1)).toNat + 1 := by omega
        rw [e, lsF] at hl
        refine Z_iload3 (pc := 16) ok dX11_layerStep_16 ?_
        refine Z_iload1 (pc := 17) ok dX11_layerStep_17 ?_
        refine Z_icmp_ge (pc := 18) (tgt := 40) ok dX11_layerStep_18 rfl (by omega) (by omega) (fun h => by exfalso; omega) (fun _ => ?_)
        refine Z_iload2 (pc := 21) ok dX11_layerStep_21 ?_
        refine Z_iload1 (pc := 22) ok dX11_layerStep_22 ?_
        refine Z_irem (pc := 23) ok dX11_layerStep_23 (by omega) (by omega) (by omega) (by omega) ?_
        refine Z_iconst (pc := 24) ok dX11_layerStep_24 ?_
        refine Z_icmp_eq (pc := 25) (tgt := 40) ok dX11_layerStep_25 rfl (em_r (by omega) (by omega)) (by omega) (fun h2 => ?_) (fun h2 => ?_)
        · refine Z_iload2 (pc := 40) ok dX11_layerStep_40 ?_
          refine Z_iret (pc := 41) ok okr dX11_layerStep_41 ?_
          refine ⟨?_, rfl, rfl⟩
          rw [lst, if_neg h, ← hl, if_pos h2]
        · refine Z_iload2 (pc := 28) ok dX11_layerStep_28 ?_
          refine Z_iload0 (pc := 29) ok dX11_layerStep_29 ?_
          refine Z_iload1 (pc := 30) ok dX11_layerStep_30 ?_
          refine Z_idiv (pc := 31) ok dX11_layerStep_31 (by omega) (by omega) (by omega) (by omega) ?_
          refine Z_iadd (pc := 32) ok dX11_layerStep_32 ?_
          refine Z_istore2 (pc := 33) ok (by decide) dX11_layerStep_33 rfl ?_
          refine Z_iinc3 (pc := 34) ok (by decide) dX11_layerStep_34 rfl ?_
          refine Z_goto (pc := 37) (tgt := 16) ok dX11_layerStep_37 rfl ?_
          rw [if_neg h2] at hl
          exact ih _ (by omega) hl
    exact H 1 (by omega) (by omega) _ (by omega) rfl
  · refine Z_iconst (pc := 8) ok dX11_layerStep_8 ?_
    refine Z_iret (pc := 9) ok okr dX11_layerStep_9 ?_
    refine ⟨?_, rfl, rfl⟩
    rw [lst, if_pos h]
theorem c_countInLayer {k : Nat} (hk : kd k = 5) {p m e : Int} (hn : 2 ≤ I k 0 ∧ I k 0 ≤ 30) (hp : 2 ≤ p ∧ p ≤ 30) (hm : 0 ≤ m ∧ m ≤ 100000) (he : 0 ≤ e ∧ e ≤ 30) : K_X11_countInLayer l G [zr G k, zi p, zi m, zi e] I J (pR (some (zi (if e % p = 0 then I (k + 1) ((e + m) % I k 0) else 0))) I J) := by
  have h1 := em_b (e + m) (show 0 < I k 0 by omega)
  refine Cz.of rfl (Nat.le_of_ble_eq_true rfl) [some (zr G k), some (zi p), some (zi m), some (zi e)] rfl (fun E ok okr hE => ?_)
  refine Z_iload3 (pc := 0) ok dX11_countInLayer_0 ?_
  refine Z_iload1 (pc := 1) ok dX11_countInLayer_1 ?_
  refine Z_irem (pc := 2) ok dX11_countInLayer_2 (by omega) (by omega) (by omega) (by omega) ?_
  refine Z_if_ne (pc := 3) (tgt := 22) ok dX11_countInLayer_3 rfl (em_r (by omega) (by omega)) (fun h => ?_) (fun h => ?_)
  · refine Z_iconst (pc := 22) ok dX11_countInLayer_22 ?_
    refine Z_iret (pc := 23) ok okr dX11_countInLayer_23 ?_
    exact ⟨by rw [if_neg h], rfl, rfl⟩
  · refine Z_aload0 (pc := 6) ok dX11_countInLayer_6 ?_
    refine g_X5_counts (pc := 7) ok dX11_countInLayer_7 kw101 hk (rw_rf hk) ?_
    refine Z_iload3 (pc := 10) ok dX11_countInLayer_10 ?_
    refine Z_iload2 (pc := 11) ok dX11_countInLayer_11 ?_
    refine Z_iadd (pc := 12) ok dX11_countInLayer_12 ?_
    refine Z_aload0 (pc := 13) ok dX11_countInLayer_13 ?_
    refine g_X5_n (pc := 14) ok dX11_countInLayer_14 kw96 hk ?_
    refine Z_irem (pc := 17) ok dX11_countInLayer_17 (by omega) (by omega) (by omega) (by omega) ?_
    refine Z_iald (pc := 18) ok dX11_countInLayer_18 (rw_kd hk) (rw_ln hk) (by omega) ?_
    refine Z_goto (pc := 19) (tgt := 23) ok dX11_countInLayer_19 rfl ?_
    refine Z_iret (pc := 23) ok okr dX11_countInLayer_23 ?_
    exact ⟨by rw [if_pos h], rfl, rfl⟩
/-! Shelf -/
theorem c_Shelf_append {k q : Nat} (hk : kd k = 6) (hq : kd q = 5) (hs : 0 ≤ I k 0 ∧ I k 0 < 8) : K_X6_append l G [zr G k, zr G q] I J (fun v I' J' => v = none ∧ (I' k 0 = I k 0 + 1 ∧ I' (rc k (I k 0)) 0 = I q 0 ∧ I' (rc k (I k 0) + 1) = I (q + 1) ∧ (∀ a, a ≠ k → a ≠ rc k (I k 0) → a ≠ rc k (I k 0) + 1 → I' a = I a) ∧ J' = J)) := by
  have hl : (I k 0).toNat < 8 := by omega
  have n1 : k ≠ rc k (I k 0) := by simp only [rc]; omega
  have n2 : k ≠ rc k (I k 0) + 1 := by simp only [rc]; omega
  have n3 : rc k (I k 0) ≠ rc k (I k 0) + 1 := by omega
  have n4 : rc k (I k 0) + 1 ≠ k := fun h => n2 h.symm
  have n5 : rc k (I k 0) ≠ k := fun h => n1 h.symm
  refine Cz.of rfl (Nat.le_of_ble_eq_true rfl) [some (zr G k), some (zr G q)] rfl (fun E ok okr hE => ?_)
  refine Z_aload0 (pc := 0) ok dX6_append_0 ?_
  refine g_X6_size (pc := 1) ok dX6_append_1 kw138 hk ?_
  refine Z_bipush (pc := 4) ok dX6_append_4 (by decide) ?_
  refine Z_icmp_ge (pc := 6) (tgt := 32) ok dX6_append_6 rfl (by omega) (by omega) (fun h => by exfalso; omega) (fun _ => ?_)
  refine Z_aload0 (pc := 9) ok dX6_append_9 ?_
  refine g_X6_rows (pc := 10) ok dX6_append_10 kw140 hk (sh_rf hk) ?_
  refine Z_aload0 (pc := 13) ok dX6_append_13 ?_
  refine g_X6_size (pc := 14) ok dX6_append_14 kw138 hk ?_
  refine Z_aald (pc := 17) (r := (rc k (I k 0))) ok dX6_append_17 (t := 4) (sh_kd hk) (by decide) rfl (sh_ln hk) (by omega) (rc_rf hk hl) ?_
  refine Z_aload1 (pc := 18) ok dX6_append_18 ?_
  refine Z_callVVd (pc := 19) ok dX6_append_19 cw_X6_22 rfl (rc_kd hk hl) (by decide) (c_Row_become (rc_kd hk hl) hq) rfl rfl (by decide) (Nat.le_of_ble_eq_true rfl) ?_
  refine Z_aload0 (pc := 22) ok dX6_append_22 ?_
  refine Z_dup (pc := 23) ok dX6_append_23 rfl ?_
  refine g_X6_size (pc := 24) ok dX6_append_24 kw138 hk ?_
  refine Z_iconst (pc := 27) ok dX6_append_27 ?_
  refine Z_iadd (pc := 28) ok dX6_append_28 ?_
  refine p_X6_size (pc := 29) ok dX6_append_29 kw138 hk ?_
  refine Z_vret (pc := 32) ok okr dX6_append_32 ?_
  refine ⟨rfl, ?_, ?_, ?_, ?_, rfl⟩
  · simp only [sz_eq, uz_eq, sz_ne _ _ n1, sz_ne _ _ n2]
  · simp only [sz_eq, uz_eq, sz_ne _ _ n5, sz_ne _ _ n3]
  · simp only [sz_eq, sz_ne _ _ n4]
  · intro a h1 h2 h3
    simp only [sz_ne _ _ h1, sz_ne _ _ h2, sz_ne _ _ h3]
theorem c_Shelf_remove {k : Nat} (hk : kd k = 6) {i : Int} (hs : I k 0 ≤ 8) (hi : 0 ≤ i ∧ i < I k 0) : K_X6_remove l G [zr G k, zi i] I J (fun v I' J' => v = none ∧ (I' k 0 = I k 0 - 1 ∧ (∀ m, i ≤ m → m < I k 0 - 1 → I' (rc k m) 0 = I (rc k (m + 1)) 0 ∧ I' (rc k m + 1) = I (rc k (m + 1) + 1)) ∧ (∀ a, a ≠ k → (∀ m, i ≤ m → m < I k 0 - 1 → a ≠ rc k m ∧ a ≠ rc k m + 1) → I' a = I a) ∧ J' = J)) := by
  refine Cz.of rfl (Nat.le_of_ble_eq_true rfl) [some (zr G k), some (zi i), none] rfl (fun E ok okr hE => ?_)
  refine Z_aload0 (pc := 0) ok dX6_remove_0 ?_
  refine Z_iload1 (pc := 1) ok dX6_remove_1 ?_
  refine Z_callVId (pc := 2) ok dX6_remove_2 cw_X6_26 rfl hk (by decide) (c_Shelf_has hk (by omega) (by omega)) rfl rfl (by decide) (Nat.le_of_ble_eq_true rfl) ?_
  refine Z_if_eqB (pc := 5) (tgt := 53) ok dX6_remove_5 rfl (fun h => absurd h ((by intro q; exact q hi))) (fun h => ?_)
  refine Z_iload1 (pc := 8) ok dX6_remove_8 ?_
  refine Z_istore2 (pc := 9) ok (by decide) dX6_remove_9 rfl ?_
  have H : ∀ j : Int, i ≤ j → j ≤ I k 0 - 1 → ∀ I1 : Mz, (∀ m, i ≤ m → m < j → I1 (rc k m) 0 = I (rc k (m + 1)) 0 ∧ I1 (rc k m + 1) = I (rc k (m + 1) + 1)) → (∀ a, (∀ m, i ≤ m → m < j → a ≠ rc k m ∧ a ≠ rc k m + 1) → I1 a = I a) → Xz E G I1 J 10 [some (zr G k), some (zi i), some (zi j)] [] := by
    refine zUp ?_ ?_
    · intro I1 h1 h2
      have ek : I1 k = I k := h2 k (fun m _ _ => by simp only [rc]; omega)
      have ek0 : I1 k 0 = I k 0 := by rw [ek]
      refine Z_iload2 (pc := 10) ok dX6_remove_10 ?_
      refine Z_iconst (pc := 11) ok dX6_remove_11 ?_
      refine Z_iadd (pc := 12) ok dX6_remove_12 ?_
      refine Z_aload0 (pc := 13) ok dX6_remove_13 ?_
      refine g_X6_size (pc := 14) ok dX6_remove_14 kw138 hk ?_
      refine Z_icmp_ge (pc := 17) (tgt := 43) ok dX6_remove_17 rfl (by omega) (by omega) (fun _ => ?_) (fun h => by exfalso; omega)
      refine Z_aload0 (pc := 43) ok dX6_remove_43 ?_
      refine Z_dup (pc := 44) ok dX6_remove_44 rfl ?_
      refine g_X6_size (pc := 45) ok dX6_remove_45 kw138 hk ?_
      refine Z_iconst (pc := 48) ok dX6_remove_48 ?_
      refine Z_isub (pc := 49) ok dX6_remove_49 ?_
      refine p_X6_size (pc := 50) ok dX6_remove_50 kw138 hk ?_
      refine Z_vret (pc := 53) ok okr dX6_remove_53 ?_
      refine ⟨rfl, ?_, ?_, ?_, rfl⟩
      · rw [sz_eq, uz_eq, ek]
      · intro m m0 m1
        have n1 : rc k m ≠ k := by simp only [rc]; omega
        have n2 : rc k m + 1 ≠ k := by simp only [rc]; omega
        rw [sz_ne _ _ n1, sz_ne _ _ n2]
        exact h1 m m0 m1
      · intro a a0 a1
        rw [sz_ne _ _ a0]
        exact h2 a a1
    · intro j j0 j1 ih I1 h1 h2
      have ek : I1 k = I k := h2 k (fun m _ _ => by simp only [rc]; omega)
      have ek0 : I1 k 0 = I k 0 := by rw [ek]
      have l1 : j.toNat < 8 := by omega
      have l2 : (j + 1).toNat < 8 := by omega
      refine Z_iload2 (pc := 10) ok dX6_remove_10 ?_
      refine Z_iconst (pc := 11) ok dX6_remove_11 ?_
      refine Z_iadd (pc := 12) ok dX6_remove_12 ?_
      refine Z_aload0 (pc := 13) ok dX6_remove_13 ?_
      refine g_X6_size (pc := 14) ok dX6_remove_14 kw138 hk ?_
      refine Z_icmp_ge (pc := 17) (tgt := 43) ok dX6_remove_17 rfl (by omega) (by omega) (fun h => by exfalso; omega) (fun _ => ?_)
      refine Z_aload0 (pc := 20) ok dX6_remove_20 ?_
      refine g_X6_rows (pc := 21) ok dX6_remove_21 kw140 hk (sh_rf hk) ?_
      refine Z_iload2 (pc := 24) ok dX6_remove_24 ?_
      refine Z_aald (pc := 25) (r := (rc k j)) ok dX6_remove_25 (t := 4) (sh_kd hk) (by decide) rfl (sh_ln hk) (by omega) (rc_rf hk l1) ?_
      refine Z_aload0 (pc := 26) ok dX6_remove_26 ?_
      refine g_X6_rows (pc := 27) ok dX6_remove_27 kw140 hk (sh_rf hk) ?_
      refine Z_iload2 (pc := 30) ok dX6_remove_30 ?_
      refine Z_iconst (pc := 31) ok dX6_remove_31 ?_
      refine Z_iadd (pc := 32) ok dX6_remove_32 ?_
      refine Z_aald (pc := 33) (r := (rc k (j + 1))) ok dX6_remove_33 (t := 4) (sh_kd hk) (by decide) rfl (sh_ln hk) (by omega) (rc_rf hk l2) ?_
      refine Z_callVVd (pc := 34) ok dX6_remove_34 cw_X6_22 rfl (rc_kd hk l1) (by decide) (c_Row_become (rc_kd hk l1) (rc_kd hk l2)) rfl rfl (by decide) (Nat.le_of_ble_eq_true rfl) ?_
      refine Z_iinc2 (pc := 37) ok (by decide) dX6_remove_37 rfl ?_
      refine Z_goto (pc := 40) (tgt := 10) ok dX6_remove_40 rfl ?_
      have x1 : I1 (rc k (j + 1)) = I (rc k (j + 1)) := h2 _ (fun m m0 m1 => by simp only [rc]; omega)
      have x2 : I1 (rc k (j + 1) + 1) = I (rc k (j + 1) + 1) := h2 _ (fun m m0 m1 => by simp only [rc]; omega)
      refine ih _ (fun m m0 m1 => ?_) (fun a ha => ?_)
      · by_cases hm : m = j
        · subst hm
          have n3 : rc k m ≠ rc k m + 1 := by omega
          rw [sz_ne _ _ n3, sz_eq, uz_eq, sz_eq, x1, x2]
          exact ⟨rfl, rfl⟩
        · have n1 : rc k m ≠ rc k j + 1 := by simp only [rc]; omega
          have n2 : rc k m ≠ rc k j := by simp only [rc]; omega
          have n3 : rc k m + 1 ≠ rc k j + 1 := by simp only [rc]; omega
          have n4 : rc k m + 1 ≠ rc k j := by simp only [rc]; omega
          rw [sz_ne _ _ n1, sz_ne _ _ n2, sz_ne _ _ n3, sz_ne _ _ n4]
          exact h1 m m0 (by omega)
      · have := ha j j0 (by omega)
        rw [sz_ne _ _ this.2, sz_ne _ _ this.1]
        exact h2 a (fun m m0 m1 => ha m m0 (by omega))
  exact H i (by omega) (by omega) I (fun m m0 m1 => by omega) (fun a _ => rfl)
theorem c_Shelf_become {k q : Nat} (hk : kd k = 6) (hq : kd q = 6) (hkq : k + 18 ≤ q ∨ q + 18 ≤ k) (hs : 0 ≤ I q 0 ∧ I q 0 ≤ 8) : K_X6_become l G [zr G k, zr G q] I J (fun v I' J' => v = none ∧ (I' k 0 = I q 0 ∧ (∀ m, 0 ≤ m → m < I q 0 → I' (rc k m) 0 = I (rc q m) 0 ∧ I' (rc k m + 1) = I (rc q m + 1)) ∧ (∀ a, a ≠ k → (∀ m, 0 ≤ m → m < I q 0 → a ≠ rc k m ∧ a ≠ rc k m + 1) → I' a = I a) ∧ J' = J)) := by
  refine Cz.of rfl (Nat.le_of_ble_eq_true rfl) [some (zr G k), some (zr G q), none] rfl (fun E ok okr hE => ?_)
  refine Z_aload0 (pc := 0) ok dX6_become_0 ?_
  refine Z_aload1 (pc := 1) ok dX6_become_1 ?_
  refine g_X6_size (pc := 2) ok dX6_become_2 kw138 hq ?_
  refine p_X6_size (pc := 5) ok dX6_become_5 kw138 hk ?_
  refine Z_iconst (pc := 8) ok dX6_become_8 ?_
  refine Z_istore2 (pc := 9) ok (by decide) dX6_become_9 rfl ?_
  have H : ∀ j : Int, 0 ≤ j → j ≤ I q 0 → ∀ I1 : Mz, I1 k 0 = I q 0 → (∀ m, 0 ≤ m → m < j → I1 (rc k m) 0 = I (rc q m) 0 ∧ I1 (rc k m + 1) = I (rc q m + 1)) → (∀ a, a ≠ k → (∀ m, 0 ≤ m → m < j → a ≠ rc k m ∧ a ≠ rc k m + 1) → I1 a = I a) → Xz E G I1 J 10 [some (zr G k), some (zr G q), some (zi j)] [] := by
    refine zUp ?_ ?_
    · intro I1 h0 h1 h2
      refine Z_iload2 (pc := 10) ok dX6_become_10 ?_
      refine Z_aload0 (pc := 11) ok dX6_become_11 ?_
      refine g_X6_size (pc := 12) ok dX6_become_12 kw138 hk ?_
      refine Z_icmp_ge (pc := 15) (tgt := 39) ok dX6_become_15 rfl (by omega) (by omega) (fun _ => ?_) (fun h => by exfalso; omega)
      refine Z_vret (pc := 39) ok okr dX6_become_39 ?_
      exact ⟨rfl, h0, h1, h2, rfl⟩
    · intro j j0 j1 ih I1 h0 h1 h2
      have l1 : j.toNat < 8 := by omega
      refine Z_iload2 (pc := 10) ok dX6_become_10 ?_
      refine Z_aload0 (pc := 11) ok dX6_become_11 ?_
      refine g_X6_size (pc := 12) ok dX6_become_12 kw138 hk ?_
      refine Z_icmp_ge (pc := 15) (tgt := 39) ok dX6_become_15 rfl (by omega) (by omega) (fun h => by exfalso; omega) (fun _ => ?_)
      refine Z_aload0 (pc := 18) ok dX6_become_18 ?_
      refine g_X6_rows (pc := 19) ok dX6_become_19 kw140 hk (sh_rf hk) ?_
      refine Z_iload2 (pc := 22) ok dX6_become_22 ?_
      refine Z_aald (pc := 23) (r := (rc k j)) ok dX6_become_23 (t := 4) (sh_kd hk) (by decide) rfl (sh_ln hk) (by omega) (rc_rf hk l1) ?_
      refine Z_aload1 (pc := 24) ok dX6_become_24 ?_
      refine g_X6_rows (pc := 25) ok dX6_become_25 kw140 hq (sh_rf hq) ?_
      refine Z_iload2 (pc := 28) ok dX6_become_28 ?_
      refine Z_aald (pc := 29) (r := (rc q j)) ok dX6_become_29 (t := 4) (sh_kd hq) (by decide) rfl (sh_ln hq) (by omega) (rc_rf hq l1) ?_
      refine Z_callVVd (pc := 30) ok dX6_become_30 cw_X6_22 rfl (rc_kd hk l1) (by decide) (c_Row_become (rc_kd hk l1) (rc_kd hq l1)) rfl rfl (by decide) (Nat.le_of_ble_eq_true rfl) ?_
      refine Z_iinc2 (pc := 33) ok (by decide) dX6_become_33 rfl ?_
      refine Z_goto (pc := 36) (tgt := 10) ok dX6_become_36 rfl ?_
      have x1 : I1 (rc q j) = I (rc q j) := h2 _ (by simp only [rc]; omega) (fun m m0 m1 => by simp only [rc]; omega)
      have x2 : I1 (rc q j + 1) = I (rc q j + 1) := h2 _ (by simp only [rc]; omega) (fun m m0 m1 => by simp only [rc]; omega)
      refine ih _ ?_ (fun m m0 m1 => ?_) (fun a a0 ha => ?_)
      · have n1 : k ≠ rc k j := by simp only [rc]; omega
        have n2 : k ≠ rc k j + 1 := by simp only [rc]; omega
        rw [sz_ne _ _ n2, sz_ne _ _ n1]; exact h0
      · by_cases hm : m = j
        · subst hm
          have n3 : rc k m ≠ rc k m + 1 := by omega
          rw [sz_ne _ _ n3, sz_eq, uz_eq, sz_eq, x1, x2]
          exact ⟨rfl, rfl⟩
        · have n1 : rc k m ≠ rc k j + 1 := by simp only [rc]; omega
          have n2 : rc k m ≠ rc k j := by simp only [rc]; omega
          have n3 : rc k m + 1 ≠ rc k j + 1 := by simp only [rc]; omega
          have n4 : rc k m + 1 ≠ rc k j := by simp only [rc]; omega
          rw [sz_ne _ _ n1, sz_ne _ _ n2, sz_ne _ _ n3, sz_ne _ _ n4]
          exact h1 m m0 (by omega)
      · have := ha j j0 (by omega)
        rw [sz_ne _ _ this.2, sz_ne _ _ this.1]
        exact h2 a a0 (fun m m0 m1 => ha m m0 (by omega))
  refine H 0 (by omega) (by omega) _ (by rw [sz_eq, uz_eq]) (fun m m0 m1 => by omega) (fun a a0 _ => by rw [sz_ne _ _ a0])
end
