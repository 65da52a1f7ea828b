/-! CONSTRUCTORS: the world that grows: cell i of it lies at h + i -/
def wn (G : Gw) (n : Nat) (c : Nat → va_E) : va_W := (List.range n).map (fun i => (G.2.2 i, c i))
def ud (c : Nat → va_E) (i : Nat) (e : va_E) : Nat → va_E := fun j => if j = i then e else c j
theorem ud_eq (c : Nat → va_E) (i : Nat) (e : va_E) : ud c i e i = e := if_pos rfl
theorem ud_ne (c : Nat → va_E) {i j : Nat} (e : va_E) (h : j ≠ i) : ud c i e j = c j := if_neg h
theorem wn_get {G : Gw} {n i : Nat} {c : Nat → va_E} (hi : i < n) : (wn G n c)[i]? = some (G.2.2 i, c i) := by simp [wn, hi]
theorem wn_of {G : Gw} {n k : Nat} {c : Nat → va_E} {q : Nat × va_E} (hq : (wn G n c)[k]? = some q) : k < n ∧ q = (G.2.2 k, c k) := by
  have hk : k < n := by
    have := (List.getElem?_eq_some_iff.mp hq).1
    simpa [wn] using this
  rw [wn_get hk] at hq
  exact ⟨hk, (Option.some.inj hq).symm⟩
theorem wn_c {G : Gw} {n : Nat} {c c' : Nat → va_E} (hc : ∀ j, j < n → c j = c' j) : wn G n c = wn G n c' := List.map_congr_left (fun i hi => by rw [hc i (List.mem_range.mp hi)])
theorem wn_set {G : Gw} {n i : Nat} {c : Nat → va_E} {e : va_E} (hi : i < n) : (wn G n c).set i (G.2.2 i, e) = wn G n (ud c i e) := by
  apply List.ext_getElem?
  intro j
  rw [List.getElem?_set]
  by_cases hj : i = j
  · subst hj
    rw [if_pos rfl, wn_get hi, ud_eq, if_pos (by simpa [wn] using hi)]
  · rw [if_neg hj]
    by_cases hjn : j < n
    · rw [wn_get hjn, wn_get hjn, ud_ne _ _ (fun h => hj h.symm)]
    · rw [List.getElem?_eq_none (by simp [wn]; omega), List.getElem?_eq_none (by simp [wn]; omega)]
theorem wn_push {G : Gw} {n : Nat} {c : Nat → va_E} {e : va_E} : wn G n c ++ [(G.2.2 n, e)] = wn G (n + 1) (ud c n e) := by
  unfold wn
  rw [List.range_succ, List.map_append]
  congr 1
  · exact List.map_congr_left (fun i hi => by rw [ud_ne _ _ (Nat.ne_of_lt (List.mem_range.mp hi))])
  · simp [ud_eq]
theorem wn_D {G : Gw} {h n : Nat} {c : Nat → va_E} (hG : ∀ i, G.2.2 i = h + i) : va_D (fun q => h ≤ q) (wn G n c) := ⟨fun i j p q hi hj he => by
  obtain ⟨_, rfl⟩ := wn_of hi
  obtain ⟨_, rfl⟩ := wn_of hj
  have h1 : G.2.2 i = G.2.2 j := he
  rw [hG, hG] at h1
  omega, fun k q hk => by
  obtain ⟨_, rfl⟩ := wn_of hk
  show h ≤ G.2.2 k
  rw [hG]; omega⟩
theorem wl_wn (G : Gw) (I : Mi) (J : Ml) : wl G I J = wn G 147 (cel G I J) := rfl
/-- the same for the heap -/
def ceq (D : va_G) (e e' : va_E) : Prop := ∀ (a : Nat) (H : Heap), va_at D vwCl (a, e) H → va_at D vwCl (a, e') H
theorem ceq.rf {D : va_G} {e e' : va_E} (h : e = e') : ceq D e e' := fun _ _ x => h ▸ x
theorem ceq.q {D : va_G} {cA : ClassId} {n : Nat} {f g : Nat → Option Nat} (h : ∀ j, j < n → f j = g j) : ceq D (.inl (cA, n, .inr (.inr (.inr (.inr f))))) (.inl (cA, n, .inr (.inr (.inr (.inr g))))) := fun a H x => by
  have h1 : H[a]? = some (vp_cell cA (n, .inr (.inr (.inr (.inr f))))) := x
  show H[a]? = some (vp_cell cA (n, .inr (.inr (.inr (.inr g)))))
  rw [h1, vp_cell_q, vp_cell_q]
  unfold arrV
  congr 2
  apply Array.ext
  · simp
  · intro i hi1 hi2
    simp at hi1
    simp [h i hi1]
theorem wn_ceq {G : Gw} {n : Nat} {c c' : Nat → va_E} {H : Heap} (hc : ∀ j, j < n → ceq G.1 (c j) (c' j)) (hP : va_P G.1 vwCl (wn G n c) H) : va_P G.1 vwCl (wn G n c') H := fun k q hk => by
  obtain ⟨h1, rfl⟩ := wn_of hk
  exact hc k h1 _ _ (hP k _ (wn_get h1))
theorem W.sz {p : Program} {l : Launch} {e : Env} {R : Room} {s : State} {m : MethodId} {args : Array Value} {below : List Frame} {meth : Method} {c : Code} {H : Heap} {locs : List Loc} {cells slots : Nat} {Q : State → Prop} {g : JFrame} (k : H.size ≤ s.heap.size + cells → W p l e R s m args below meth c H locs cells slots Q g) : W p l e R s m args below meth c H locs cells slots Q g := fun T hT X => k (by rw [← hT]; exact X.same.2.2.1) T hT X
def nestC : List Cond := [.methodLinkNest RX11 11 yX8_init RX11, .methodLinkNest RX11 23 yX1_init RX11, .methodLinkNest RX11 55 yX2_init RX11, .methodLinkNest RX11 62 yX9_init RX11, .methodLinkNest RX11 69 yX7_init RX11, .methodLinkNest RX11 76 yX5_init RX11, .methodLinkNest RX3 11 yX5_init RX11, .methodLinkNest RX6 17 yX5_init RX11, .methodLinkNest RX8 11 yX5_init RX11, .methodLinkNest RX8 20 yX4_init RX11, .methodLinkNest RX9 17 yX5_init RX11]
def Wc (G : Gw) (U : State) : Prop := Wk G U ∧ (∀ w ∈ nestC, va_Nw w U) ∧ va_AO RX6 U ∧ va_AO RX5 U ∧ va_AO RX2 U
theorem Wc.moved {G : Gw} {u U : State} (hW : u.WarmedH U.vm) (h : Wc G u) : Wc G U := ⟨h.1.moved hW, fun w hw => by
  have h2 := h.2.1 w hw
  simp only [nestC, List.mem_cons, List.not_mem_nil, or_false] at hw
  rcases hw with rfl | rfl | rfl | rfl | rfl | rfl | rfl | rfl | rfl | rfl | rfl <;> exact va_Nw.warmM hW h2, h.2.2.1.moved hW.alike, h.2.2.2.1.moved hW.alike, h.2.2.2.2.moved hW.alike⟩
theorem Wc.call {G : Gw} {U : State} {g : JFrame} {mk : MethodId} {a : Array Value} (h : Wc G U) : Wc G (U.calling g mk a) := ⟨⟨va_K.moved (u := U) (U := U.calling g mk a) (Vm.Alike.refl U.vm) h.1.1, fun w hw => by
  have h2 := h.1.2 w hw
  have h3 : w.onTables = true := by
    simp only [nestL, List.mem_cons, List.not_mem_nil, or_false] at hw
    rcases hw with rfl | rfl | rfl <;> rfl
  exact va_Nw.same (u := U) (U := U.calling g mk a) h3 rfl h2⟩, fun w hw => by
  have h2 := h.2.1 w hw
  have h3 : w.onTables = true := by
    simp only [nestC, List.mem_cons, List.not_mem_nil, or_false] at hw
    rcases hw with rfl | rfl | rfl | rfl | rfl | rfl | rfl | rfl | rfl | rfl | rfl <;> rfl
  exact va_Nw.same (u := U) (U := U.calling g mk a) h3 rfl h2, va_AO.moved (u := U) (U := U.calling g mk a) (Vm.Alike.refl U.vm) h.2.2.1, va_AO.moved (u := U) (U := U.calling g mk a) (Vm.Alike.refl U.vm) h.2.2.2.1, va_AO.moved (u := U) (U := U.calling g mk a) (Vm.Alike.refl U.vm) h.2.2.2.2⟩
/-- the judgement: n cells stand, with contents c; the frame began with E's count of cells -/
def Nj (E : Ev) (G : Gw) (n : Nat) (c : Nat → va_E) (sl pc : Nat) (lo : List (Option Value)) (st : List Value) : Prop := match E with
  | (p, l, e, R, s, m, args, below, meth, cd, Q, A, nL, n0, _) => ∀ (H : Heap) (locs : List Loc), va_P G.1 vwCl (wn G n c) H → va_S A s.heap H locs → ∀ ls : Array Slot, hasL ls nL lo → W p l e R s m args below meth cd H locs (n - n0) sl Q (F0 m pc ls st)
def OkC (E : Ev) (G : Gw) (h : Nat) (own : String) (cc : ByteArray) (nv d mc ms : Nat) : Prop := match E with
  | (p, _, _, R, s, m, args, _, _, c, _, A, nL, n0, _) => p.tables.exec = Jvm.exec ∧ c.code = cc ∧ c.maxLocals = nL ∧ s.vm.findClass own = some m.cls ∧ (∀ w ∈ mS, w.before args s = true) ∧ Wc G s ∧ A = (fun q => h ≤ q) ∧ (∀ i, G.2.2 i = h + i) ∧ nL = nv ∧ d ≤ R.frames ∧ 40 * d ≤ R.locals ∧ mc ≤ R.cells ∧ ms ≤ R.slots ∧ s.heap.size = h + n0
def EmI (E : Ev) : Prop := E.2.2.2.2.2.2.2.2.1.name = "<init>"
def En0 (E : Ev) : Nat := E.2.2.2.2.2.2.2.2.2.2.2.2.2.1
section NR
variable {E : Ev} {G : Gw} {h n sl : Nat} {c c' : Nat → va_E} {own : String} {cc : ByteArray} {nv d mc ms pc : Nat} {lo lo' : List (Option Value)} {st : List Value}
theorem N_c (hc : ∀ j, j < n → c j = c' j) (k : Nj E G n c' sl pc lo st) : Nj E G n c sl pc lo st := by
  obtain ⟨p, l, e, R, s, m, args, below, meth, cd, Q, A, nL, n0, s0⟩ := E
  exact fun H locs hP hS ls hl => k H locs (by rw [← wn_c hc]; exact hP) hS ls hl
theorem N_ceq (hc : ∀ j, j < n → ceq G.1 (c j) (c' j)) (k : Nj E G n c' sl pc lo st) : Nj E G n c sl pc lo st := by
  obtain ⟨p, l, e, R, s, m, args, below, meth, cd, Q, A, nL, n0, s0⟩ := E
  exact fun H locs hP hS ls hl => k H locs (wn_ceq hc hP) hS ls hl
theorem N_iconst (ok : OkC E G h own cc nv d mc ms) {i : Int} {v : Int32} (hd : decode cc pc = .ok (.iconst i, 1)) (hv : Int32.ofInt i = v) (k : Nj E G n c sl (pc + 1) lo (.int v :: st)) : Nj E G n c sl pc lo st := by
  obtain ⟨p, l, e, R, s, m, args, below, meth, cd, Q, A, nL, n0, s0⟩ := E
  exact fun H locs hP hS ls hl => lv_iconst ok.1 ok.2.1 hd hv (k H locs hP hS ls hl)
theorem N_bipush (ok : OkC E G h own cc nv d mc ms) {i : Int} {v : Int32} (hd : decode cc pc = .ok (.bipush i, 2)) (hv : (Int8.ofInt i).toInt32 = v) (k : Nj E G n c sl (pc + 2) lo (.int v :: st)) : Nj E G n c sl pc lo st := by
  obtain ⟨p, l, e, R, s, m, args, below, meth, cd, Q, A, nL, n0, s0⟩ := E
  exact fun H locs hP hS ls hl => lv_bipush ok.1 ok.2.1 hd hv (k H locs hP hS ls hl)
theorem N_sipush (ok : OkC E G h own cc nv d mc ms) {i : Int} {v : Int32} (hd : decode cc pc = .ok (.sipush i, 3)) (hv : (Int16.ofInt i).toInt32 = v) (k : Nj E G n c sl (pc + 3) lo (.int v :: st)) : Nj E G n c sl pc lo st := by
  obtain ⟨p, l, e, R, s, m, args, below, meth, cd, Q, A, nL, n0, s0⟩ := E
  exact fun H locs hP hS ls hl => lv_sipush ok.1 ok.2.1 hd hv (k H locs hP hS ls hl)
theorem N_dup (ok : OkC E G h own cc nv d mc ms) {v : Value} (hd : decode cc pc = .ok (.dup, 1)) (hc : v.category = 1) (k : Nj E G n c sl (pc + 1) lo (v :: v :: st)) : Nj E G n c sl pc lo (v :: st) := by
  obtain ⟨p, l, e, R, s, m, args, below, meth, cd, Q, A, nL, n0, s0⟩ := E
  exact fun H locs hP hS ls hl => lv_dup ok.1 ok.2.1 hd hc (k H locs hP hS ls hl)
theorem N_goto (ok : OkC E G h own cc nv d mc ms) {off : Int} {tgt : Nat} (hd : decode cc pc = .ok (.goto off, 3)) (ht : (pc : Int) + off = (tgt : Int)) (k : Nj E G n c sl tgt lo st) : Nj E G n c sl pc lo st := by
  obtain ⟨p, l, e, R, s, m, args, below, meth, cd, Q, A, nL, n0, s0⟩ := E
  exact fun H locs hP hS ls hl => lv_goto ok.1 ok.2.1 hd ht (k H locs hP hS ls hl)
theorem N_icmp_ge (ok : OkC E G h own cc nv d mc ms) {x y : Int32} {off : Int} {tgt : Nat} (hd : decode cc pc = .ok (.if_icmp .ge off, 3)) (ht : (pc : Int) + off = (tgt : Int)) (kt : y ≤ x → Nj E G n c sl tgt lo st) (kf : ¬ y ≤ x → Nj E G n c sl (pc + 3) lo st) : Nj E G n c sl pc lo (.int y :: .int x :: st) := by
  obtain ⟨p, l, e, R, s, m, args, below, meth, cd, Q, A, nL, n0, s0⟩ := E
  exact fun H locs hP hS ls hl => lv_icmp_ge ok.1 ok.2.1 hd ht (fun h => kt h H locs hP hS ls hl) (fun h => kf h H locs hP hS ls hl)
theorem N_aload0 (ok : OkC E G h own cc nv d mc ms) {r : List (Option Value)} {x : Nat} (hd : decode cc pc = .ok (.aload_n 0, 1)) (k : Nj E G n c sl (pc + 1) (some (.ref x) :: r) (.ref x :: st)) : Nj E G n c sl pc (some (.ref x) :: r) st := by
  obtain ⟨p, l, e, R, s, m, args, below, meth, cd, Q, A, nL, n0, s0⟩ := E
  exact fun H locs hP hS ls hl => lv_aload_n ok.1 ok.2.1 hd rfl (hl.2.2 0 (.ref x) rfl) (k H locs hP hS ls hl)
theorem N_aload1 (ok : OkC E G h own cc nv d mc ms) {a0 : Option Value} {r : List (Option Value)} {x : Nat} (hd : decode cc pc = .ok (.aload_n 1, 1)) (k : Nj E G n c sl (pc + 1) (a0 :: some (.ref x) :: r) (.ref x :: st)) : Nj E G n c sl pc (a0 :: some (.ref x) :: r) st := by
  obtain ⟨p, l, e, R, s, m, args, below, meth, cd, Q, A, nL, n0, s0⟩ := E
  exact fun H locs hP hS ls hl => lv_aload_n ok.1 ok.2.1 hd rfl (hl.2.2 1 (.ref x) rfl) (k H locs hP hS ls hl)
theorem N_iload1 (ok : OkC E G h own cc nv d mc ms) {a0 : Option Value} {r : List (Option Value)} {x : Int32} (hd : decode cc pc = .ok (.iload_n 1, 1)) (k : Nj E G n c sl (pc + 1) (a0 :: some (.int x) :: r) (.int x :: st)) : Nj E G n c sl pc (a0 :: some (.int x) :: r) st := by
  obtain ⟨p, l, e, R, s, m, args, below, meth, cd, Q, A, nL, n0, s0⟩ := E
  exact fun H locs hP hS ls hl => lv_iload_n ok.1 ok.2.1 hd rfl (hl.2.2 1 (.int x) rfl) (k H locs hP hS ls hl)
theorem N_istore1 (ok : OkC E G h own cc nv d mc ms) {a0 : Option Value} {r : List (Option Value)} {b : Option Value} {x : Int32} (hn : 1 < nv) (hd : decode cc pc = .ok (.istore_n 1, 1)) (hc : nl a0 = true) (k : Nj E G n c sl (pc + 1) (a0 :: some (.int x) :: r) st) : Nj E G n c sl pc (a0 :: b :: r) (.int x :: st) := by
  obtain ⟨p, l, e, R, s, m, args, below, meth, cd, Q, A, nL, n0, s0⟩ := E
  intro H locs hP hS ls hl
  refine lv_istore_n ok.1 ok.2.1 hd rfl (hl.pairs) (by have := ok.2.2.2.2.2.2.2.2.1; omega) rfl (fun ls2 h2 => k H locs hP hS ls2 (hasL.st1 (i := 1) (w := .int x) h2 rfl ?_))
  exact hc
theorem N_astore1 (ok : OkC E G h own cc nv d mc ms) {a0 : Option Value} {r : List (Option Value)} {b : Option Value} {x : Nat} (hn : 1 < nv) (hd : decode cc pc = .ok (.astore_n 1, 1)) (hc : nl a0 = true) (k : Nj E G n c sl (pc + 1) (a0 :: some (.ref x) :: r) st) : Nj E G n c sl pc (a0 :: b :: r) (.ref x :: st) := by
  obtain ⟨p, l, e, R, s, m, args, below, meth, cd, Q, A, nL, n0, s0⟩ := E
  intro H locs hP hS ls hl
  refine lv_astore_n ok.1 ok.2.1 hd rfl (hl.pairs) (by have := ok.2.2.2.2.2.2.2.2.1; omega) rfl (fun ls2 h2 => k H locs hP hS ls2 (hasL.st1 (i := 1) (w := .ref x) h2 rfl ?_))
  exact hc
theorem N_iinc1 (ok : OkC E G h own cc nv d mc ms) {a0 : Option Value} {r : List (Option Value)} {x v : Int32} {z : Int} (hn : 1 < nv) (hd : decode cc pc = .ok (.iinc 1 z, 3)) (hv : x + Int32.ofInt z = v) (hc : nl a0 = true) (k : Nj E G n c sl (pc + 3) (a0 :: some (.int v) :: r) st) : Nj E G n c sl pc (a0 :: some (.int x) :: r) st := by
  obtain ⟨p, l, e, R, s, m, args, below, meth, cd, Q, A, nL, n0, s0⟩ := E
  intro H locs hP hS ls hl
  obtain ⟨kk, hkk⟩ := hl.place (i := 1) (v := .int x) rfl
  refine lv_iinc ok.1 ok.2.1 hd (hl.pairs) hkk hv (by have := ok.2.2.2.2.2.2.2.2.1; omega) rfl (fun ls2 h2 => k H locs hP hS ls2 (hasL.st1 (i := 1) (w := .int v) h2 rfl ?_))
  exact hc
theorem N_getR (ok : OkC E G h own cc nv d mc ms) {x k ci j t : Nat} {ref C : String} {T : u_T} {N : Nat} {fs : List Value} (hd : decode cc pc = .ok (.getfield x, 3)) (hk : k < n) (he : c k = .inr (ci, fs)) (hcl : vwCl[ci]? = some (C, T, N)) (hin : ∀ w ∈ u_ws C T N, w ∈ mS) (hj : fs[j]? = some (.ref (G.2.2 t))) (hl : Cond.fieldLink own x ref (T j).2.1 (T j).2.2.1 ∈ mS) (hs : (T j).1 = ref) (hN : j < N) (kk : Nj E G n c sl (pc + 3) lo (.ref (G.2.2 t) :: st)) : Nj E G n c sl pc lo (.ref (G.2.2 k) :: st) := by
  obtain ⟨p, l, e, R, s, m, args, below, meth, cd, Q, A, nL, n0, s0⟩ := E
  exact fun H locs hP hS ls hls => va_get ok.1 ok.2.1 ok.2.2.2.2.1 hin ok.2.2.2.1 ok.2.2.2.2.2.1.1.1 hP k ((wn_get hk).trans (by rw [he])) hcl j hN (ok.2.2.2.2.1 _ hl) (fun _ h => hs ▸ h) hj hd (kk H locs hP hS ls hls)
theorem N_putF (ok : OkC E G h own cc nv d mc ms) (hi : EmI E) {x k ci j : Nat} {v : Value} {ref C : String} {T : u_T} {N : Nat} {ty0 : Nat → FieldType} {ty : FieldType} {fs : List Value} (hd : decode cc pc = .ok (.putfield x, 3)) (hk : k < n) (he : c k = .inr (ci, fs)) (hcl : vwCl[ci]? = some (C, T, N)) (hin : ∀ w ∈ u_ws C T N, w ∈ mS) (hty : ∀ k, k < N → parseFieldDescriptor (T k).2.2.1 = some (ty0 k)) (hnm : ∀ a, a < N → ∀ b, b < N → a ≠ b → (T a).2.1 ≠ (T b).2.1) (hl : Cond.fieldLink own x ref (T j).2.1 (T j).2.2.1 ∈ mS) (hs : (T j).1 = ref) (hN : j < N) (hfin : (T j).2.2.2 = true) (hdecl : (T j).1 = own) (hp : ty0 j = ty) (hnar : narrow ty v = v) (hfit : fits ty v = true) (hlen : j < fs.length) (kk : Nj E G n (ud c k (.inr (ci, fs.set j v))) sl (pc + 3) lo st) : Nj E G n c sl pc lo (v :: .ref (G.2.2 k) :: st) := by
  obtain ⟨p, l, e, R, s, m, args, below, meth, cd, Q, A, nL, n0, s0⟩ := E
  intro H locs hP hS ls hls
  obtain ⟨o1, o2, o3, o4, o5, o6, o7, o8, o9, o10, o11, o12, o13, o14⟩ := ok
  subst o7
  refine va_putF (v := v) (ty := ty) o1 o2 o5 hin ty0 hty hnm o4 o6.1.1 hP (wn_D o8) hS k ((wn_get hk).trans (by rw [he])) hcl j hN (o5 _ hl) (fun _ h => hs ▸ h) hfin hi hdecl ((hty j hN).trans (by rw [hp])) hnar hfit hlen hd (fun H1 locs1 hP1 _ hS1 => kk H1 locs1 ?_ hS1 ls hls)
  rw [wn_set hk] at hP1
  exact hP1
theorem N_put (ok : OkC E G h own cc nv d mc ms) {x k ci j : Nat} {v : Value} {ref C : String} {T : u_T} {N : Nat} {ty0 : Nat → FieldType} {ty : FieldType} {fs : List Value} (hd : decode cc pc = .ok (.putfield x, 3)) (hk : k < n) (he : c k = .inr (ci, fs)) (hcl : vwCl[ci]? = some (C, T, N)) (hin : ∀ w ∈ u_ws C T N, w ∈ mS) (hty : ∀ k, k < N → parseFieldDescriptor (T k).2.2.1 = some (ty0 k)) (hnm : ∀ a, a < N → ∀ b, b < N → a ≠ b → (T a).2.1 ≠ (T b).2.1) (hl : Cond.fieldLink own x ref (T j).2.1 (T j).2.2.1 ∈ mS) (hs : (T j).1 = ref) (hN : j < N) (hfin : (T j).2.2.2 = false) (hp : ty0 j = ty) (hnar : narrow ty v = v) (hfit : fits ty v = true) (hlen : j < fs.length) (kk : Nj E G n (ud c k (.inr (ci, fs.set j v))) sl (pc + 3) lo st) : Nj E G n c sl pc lo (v :: .ref (G.2.2 k) :: st) := by
  obtain ⟨p, l, e, R, s, m, args, below, meth, cd, Q, A, nL, n0, s0⟩ := E
  intro H locs hP hS ls hls
  obtain ⟨o1, o2, o3, o4, o5, o6, o7, o8, o9, o10, o11, o12, o13, o14⟩ := ok
  subst o7
  refine va_put (v := v) (ty := ty) o1 o2 o5 hin ty0 hty hnm o4 o6.1.1 hP (wn_D o8) hS k ((wn_get hk).trans (by rw [he])) hcl j hN (o5 _ hl) (fun _ h => hs ▸ h) hfin ((hty j hN).trans (by rw [hp])) hnar hfit hlen hd (fun H1 locs1 hP1 _ hS1 => kk H1 locs1 ?_ hS1 ls hls)
  rw [wn_set hk] at hP1
  exact hP1
/-- where a new cell lies -/
theorem new_at {n0 q : Nat} {H1 : Heap} {s : State} {e : va_E} (hG : ∀ i, G.2.2 i = h + i) (h0 : n0 ≤ n) (hs : s.heap.size = h + n0) (hP : va_P G.1 vwCl (wn G n c ++ [(q, e)]) H1) (hD : va_D (fun q => h ≤ q) (wn G n c ++ [(q, e)])) (hz : H1.size ≤ s.heap.size + (n - n0 + 1)) : q = G.2.2 n := by
  have hl : (wn G n c).length = n := by simp [wn]
  have hg : (wn G n c ++ [(q, e)])[n]? = some (q, e) := by
    rw [List.getElem?_append_right (by omega), hl, Nat.sub_self]; rfl
  have h1 : q < H1.size := (hP n _ hg).lt
  have h2 : h ≤ q := hD.2 n _ hg
  rw [hG]
  by_cases hq : q < h + n
  · exfalso
    have hg2 : (wn G n c ++ [(q, e)])[q - h]? = some (G.2.2 (q - h), c (q - h)) := by
      rw [List.getElem?_append_left (by omega)]; exact wn_get (by omega)
    have := hD.1 (q - h) n _ _ hg2 hg (by show G.2.2 (q - h) = q; rw [hG]; omega)
    omega
  · omega
theorem N_new (ok : OkC E G h own cc nv d mc ms) {x ci N : Nat} {C : String} {T : u_T} {ty : Nat → FieldType} {fs : List Value} (hd : decode cc pc = .ok (.new x, 3)) (hcl : vwCl[ci]? = some (C, T, N)) (hin : ∀ w ∈ u_ws C T N, w ∈ mS) (hty : ∀ k, k < N → parseFieldDescriptor (T k).2.2.1 = some (ty k)) (h1 : Cond.classLink own x C ∈ mS) (h2 : Cond.instantiable C N ∈ mS) (h3 : Cond.initialized C ∈ mS) (hfs : ∀ j, j < N → defaultValue (ty j) = vp_V fs j) (hn0 : En0 E ≤ n) (hc : n + 1 - En0 E ≤ mc) (hsl : sl + N ≤ ms) (k : Nj E G (n + 1) (ud c n (.inr (ci, fs))) (sl + N) (pc + 3) lo (.ref (G.2.2 n) :: st)) : Nj E G n c sl pc lo st := by
  obtain ⟨p, l, e, R, s, m, args, below, meth, cd, Q, A, nL, n0, s0⟩ := E
  intro H locs hP hS ls hls
  obtain ⟨o1, o2, o3, o4, o5, o6, o7, o8, o9, o10, o11, o12, o13, o14⟩ := ok
  have hn0 : n0 ≤ n := hn0
  have hc : n + 1 - n0 ≤ mc := hc
  subst o7
  have e1 : n - n0 + 1 = n + 1 - n0 := by omega
  refine va_new (ci := ci) (fs := fs) o1 o2 o5 hin ty hty o4 (o5 _ h1) (o5 _ h2) (o5 _ h3) o6.1.1 hP (wn_D o8) hS (fun q hq => by rw [o14] at hq; show h ≤ q; omega) hcl hfs (by omega) (by omega) hd (fun q H1 hP1 hD1 hS1 => W.sz (fun hz => ?_))
  have hq := new_at o8 hn0 o14 hP1 hD1 hz
  subst hq
  rw [wn_push] at hP1
  rw [e1]
  exact k H1 locs hP1 hS1 ls hls
theorem N_newa (ok : OkC E G h own cc nv d mc ms) {atype : ArrayType} {ty : FieldType} {t N : Nat} {x : Int32} {a0 : vp_A} (hd : decode cc pc = .ok (.newarray atype, 2)) (hty : newarray.typeOf atype = ty) (ht : (tysG G)[t]? = some (G.2.1 t, ty)) (hra : ∀ (U : State) (cA cB : ClassId), va_RA U cA ty → va_RA U cB ty → cA = cB) (hw : Cond.arrayClass ty ∈ mS) (ha : ∀ cA : ClassId, vp_cell cA a0 = arrV cA N (fun _ => defaultValue ty)) (hx : ¬ x < 0) (hN : x.toNatClampNeg = N) (hby : N * componentBytes ty ≤ 536870912) (hn0 : En0 E ≤ n) (hc : n + 1 - En0 E ≤ mc) (hsl : sl + N ≤ ms) (k : Nj E G (n + 1) (ud c n (.inl (G.2.1 t, a0))) (sl + N) (pc + 2) lo (.ref (G.2.2 n) :: st)) : Nj E G n c sl pc lo (.int x :: st) := by
  obtain ⟨p, l, e, R, s, m, args, below, meth, cd, Q, A, nL, n0, s0⟩ := E
  intro H locs hP hS ls hls
  obtain ⟨o1, o2, o3, o4, o5, o6, o7, o8, o9, o10, o11, o12, o13, o14⟩ := ok
  have hn0 : n0 ≤ n := hn0
  have hc : n + 1 - n0 ≤ mc := hc
  subst o7
  have e1 : n - n0 + 1 = n + 1 - n0 := by omega
  refine va_newa (atype := atype) (ty := ty) (a0 := a0) o1 o2 (by rw [hty]; exact o5 _ hw) hty o6.1.1 hP (wn_D o8) hS (fun q hq => by rw [o14] at hq; show h ≤ q; omega) ha hx hN hby (by omega) (by omega) hd (fun q cA H1 hK1 hP1 hD1 hS1 => W.sz (fun hz => ?_))
  have hq := new_at o8 hn0 o14 hP1 hD1 hz
  subst hq
  have hcA : cA = G.2.1 t := hra s _ _ (hK1.2 (tysG G).length (cA, ty) (by rw [List.getElem?_append_right (Nat.le_refl _), Nat.sub_self]; rfl)).2 (o6.1.1.2 t _ ht).2
  subst hcA
  rw [wn_push] at hP1
  rw [e1]
  exact k H1 locs hP1 hS1 ls hls
theorem N_newq (ok : OkC E G h own cc nv d mc ms) {i t N : Nat} {C : String} {x : Int32} (hd : decode cc pc = .ok (.anewarray i, 3)) (h1 : Cond.classLink own i C ∈ mS) (hao : ∀ U, Wc G U → va_AO C U) (ht : (tysG G)[t]? = some (G.2.1 t, .object C)) (hx : ¬ x < 0) (hN : x.toNatClampNeg = N) (hby : N * 4 ≤ 536870912) (hn0 : En0 E ≤ n) (hc : n + 1 - En0 E ≤ mc) (hsl : sl + N ≤ ms) (k : Nj E G (n + 1) (ud c n (.inl (G.2.1 t, N, .inr (.inr (.inr (.inr (fun _ => none))))))) (sl + N) (pc + 3) lo (.ref (G.2.2 n) :: st)) : Nj E G n c sl pc lo (.int x :: st) := by
  obtain ⟨p, l, e, R, s, m, args, below, meth, cd, Q, A, nL, n0, s0⟩ := E
  intro H locs hP hS ls hls
  obtain ⟨o1, o2, o3, o4, o5, o6, o7, o8, o9, o10, o11, o12, o13, o14⟩ := ok
  have hn0 : n0 ≤ n := hn0
  have hc : n + 1 - n0 ≤ mc := hc
  subst o7
  have e1 : n - n0 + 1 = n + 1 - n0 := by omega
  refine va_newq (C := C) o1 o2 o4 (o5 _ h1) (hao _ o6) o6.1.1 hP (wn_D o8) hS (fun q hq => by rw [o14] at hq; show h ≤ q; omega) hx hN hby (by omega) (by omega) hd (fun q cA H1 hK1 hP1 hD1 hS1 => W.sz (fun hz => ?_))
  have hq := new_at o8 hn0 o14 hP1 hD1 hz
  subst hq
  have hcA : cA = G.2.1 t := by
    obtain ⟨_, _, _, _, _, q1⟩ := (hK1.2 (tysG G).length (cA, .object C) (by rw [List.getElem?_append_right (Nat.le_refl _), Nat.sub_self]; rfl)).2
    obtain ⟨_, _, _, _, _, q2⟩ := (o6.1.1.2 t _ ht).2
    exact Option.some.inj (q1.symm.trans q2)
  subst hcA
  rw [wn_push] at hP1
  rw [e1]
  exact k H1 locs hP1 hS1 ls hls
theorem N_astq (ok : OkC E G h own cc nv d mc ms) {ka kv ci t N i : Nat} {r : vw_C} {vs : List Value} {f : Nat → Option Nat} {x : Int32} (hd : decode cc pc = .ok (.aastore, 1)) (hka : ka < n) (hkv : kv < n) (ha : c ka = .inl (G.2.1 t, N, .inr (.inr (.inr (.inr f))))) (ht : (tysG G)[t]? = some (G.2.1 t, .object r.1)) (hv : c kv = .inr (ci, vs)) (hcl : vwCl[ci]? = some r) (hx : x = nI i) (hi : i < N) (hN : N < 5000) (kk : Nj E G n (ud c ka (.inl (G.2.1 t, N, .inr (.inr (.inr (.inr (va_up f i (some (G.2.2 kv))))))))) sl (pc + 1) lo st) : Nj E G n c sl pc lo (.ref (G.2.2 kv) :: .int x :: .ref (G.2.2 ka) :: st) := by
  obtain ⟨p, l, e, R, s, m, args, below, meth, cd, Q, A, nL, n0, s0⟩ := E
  intro H locs hP hS ls hls
  obtain ⟨o1, o2, o3, o4, o5, o6, o7, o8, o9, o10, o11, o12, o13, o14⟩ := ok
  subst o7
  subst hx
  refine va_astq o1 o2 o6.1.1 hP (wn_D o8) hS ka t kv ci ((wn_get hka).trans (by rw [ha])) ht ((wn_get hkv).trans (by rw [hv])) hcl (vp_in_nI hi (by omega)) hd (fun H1 locs1 hP1 _ hS1 => kk H1 locs1 ?_ hS1 ls hls)
  rw [nI_clamp (by omega), wn_set hka] at hP1
  exact hP1
theorem N_iast (ok : OkC E G h own cc nv d mc ms) {ka N i : Nat} {f : Nat → Int32} {x v : Int32} (hd : decode cc pc = .ok (.iastore, 1)) (hka : ka < n) (ha : c ka = .inl (G.2.1 0, N, .inl f)) (hx : x = nI i) (hi : i < N) (hN : N < 5000) (kk : Nj E G n (ud c ka (.inl (G.2.1 0, N, .inl (upd f i v)))) sl (pc + 1) lo st) : Nj E G n c sl pc lo (.int v :: .int x :: .ref (G.2.2 ka) :: st) := by
  obtain ⟨p, l, e, R, s, m, args, below, meth, cd, Q, A, nL, n0, s0⟩ := E
  intro H locs hP hS ls hls
  obtain ⟨o1, o2, o3, o4, o5, o6, o7, o8, o9, o10, o11, o12, o13, o14⟩ := ok
  subst o7
  subst hx
  refine va_iast o1 o2 o6.1.1 hP (wn_D o8) hS ka 0 ((wn_get hka).trans (by rw [ha])) rfl (vp_in_nI hi (by omega)) hd (fun H1 locs1 hP1 _ hS1 => kk H1 locs1 ?_ hS1 ls hls)
  rw [nI_clamp (by omega), wn_set hka] at hP1
  exact hP1
theorem N_objInit (ok : OkC E G h own cc nv d mc ms) {x a : Nat} (hd : decode cc pc = .ok (.invokespecial x, 3)) (h1 : Cond.methodLink own x objectInit ∈ mS) (hd1 : 1 ≤ d) (hst : st = []) (kk : Nj E G n c sl (pc + 3) lo st) : Nj E G n c sl pc lo (.ref a :: st) := by
  obtain ⟨p, l, e, R, s, m, args, below, meth, cd, Q, A, nL, n0, s0⟩ := E
  intro H locs hP hS ls hls
  obtain ⟨o1, o2, o3, o4, o5, o6, o7, o8, o9, o10, o11, o12, o13, o14⟩ := ok
  subst hst
  refine W.objInit o1 o2 o4 (o5 _ h1) (o5 _ kw80) (o5 _ kw81) rfl (by rw [o3]; exact hls.1) rfl hd (by omega) (by show 2 * 0 + 0 + 12 ≤ _; omega) ?_
  exact W.eq (g2 := F0 m (pc + 3) ls []) rfl (kk H locs hP hS ls hls)
end NR
def rmC (d mc ms : Nat) : Room := { frames := d, cells := mc, slots := ms, locals := 40 * d }
def Qk (G : Gw) (h n : Nat) (c : Nat → va_E) : Array Value → State → Outcome → State → Prop := fun _ st oc t => (oc = .returned none ∧ va_P G.1 vwCl (wn G n c) t.heap) ∧ va_F (fun q => h ≤ q) st t
/-- a constructor's contract: from n cells with contents c to n' cells with contents c' -/
def Ck (l : Launch) (y : MethodName) (cc : ByteArray) (nv d : Nat) (G : Gw) (h : Nat) (as : List Value) (n : Nat) (c : Nat → va_E) (n' : Nat) (c' : Nat → va_E) (ms : Nat) : Prop :=
  Met l y (.code y cc nv none :: mS) (rmC d (n' - n) ms) (va_Pc as (fun U => va_P G.1 vwCl (wn G n c) U.heap ∧ U.heap.size = h + n ∧ Wc G U ∧ ∀ i, G.2.2 i = h + i)) (Qk G h n' c') (n' - n) ms (fun q => h ≤ q)
def OkrC (E : Ev) (G : Gw) (h n' : Nat) (c' : Nat → va_E) (mc ms : Nat) : Prop := match E with
  | (_, _, _, _, s, _, args, below, meth, _, Q, _, _, _, _) => meth.sig.returnType = none ∧ meth.locks = false ∧ Q = MQ below (Qk G h n' c') args s mc ms (fun q => h ≤ q)
theorem Ck.of {l : Launch} {y : MethodName} {cc : ByteArray} {nv d : Nat} {G : Gw} {h : Nat} {as : List Value} {n : Nat} {c : Nat → va_E} {n' : Nat} {c' : Nat → va_E} {ms : Nat} (hy : plainName y.cls = true) (hyn : y.name = "<init>") (hn : (lg_sl as).length ≤ nv) (lo : List (Option Value)) (hlo : lo = loE as ++ List.replicate (nv - (lg_sl as).length) none)
    (body : ∀ E : Ev, OkC E G h y.cls cc nv d (n' - n) ms → OkrC E G h n' c' (n' - n) ms → EmI E → En0 E = n → E.2.1 = l → Nj E G n c 0 0 lo []) : Ck l y cc nv d G h as n c n' c' ms := by
  refine Met.ofW (cc := cc) (maxL := nv) (ret := none) hy rfl ?_
  intro p e s m args below meth cd s₁ B hml hv
  obtain ⟨rfl, hP, hsz, hK, hG⟩ := hv
  have hts := atoms_spec (ws := .code y cc nv none :: mS) B.pre
  have hown : s.vm.findClass y.cls = some m.cls := findClass_of_methodNamed B.named
  have hin : meth.name = y.name := (name_of_methodNamed B.named B.method).1
  have hl := lv_entry as (n := nv) hn
  rw [lg_entry_eq]
  have hb := body (p, l, e, rmC d (n' - n) ms, s, m, as.toArray, below, meth, cd, MQ below (Qk G h n' c') as.toArray s (n' - n) ms (fun q => h ≤ q), (fun q => h ≤ q), nv, n, 0) ⟨B.exec, B.bytes, hml, hown, fun w hw => hts w (List.mem_cons_of_mem _ hw), hK, rfl, hG, rfl, Nat.le_refl _, Nat.le_refl _, Nat.le_refl _, Nat.le_refl _, hsz⟩ ⟨B.returns, B.notSynchronized, rfl⟩ (hin.trans hyn) rfl rfl s.heap [] hP va_S.rf _ ⟨hl.1, hl.2.1, fun i v hi => ?_⟩
  · rw [Nat.sub_self] at hb
    exact hb
  · subst hlo
    by_cases hlt : i < (loE as).length
    · rw [List.getElem?_append_left hlt] at hi
      have := loE_args as 0 i v hi
      rw [Nat.zero_add] at this
      exact hl.2.2 (i, v) this
    · rw [List.getElem?_append_right (by omega)] at hi
      have h3 := List.mem_of_getElem? hi
      rw [List.mem_replicate] at h3
      cases h3.2
theorem Ck_blind {G : Gw} {h n : Nat} {c : Nat → va_E} {as : List Value} : FrameBlind (va_Pc as (fun U => va_P G.1 vwCl (wn G n c) U.heap ∧ U.heap.size = h + n ∧ Wc G U ∧ ∀ i, G.2.2 i = h + i)) := fun a U g mk q => ⟨q.1, q.2.1, q.2.2.1, q.2.2.2.1.call, q.2.2.2.2⟩
section NR2
variable {E : Ev} {G : Gw} {h n sl : Nat} {c c' : Nat → va_E} {own : String} {cc : ByteArray} {nv d mc ms pc : Nat} {lo lo' : List (Option Value)} {st : List Value}
theorem N_ret (ok : OkC E G h own cc nv d mc ms) {ms' n1 : Nat} (hE : En0 E = n1) (or : OkrC E G h n c (n - n1) ms') (hd : decode cc pc = .ok (.return_, 1)) (hsl : sl ≤ ms') : Nj E G n c sl pc lo [] := by
  obtain ⟨p, l, e, R, s, m, args, below, meth, cd, Q, A, nL, n0, s0⟩ := E
  intro H locs hP hS ls hls
  obtain ⟨o1, o2, o3, o4, o5, o6, o7, o8, o9, o10, o11, o12, o13, o14⟩ := ok
  obtain ⟨r1, r2, r3⟩ := or
  have hE : n0 = n1 := hE
  subst hE
  subst o7
  subst r3
  refine W.widen (k := n - n0) (n := ms') (Nat.le_refl _) hsl ?_
  exact W.vret o1 o2 r1 (fun t ht hW => ⟨⟨rfl, by rw [ht]; exact hP⟩, hS.F ht⟩) hS.2.2 hd r2
theorem run_N {p : Program} {l : Launch} {e : Env} {R : Room} {s : State} {m : MethodId} {args : Array Value} {below : List Frame} {meth : Method} {cd : Code} {Q : State → Prop} {A : Nat → Prop} {nL n0 s0 n' ms' : Nat} {a : Array Value} {st0 : List Value} (hA : A = fun q => h ≤ q) (h0 : n0 ≤ n) (hnn : n ≤ n') {H : Heap} {locs : List Loc} {ls : Array Slot} (hls : hasL ls nL lo) (hS : va_S A s.heap H locs)
    (hr : va_Run p l e R s m args below meth cd H locs (n - n0) sl (n' - n) ms' (F0 m pc ls st0) st (Qk G h n' c' a) (fun q => h ≤ q))
    (k : Nj (p, l, e, R, s, m, args, below, meth, cd, Q, A, nL, n0, s0) G n' c' (sl + ms') (pc + 3) lo st) : W p l e R s m args below meth cd H locs (n - n0) sl Q (F0 m pc ls st0) := by
  subst hA
  intro T hT X
  obtain ⟨v, st₀, t, T', L, h0', X', hL, e1, e2, ⟨⟨hv, hP'⟩, hz, hk⟩, stp⟩ := hr T hT X
  cases hv
  rw [h0'] at hz hk
  rw [show n - n0 + (n' - n) = n' - n0 by omega] at X'
  obtain ⟨t2, a1, b1⟩ := k T'.heap (locs ++ L) (by rw [e1]; exact hP')
    ⟨Nat.le_trans hS.1 (by rw [e1]; exact hz), fun q h1 h2 => by rw [e1, hk q (Nat.lt_of_lt_of_le h1 hS.1) h2]; exact hS.2.1 q h1 h2, fun q hq => by
      rcases List.mem_append.mp hq with h | h
      · exact hS.2.2 q h
      · exact hL q h⟩ ls hls T' rfl X'
  exact ⟨t2, stp t2 a1, b1⟩
def CwI (own : String) (x : Nat) (y : MethodName) (b : ByteArray) (mL na : Nat) : Prop :=
  Cond.methodLink own x y ∈ mS ∧ Cond.instanceMethod y ∈ mS ∧ Cond.initialized y.cls ∈ mS ∧ Cond.code y b mL none ∈ mS ∧ (y.cls ≠ "java/lang/invoke/MethodHandle" ∧ y.cls ≠ "java/lang/invoke/VarHandle" ∧ (parseMethodDescriptor y.desc).map (fun d => d.parameters.length) = some na) ∧ mL ≤ 20 ∧ y.name = "<init>"
def CwJ (own : String) (x : Nat) (y : MethodName) (b : ByteArray) (mL na : Nat) (host : String) : Prop :=
  Cond.methodLinkNest own x y host ∈ nestC ∧ Cond.instanceMethod y ∈ mS ∧ Cond.initialized y.cls ∈ mS ∧ Cond.code y b mL none ∈ mS ∧ (y.cls ≠ "java/lang/invoke/MethodHandle" ∧ y.cls ≠ "java/lang/invoke/VarHandle" ∧ (parseMethodDescriptor y.desc).map (fun d => d.parameters.length) = some na) ∧ mL ≤ 20 ∧ y.name = "<init>"
theorem N_init (ok : OkC E G h own cc nv d mc ms) {x mL na d' ms' a n' : Nat} {y : MethodName} {b : ByteArray} {As st0 : List Value} (hd : decode cc pc = .ok (.invokespecial x, 3)) (cw : CwI own x y b mL na) (hC : Ck E.2.1 y b mL d' G h (.ref a :: As) n c n' c' ms') (hst : st0 = As.reverse ++ .ref a :: st) (hna : As.length = na) (hdd : d' < d) (hsm : (st.map fun v => v.category).sum ≤ 8) (hn1 : 0 < n) (hn0 : En0 E ≤ n) (hnn : n ≤ n') (hc : n' - En0 E ≤ mc) (hsl : sl + ms' ≤ ms) (kk : Nj E G n' c' (sl + ms') (pc + 3) lo st) : Nj E G n c sl pc lo st0 := by
  obtain ⟨p, l, e, R, s, m, args, below, meth, cd, Q, A, nL, n0, s0⟩ := E
  intro H locs hP hS ls hls
  obtain ⟨o1, o2, o3, o4, o5, o6, o7, o8, o9, o10, o11, o12, o13, o14⟩ := ok
  obtain ⟨w1, w2, w4, w5, w6, w7, w8⟩ := cw
  have hn0 : n0 ≤ n := hn0
  have hc : n' - n0 ≤ mc := hc
  refine W.sz (fun hz => ?_)
  have hlt := (hP (n - 1) _ (wn_get (by omega))).lt
  have hlt : G.2.2 (n - 1) < H.size := hlt
  rw [o8] at hlt
  have hcB : CallB R s args own x y b mL none (.code y b mL none :: mS) (rmC d' (n' - n) ms') (n' - n) ms' na := callB_of na o5 (mS_code w5) rfl rfl rfl (o5 _ w4) (o5 _ w1) w6 ⟨by show d' + 1 ≤ _; omega, by show 8 + (mL + 11) + 40 * d' ≤ _; omega⟩
  exact run_N o7 hn0 hnn hls hS (va_runI (As := As) (rest := st) (n := na) ⟨o1, o2, o3.trans o9, o4, o5⟩ hC ⟨hcB, w8, o5 _ w2⟩ ⟨Ck_blind, fun U hU hW => ⟨rfl, by rw [hU]; exact hP, by rw [hU]; omega, o6.moved hW, o8⟩⟩ rfl hna (hls.1.trans o9) hst (lv_room hsm) hd ⟨by omega, by omega⟩) kk
theorem N_initN (ok : OkC E G h own cc nv d mc ms) {x mL na d' ms' a n' : Nat} {y : MethodName} {b : ByteArray} {host : String} {As st0 : List Value} (hd : decode cc pc = .ok (.invokespecial x, 3)) (cw : CwJ own x y b mL na host) (hC : Ck E.2.1 y b mL d' G h (.ref a :: As) n c n' c' ms') (hst : st0 = As.reverse ++ .ref a :: st) (hna : As.length = na) (hdd : d' < d) (hsm : (st.map fun v => v.category).sum ≤ 8) (hn1 : 0 < n) (hn0 : En0 E ≤ n) (hnn : n ≤ n') (hc : n' - En0 E ≤ mc) (hsl : sl + ms' ≤ ms) (kk : Nj E G n' c' (sl + ms') (pc + 3) lo st) : Nj E G n c sl pc lo st0 := by
  obtain ⟨p, l, e, R, s, m, args, below, meth, cd, Q, A, nL, n0, s0⟩ := E
  intro H locs hP hS ls hls
  obtain ⟨o1, o2, o3, o4, o5, o6, o7, o8, o9, o10, o11, o12, o13, o14⟩ := ok
  obtain ⟨w1, w2, w4, w5, w6, w7, w8⟩ := cw
  have hn0 : n0 ≤ n := hn0
  have hc : n' - n0 ≤ mc := hc
  refine W.sz (fun hz => ?_)
  have hlt := (hP (n - 1) _ (wn_get (by omega))).lt
  have hlt : G.2.2 (n - 1) < H.size := hlt
  rw [o8] at hlt
  have hcB : va_CN R s args own x y host b mL none (.code y b mL none :: mS) (rmC d' (n' - n) ms') (n' - n) ms' na := va_cnB na o5 (mS_code w5) rfl rfl rfl (o6.2.1 _ w1) (o5 _ w4) w6 ⟨by show d' + 1 ≤ _; omega, by show 8 + (mL + 11) + 40 * d' ≤ _; omega⟩
  exact run_N o7 hn0 hnn hls hS (va_runIN (As := As) (rest := st) (n := na) ⟨o1, o2, o3.trans o9, o4, o5⟩ hC ⟨hcB, w8, o5 _ w2⟩ ⟨Ck_blind, fun U hU hW => ⟨rfl, by rw [hU]; exact hP, by rw [hU]; omega, o6.moved hW, o8⟩⟩ rfl hna (hls.1.trans o9) hst (lv_room hsm) hd ⟨by omega, by omega⟩) kk
end NR2
/-- the first contents -/
def I0 : Mi := fun k j => if kd k = 5 ∧ j = 0 then 6 else if kd k = 2 ∧ j = 0 then -1 else if k = 121 ∧ j = 0 then 6 else if k = 136 ∧ j < 3 then -1 else 0
def J0 : Ml := fun _ _ => 0
def fin (G : Gw) (c : Nat → va_E) (k : Nat) : Nat → va_E := fun j => if j < k then c j else cel G I0 J0 j
theorem fin_ge {G : Gw} {c : Nat → va_E} {k j : Nat} (h : k ≤ j) : fin G c k j = cel G I0 J0 j := if_neg (by omega)
theorem fin_lt {G : Gw} {c : Nat → va_E} {k j : Nat} (h : j < k) : fin G c k j = c j := if_pos h
theorem ud_ud (c : Nat → va_E) (i : Nat) (e e' : va_E) : ud (ud c i e) i e' = ud c i e' := by
  funext j; unfold ud; split <;> rfl
theorem ud_same {c : Nat → va_E} {i : Nat} {e : va_E} (h : c i = e) : ud c i e = c := by
  funext j; unfold ud; split
  · rename_i q; rw [q, h]
  · rfl
theorem fin_ud {G : Gw} {B : Nat → va_E} {n : Nat} {e : va_E} (h : ∀ j, n ≤ j → B j = cel G I0 J0 j) : fin G (ud B n e) n = B := by
  funext j; unfold fin; split
  · rw [ud_ne _ _ (by omega)]
  · exact (h j (by omega)).symm
theorem tl1 {G : Gw} {c : Nat → va_E} {k n : Nat} {e : va_E} (h : k < n) : ∀ j, n ≤ j → ud (fin G c k) k e j = cel G I0 J0 j := fun j hj => by rw [ud_ne _ _ (by omega), fin_ge (by omega)]
theorem tl2 {G : Gw} {c : Nat → va_E} {k n a : Nat} {e e' : va_E} (h : k < n) (ha : a < n) : ∀ j, n ≤ j → ud (ud (fin G c k) k e) a e' j = cel G I0 J0 j := fun j hj => by rw [ud_ne _ _ (by omega), ud_ne _ _ (by omega), fin_ge (by omega)]
theorem cel0_i {G : Gw} {k : Nat} (h : kd k = 13) (h2 : k ≠ 136) : cel G I0 J0 k = .inl (G.2.1 0, ln k, .inl (fun _ => 0)) := by
  have hk : k ≠ 121 := fun q => by rw [q] at h; revert h; decide
  rw [cel_i h]
  have : I0 k = fun _ => 0 := by
    funext j; unfold I0; rw [h]
    rw [if_neg (by omega), if_neg (by omega), if_neg (by omega), if_neg (by omega)]
  rw [this]
theorem cel0_l {G : Gw} {k : Nat} (h : kd k = 14) : cel G I0 J0 k = .inl (G.2.1 1, ln k, .inr (.inl (fun _ => 0))) := by
  rw [cel_l h]; rfl
theorem ra_int (U : State) (cA cB : ClassId) (h : va_RA U cA .int) (h2 : va_RA U cB .int) : cA = cB := Option.some.inj ((show U.vm.findClass _ = some cA from h).symm.trans h2)
theorem ra_long (U : State) (cA cB : ClassId) (h : va_RA U cA .long) (h2 : va_RA U cB .long) : cA = cB := Option.some.inj ((show U.vm.findClass _ = some cA from h).symm.trans h2)
theorem ra_bool (U : State) (cA cB : ClassId) (h : va_RA U cA .boolean) (h2 : va_RA U cB .boolean) : cA = cB := Option.some.inj ((show U.vm.findClass _ = some cA from h).symm.trans h2)
section NR3
variable {E : Ev} {G : Gw} {h n sl : Nat} {c c' : Nat → va_E} {own : String} {cc : ByteArray} {nv d mc ms pc : Nat} {lo lo' : List (Option Value)} {st : List Value}
theorem N_e (he : c = c') (k : Nj E G n c' sl pc lo st) : Nj E G n c sl pc lo st := he ▸ k
/-- an array of ints that is what it is at the end -/
theorem N_newI (ok : OkC E G h own cc nv d mc ms) {N n0 : Nat} {x : Int32} (hE : En0 E = n0) (hd : decode cc pc = .ok (.newarray .int, 2)) (hB : ∀ j, n ≤ j → c j = cel G I0 J0 j) (hk : kd n = 13) (hl : ln n = N) (h6 : n ≠ 136) (hx : ¬ x < 0) (hN : x.toNatClampNeg = N) (hN2 : N < 5000) (hn0 : n0 ≤ n) (hc : n + 1 - n0 ≤ mc) (hsl : sl + N ≤ ms) (k : Nj E G (n + 1) c (sl + N) (pc + 2) lo (.ref (G.2.2 n) :: st)) : Nj E G n c sl pc lo (.int x :: st) := by
  refine N_newa (t := 0) (N := N) (a0 := (N, .inl (fun _ => 0))) ok hd rfl rfl ra_int kw108 (fun _ => rfl) hx hN (by show N * 4 ≤ _; omega) (by omega) (by omega) hsl (N_e (ud_same ?_) k)
  rw [hB n (Nat.le_refl _), cel0_i hk h6, hl]
theorem N_newL (ok : OkC E G h own cc nv d mc ms) {N n0 : Nat} {x : Int32} (hE : En0 E = n0) (hd : decode cc pc = .ok (.newarray .long, 2)) (hB : ∀ j, n ≤ j → c j = cel G I0 J0 j) (hk : kd n = 14) (hl : ln n = N) (hx : ¬ x < 0) (hN : x.toNatClampNeg = N) (hN2 : N < 5000) (hn0 : n0 ≤ n) (hc : n + 1 - n0 ≤ mc) (hsl : sl + N ≤ ms) (k : Nj E G (n + 1) c (sl + N) (pc + 2) lo (.ref (G.2.2 n) :: st)) : Nj E G n c sl pc lo (.int x :: st) := by
  refine N_newa (t := 1) (N := N) (a0 := (N, .inr (.inl (fun _ => 0)))) ok hd rfl rfl ra_long kw191 (fun _ => rfl) hx hN (by show N * 8 ≤ _; omega) (by omega) (by omega) hsl (N_e (ud_same ?_) k)
  rw [hB n (Nat.le_refl _), cel0_l hk, hl]
end NR3
section NR4
variable {E : Ev} {G : Gw} {h n sl : Nat} {f : Nat → va_E} {own : String} {cc : ByteArray} {nv d mc ms pc : Nat} {lo lo' : List (Option Value)} {st : List Value}
theorem B0_eq {G : Gw} {c : Nat → va_E} {k : Nat} {e : va_E} (hc : c k = e) : ∀ j, j < k + 1 → c j = ud (fin G c k) k e j := fun j hj => by
  by_cases q : j = k
  · rw [q, ud_eq, hc]
  · rw [ud_ne _ _ q, fin_lt (by omega)]
theorem N_pF (ok : OkC E G h own cc nv d mc ms) (hi : EmI E) {x k ci j : Nat} {v : Value} {ref C : String} {T : u_T} {N : Nat} {ty0 : Nat → FieldType} {fs fs' : List Value} (hd : decode cc pc = .ok (.putfield x, 3)) (hk : k < n) (hcl : vwCl[ci]? = some (C, T, N)) (hin : ∀ w ∈ u_ws C T N, w ∈ mS) (hty : ∀ k, k < N → parseFieldDescriptor (T k).2.2.1 = some (ty0 k)) (hnm : ∀ a, a < N → ∀ b, b < N → a ≠ b → (T a).2.1 ≠ (T b).2.1) (hl : Cond.fieldLink own x ref (T j).2.1 (T j).2.2.1 ∈ mS) (hs : (T j).1 = ref) (hN : j < N) (hfin : (T j).2.2.2 = true) (hdecl : (T j).1 = own) (hnar : narrow (ty0 j) v = v) (hfit : fits (ty0 j) v = true) (hlen : j < fs.length) (hset : fs.set j v = fs') (kk : Nj E G n (ud f k (.inr (ci, fs'))) sl (pc + 3) lo st) : Nj E G n (ud f k (.inr (ci, fs))) sl pc lo (v :: .ref (G.2.2 k) :: st) := by
  subst hset
  exact N_putF (ty := ty0 j) ok hi hd hk (ud_eq _ _ _) hcl hin hty hnm hl hs hN hfin hdecl rfl hnar hfit hlen (N_e (ud_ud _ _ _ _) kk)
theorem N_pI (ok : OkC E G h own cc nv d mc ms) {x k ci j : Nat} {v : Value} {ref C : String} {T : u_T} {N : Nat} {ty0 : Nat → FieldType} {fs fs' : List Value} (hd : decode cc pc = .ok (.putfield x, 3)) (hk : k < n) (hcl : vwCl[ci]? = some (C, T, N)) (hin : ∀ w ∈ u_ws C T N, w ∈ mS) (hty : ∀ k, k < N → parseFieldDescriptor (T k).2.2.1 = some (ty0 k)) (hnm : ∀ a, a < N → ∀ b, b < N → a ≠ b → (T a).2.1 ≠ (T b).2.1) (hl : Cond.fieldLink own x ref (T j).2.1 (T j).2.2.1 ∈ mS) (hs : (T j).1 = ref) (hN : j < N) (hfin : (T j).2.2.2 = false) (hnar : narrow (ty0 j) v = v) (hfit : fits (ty0 j) v = true) (hlen : j < fs.length) (hset : fs.set j v = fs') (kk : Nj E G n (ud f k (.inr (ci, fs'))) sl (pc + 3) lo st) : Nj E G n (ud f k (.inr (ci, fs))) sl pc lo (v :: .ref (G.2.2 k) :: st) := by
  subst hset
  exact N_put (ty := ty0 j) ok hd hk (ud_eq _ _ _) hcl hin hty hnm hl hs hN hfin rfl hnar hfit hlen (N_e (ud_ud _ _ _ _) kk)
theorem N_aQ (ok : OkC E G h own cc nv d mc ms) {ka kv ci t N i : Nat} {r : vw_C} {vs : List Value} {g : Nat → Option Nat} {x : Int32} (hd : decode cc pc = .ok (.aastore, 1)) (hka : ka < n) (hkv : kv < n) (ht : (tysG G)[t]? = some (G.2.1 t, .object r.1)) (hne : kv ≠ ka) (hv : f kv = .inr (ci, vs)) (hcl : vwCl[ci]? = some r) (hx : x = nI i) (hi : i < N) (hN : N < 5000) (kk : Nj E G n (ud f ka (.inl (G.2.1 t, N, .inr (.inr (.inr (.inr (va_up g i (some (G.2.2 kv))))))))) sl (pc + 1) lo st) : Nj E G n (ud f ka (.inl (G.2.1 t, N, .inr (.inr (.inr (.inr g)))))) sl pc lo (.ref (G.2.2 kv) :: .int x :: .ref (G.2.2 ka) :: st) :=
  N_astq ok hd hka hkv (ud_eq _ _ _) ht ((ud_ne _ _ hne).trans hv) hcl hx hi hN (N_e (ud_ud _ _ _ _) kk)
theorem N_iA (ok : OkC E G h own cc nv d mc ms) {ka N i : Nat} {g : Nat → Int32} {x v : Int32} (hd : decode cc pc = .ok (.iastore, 1)) (hka : ka < n) (hx : x = nI i) (hi : i < N) (hN : N < 5000) (kk : Nj E G n (ud f ka (.inl (G.2.1 0, N, .inl (upd g i v)))) sl (pc + 1) lo st) : Nj E G n (ud f ka (.inl (G.2.1 0, N, .inl g))) sl pc lo (.int v :: .int x :: .ref (G.2.2 ka) :: st) :=
  N_iast ok hd hka (ud_eq _ _ _) hx hi hN (N_e (ud_ud _ _ _ _) kk)
theorem N_newZ (ok : OkC E G h own cc nv d mc ms) {N n0 : Nat} {x : Int32} (hE : En0 E = n0) (hd : decode cc pc = .ok (.newarray .boolean, 2)) (hB : ∀ j, n ≤ j → f j = cel G I0 J0 j) (hk : n = 140) (hN' : N = 4096) (hx : ¬ x < 0) (hN : x.toNatClampNeg = N) (hn0 : n0 ≤ n) (hc : n + 1 - n0 ≤ mc) (hsl : sl + N ≤ ms) (k : Nj E G (n + 1) f (sl + N) (pc + 2) lo (.ref (G.2.2 n) :: st)) : Nj E G n f sl pc lo (.int x :: st) := by
  refine N_newa (t := 2) (N := N) (a0 := (N, .inl (fun _ => 0))) ok hd rfl rfl ra_bool kw1017 (fun _ => rfl) hx hN (by show N * 1 ≤ _; omega) (by omega) (by omega) hsl (N_e (ud_same ?_) k)
  rw [hB n (Nat.le_refl _)]
  subst hk
  subst hN'
  rw [cel_z rfl]
  rfl
end NR4
