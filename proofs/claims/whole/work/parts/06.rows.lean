/-! THE JUDGEMENT V: at pc, with the listed locals and stack, whatever heap holds the world of I and J, the machine comes to Q -/
abbrev Ev : Type := Program × Launch × Env × Room × State × MethodId × Array Value × List Frame × Method × Code × (State → Prop) × (Nat → Prop) × Nat × Nat × Nat
def hasL (ls : Array Slot) (nL : Nat) (lo : List (Option Value)) : Prop := ls.size = nL ∧ lv_wf ls ∧ ∀ (i : Nat) (v : Value), lo[i]? = some (some v) → ls[i]? = some (.val v)
def V (E : Ev) (G : Gw) (I : Mi) (J : Ml) (pc : Nat) (lo : List (Option Value)) (st : List Value) : Prop := match E with
  | (p, l, e, R, s, m, args, below, meth, c, Q, A, nL, cl, sl) => ∀ (H : Heap) (locs : List Loc), va_P G.1 vwCl (wl G I J) H → va_S A s.heap H locs → ∀ ls : Array Slot, hasL ls nL lo → W p l e R s m args below meth c H locs cl sl Q (F0 m pc ls st)
/-- what a frame knows: the machine, its code, its own words, its room of depth d -/
def Ok (E : Ev) (G : Gw) (own : String) (cc : ByteArray) (n d : Nat) : Prop := match E with
  | (p, _, _, R, s, m, args, _, _, c, _, A, nL, cl, sl) => p.tables.exec = Jvm.exec ∧ c.code = cc ∧ c.maxLocals = nL ∧ s.vm.findClass own = some m.cls ∧ (∀ w ∈ mS, w.before args s = true) ∧ Wk G s ∧ Gj G ∧ (∀ q, Aw G q → A q) ∧ nL = n ∧ d ≤ R.frames ∧ 40 * d ≤ R.locals ∧ cl ≤ R.cells ∧ sl ≤ R.slots
def Qw (G : Gw) (post : Option Value → Mi → Ml → Prop) : Array Value → State → Outcome → State → Prop := fun _ st oc t => (∃ (v : Option Value) (I : Mi) (J : Ml), oc = .returned v ∧ post v I J ∧ Wo G I J t) ∧ va_F (Aw G) st t
def Okr (E : Ev) (G : Gw) (ret : Option FieldType) (post : Option Value → Mi → Ml → Prop) : Prop := match E with
  | (_, _, _, _, s, _, args, below, meth, _, Q, A, _, cl, sl) => meth.sig.returnType = ret ∧ meth.locks = false ∧ A = Aw G ∧ Q = MQ below (Qw G post) args s cl sl (Aw G)
def rmD (d : Nat) : Room := { frames := d, cells := 0, slots := 0, locals := 40 * d }
/-- a contract -/
def Ct (l : Launch) (y : MethodName) (cc : ByteArray) (n : Nat) (ret : Option FieldType) (d : Nat) (G : Gw) (as : List Value) (I : Mi) (J : Ml) (post : Option Value → Mi → Ml → Prop) : Prop :=
  Met l y (.code y cc n ret :: mS) (rmD d) (va_Pc as (fun U => Wo G I J U ∧ Gj G)) (Qw G post) 0 0 (Aw G)
def pI (P : Int32 → Mi → Ml → Prop) : Option Value → Mi → Ml → Prop := fun v I J => ∃ r, v = some (.int r) ∧ P r I J
def pL (P : Int64 → Mi → Ml → Prop) : Option Value → Mi → Ml → Prop := fun v I J => ∃ r, v = some (.long r) ∧ P r I J
def pV (P : Mi → Ml → Prop) : Option Value → Mi → Ml → Prop := fun v I J => v = none ∧ P I J
theorem Wk.moved {G : Gw} {u U : State} (hW : u.WarmedH U.vm) (h : Wk G u) : Wk G U := ⟨va_K.moved hW.alike h.1, fun w hw => by
  have h2 := h.2 w hw
  simp only [nestL, List.mem_cons, List.not_mem_nil, or_false] at hw
  rcases hw with rfl | rfl | rfl <;> exact va_Nw.warmM hW h2⟩
/-- the locals at entry -/
def loE : List Value → List (Option Value)
  | [] => []
  | v :: vs => if v.category = 2 then some v :: none :: loE vs else some v :: loE vs
theorem loE_args : ∀ (vs : List Value) (n i : Nat) (v : Value), (loE vs)[i]? = some (some v) → (n + i, v) ∈ lv_args n vs
  | [], n, i, v, h => by simp [loE] at h
  | w :: vs, n, i, v, h => by
    by_cases hc : w.category = 2
    · simp only [loE, hc, if_true] at h
      simp only [lv_args, hc, if_true]
      match i, h with
      | 0, h => simp at h; subst h; exact List.mem_cons_self
      | 1, h => simp at h
      | i + 2, h =>
        have := loE_args vs (n + 2) i v (by simpa using h)
        exact List.mem_cons_of_mem _ (by rw [show n + (i + 2) = n + 2 + i by omega]; exact this)
    · simp only [loE, hc, if_false] at h
      simp only [lv_args, hc, if_false]
      match i, h with
      | 0, h => simp at h; subst h; exact List.mem_cons_self
      | i + 1, h =>
        have := loE_args vs (n + 1) i v (by simpa using h)
        exact List.mem_cons_of_mem _ (by rw [show n + (i + 1) = n + 1 + i by omega]; exact this)
theorem Ct.of {l : Launch} {y : MethodName} {cc : ByteArray} {n : Nat} {ret : Option FieldType} {d : Nat} {G : Gw} {as : List Value} {I : Mi} {J : Ml} {post : Option Value → Mi → Ml → Prop} (hy : plainName y.cls = true) (hn : (lg_sl as).length ≤ n) (lo : List (Option Value)) (hlo : lo = loE as ++ List.replicate (n - (lg_sl as).length) none)
    (body : ∀ E : Ev, Ok E G y.cls cc n d → Okr E G ret post → E.2.1 = l → V E G I J 0 lo []) : Ct l y cc n ret d G as I J post := by
  refine Met.ofW (cc := cc) (maxL := n) (ret := ret) hy rfl ?_
  intro p e s m args below meth c s₁ B hml hv
  obtain ⟨rfl, ⟨hP, hK⟩, hj⟩ := hv
  have hts := atoms_spec (ws := .code y cc n ret :: mS) B.pre
  have hown : s.vm.findClass y.cls = some m.cls := findClass_of_methodNamed B.named
  have hl := lv_entry as (n := n) hn
  rw [lg_entry_eq]
  refine body (p, l, e, rmD d, s, m, as.toArray, below, meth, c, MQ below (Qw G post) as.toArray s 0 0 (Aw G), Aw G, n, 0, 0) ⟨B.exec, B.bytes, hml, hown, fun w hw => hts w (List.mem_cons_of_mem _ hw), hK, hj, fun _ h => h, rfl, Nat.le_refl _, Nat.le_refl _, Nat.le_refl _, Nat.le_refl _⟩ ⟨B.returns, B.notSynchronized, rfl, rfl⟩ rfl s.heap [] hP va_S.rf _ ⟨hl.1, hl.2.1, fun i v hi => ?_⟩
  subst hlo
  by_cases hlt : i < (loE as).length
  · rw [List.getElem?_append_left hlt] at hi
    have := loE_args as 0 i v hi
    rw [Nat.zero_add] at this
    exact hl.2.2 (i, v) this
  · rw [List.getElem?_append_right (by omega)] at hi
    have h3 := List.mem_of_getElem? hi
    rw [List.mem_replicate] at h3
    cases h3.2
section RW
variable {E : Ev} {G : Gw} {I : Mi} {J : Ml} {own : String} {cc : ByteArray} {n d pc : Nat} {lo lo' : List (Option Value)} {st : List Value}
/-- other names for what is the same -/
theorem V_st {st' : List Value} (h : st' = st) (k : V E G I J pc lo st') : V E G I J pc lo st := h ▸ k
theorem V_i {x y : Int32} (h : x = y) (k : V E G I J pc lo (.int y :: st)) : V E G I J pc lo (.int x :: st) := h ▸ k
theorem V_l {x y : Int64} (h : x = y) (k : V E G I J pc lo (.long y :: st)) : V E G I J pc lo (.long x :: st) := h ▸ k
theorem V_I {I' : Mi} (h : I = I') (k : V E G I' J pc lo st) : V E G I J pc lo st := h ▸ k
theorem V_lo (h : lo = lo') (k : V E G I J pc lo' st) : V E G I J pc lo st := h ▸ k
theorem hasL.sub {ls : Array Slot} {nL : Nat} (h : hasL ls nL lo) (hs : ∀ (i : Nat) (v : Value), lo'[i]? = some (some v) → lo[i]? = some (some v)) : hasL ls nL lo' := ⟨h.1, h.2.1, fun i v hi => h.2.2 i v (hs i v hi)⟩
theorem V_sub (hs' : ∀ (i : Nat) (v : Value), lo'[i]? = some (some v) → lo[i]? = some (some v)) (k : V E G I J pc lo' st) : V E G I J pc lo st := by
  obtain ⟨p, l, e, R, s, m, args, below, meth, c, Q, A, nL, cl, sl⟩ := E
  exact fun H locs hP hS ls hl => k H locs hP hS ls (hl.sub hs')
/-- fewer locals are needed -/
def loSub : List (Option Value) → List (Option Value) → Prop
  | [], _ => True
  | none :: a, _ :: b => loSub a b
  | none :: a, [] => loSub a []
  | some v :: a, w :: b => w = some v ∧ loSub a b
  | some _ :: _, [] => False
theorem loSub_get : ∀ (a b : List (Option Value)), loSub a b → ∀ (i : Nat) (v : Value), a[i]? = some (some v) → b[i]? = some (some v)
  | [], _, _, i, v, h => by simp at h
  | none :: a, w :: b, hs, i, v, h => by
    match i, h with
    | 0, h => simp at h
    | i + 1, h => simpa using loSub_get a b hs i v (by simpa using h)
  | none :: a, [], hs, i, v, h => by
    match i, h with
    | 0, h => simp at h
    | i + 1, h =>
      have := loSub_get a [] hs i v (by simpa using h)
      simp at this
  | some u :: a, w :: b, hs, i, v, h => by
    obtain ⟨rfl, hs⟩ := hs
    match i, h with
    | 0, h => simpa using h
    | i + 1, h => simpa using loSub_get a b hs i v (by simpa using h)
theorem V_less (hs : loSub lo' lo) (k : V E G I J pc lo' st) : V E G I J pc lo st := V_sub (loSub_get lo' lo hs) k
def prs : Nat → List (Option Value) → List (Nat × Value)
  | _, [] => []
  | i, none :: l => prs (i + 1) l
  | i, some v :: l => (i, v) :: prs (i + 1) l
theorem prs_of : ∀ (l : List (Option Value)) (i j : Nat) (v : Value), (j, v) ∈ prs i l → ∃ k, j = i + k ∧ l[k]? = some (some v)
  | [], i, j, v, h => by simp [prs] at h
  | none :: l, i, j, v, h => by
    obtain ⟨k, h1, h2⟩ := prs_of l (i + 1) j v h
    exact ⟨k + 1, by omega, by simpa using h2⟩
  | some w :: l, i, j, v, h => by
    rcases List.mem_cons.mp h with h | h
    · cases h
      exact ⟨0, rfl, rfl⟩
    · obtain ⟨k, h1, h2⟩ := prs_of l (i + 1) j v h
      exact ⟨k + 1, by omega, by simpa using h2⟩
theorem prs_in : ∀ (l : List (Option Value)) (i k : Nat) (v : Value), l[k]? = some (some v) → (i + k, v) ∈ prs i l
  | [], i, k, v, h => by simp at h
  | none :: l, i, k, v, h => by
    match k, h with
    | 0, h => simp at h
    | k + 1, h =>
      have := prs_in l (i + 1) k v (by simpa using h)
      show (i + (k + 1), v) ∈ prs (i + 1) l
      rw [show i + (k + 1) = i + 1 + k by omega]; exact this
  | some w :: l, i, k, v, h => by
    match k, h with
    | 0, h => simp at h; subst h; exact List.mem_cons_self
    | k + 1, h =>
      have := prs_in l (i + 1) k v (by simpa using h)
      refine List.mem_cons_of_mem _ ?_
      rw [show i + (k + 1) = i + 1 + k by omega]; exact this
theorem hasL.pairs {ls : Array Slot} {nL : Nat} (h : hasL ls nL lo) : lv_has ls nL (prs 0 lo) := ⟨h.1, h.2.1, fun q hq => by
  obtain ⟨k, h1, h2⟩ := prs_of lo 0 q.1 q.2 hq
  rw [h1, Nat.zero_add]
  exact h.2.2 k q.2 h2⟩
theorem hasL.place {ls : Array Slot} {nL i : Nat} {v : Value} (_ : hasL ls nL lo) (hi : lo[i]? = some (some v)) : ∃ k : Nat, (prs 0 lo)[k]? = some (i, v) := by
  have := prs_in lo 0 i v hi
  rw [Nat.zero_add] at this
  obtain ⟨k, hk⟩ := List.getElem?_of_mem this
  exact ⟨k, hk⟩
def nl : Option Value → Bool
  | some v => v.category != 2
  | none => true
def sideOk (lo : List (Option Value)) : Nat → Prop
  | 0 => True
  | j + 1 => nl (lo.getD j none) = true
theorem hasL.st1 {ls2 : Array Slot} {nL i : Nat} {w : Value} (h2 : lv_has ls2 nL ((i, w) :: (prs 0 lo).filter (fun q => !(q.1 == i) && !(q.1 + 1 == i && q.2.category == 2)))) (hs : lo' = lo.set i (some w)) (hc : sideOk lo i) : hasL ls2 nL lo' := by
  refine ⟨h2.1, h2.2.1, fun j v hj => ?_⟩
  subst hs
  by_cases hij : i = j
  · subst hij
    have hlt : i < lo.length := by
      have := (List.getElem?_eq_some_iff.mp hj).1
      simpa using this
    rw [List.getElem?_set_self hlt] at hj
    have hj := Option.some.inj (Option.some.inj hj)
    subst hj
    exact h2.2.2 (i, w) List.mem_cons_self
  · rw [List.getElem?_set_ne hij] at hj
    refine h2.2.2 (j, v) (List.mem_cons_of_mem _ (List.mem_filter.mpr ⟨?_, ?_⟩))
    · have := prs_in lo 0 j v hj
      rwa [Nat.zero_add] at this
    · have h3 : ¬ (j + 1 = i ∧ v.category = 2) := by
        rintro ⟨h4, h5⟩
        subst h4
        have h6 : nl (lo.getD j none) = true := hc
        have h7 : lo.getD j none = some v := by simp [hj]
        rw [h7] at h6
        simp [nl, h5] at h6
      simp only [Bool.and_eq_true, Bool.not_eq_true', beq_eq_false_iff_ne, ne_eq, Bool.and_eq_false_iff]
      refine ⟨fun h => hij h.symm, ?_⟩
      by_cases h8 : j + 1 = i
      · exact Or.inr (fun h9 => h3 ⟨h8, h9⟩)
      · exact Or.inl h8
theorem hasL.st2 {ls2 : Array Slot} {nL i : Nat} {w : Value} (h2 : lv_has ls2 nL ((i, w) :: (prs 0 lo).filter (fun q => !(q.1 == i) && (!(q.1 == i + 1) && !(q.1 + 1 == i && q.2.category == 2))))) (hs : lo' = (lo.set i (some w)).set (i + 1) none) (hc : sideOk lo i) : hasL ls2 nL lo' := by
  refine ⟨h2.1, h2.2.1, fun j v hj => ?_⟩
  subst hs
  by_cases hij1 : i + 1 = j
  · subst hij1
    have hlt : i + 1 < lo.length := by
      have := (List.getElem?_eq_some_iff.mp hj).1
      simpa using this
    rw [List.getElem?_set_self (by simpa using hlt)] at hj
    cases hj
  rw [List.getElem?_set_ne hij1] at hj
  by_cases hij : i = j
  · subst hij
    have hlt : i < lo.length := by
      have := (List.getElem?_eq_some_iff.mp hj).1
      simpa using this
    rw [List.getElem?_set_self hlt] at hj
    have hj := Option.some.inj (Option.some.inj hj)
    subst hj
    exact h2.2.2 (i, w) List.mem_cons_self
  · rw [List.getElem?_set_ne hij] at hj
    refine h2.2.2 (j, v) (List.mem_cons_of_mem _ (List.mem_filter.mpr ⟨?_, ?_⟩))
    · have := prs_in lo 0 j v hj
      rwa [Nat.zero_add] at this
    · have h3 : ¬ (j + 1 = i ∧ v.category = 2) := by
        rintro ⟨h4, h5⟩
        subst h4
        have h6 : nl (lo.getD j none) = true := hc
        have h7 : lo.getD j none = some v := by simp [hj]
        rw [h7] at h6
        simp [nl, h5] at h6
      simp only [Bool.and_eq_true, Bool.not_eq_true', beq_eq_false_iff_ne, ne_eq, Bool.and_eq_false_iff]
      refine ⟨fun h => hij h.symm, fun h => hij1 h.symm, ?_⟩
      by_cases h8 : j + 1 = i
      · exact Or.inr (fun h9 => h3 ⟨h8, h9⟩)
      · exact Or.inl h8
theorem V_iconst (ok : Ok E G own cc n d) {i : Int} {v : Int32} (hd : decode cc pc = .ok (.iconst i, 1)) (hv : Int32.ofInt i = v) (k : V E G I J (pc + 1) lo (.int v :: st)) : V E G I J pc lo st := by
  obtain ⟨p, l, e, R, s, m, args, below, meth, c, Q, A, nL, cl, sl⟩ := E
  exact fun H locs hP hS ls hl => lv_iconst ok.1 ok.2.1 hd hv (k H locs hP hS ls hl)
theorem V_bipush (ok : Ok E G own cc n d) {i : Int} {v : Int32} (hd : decode cc pc = .ok (.bipush i, 2)) (hv : (Int8.ofInt i).toInt32 = v) (k : V E G I J (pc + 2) lo (.int v :: st)) : V E G I J pc lo st := by
  obtain ⟨p, l, e, R, s, m, args, below, meth, c, Q, A, nL, cl, sl⟩ := E
  exact fun H locs hP hS ls hl => lv_bipush ok.1 ok.2.1 hd hv (k H locs hP hS ls hl)
theorem V_sipush (ok : Ok E G own cc n d) {i : Int} {v : Int32} (hd : decode cc pc = .ok (.sipush i, 3)) (hv : (Int16.ofInt i).toInt32 = v) (k : V E G I J (pc + 3) lo (.int v :: st)) : V E G I J pc lo st := by
  obtain ⟨p, l, e, R, s, m, args, below, meth, c, Q, A, nL, cl, sl⟩ := E
  exact fun H locs hP hS ls hl => lv_sipush ok.1 ok.2.1 hd hv (k H locs hP hS ls hl)
theorem V_lconst (ok : Ok E G own cc n d) {i : Fin 2} {v : Int64} (hd : decode cc pc = .ok (.lconst i, 1)) (hv : Int64.ofNat (i : Nat) = v) (k : V E G I J (pc + 1) lo (.long v :: st)) : V E G I J pc lo st := by
  obtain ⟨p, l, e, R, s, m, args, below, meth, c, Q, A, nL, cl, sl⟩ := E
  exact fun H locs hP hS ls hl => lv_lconst ok.1 ok.2.1 hd hv (k H locs hP hS ls hl)
theorem V_ldc2 (ok : Ok E G own cc n d) {i : Nat} {v : Int64} (hd : decode cc pc = .ok (.ldc2_w i, 3)) (hv : Cond.constantLong own i v ∈ mS) (k : V E G I J (pc + 3) lo (.long v :: st)) : V E G I J pc lo st := by
  obtain ⟨p, l, e, R, s, m, args, below, meth, c, Q, A, nL, cl, sl⟩ := E
  exact fun H locs hP hS ls hl => lv_ldc2 ok.1 ok.2.1 ok.2.2.2.1 (ok.2.2.2.2.1 _ hv) hd (k H locs hP hS ls hl)
theorem V_ldcw (ok : Ok E G own cc n d) {i : Nat} {v : Int32} (hd : decode cc pc = .ok (.ldc_w i, 3)) (hv : Cond.constant own i v ∈ mS) (k : V E G I J (pc + 3) lo (.int v :: st)) : V E G I J pc lo st := by
  obtain ⟨p, l, e, R, s, m, args, below, meth, c, Q, A, nL, cl, sl⟩ := E
  exact fun H locs hP hS ls hl => lv_ldcw ok.1 ok.2.1 ok.2.2.2.1 (ok.2.2.2.2.1 _ hv) hd (k H locs hP hS ls hl)
theorem V_iadd (ok : Ok E G own cc n d) {x y : Int32} (hd : decode cc pc = .ok (.iadd, 1)) (k : V E G I J (pc + 1) lo (.int (x + y) :: st)) : V E G I J pc lo (.int y :: .int x :: st) := by
  obtain ⟨p, l, e, R, s, m, args, below, meth, c, Q, A, nL, cl, sl⟩ := E
  exact fun H locs hP hS ls hl => lv_iadd ok.1 ok.2.1 hd (k H locs hP hS ls hl)
theorem V_isub (ok : Ok E G own cc n d) {x y : Int32} (hd : decode cc pc = .ok (.isub, 1)) (k : V E G I J (pc + 1) lo (.int (x - y) :: st)) : V E G I J pc lo (.int y :: .int x :: st) := by
  obtain ⟨p, l, e, R, s, m, args, below, meth, c, Q, A, nL, cl, sl⟩ := E
  exact fun H locs hP hS ls hl => lv_isub ok.1 ok.2.1 hd (k H locs hP hS ls hl)
theorem V_imul (ok : Ok E G own cc n d) {x y : Int32} (hd : decode cc pc = .ok (.imul, 1)) (k : V E G I J (pc + 1) lo (.int (x * y) :: st)) : V E G I J pc lo (.int y :: .int x :: st) := by
  obtain ⟨p, l, e, R, s, m, args, below, meth, c, Q, A, nL, cl, sl⟩ := E
  exact fun H locs hP hS ls hl => lv_imul ok.1 ok.2.1 hd (k H locs hP hS ls hl)
theorem V_iand (ok : Ok E G own cc n d) {x y : Int32} (hd : decode cc pc = .ok (.iand, 1)) (k : V E G I J (pc + 1) lo (.int (x &&& y) :: st)) : V E G I J pc lo (.int y :: .int x :: st) := by
  obtain ⟨p, l, e, R, s, m, args, below, meth, c, Q, A, nL, cl, sl⟩ := E
  exact fun H locs hP hS ls hl => lv_iand ok.1 ok.2.1 hd (k H locs hP hS ls hl)
theorem V_ior (ok : Ok E G own cc n d) {x y : Int32} (hd : decode cc pc = .ok (.ior, 1)) (k : V E G I J (pc + 1) lo (.int (x ||| y) :: st)) : V E G I J pc lo (.int y :: .int x :: st) := by
  obtain ⟨p, l, e, R, s, m, args, below, meth, c, Q, A, nL, cl, sl⟩ := E
  exact fun H locs hP hS ls hl => lv_ior ok.1 ok.2.1 hd (k H locs hP hS ls hl)
theorem V_ixor (ok : Ok E G own cc n d) {x y : Int32} (hd : decode cc pc = .ok (.ixor, 1)) (k : V E G I J (pc + 1) lo (.int (x ^^^ y) :: st)) : V E G I J pc lo (.int y :: .int x :: st) := by
  obtain ⟨p, l, e, R, s, m, args, below, meth, c, Q, A, nL, cl, sl⟩ := E
  exact fun H locs hP hS ls hl => lv_ixor ok.1 ok.2.1 hd (k H locs hP hS ls hl)
theorem V_ishl (ok : Ok E G own cc n d) {x y : Int32} (hd : decode cc pc = .ok (.ishl, 1)) (k : V E G I J (pc + 1) lo (.int (x <<< (y &&& 31)) :: st)) : V E G I J pc lo (.int y :: .int x :: st) := by
  obtain ⟨p, l, e, R, s, m, args, below, meth, c, Q, A, nL, cl, sl⟩ := E
  exact fun H locs hP hS ls hl => lv_ishl ok.1 ok.2.1 hd (k H locs hP hS ls hl)
theorem V_ishr (ok : Ok E G own cc n d) {x y : Int32} (hd : decode cc pc = .ok (.ishr, 1)) (k : V E G I J (pc + 1) lo (.int (x >>> (y &&& 31)) :: st)) : V E G I J pc lo (.int y :: .int x :: st) := by
  obtain ⟨p, l, e, R, s, m, args, below, meth, c, Q, A, nL, cl, sl⟩ := E
  exact fun H locs hP hS ls hl => lv_ishr ok.1 ok.2.1 hd (k H locs hP hS ls hl)
theorem V_iushr (ok : Ok E G own cc n d) {x y v : Int32} (hd : decode cc pc = .ok (.iushr, 1)) (hv : (x.toUInt32 >>> (y.toUInt32 &&& Int32.toUInt32 31)).toInt32 = v) (k : V E G I J (pc + 1) lo (.int v :: st)) : V E G I J pc lo (.int y :: .int x :: st) := by
  obtain ⟨p, l, e, R, s, m, args, below, meth, c, Q, A, nL, cl, sl⟩ := E
  exact fun H locs hP hS ls hl => lv_iushr ok.1 ok.2.1 hd hv (k H locs hP hS ls hl)
theorem V_idiv (ok : Ok E G own cc n d) {x y : Int32} (hd : decode cc pc = .ok (.idiv, 1)) (hne : ¬ y = 0) (k : V E G I J (pc + 1) lo (.int (x / y) :: st)) : V E G I J pc lo (.int y :: .int x :: st) := by
  obtain ⟨p, l, e, R, s, m, args, below, meth, c, Q, A, nL, cl, sl⟩ := E
  exact fun H locs hP hS ls hl => lv_idiv ok.1 ok.2.1 hd hne (k H locs hP hS ls hl)
theorem V_irem (ok : Ok E G own cc n d) {x y : Int32} (hd : decode cc pc = .ok (.irem, 1)) (hne : ¬ y = 0) (k : V E G I J (pc + 1) lo (.int (x - x / y * y) :: st)) : V E G I J pc lo (.int y :: .int x :: st) := by
  obtain ⟨p, l, e, R, s, m, args, below, meth, c, Q, A, nL, cl, sl⟩ := E
  exact fun H locs hP hS ls hl => lv_irem ok.1 ok.2.1 hd hne (k H locs hP hS ls hl)
theorem V_ladd (ok : Ok E G own cc n d) {x y : Int64} (hd : decode cc pc = .ok (.ladd, 1)) (k : V E G I J (pc + 1) lo (.long (x + y) :: st)) : V E G I J pc lo (.long y :: .long x :: st) := by
  obtain ⟨p, l, e, R, s, m, args, below, meth, c, Q, A, nL, cl, sl⟩ := E
  exact fun H locs hP hS ls hl => lv_ladd ok.1 ok.2.1 hd (k H locs hP hS ls hl)
theorem V_lmul (ok : Ok E G own cc n d) {x y : Int64} (hd : decode cc pc = .ok (.lmul, 1)) (k : V E G I J (pc + 1) lo (.long (x * y) :: st)) : V E G I J pc lo (.long y :: .long x :: st) := by
  obtain ⟨p, l, e, R, s, m, args, below, meth, c, Q, A, nL, cl, sl⟩ := E
  exact fun H locs hP hS ls hl => lv_lmul ok.1 ok.2.1 hd (k H locs hP hS ls hl)
theorem V_land (ok : Ok E G own cc n d) {x y : Int64} (hd : decode cc pc = .ok (.land, 1)) (k : V E G I J (pc + 1) lo (.long (x &&& y) :: st)) : V E G I J pc lo (.long y :: .long x :: st) := by
  obtain ⟨p, l, e, R, s, m, args, below, meth, c, Q, A, nL, cl, sl⟩ := E
  exact fun H locs hP hS ls hl => lv_land ok.1 ok.2.1 hd (k H locs hP hS ls hl)
theorem V_lor (ok : Ok E G own cc n d) {x y : Int64} (hd : decode cc pc = .ok (.lor, 1)) (k : V E G I J (pc + 1) lo (.long (x ||| y) :: st)) : V E G I J pc lo (.long y :: .long x :: st) := by
  obtain ⟨p, l, e, R, s, m, args, below, meth, c, Q, A, nL, cl, sl⟩ := E
  exact fun H locs hP hS ls hl => lv_lor ok.1 ok.2.1 hd (k H locs hP hS ls hl)
theorem V_lrem (ok : Ok E G own cc n d) {x y : Int64} (hd : decode cc pc = .ok (.lrem, 1)) (hne : ¬ y = 0) (k : V E G I J (pc + 1) lo (.long (x - x / y * y) :: st)) : V E G I J pc lo (.long y :: .long x :: st) := by
  obtain ⟨p, l, e, R, s, m, args, below, meth, c, Q, A, nL, cl, sl⟩ := E
  exact fun H locs hP hS ls hl => lv_lrem ok.1 ok.2.1 hd hne (k H locs hP hS ls hl)
theorem V_lshl (ok : Ok E G own cc n d) {x : Int64} {y : Int32} (hd : decode cc pc = .ok (.lshl, 1)) (k : V E G I J (pc + 1) lo (.long (x <<< (y.toInt64 &&& 63)) :: st)) : V E G I J pc lo (.int y :: .long x :: st) := by
  obtain ⟨p, l, e, R, s, m, args, below, meth, c, Q, A, nL, cl, sl⟩ := E
  exact fun H locs hP hS ls hl => lv_lshl ok.1 ok.2.1 hd rfl (k H locs hP hS ls hl)
theorem V_ineg (ok : Ok E G own cc n d) {x : Int32} (hd : decode cc pc = .ok (.ineg, 1)) (k : V E G I J (pc + 1) lo (.int (-x) :: st)) : V E G I J pc lo (.int x :: st) := by
  obtain ⟨p, l, e, R, s, m, args, below, meth, c, Q, A, nL, cl, sl⟩ := E
  exact fun H locs hP hS ls hl => lv_ineg ok.1 ok.2.1 hd (k H locs hP hS ls hl)
theorem V_i2l (ok : Ok E G own cc n d) {x : Int32} (hd : decode cc pc = .ok (.i2l, 1)) (k : V E G I J (pc + 1) lo (.long x.toInt64 :: st)) : V E G I J pc lo (.int x :: st) := by
  obtain ⟨p, l, e, R, s, m, args, below, meth, c, Q, A, nL, cl, sl⟩ := E
  exact fun H locs hP hS ls hl => lv_i2l ok.1 ok.2.1 hd rfl (k H locs hP hS ls hl)
theorem V_l2i (ok : Ok E G own cc n d) {x : Int64} (hd : decode cc pc = .ok (.l2i, 1)) (k : V E G I J (pc + 1) lo (.int x.toInt32 :: st)) : V E G I J pc lo (.long x :: st) := by
  obtain ⟨p, l, e, R, s, m, args, below, meth, c, Q, A, nL, cl, sl⟩ := E
  exact fun H locs hP hS ls hl => lv_l2i ok.1 ok.2.1 hd rfl (k H locs hP hS ls hl)
theorem V_dup (ok : Ok E G own cc n d) {v : Value} (hd : decode cc pc = .ok (.dup, 1)) (hc : v.category = 1) (k : V E G I J (pc + 1) lo (v :: v :: st)) : V E G I J pc lo (v :: st) := by
  obtain ⟨p, l, e, R, s, m, args, below, meth, c, Q, A, nL, cl, sl⟩ := E
  exact fun H locs hP hS ls hl => lv_dup ok.1 ok.2.1 hd hc (k H locs hP hS ls hl)
theorem V_pop (ok : Ok E G own cc n d) {v : Value} (hd : decode cc pc = .ok (.pop, 1)) (hc : v.category = 1) (k : V E G I J (pc + 1) lo st) : V E G I J pc lo (v :: st) := by
  obtain ⟨p, l, e, R, s, m, args, below, meth, c, Q, A, nL, cl, sl⟩ := E
  exact fun H locs hP hS ls hl => lv_pop ok.1 ok.2.1 hd hc (k H locs hP hS ls hl)
theorem V_dup2 (ok : Ok E G own cc n d) {v w : Value} (hd : decode cc pc = .ok (.dup2, 1)) (hc : v.category = 1) (hc2 : w.category = 1) (k : V E G I J (pc + 1) lo (v :: w :: v :: w :: st)) : V E G I J pc lo (v :: w :: st) := by
  obtain ⟨p, l, e, R, s, m, args, below, meth, c, Q, A, nL, cl, sl⟩ := E
  exact fun H locs hP hS ls hl => lv_dup2_11 ok.1 ok.2.1 hd hc hc2 (k H locs hP hS ls hl)
theorem V_dup_x1 (ok : Ok E G own cc n d) {v w : Value} (hd : decode cc pc = .ok (.dup_x1, 1)) (hc : v.category = 1) (hc2 : w.category = 1) (k : V E G I J (pc + 1) lo (v :: w :: v :: st)) : V E G I J pc lo (v :: w :: st) := by
  obtain ⟨p, l, e, R, s, m, args, below, meth, c, Q, A, nL, cl, sl⟩ := E
  exact fun H locs hP hS ls hl => lv_dup_x1 ok.1 ok.2.1 hd hc hc2 (k H locs hP hS ls hl)
theorem V_goto (ok : Ok E G own cc n d) {off : Int} {tgt : Nat} (hd : decode cc pc = .ok (.goto off, 3)) (ht : (pc : Int) + off = (tgt : Int)) (k : V E G I J tgt lo st) : V E G I J pc lo st := by
  obtain ⟨p, l, e, R, s, m, args, below, meth, c, Q, A, nL, cl, sl⟩ := E
  exact fun H locs hP hS ls hl => lv_goto ok.1 ok.2.1 hd ht (k H locs hP hS ls hl)
theorem V_lcmp (ok : Ok E G own cc n d) {x y : Int64} (hd : decode cc pc = .ok (.lcmp, 1)) (k : V E G I J (pc + 1) lo (.int (lg_cmp x y) :: st)) : V E G I J pc lo (.long y :: .long x :: st) := by
  obtain ⟨p, l, e, R, s, m, args, below, meth, c, Q, A, nL, cl, sl⟩ := E
  exact fun H locs hP hS ls hl => W.lcmp ok.1 ok.2.1 hd (k H locs hP hS ls hl)
theorem V_if_eq (ok : Ok E G own cc n d) {x : Int32} {off : Int} {tgt : Nat} (hd : decode cc pc = .ok (.ifCond .eq off, 3)) (ht : (pc : Int) + off = (tgt : Int)) (kt : x = 0 → V E G I J tgt lo st) (kf : ¬ x = 0 → V E G I J (pc + 3) lo st) : V E G I J pc lo (.int x :: st) := by
  obtain ⟨p, l, e, R, s, m, args, below, meth, c, Q, A, nL, cl, sl⟩ := E
  exact fun H locs hP hS ls hl => lv_if_eq ok.1 ok.2.1 hd ht (fun h => kt h H locs hP hS ls hl) (fun h => kf h H locs hP hS ls hl)
theorem V_icmp_eq (ok : Ok E G own cc n d) {x y : Int32} {off : Int} {tgt : Nat} (hd : decode cc pc = .ok (.if_icmp .eq off, 3)) (ht : (pc : Int) + off = (tgt : Int)) (kt : x = y → V E G I J tgt lo st) (kf : ¬ x = y → V E G I J (pc + 3) lo st) : V E G I J pc lo (.int y :: .int x :: st) := by
  obtain ⟨p, l, e, R, s, m, args, below, meth, c, Q, A, nL, cl, sl⟩ := E
  exact fun H locs hP hS ls hl => lv_icmp_eq ok.1 ok.2.1 hd ht (fun h => kt h H locs hP hS ls hl) (fun h => kf h H locs hP hS ls hl)
theorem V_if_ne (ok : Ok E G own cc n d) {x : Int32} {off : Int} {tgt : Nat} (hd : decode cc pc = .ok (.ifCond .ne off, 3)) (ht : (pc : Int) + off = (tgt : Int)) (kt : ¬ x = 0 → V E G I J tgt lo st) (kf : x = 0 → V E G I J (pc + 3) lo st) : V E G I J pc lo (.int x :: st) := by
  obtain ⟨p, l, e, R, s, m, args, below, meth, c, Q, A, nL, cl, sl⟩ := E
  exact fun H locs hP hS ls hl => lv_if_ne ok.1 ok.2.1 hd ht (fun h => kt h H locs hP hS ls hl) (fun h => kf h H locs hP hS ls hl)
theorem V_icmp_ne (ok : Ok E G own cc n d) {x y : Int32} {off : Int} {tgt : Nat} (hd : decode cc pc = .ok (.if_icmp .ne off, 3)) (ht : (pc : Int) + off = (tgt : Int)) (kt : ¬ x = y → V E G I J tgt lo st) (kf : x = y → V E G I J (pc + 3) lo st) : V E G I J pc lo (.int y :: .int x :: st) := by
  obtain ⟨p, l, e, R, s, m, args, below, meth, c, Q, A, nL, cl, sl⟩ := E
  exact fun H locs hP hS ls hl => lv_icmp_ne ok.1 ok.2.1 hd ht (fun h => kt h H locs hP hS ls hl) (fun h => kf h H locs hP hS ls hl)
theorem V_if_lt (ok : Ok E G own cc n d) {x : Int32} {off : Int} {tgt : Nat} (hd : decode cc pc = .ok (.ifCond .lt off, 3)) (ht : (pc : Int) + off = (tgt : Int)) (kt : x < 0 → V E G I J tgt lo st) (kf : ¬ x < 0 → V E G I J (pc + 3) lo st) : V E G I J pc lo (.int x :: st) := by
  obtain ⟨p, l, e, R, s, m, args, below, meth, c, Q, A, nL, cl, sl⟩ := E
  exact fun H locs hP hS ls hl => lv_if_lt ok.1 ok.2.1 hd ht (fun h => kt h H locs hP hS ls hl) (fun h => kf h H locs hP hS ls hl)
theorem V_icmp_lt (ok : Ok E G own cc n d) {x y : Int32} {off : Int} {tgt : Nat} (hd : decode cc pc = .ok (.if_icmp .lt off, 3)) (ht : (pc : Int) + off = (tgt : Int)) (kt : x < y → V E G I J tgt lo st) (kf : ¬ x < y → V E G I J (pc + 3) lo st) : V E G I J pc lo (.int y :: .int x :: st) := by
  obtain ⟨p, l, e, R, s, m, args, below, meth, c, Q, A, nL, cl, sl⟩ := E
  exact fun H locs hP hS ls hl => lv_icmp_lt ok.1 ok.2.1 hd ht (fun h => kt h H locs hP hS ls hl) (fun h => kf h H locs hP hS ls hl)
theorem V_if_ge (ok : Ok E G own cc n d) {x : Int32} {off : Int} {tgt : Nat} (hd : decode cc pc = .ok (.ifCond .ge off, 3)) (ht : (pc : Int) + off = (tgt : Int)) (kt : 0 ≤ x → V E G I J tgt lo st) (kf : ¬ 0 ≤ x → V E G I J (pc + 3) lo st) : V E G I J pc lo (.int x :: st) := by
  obtain ⟨p, l, e, R, s, m, args, below, meth, c, Q, A, nL, cl, sl⟩ := E
  exact fun H locs hP hS ls hl => lv_if_ge ok.1 ok.2.1 hd ht (fun h => kt h H locs hP hS ls hl) (fun h => kf h H locs hP hS ls hl)
theorem V_icmp_ge (ok : Ok E G own cc n d) {x y : Int32} {off : Int} {tgt : Nat} (hd : decode cc pc = .ok (.if_icmp .ge off, 3)) (ht : (pc : Int) + off = (tgt : Int)) (kt : y ≤ x → V E G I J tgt lo st) (kf : ¬ y ≤ x → V E G I J (pc + 3) lo st) : V E G I J pc lo (.int y :: .int x :: st) := by
  obtain ⟨p, l, e, R, s, m, args, below, meth, c, Q, A, nL, cl, sl⟩ := E
  exact fun H locs hP hS ls hl => lv_icmp_ge ok.1 ok.2.1 hd ht (fun h => kt h H locs hP hS ls hl) (fun h => kf h H locs hP hS ls hl)
theorem V_if_gt (ok : Ok E G own cc n d) {x : Int32} {off : Int} {tgt : Nat} (hd : decode cc pc = .ok (.ifCond .gt off, 3)) (ht : (pc : Int) + off = (tgt : Int)) (kt : 0 < x → V E G I J tgt lo st) (kf : ¬ 0 < x → V E G I J (pc + 3) lo st) : V E G I J pc lo (.int x :: st) := by
  obtain ⟨p, l, e, R, s, m, args, below, meth, c, Q, A, nL, cl, sl⟩ := E
  exact fun H locs hP hS ls hl => lv_if_gt ok.1 ok.2.1 hd ht (fun h => kt h H locs hP hS ls hl) (fun h => kf h H locs hP hS ls hl)
theorem V_icmp_gt (ok : Ok E G own cc n d) {x y : Int32} {off : Int} {tgt : Nat} (hd : decode cc pc = .ok (.if_icmp .gt off, 3)) (ht : (pc : Int) + off = (tgt : Int)) (kt : y < x → V E G I J tgt lo st) (kf : ¬ y < x → V E G I J (pc + 3) lo st) : V E G I J pc lo (.int y :: .int x :: st) := by
  obtain ⟨p, l, e, R, s, m, args, below, meth, c, Q, A, nL, cl, sl⟩ := E
  exact fun H locs hP hS ls hl => lv_icmp_gt ok.1 ok.2.1 hd ht (fun h => kt h H locs hP hS ls hl) (fun h => kf h H locs hP hS ls hl)
theorem V_if_le (ok : Ok E G own cc n d) {x : Int32} {off : Int} {tgt : Nat} (hd : decode cc pc = .ok (.ifCond .le off, 3)) (ht : (pc : Int) + off = (tgt : Int)) (kt : x ≤ 0 → V E G I J tgt lo st) (kf : ¬ x ≤ 0 → V E G I J (pc + 3) lo st) : V E G I J pc lo (.int x :: st) := by
  obtain ⟨p, l, e, R, s, m, args, below, meth, c, Q, A, nL, cl, sl⟩ := E
  exact fun H locs hP hS ls hl => lv_if_le ok.1 ok.2.1 hd ht (fun h => kt h H locs hP hS ls hl) (fun h => kf h H locs hP hS ls hl)
theorem V_icmp_le (ok : Ok E G own cc n d) {x y : Int32} {off : Int} {tgt : Nat} (hd : decode cc pc = .ok (.if_icmp .le off, 3)) (ht : (pc : Int) + off = (tgt : Int)) (kt : x ≤ y → V E G I J tgt lo st) (kf : ¬ x ≤ y → V E G I J (pc + 3) lo st) : V E G I J pc lo (.int y :: .int x :: st) := by
  obtain ⟨p, l, e, R, s, m, args, below, meth, c, Q, A, nL, cl, sl⟩ := E
  exact fun H locs hP hS ls hl => lv_icmp_le ok.1 ok.2.1 hd ht (fun h => kt h H locs hP hS ls hl) (fun h => kf h H locs hP hS ls hl)
theorem V_iload0 (ok : Ok E G own cc n d) {r : List (Option Value)} {x : Int32} (hd : decode cc pc = .ok (.iload_n 0, 1)) (k : V E G I J (pc + 1) (some (.int x) :: r) (.int x :: st)) : V E G I J pc (some (.int x) :: r) st := by
  obtain ⟨p, l, e, R, s, m, args, below, meth, c, Q, A, nL, cl, sl⟩ := E
  exact fun H locs hP hS ls hl => lv_iload_n ok.1 ok.2.1 hd rfl (hl.2.2 0 (.int x) rfl) (k H locs hP hS ls hl)
theorem V_istore0 (ok : Ok E G own cc n d) {r : List (Option Value)} {b : Option Value} {x : Int32} (hn : 0 < n) (hd : decode cc pc = .ok (.istore_n 0, 1)) (k : V E G I J (pc + 1) (some (.int x) :: r) st) : V E G I J pc (b :: r) (.int x :: st) := by
  obtain ⟨p, l, e, R, s, m, args, below, meth, c, Q, A, nL, cl, sl⟩ := E
  intro H locs hP hS ls hl
  refine lv_istore_n ok.1 ok.2.1 hd rfl (hl.pairs) (by have := ok.2.2.2.2.2.2.2.2.1; omega) rfl (fun ls2 h2 => k H locs hP hS ls2 (hasL.st1 (i := 0) (w := .int x) h2 rfl ?_))
  trivial
theorem V_aload0 (ok : Ok E G own cc n d) {r : List (Option Value)} {x : Nat} (hd : decode cc pc = .ok (.aload_n 0, 1)) (k : V E G I J (pc + 1) (some (.ref x) :: r) (.ref x :: st)) : V E G I J pc (some (.ref x) :: r) st := by
  obtain ⟨p, l, e, R, s, m, args, below, meth, c, Q, A, nL, cl, sl⟩ := E
  exact fun H locs hP hS ls hl => lv_aload_n ok.1 ok.2.1 hd rfl (hl.2.2 0 (.ref x) rfl) (k H locs hP hS ls hl)
theorem V_astore0 (ok : Ok E G own cc n d) {r : List (Option Value)} {b : Option Value} {x : Nat} (hn : 0 < n) (hd : decode cc pc = .ok (.astore_n 0, 1)) (k : V E G I J (pc + 1) (some (.ref x) :: r) st) : V E G I J pc (b :: r) (.ref x :: st) := by
  obtain ⟨p, l, e, R, s, m, args, below, meth, c, Q, A, nL, cl, sl⟩ := E
  intro H locs hP hS ls hl
  refine lv_astore_n ok.1 ok.2.1 hd rfl (hl.pairs) (by have := ok.2.2.2.2.2.2.2.2.1; omega) rfl (fun ls2 h2 => k H locs hP hS ls2 (hasL.st1 (i := 0) (w := .ref x) h2 rfl ?_))
  trivial
theorem V_lload0 (ok : Ok E G own cc n d) {r : List (Option Value)} {x : Int64} (hd : decode cc pc = .ok (.lload_n 0, 1)) (k : V E G I J (pc + 1) (some (.long x) :: r) (.long x :: st)) : V E G I J pc (some (.long x) :: r) st := by
  obtain ⟨p, l, e, R, s, m, args, below, meth, c, Q, A, nL, cl, sl⟩ := E
  exact fun H locs hP hS ls hl => lv_lload_n ok.1 ok.2.1 hd rfl (hl.2.2 0 (.long x) rfl) (k H locs hP hS ls hl)
theorem V_iinc0 (ok : Ok E G own cc n d) {r : List (Option Value)} {x v : Int32} {z : Int} (hn : 0 < n) (hd : decode cc pc = .ok (.iinc 0 z, 3)) (hv : x + Int32.ofInt z = v) (k : V E G I J (pc + 3) (some (.int v) :: r) st) : V E G I J pc (some (.int x) :: r) st := by
  obtain ⟨p, l, e, R, s, m, args, below, meth, c, Q, A, nL, cl, sl⟩ := E
  intro H locs hP hS ls hl
  obtain ⟨kk, hkk⟩ := hl.place (i := 0) (v := .int x) rfl
  refine lv_iinc ok.1 ok.2.1 hd (hl.pairs) hkk hv (by have := ok.2.2.2.2.2.2.2.2.1; omega) rfl (fun ls2 h2 => k H locs hP hS ls2 (hasL.st1 (i := 0) (w := .int v) h2 rfl ?_))
  trivial
theorem V_iload1 (ok : Ok E G own cc n d) {a0 : Option Value} {r : List (Option Value)} {x : Int32} (hd : decode cc pc = .ok (.iload_n 1, 1)) (k : V E G I J (pc + 1) (a0 :: some (.int x) :: r) (.int x :: st)) : V E G I J pc (a0 :: some (.int x) :: r) st := by
  obtain ⟨p, l, e, R, s, m, args, below, meth, c, Q, A, nL, cl, sl⟩ := E
  exact fun H locs hP hS ls hl => lv_iload_n ok.1 ok.2.1 hd rfl (hl.2.2 1 (.int x) rfl) (k H locs hP hS ls hl)
theorem V_istore1 (ok : Ok E G own cc n d) {a0 : Option Value} {r : List (Option Value)} {b : Option Value} {x : Int32} (hn : 1 < n) (hd : decode cc pc = .ok (.istore_n 1, 1)) (hc : nl a0 = true) (k : V E G I J (pc + 1) (a0 :: some (.int x) :: r) st) : V E G I J pc (a0 :: b :: r) (.int x :: st) := by
  obtain ⟨p, l, e, R, s, m, args, below, meth, c, Q, A, nL, cl, sl⟩ := E
  intro H locs hP hS ls hl
  refine lv_istore_n ok.1 ok.2.1 hd rfl (hl.pairs) (by have := ok.2.2.2.2.2.2.2.2.1; omega) rfl (fun ls2 h2 => k H locs hP hS ls2 (hasL.st1 (i := 1) (w := .int x) h2 rfl ?_))
  exact hc
theorem V_aload1 (ok : Ok E G own cc n d) {a0 : Option Value} {r : List (Option Value)} {x : Nat} (hd : decode cc pc = .ok (.aload_n 1, 1)) (k : V E G I J (pc + 1) (a0 :: some (.ref x) :: r) (.ref x :: st)) : V E G I J pc (a0 :: some (.ref x) :: r) st := by
  obtain ⟨p, l, e, R, s, m, args, below, meth, c, Q, A, nL, cl, sl⟩ := E
  exact fun H locs hP hS ls hl => lv_aload_n ok.1 ok.2.1 hd rfl (hl.2.2 1 (.ref x) rfl) (k H locs hP hS ls hl)
theorem V_astore1 (ok : Ok E G own cc n d) {a0 : Option Value} {r : List (Option Value)} {b : Option Value} {x : Nat} (hn : 1 < n) (hd : decode cc pc = .ok (.astore_n 1, 1)) (hc : nl a0 = true) (k : V E G I J (pc + 1) (a0 :: some (.ref x) :: r) st) : V E G I J pc (a0 :: b :: r) (.ref x :: st) := by
  obtain ⟨p, l, e, R, s, m, args, below, meth, c, Q, A, nL, cl, sl⟩ := E
  intro H locs hP hS ls hl
  refine lv_astore_n ok.1 ok.2.1 hd rfl (hl.pairs) (by have := ok.2.2.2.2.2.2.2.2.1; omega) rfl (fun ls2 h2 => k H locs hP hS ls2 (hasL.st1 (i := 1) (w := .ref x) h2 rfl ?_))
  exact hc
theorem V_lload1 (ok : Ok E G own cc n d) {a0 : Option Value} {r : List (Option Value)} {x : Int64} (hd : decode cc pc = .ok (.lload_n 1, 1)) (k : V E G I J (pc + 1) (a0 :: some (.long x) :: r) (.long x :: st)) : V E G I J pc (a0 :: some (.long x) :: r) st := by
  obtain ⟨p, l, e, R, s, m, args, below, meth, c, Q, A, nL, cl, sl⟩ := E
  exact fun H locs hP hS ls hl => lv_lload_n ok.1 ok.2.1 hd rfl (hl.2.2 1 (.long x) rfl) (k H locs hP hS ls hl)
theorem V_iinc1 (ok : Ok E G own cc n d) {a0 : Option Value} {r : List (Option Value)} {x v : Int32} {z : Int} (hn : 1 < n) (hd : decode cc pc = .ok (.iinc 1 z, 3)) (hv : x + Int32.ofInt z = v) (hc : nl a0 = true) (k : V E G I J (pc + 3) (a0 :: some (.int v) :: r) st) : V E G I J pc (a0 :: some (.int x) :: r) st := by
  obtain ⟨p, l, e, R, s, m, args, below, meth, c, Q, A, nL, cl, sl⟩ := E
  intro H locs hP hS ls hl
  obtain ⟨kk, hkk⟩ := hl.place (i := 1) (v := .int x) rfl
  refine lv_iinc ok.1 ok.2.1 hd (hl.pairs) hkk hv (by have := ok.2.2.2.2.2.2.2.2.1; omega) rfl (fun ls2 h2 => k H locs hP hS ls2 (hasL.st1 (i := 1) (w := .int v) h2 rfl ?_))
  exact hc
theorem V_iload2 (ok : Ok E G own cc n d) {a0 a1 : Option Value} {r : List (Option Value)} {x : Int32} (hd : decode cc pc = .ok (.iload_n 2, 1)) (k : V E G I J (pc + 1) (a0 :: a1 :: some (.int x) :: r) (.int x :: st)) : V E G I J pc (a0 :: a1 :: some (.int x) :: r) st := by
  obtain ⟨p, l, e, R, s, m, args, below, meth, c, Q, A, nL, cl, sl⟩ := E
  exact fun H locs hP hS ls hl => lv_iload_n ok.1 ok.2.1 hd rfl (hl.2.2 2 (.int x) rfl) (k H locs hP hS ls hl)
theorem V_istore2 (ok : Ok E G own cc n d) {a0 a1 : Option Value} {r : List (Option Value)} {b : Option Value} {x : Int32} (hn : 2 < n) (hd : decode cc pc = .ok (.istore_n 2, 1)) (hc : nl a1 = true) (k : V E G I J (pc + 1) (a0 :: a1 :: some (.int x) :: r) st) : V E G I J pc (a0 :: a1 :: b :: r) (.int x :: st) := by
  obtain ⟨p, l, e, R, s, m, args, below, meth, c, Q, A, nL, cl, sl⟩ := E
  intro H locs hP hS ls hl
  refine lv_istore_n ok.1 ok.2.1 hd rfl (hl.pairs) (by have := ok.2.2.2.2.2.2.2.2.1; omega) rfl (fun ls2 h2 => k H locs hP hS ls2 (hasL.st1 (i := 2) (w := .int x) h2 rfl ?_))
  exact hc
theorem V_aload2 (ok : Ok E G own cc n d) {a0 a1 : Option Value} {r : List (Option Value)} {x : Nat} (hd : decode cc pc = .ok (.aload_n 2, 1)) (k : V E G I J (pc + 1) (a0 :: a1 :: some (.ref x) :: r) (.ref x :: st)) : V E G I J pc (a0 :: a1 :: some (.ref x) :: r) st := by
  obtain ⟨p, l, e, R, s, m, args, below, meth, c, Q, A, nL, cl, sl⟩ := E
  exact fun H locs hP hS ls hl => lv_aload_n ok.1 ok.2.1 hd rfl (hl.2.2 2 (.ref x) rfl) (k H locs hP hS ls hl)
theorem V_astore2 (ok : Ok E G own cc n d) {a0 a1 : Option Value} {r : List (Option Value)} {b : Option Value} {x : Nat} (hn : 2 < n) (hd : decode cc pc = .ok (.astore_n 2, 1)) (hc : nl a1 = true) (k : V E G I J (pc + 1) (a0 :: a1 :: some (.ref x) :: r) st) : V E G I J pc (a0 :: a1 :: b :: r) (.ref x :: st) := by
  obtain ⟨p, l, e, R, s, m, args, below, meth, c, Q, A, nL, cl, sl⟩ := E
  intro H locs hP hS ls hl
  refine lv_astore_n ok.1 ok.2.1 hd rfl (hl.pairs) (by have := ok.2.2.2.2.2.2.2.2.1; omega) rfl (fun ls2 h2 => k H locs hP hS ls2 (hasL.st1 (i := 2) (w := .ref x) h2 rfl ?_))
  exact hc
theorem V_lload2 (ok : Ok E G own cc n d) {a0 a1 : Option Value} {r : List (Option Value)} {x : Int64} (hd : decode cc pc = .ok (.lload_n 2, 1)) (k : V E G I J (pc + 1) (a0 :: a1 :: some (.long x) :: r) (.long x :: st)) : V E G I J pc (a0 :: a1 :: some (.long x) :: r) st := by
  obtain ⟨p, l, e, R, s, m, args, below, meth, c, Q, A, nL, cl, sl⟩ := E
  exact fun H locs hP hS ls hl => lv_lload_n ok.1 ok.2.1 hd rfl (hl.2.2 2 (.long x) rfl) (k H locs hP hS ls hl)
theorem V_iinc2 (ok : Ok E G own cc n d) {a0 a1 : Option Value} {r : List (Option Value)} {x v : Int32} {z : Int} (hn : 2 < n) (hd : decode cc pc = .ok (.iinc 2 z, 3)) (hv : x + Int32.ofInt z = v) (hc : nl a1 = true) (k : V E G I J (pc + 3) (a0 :: a1 :: some (.int v) :: r) st) : V E G I J pc (a0 :: a1 :: some (.int x) :: r) st := by
  obtain ⟨p, l, e, R, s, m, args, below, meth, c, Q, A, nL, cl, sl⟩ := E
  intro H locs hP hS ls hl
  obtain ⟨kk, hkk⟩ := hl.place (i := 2) (v := .int x) rfl
  refine lv_iinc ok.1 ok.2.1 hd (hl.pairs) hkk hv (by have := ok.2.2.2.2.2.2.2.2.1; omega) rfl (fun ls2 h2 => k H locs hP hS ls2 (hasL.st1 (i := 2) (w := .int v) h2 rfl ?_))
  exact hc
theorem V_iload3 (ok : Ok E G own cc n d) {a0 a1 a2 : Option Value} {r : List (Option Value)} {x : Int32} (hd : decode cc pc = .ok (.iload_n 3, 1)) (k : V E G I J (pc + 1) (a0 :: a1 :: a2 :: some (.int x) :: r) (.int x :: st)) : V E G I J pc (a0 :: a1 :: a2 :: some (.int x) :: r) st := by
  obtain ⟨p, l, e, R, s, m, args, below, meth, c, Q, A, nL, cl, sl⟩ := E
  exact fun H locs hP hS ls hl => lv_iload_n ok.1 ok.2.1 hd rfl (hl.2.2 3 (.int x) rfl) (k H locs hP hS ls hl)
theorem V_istore3 (ok : Ok E G own cc n d) {a0 a1 a2 : Option Value} {r : List (Option Value)} {b : Option Value} {x : Int32} (hn : 3 < n) (hd : decode cc pc = .ok (.istore_n 3, 1)) (hc : nl a2 = true) (k : V E G I J (pc + 1) (a0 :: a1 :: a2 :: some (.int x) :: r) st) : V E G I J pc (a0 :: a1 :: a2 :: b :: r) (.int x :: st) := by
  obtain ⟨p, l, e, R, s, m, args, below, meth, c, Q, A, nL, cl, sl⟩ := E
  intro H locs hP hS ls hl
  refine lv_istore_n ok.1 ok.2.1 hd rfl (hl.pairs) (by have := ok.2.2.2.2.2.2.2.2.1; omega) rfl (fun ls2 h2 => k H locs hP hS ls2 (hasL.st1 (i := 3) (w := .int x) h2 rfl ?_))
  exact hc
theorem V_aload3 (ok : Ok E G own cc n d) {a0 a1 a2 : Option Value} {r : List (Option Value)} {x : Nat} (hd : decode cc pc = .ok (.aload_n 3, 1)) (k : V E G I J (pc + 1) (a0 :: a1 :: a2 :: some (.ref x) :: r) (.ref x :: st)) : V E G I J pc (a0 :: a1 :: a2 :: some (.ref x) :: r) st := by
  obtain ⟨p, l, e, R, s, m, args, below, meth, c, Q, A, nL, cl, sl⟩ := E
  exact fun H locs hP hS ls hl => lv_aload_n ok.1 ok.2.1 hd rfl (hl.2.2 3 (.ref x) rfl) (k H locs hP hS ls hl)
theorem V_astore3 (ok : Ok E G own cc n d) {a0 a1 a2 : Option Value} {r : List (Option Value)} {b : Option Value} {x : Nat} (hn : 3 < n) (hd : decode cc pc = .ok (.astore_n 3, 1)) (hc : nl a2 = true) (k : V E G I J (pc + 1) (a0 :: a1 :: a2 :: some (.ref x) :: r) st) : V E G I J pc (a0 :: a1 :: a2 :: b :: r) (.ref x :: st) := by
  obtain ⟨p, l, e, R, s, m, args, below, meth, c, Q, A, nL, cl, sl⟩ := E
  intro H locs hP hS ls hl
  refine lv_astore_n ok.1 ok.2.1 hd rfl (hl.pairs) (by have := ok.2.2.2.2.2.2.2.2.1; omega) rfl (fun ls2 h2 => k H locs hP hS ls2 (hasL.st1 (i := 3) (w := .ref x) h2 rfl ?_))
  exact hc
theorem V_lload3 (ok : Ok E G own cc n d) {a0 a1 a2 : Option Value} {r : List (Option Value)} {x : Int64} (hd : decode cc pc = .ok (.lload_n 3, 1)) (k : V E G I J (pc + 1) (a0 :: a1 :: a2 :: some (.long x) :: r) (.long x :: st)) : V E G I J pc (a0 :: a1 :: a2 :: some (.long x) :: r) st := by
  obtain ⟨p, l, e, R, s, m, args, below, meth, c, Q, A, nL, cl, sl⟩ := E
  exact fun H locs hP hS ls hl => lv_lload_n ok.1 ok.2.1 hd rfl (hl.2.2 3 (.long x) rfl) (k H locs hP hS ls hl)
theorem V_iinc3 (ok : Ok E G own cc n d) {a0 a1 a2 : Option Value} {r : List (Option Value)} {x v : Int32} {z : Int} (hn : 3 < n) (hd : decode cc pc = .ok (.iinc 3 z, 3)) (hv : x + Int32.ofInt z = v) (hc : nl a2 = true) (k : V E G I J (pc + 3) (a0 :: a1 :: a2 :: some (.int v) :: r) st) : V E G I J pc (a0 :: a1 :: a2 :: some (.int x) :: r) st := by
  obtain ⟨p, l, e, R, s, m, args, below, meth, c, Q, A, nL, cl, sl⟩ := E
  intro H locs hP hS ls hl
  obtain ⟨kk, hkk⟩ := hl.place (i := 3) (v := .int x) rfl
  refine lv_iinc ok.1 ok.2.1 hd (hl.pairs) hkk hv (by have := ok.2.2.2.2.2.2.2.2.1; omega) rfl (fun ls2 h2 => k H locs hP hS ls2 (hasL.st1 (i := 3) (w := .int v) h2 rfl ?_))
  exact hc
theorem V_iload4 (ok : Ok E G own cc n d) {a0 a1 a2 a3 : Option Value} {r : List (Option Value)} {x : Int32} (hd : decode cc pc = .ok (.iload 4, 2)) (k : V E G I J (pc + 2) (a0 :: a1 :: a2 :: a3 :: some (.int x) :: r) (.int x :: st)) : V E G I J pc (a0 :: a1 :: a2 :: a3 :: some (.int x) :: r) st := by
  obtain ⟨p, l, e, R, s, m, args, below, meth, c, Q, A, nL, cl, sl⟩ := E
  exact fun H locs hP hS ls hl => lv_iload ok.1 ok.2.1 hd (hl.2.2 4 (.int x) rfl) (k H locs hP hS ls hl)
theorem V_istore4 (ok : Ok E G own cc n d) {a0 a1 a2 a3 : Option Value} {r : List (Option Value)} {b : Option Value} {x : Int32} (hn : 4 < n) (hd : decode cc pc = .ok (.istore 4, 2)) (hc : nl a3 = true) (k : V E G I J (pc + 2) (a0 :: a1 :: a2 :: a3 :: some (.int x) :: r) st) : V E G I J pc (a0 :: a1 :: a2 :: a3 :: b :: r) (.int x :: st) := by
  obtain ⟨p, l, e, R, s, m, args, below, meth, c, Q, A, nL, cl, sl⟩ := E
  intro H locs hP hS ls hl
  refine lv_istore ok.1 ok.2.1 hd (hl.pairs) (by have := ok.2.2.2.2.2.2.2.2.1; omega) rfl (fun ls2 h2 => k H locs hP hS ls2 (hasL.st1 (i := 4) (w := .int x) h2 rfl ?_))
  exact hc
theorem V_aload4 (ok : Ok E G own cc n d) {a0 a1 a2 a3 : Option Value} {r : List (Option Value)} {x : Nat} (hd : decode cc pc = .ok (.aload 4, 2)) (k : V E G I J (pc + 2) (a0 :: a1 :: a2 :: a3 :: some (.ref x) :: r) (.ref x :: st)) : V E G I J pc (a0 :: a1 :: a2 :: a3 :: some (.ref x) :: r) st := by
  obtain ⟨p, l, e, R, s, m, args, below, meth, c, Q, A, nL, cl, sl⟩ := E
  exact fun H locs hP hS ls hl => lv_aload ok.1 ok.2.1 hd (hl.2.2 4 (.ref x) rfl) (k H locs hP hS ls hl)
theorem V_astore4 (ok : Ok E G own cc n d) {a0 a1 a2 a3 : Option Value} {r : List (Option Value)} {b : Option Value} {x : Nat} (hn : 4 < n) (hd : decode cc pc = .ok (.astore 4, 2)) (hc : nl a3 = true) (k : V E G I J (pc + 2) (a0 :: a1 :: a2 :: a3 :: some (.ref x) :: r) st) : V E G I J pc (a0 :: a1 :: a2 :: a3 :: b :: r) (.ref x :: st) := by
  obtain ⟨p, l, e, R, s, m, args, below, meth, c, Q, A, nL, cl, sl⟩ := E
  intro H locs hP hS ls hl
  refine lv_astore ok.1 ok.2.1 hd (hl.pairs) (by have := ok.2.2.2.2.2.2.2.2.1; omega) rfl (fun ls2 h2 => k H locs hP hS ls2 (hasL.st1 (i := 4) (w := .ref x) h2 rfl ?_))
  exact hc
theorem V_lload4 (ok : Ok E G own cc n d) {a0 a1 a2 a3 : Option Value} {r : List (Option Value)} {x : Int64} (hd : decode cc pc = .ok (.lload 4, 2)) (k : V E G I J (pc + 2) (a0 :: a1 :: a2 :: a3 :: some (.long x) :: r) (.long x :: st)) : V E G I J pc (a0 :: a1 :: a2 :: a3 :: some (.long x) :: r) st := by
  obtain ⟨p, l, e, R, s, m, args, below, meth, c, Q, A, nL, cl, sl⟩ := E
  exact fun H locs hP hS ls hl => lv_lload ok.1 ok.2.1 hd (hl.2.2 4 (.long x) rfl) (k H locs hP hS ls hl)
theorem V_iinc4 (ok : Ok E G own cc n d) {a0 a1 a2 a3 : Option Value} {r : List (Option Value)} {x v : Int32} {z : Int} (hn : 4 < n) (hd : decode cc pc = .ok (.iinc 4 z, 3)) (hv : x + Int32.ofInt z = v) (hc : nl a3 = true) (k : V E G I J (pc + 3) (a0 :: a1 :: a2 :: a3 :: some (.int v) :: r) st) : V E G I J pc (a0 :: a1 :: a2 :: a3 :: some (.int x) :: r) st := by
  obtain ⟨p, l, e, R, s, m, args, below, meth, c, Q, A, nL, cl, sl⟩ := E
  intro H locs hP hS ls hl
  obtain ⟨kk, hkk⟩ := hl.place (i := 4) (v := .int x) rfl
  refine lv_iinc ok.1 ok.2.1 hd (hl.pairs) hkk hv (by have := ok.2.2.2.2.2.2.2.2.1; omega) rfl (fun ls2 h2 => k H locs hP hS ls2 (hasL.st1 (i := 4) (w := .int v) h2 rfl ?_))
  exact hc
theorem V_iload5 (ok : Ok E G own cc n d) {a0 a1 a2 a3 a4 : Option Value} {r : List (Option Value)} {x : Int32} (hd : decode cc pc = .ok (.iload 5, 2)) (k : V E G I J (pc + 2) (a0 :: a1 :: a2 :: a3 :: a4 :: some (.int x) :: r) (.int x :: st)) : V E G I J pc (a0 :: a1 :: a2 :: a3 :: a4 :: some (.int x) :: r) st := by
  obtain ⟨p, l, e, R, s, m, args, below, meth, c, Q, A, nL, cl, sl⟩ := E
  exact fun H locs hP hS ls hl => lv_iload ok.1 ok.2.1 hd (hl.2.2 5 (.int x) rfl) (k H locs hP hS ls hl)
theorem V_istore5 (ok : Ok E G own cc n d) {a0 a1 a2 a3 a4 : Option Value} {r : List (Option Value)} {b : Option Value} {x : Int32} (hn : 5 < n) (hd : decode cc pc = .ok (.istore 5, 2)) (hc : nl a4 = true) (k : V E G I J (pc + 2) (a0 :: a1 :: a2 :: a3 :: a4 :: some (.int x) :: r) st) : V E G I J pc (a0 :: a1 :: a2 :: a3 :: a4 :: b :: r) (.int x :: st) := by
  obtain ⟨p, l, e, R, s, m, args, below, meth, c, Q, A, nL, cl, sl⟩ := E
  intro H locs hP hS ls hl
  refine lv_istore ok.1 ok.2.1 hd (hl.pairs) (by have := ok.2.2.2.2.2.2.2.2.1; omega) rfl (fun ls2 h2 => k H locs hP hS ls2 (hasL.st1 (i := 5) (w := .int x) h2 rfl ?_))
  exact hc
theorem V_aload5 (ok : Ok E G own cc n d) {a0 a1 a2 a3 a4 : Option Value} {r : List (Option Value)} {x : Nat} (hd : decode cc pc = .ok (.aload 5, 2)) (k : V E G I J (pc + 2) (a0 :: a1 :: a2 :: a3 :: a4 :: some (.ref x) :: r) (.ref x :: st)) : V E G I J pc (a0 :: a1 :: a2 :: a3 :: a4 :: some (.ref x) :: r) st := by
  obtain ⟨p, l, e, R, s, m, args, below, meth, c, Q, A, nL, cl, sl⟩ := E
  exact fun H locs hP hS ls hl => lv_aload ok.1 ok.2.1 hd (hl.2.2 5 (.ref x) rfl) (k H locs hP hS ls hl)
theorem V_astore5 (ok : Ok E G own cc n d) {a0 a1 a2 a3 a4 : Option Value} {r : List (Option Value)} {b : Option Value} {x : Nat} (hn : 5 < n) (hd : decode cc pc = .ok (.astore 5, 2)) (hc : nl a4 = true) (k : V E G I J (pc + 2) (a0 :: a1 :: a2 :: a3 :: a4 :: some (.ref x) :: r) st) : V E G I J pc (a0 :: a1 :: a2 :: a3 :: a4 :: b :: r) (.ref x :: st) := by
  obtain ⟨p, l, e, R, s, m, args, below, meth, c, Q, A, nL, cl, sl⟩ := E
  intro H locs hP hS ls hl
  refine lv_astore ok.1 ok.2.1 hd (hl.pairs) (by have := ok.2.2.2.2.2.2.2.2.1; omega) rfl (fun ls2 h2 => k H locs hP hS ls2 (hasL.st1 (i := 5) (w := .ref x) h2 rfl ?_))
  exact hc
theorem V_lload5 (ok : Ok E G own cc n d) {a0 a1 a2 a3 a4 : Option Value} {r : List (Option Value)} {x : Int64} (hd : decode cc pc = .ok (.lload 5, 2)) (k : V E G I J (pc + 2) (a0 :: a1 :: a2 :: a3 :: a4 :: some (.long x) :: r) (.long x :: st)) : V E G I J pc (a0 :: a1 :: a2 :: a3 :: a4 :: some (.long x) :: r) st := by
  obtain ⟨p, l, e, R, s, m, args, below, meth, c, Q, A, nL, cl, sl⟩ := E
  exact fun H locs hP hS ls hl => lv_lload ok.1 ok.2.1 hd (hl.2.2 5 (.long x) rfl) (k H locs hP hS ls hl)
theorem V_iinc5 (ok : Ok E G own cc n d) {a0 a1 a2 a3 a4 : Option Value} {r : List (Option Value)} {x v : Int32} {z : Int} (hn : 5 < n) (hd : decode cc pc = .ok (.iinc 5 z, 3)) (hv : x + Int32.ofInt z = v) (hc : nl a4 = true) (k : V E G I J (pc + 3) (a0 :: a1 :: a2 :: a3 :: a4 :: some (.int v) :: r) st) : V E G I J pc (a0 :: a1 :: a2 :: a3 :: a4 :: some (.int x) :: r) st := by
  obtain ⟨p, l, e, R, s, m, args, below, meth, c, Q, A, nL, cl, sl⟩ := E
  intro H locs hP hS ls hl
  obtain ⟨kk, hkk⟩ := hl.place (i := 5) (v := .int x) rfl
  refine lv_iinc ok.1 ok.2.1 hd (hl.pairs) hkk hv (by have := ok.2.2.2.2.2.2.2.2.1; omega) rfl (fun ls2 h2 => k H locs hP hS ls2 (hasL.st1 (i := 5) (w := .int v) h2 rfl ?_))
  exact hc
theorem V_iload6 (ok : Ok E G own cc n d) {a0 a1 a2 a3 a4 a5 : Option Value} {r : List (Option Value)} {x : Int32} (hd : decode cc pc = .ok (.iload 6, 2)) (k : V E G I J (pc + 2) (a0 :: a1 :: a2 :: a3 :: a4 :: a5 :: some (.int x) :: r) (.int x :: st)) : V E G I J pc (a0 :: a1 :: a2 :: a3 :: a4 :: a5 :: some (.int x) :: r) st := by
  obtain ⟨p, l, e, R, s, m, args, below, meth, c, Q, A, nL, cl, sl⟩ := E
  exact fun H locs hP hS ls hl => lv_iload ok.1 ok.2.1 hd (hl.2.2 6 (.int x) rfl) (k H locs hP hS ls hl)
theorem V_istore6 (ok : Ok E G own cc n d) {a0 a1 a2 a3 a4 a5 : Option Value} {r : List (Option Value)} {b : Option Value} {x : Int32} (hn : 6 < n) (hd : decode cc pc = .ok (.istore 6, 2)) (hc : nl a5 = true) (k : V E G I J (pc + 2) (a0 :: a1 :: a2 :: a3 :: a4 :: a5 :: some (.int x) :: r) st) : V E G I J pc (a0 :: a1 :: a2 :: a3 :: a4 :: a5 :: b :: r) (.int x :: st) := by
  obtain ⟨p, l, e, R, s, m, args, below, meth, c, Q, A, nL, cl, sl⟩ := E
  intro H locs hP hS ls hl
  refine lv_istore ok.1 ok.2.1 hd (hl.pairs) (by have := ok.2.2.2.2.2.2.2.2.1; omega) rfl (fun ls2 h2 => k H locs hP hS ls2 (hasL.st1 (i := 6) (w := .int x) h2 rfl ?_))
  exact hc
theorem V_aload6 (ok : Ok E G own cc n d) {a0 a1 a2 a3 a4 a5 : Option Value} {r : List (Option Value)} {x : Nat} (hd : decode cc pc = .ok (.aload 6, 2)) (k : V E G I J (pc + 2) (a0 :: a1 :: a2 :: a3 :: a4 :: a5 :: some (.ref x) :: r) (.ref x :: st)) : V E G I J pc (a0 :: a1 :: a2 :: a3 :: a4 :: a5 :: some (.ref x) :: r) st := by
  obtain ⟨p, l, e, R, s, m, args, below, meth, c, Q, A, nL, cl, sl⟩ := E
  exact fun H locs hP hS ls hl => lv_aload ok.1 ok.2.1 hd (hl.2.2 6 (.ref x) rfl) (k H locs hP hS ls hl)
theorem V_astore6 (ok : Ok E G own cc n d) {a0 a1 a2 a3 a4 a5 : Option Value} {r : List (Option Value)} {b : Option Value} {x : Nat} (hn : 6 < n) (hd : decode cc pc = .ok (.astore 6, 2)) (hc : nl a5 = true) (k : V E G I J (pc + 2) (a0 :: a1 :: a2 :: a3 :: a4 :: a5 :: some (.ref x) :: r) st) : V E G I J pc (a0 :: a1 :: a2 :: a3 :: a4 :: a5 :: b :: r) (.ref x :: st) := by
  obtain ⟨p, l, e, R, s, m, args, below, meth, c, Q, A, nL, cl, sl⟩ := E
  intro H locs hP hS ls hl
  refine lv_astore ok.1 ok.2.1 hd (hl.pairs) (by have := ok.2.2.2.2.2.2.2.2.1; omega) rfl (fun ls2 h2 => k H locs hP hS ls2 (hasL.st1 (i := 6) (w := .ref x) h2 rfl ?_))
  exact hc
theorem V_lload6 (ok : Ok E G own cc n d) {a0 a1 a2 a3 a4 a5 : Option Value} {r : List (Option Value)} {x : Int64} (hd : decode cc pc = .ok (.lload 6, 2)) (k : V E G I J (pc + 2) (a0 :: a1 :: a2 :: a3 :: a4 :: a5 :: some (.long x) :: r) (.long x :: st)) : V E G I J pc (a0 :: a1 :: a2 :: a3 :: a4 :: a5 :: some (.long x) :: r) st := by
  obtain ⟨p, l, e, R, s, m, args, below, meth, c, Q, A, nL, cl, sl⟩ := E
  exact fun H locs hP hS ls hl => lv_lload ok.1 ok.2.1 hd (hl.2.2 6 (.long x) rfl) (k H locs hP hS ls hl)
theorem V_iinc6 (ok : Ok E G own cc n d) {a0 a1 a2 a3 a4 a5 : Option Value} {r : List (Option Value)} {x v : Int32} {z : Int} (hn : 6 < n) (hd : decode cc pc = .ok (.iinc 6 z, 3)) (hv : x + Int32.ofInt z = v) (hc : nl a5 = true) (k : V E G I J (pc + 3) (a0 :: a1 :: a2 :: a3 :: a4 :: a5 :: some (.int v) :: r) st) : V E G I J pc (a0 :: a1 :: a2 :: a3 :: a4 :: a5 :: some (.int x) :: r) st := by
  obtain ⟨p, l, e, R, s, m, args, below, meth, c, Q, A, nL, cl, sl⟩ := E
  intro H locs hP hS ls hl
  obtain ⟨kk, hkk⟩ := hl.place (i := 6) (v := .int x) rfl
  refine lv_iinc ok.1 ok.2.1 hd (hl.pairs) hkk hv (by have := ok.2.2.2.2.2.2.2.2.1; omega) rfl (fun ls2 h2 => k H locs hP hS ls2 (hasL.st1 (i := 6) (w := .int v) h2 rfl ?_))
  exact hc
theorem V_iload7 (ok : Ok E G own cc n d) {a0 a1 a2 a3 a4 a5 a6 : Option Value} {r : List (Option Value)} {x : Int32} (hd : decode cc pc = .ok (.iload 7, 2)) (k : V E G I J (pc + 2) (a0 :: a1 :: a2 :: a3 :: a4 :: a5 :: a6 :: some (.int x) :: r) (.int x :: st)) : V E G I J pc (a0 :: a1 :: a2 :: a3 :: a4 :: a5 :: a6 :: some (.int x) :: r) st := by
  obtain ⟨p, l, e, R, s, m, args, below, meth, c, Q, A, nL, cl, sl⟩ := E
  exact fun H locs hP hS ls hl => lv_iload ok.1 ok.2.1 hd (hl.2.2 7 (.int x) rfl) (k H locs hP hS ls hl)
theorem V_istore7 (ok : Ok E G own cc n d) {a0 a1 a2 a3 a4 a5 a6 : Option Value} {r : List (Option Value)} {b : Option Value} {x : Int32} (hn : 7 < n) (hd : decode cc pc = .ok (.istore 7, 2)) (hc : nl a6 = true) (k : V E G I J (pc + 2) (a0 :: a1 :: a2 :: a3 :: a4 :: a5 :: a6 :: some (.int x) :: r) st) : V E G I J pc (a0 :: a1 :: a2 :: a3 :: a4 :: a5 :: a6 :: b :: r) (.int x :: st) := by
  obtain ⟨p, l, e, R, s, m, args, below, meth, c, Q, A, nL, cl, sl⟩ := E
  intro H locs hP hS ls hl
  refine lv_istore ok.1 ok.2.1 hd (hl.pairs) (by have := ok.2.2.2.2.2.2.2.2.1; omega) rfl (fun ls2 h2 => k H locs hP hS ls2 (hasL.st1 (i := 7) (w := .int x) h2 rfl ?_))
  exact hc
theorem V_aload7 (ok : Ok E G own cc n d) {a0 a1 a2 a3 a4 a5 a6 : Option Value} {r : List (Option Value)} {x : Nat} (hd : decode cc pc = .ok (.aload 7, 2)) (k : V E G I J (pc + 2) (a0 :: a1 :: a2 :: a3 :: a4 :: a5 :: a6 :: some (.ref x) :: r) (.ref x :: st)) : V E G I J pc (a0 :: a1 :: a2 :: a3 :: a4 :: a5 :: a6 :: some (.ref x) :: r) st := by
  obtain ⟨p, l, e, R, s, m, args, below, meth, c, Q, A, nL, cl, sl⟩ := E
  exact fun H locs hP hS ls hl => lv_aload ok.1 ok.2.1 hd (hl.2.2 7 (.ref x) rfl) (k H locs hP hS ls hl)
theorem V_astore7 (ok : Ok E G own cc n d) {a0 a1 a2 a3 a4 a5 a6 : Option Value} {r : List (Option Value)} {b : Option Value} {x : Nat} (hn : 7 < n) (hd : decode cc pc = .ok (.astore 7, 2)) (hc : nl a6 = true) (k : V E G I J (pc + 2) (a0 :: a1 :: a2 :: a3 :: a4 :: a5 :: a6 :: some (.ref x) :: r) st) : V E G I J pc (a0 :: a1 :: a2 :: a3 :: a4 :: a5 :: a6 :: b :: r) (.ref x :: st) := by
  obtain ⟨p, l, e, R, s, m, args, below, meth, c, Q, A, nL, cl, sl⟩ := E
  intro H locs hP hS ls hl
  refine lv_astore ok.1 ok.2.1 hd (hl.pairs) (by have := ok.2.2.2.2.2.2.2.2.1; omega) rfl (fun ls2 h2 => k H locs hP hS ls2 (hasL.st1 (i := 7) (w := .ref x) h2 rfl ?_))
  exact hc
theorem V_lload7 (ok : Ok E G own cc n d) {a0 a1 a2 a3 a4 a5 a6 : Option Value} {r : List (Option Value)} {x : Int64} (hd : decode cc pc = .ok (.lload 7, 2)) (k : V E G I J (pc + 2) (a0 :: a1 :: a2 :: a3 :: a4 :: a5 :: a6 :: some (.long x) :: r) (.long x :: st)) : V E G I J pc (a0 :: a1 :: a2 :: a3 :: a4 :: a5 :: a6 :: some (.long x) :: r) st := by
  obtain ⟨p, l, e, R, s, m, args, below, meth, c, Q, A, nL, cl, sl⟩ := E
  exact fun H locs hP hS ls hl => lv_lload ok.1 ok.2.1 hd (hl.2.2 7 (.long x) rfl) (k H locs hP hS ls hl)
theorem V_iinc7 (ok : Ok E G own cc n d) {a0 a1 a2 a3 a4 a5 a6 : Option Value} {r : List (Option Value)} {x v : Int32} {z : Int} (hn : 7 < n) (hd : decode cc pc = .ok (.iinc 7 z, 3)) (hv : x + Int32.ofInt z = v) (hc : nl a6 = true) (k : V E G I J (pc + 3) (a0 :: a1 :: a2 :: a3 :: a4 :: a5 :: a6 :: some (.int v) :: r) st) : V E G I J pc (a0 :: a1 :: a2 :: a3 :: a4 :: a5 :: a6 :: some (.int x) :: r) st := by
  obtain ⟨p, l, e, R, s, m, args, below, meth, c, Q, A, nL, cl, sl⟩ := E
  intro H locs hP hS ls hl
  obtain ⟨kk, hkk⟩ := hl.place (i := 7) (v := .int x) rfl
  refine lv_iinc ok.1 ok.2.1 hd (hl.pairs) hkk hv (by have := ok.2.2.2.2.2.2.2.2.1; omega) rfl (fun ls2 h2 => k H locs hP hS ls2 (hasL.st1 (i := 7) (w := .int v) h2 rfl ?_))
  exact hc
theorem V_iload8 (ok : Ok E G own cc n d) {a0 a1 a2 a3 a4 a5 a6 a7 : Option Value} {r : List (Option Value)} {x : Int32} (hd : decode cc pc = .ok (.iload 8, 2)) (k : V E G I J (pc + 2) (a0 :: a1 :: a2 :: a3 :: a4 :: a5 :: a6 :: a7 :: some (.int x) :: r) (.int x :: st)) : V E G I J pc (a0 :: a1 :: a2 :: a3 :: a4 :: a5 :: a6 :: a7 :: some (.int x) :: r) st := by
  obtain ⟨p, l, e, R, s, m, args, below, meth, c, Q, A, nL, cl, sl⟩ := E
  exact fun H locs hP hS ls hl => lv_iload ok.1 ok.2.1 hd (hl.2.2 8 (.int x) rfl) (k H locs hP hS ls hl)
theorem V_istore8 (ok : Ok E G own cc n d) {a0 a1 a2 a3 a4 a5 a6 a7 : Option Value} {r : List (Option Value)} {b : Option Value} {x : Int32} (hn : 8 < n) (hd : decode cc pc = .ok (.istore 8, 2)) (hc : nl a7 = true) (k : V E G I J (pc + 2) (a0 :: a1 :: a2 :: a3 :: a4 :: a5 :: a6 :: a7 :: some (.int x) :: r) st) : V E G I J pc (a0 :: a1 :: a2 :: a3 :: a4 :: a5 :: a6 :: a7 :: b :: r) (.int x :: st) := by
  obtain ⟨p, l, e, R, s, m, args, below, meth, c, Q, A, nL, cl, sl⟩ := E
  intro H locs hP hS ls hl
  refine lv_istore ok.1 ok.2.1 hd (hl.pairs) (by have := ok.2.2.2.2.2.2.2.2.1; omega) rfl (fun ls2 h2 => k H locs hP hS ls2 (hasL.st1 (i := 8) (w := .int x) h2 rfl ?_))
  exact hc
theorem V_aload8 (ok : Ok E G own cc n d) {a0 a1 a2 a3 a4 a5 a6 a7 : Option Value} {r : List (Option Value)} {x : Nat} (hd : decode cc pc = .ok (.aload 8, 2)) (k : V E G I J (pc + 2) (a0 :: a1 :: a2 :: a3 :: a4 :: a5 :: a6 :: a7 :: some (.ref x) :: r) (.ref x :: st)) : V E G I J pc (a0 :: a1 :: a2 :: a3 :: a4 :: a5 :: a6 :: a7 :: some (.ref x) :: r) st := by
  obtain ⟨p, l, e, R, s, m, args, below, meth, c, Q, A, nL, cl, sl⟩ := E
  exact fun H locs hP hS ls hl => lv_aload ok.1 ok.2.1 hd (hl.2.2 8 (.ref x) rfl) (k H locs hP hS ls hl)
theorem V_astore8 (ok : Ok E G own cc n d) {a0 a1 a2 a3 a4 a5 a6 a7 : Option Value} {r : List (Option Value)} {b : Option Value} {x : Nat} (hn : 8 < n) (hd : decode cc pc = .ok (.astore 8, 2)) (hc : nl a7 = true) (k : V E G I J (pc + 2) (a0 :: a1 :: a2 :: a3 :: a4 :: a5 :: a6 :: a7 :: some (.ref x) :: r) st) : V E G I J pc (a0 :: a1 :: a2 :: a3 :: a4 :: a5 :: a6 :: a7 :: b :: r) (.ref x :: st) := by
  obtain ⟨p, l, e, R, s, m, args, below, meth, c, Q, A, nL, cl, sl⟩ := E
  intro H locs hP hS ls hl
  refine lv_astore ok.1 ok.2.1 hd (hl.pairs) (by have := ok.2.2.2.2.2.2.2.2.1; omega) rfl (fun ls2 h2 => k H locs hP hS ls2 (hasL.st1 (i := 8) (w := .ref x) h2 rfl ?_))
  exact hc
theorem V_lload8 (ok : Ok E G own cc n d) {a0 a1 a2 a3 a4 a5 a6 a7 : Option Value} {r : List (Option Value)} {x : Int64} (hd : decode cc pc = .ok (.lload 8, 2)) (k : V E G I J (pc + 2) (a0 :: a1 :: a2 :: a3 :: a4 :: a5 :: a6 :: a7 :: some (.long x) :: r) (.long x :: st)) : V E G I J pc (a0 :: a1 :: a2 :: a3 :: a4 :: a5 :: a6 :: a7 :: some (.long x) :: r) st := by
  obtain ⟨p, l, e, R, s, m, args, below, meth, c, Q, A, nL, cl, sl⟩ := E
  exact fun H locs hP hS ls hl => lv_lload ok.1 ok.2.1 hd (hl.2.2 8 (.long x) rfl) (k H locs hP hS ls hl)
theorem V_iinc8 (ok : Ok E G own cc n d) {a0 a1 a2 a3 a4 a5 a6 a7 : Option Value} {r : List (Option Value)} {x v : Int32} {z : Int} (hn : 8 < n) (hd : decode cc pc = .ok (.iinc 8 z, 3)) (hv : x + Int32.ofInt z = v) (hc : nl a7 = true) (k : V E G I J (pc + 3) (a0 :: a1 :: a2 :: a3 :: a4 :: a5 :: a6 :: a7 :: some (.int v) :: r) st) : V E G I J pc (a0 :: a1 :: a2 :: a3 :: a4 :: a5 :: a6 :: a7 :: some (.int x) :: r) st := by
  obtain ⟨p, l, e, R, s, m, args, below, meth, c, Q, A, nL, cl, sl⟩ := E
  intro H locs hP hS ls hl
  obtain ⟨kk, hkk⟩ := hl.place (i := 8) (v := .int x) rfl
  refine lv_iinc ok.1 ok.2.1 hd (hl.pairs) hkk hv (by have := ok.2.2.2.2.2.2.2.2.1; omega) rfl (fun ls2 h2 => k H locs hP hS ls2 (hasL.st1 (i := 8) (w := .int v) h2 rfl ?_))
  exact hc
theorem V_iload9 (ok : Ok E G own cc n d) {a0 a1 a2 a3 a4 a5 a6 a7 a8 : Option Value} {r : List (Option Value)} {x : Int32} (hd : decode cc pc = .ok (.iload 9, 2)) (k : V E G I J (pc + 2) (a0 :: a1 :: a2 :: a3 :: a4 :: a5 :: a6 :: a7 :: a8 :: some (.int x) :: r) (.int x :: st)) : V E G I J pc (a0 :: a1 :: a2 :: a3 :: a4 :: a5 :: a6 :: a7 :: a8 :: some (.int x) :: r) st := by
  obtain ⟨p, l, e, R, s, m, args, below, meth, c, Q, A, nL, cl, sl⟩ := E
  exact fun H locs hP hS ls hl => lv_iload ok.1 ok.2.1 hd (hl.2.2 9 (.int x) rfl) (k H locs hP hS ls hl)
theorem V_istore9 (ok : Ok E G own cc n d) {a0 a1 a2 a3 a4 a5 a6 a7 a8 : Option Value} {r : List (Option Value)} {b : Option Value} {x : Int32} (hn : 9 < n) (hd : decode cc pc = .ok (.istore 9, 2)) (hc : nl a8 = true) (k : V E G I J (pc + 2) (a0 :: a1 :: a2 :: a3 :: a4 :: a5 :: a6 :: a7 :: a8 :: some (.int x) :: r) st) : V E G I J pc (a0 :: a1 :: a2 :: a3 :: a4 :: a5 :: a6 :: a7 :: a8 :: b :: r) (.int x :: st) := by
  obtain ⟨p, l, e, R, s, m, args, below, meth, c, Q, A, nL, cl, sl⟩ := E
  intro H locs hP hS ls hl
  refine lv_istore ok.1 ok.2.1 hd (hl.pairs) (by have := ok.2.2.2.2.2.2.2.2.1; omega) rfl (fun ls2 h2 => k H locs hP hS ls2 (hasL.st1 (i := 9) (w := .int x) h2 rfl ?_))
  exact hc
theorem V_aload9 (ok : Ok E G own cc n d) {a0 a1 a2 a3 a4 a5 a6 a7 a8 : Option Value} {r : List (Option Value)} {x : Nat} (hd : decode cc pc = .ok (.aload 9, 2)) (k : V E G I J (pc + 2) (a0 :: a1 :: a2 :: a3 :: a4 :: a5 :: a6 :: a7 :: a8 :: some (.ref x) :: r) (.ref x :: st)) : V E G I J pc (a0 :: a1 :: a2 :: a3 :: a4 :: a5 :: a6 :: a7 :: a8 :: some (.ref x) :: r) st := by
  obtain ⟨p, l, e, R, s, m, args, below, meth, c, Q, A, nL, cl, sl⟩ := E
  exact fun H locs hP hS ls hl => lv_aload ok.1 ok.2.1 hd (hl.2.2 9 (.ref x) rfl) (k H locs hP hS ls hl)
theorem V_astore9 (ok : Ok E G own cc n d) {a0 a1 a2 a3 a4 a5 a6 a7 a8 : Option Value} {r : List (Option Value)} {b : Option Value} {x : Nat} (hn : 9 < n) (hd : decode cc pc = .ok (.astore 9, 2)) (hc : nl a8 = true) (k : V E G I J (pc + 2) (a0 :: a1 :: a2 :: a3 :: a4 :: a5 :: a6 :: a7 :: a8 :: some (.ref x) :: r) st) : V E G I J pc (a0 :: a1 :: a2 :: a3 :: a4 :: a5 :: a6 :: a7 :: a8 :: b :: r) (.ref x :: st) := by
  obtain ⟨p, l, e, R, s, m, args, below, meth, c, Q, A, nL, cl, sl⟩ := E
  intro H locs hP hS ls hl
  refine lv_astore ok.1 ok.2.1 hd (hl.pairs) (by have := ok.2.2.2.2.2.2.2.2.1; omega) rfl (fun ls2 h2 => k H locs hP hS ls2 (hasL.st1 (i := 9) (w := .ref x) h2 rfl ?_))
  exact hc
theorem V_lload9 (ok : Ok E G own cc n d) {a0 a1 a2 a3 a4 a5 a6 a7 a8 : Option Value} {r : List (Option Value)} {x : Int64} (hd : decode cc pc = .ok (.lload 9, 2)) (k : V E G I J (pc + 2) (a0 :: a1 :: a2 :: a3 :: a4 :: a5 :: a6 :: a7 :: a8 :: some (.long x) :: r) (.long x :: st)) : V E G I J pc (a0 :: a1 :: a2 :: a3 :: a4 :: a5 :: a6 :: a7 :: a8 :: some (.long x) :: r) st := by
  obtain ⟨p, l, e, R, s, m, args, below, meth, c, Q, A, nL, cl, sl⟩ := E
  exact fun H locs hP hS ls hl => lv_lload ok.1 ok.2.1 hd (hl.2.2 9 (.long x) rfl) (k H locs hP hS ls hl)
theorem V_iinc9 (ok : Ok E G own cc n d) {a0 a1 a2 a3 a4 a5 a6 a7 a8 : Option Value} {r : List (Option Value)} {x v : Int32} {z : Int} (hn : 9 < n) (hd : decode cc pc = .ok (.iinc 9 z, 3)) (hv : x + Int32.ofInt z = v) (hc : nl a8 = true) (k : V E G I J (pc + 3) (a0 :: a1 :: a2 :: a3 :: a4 :: a5 :: a6 :: a7 :: a8 :: some (.int v) :: r) st) : V E G I J pc (a0 :: a1 :: a2 :: a3 :: a4 :: a5 :: a6 :: a7 :: a8 :: some (.int x) :: r) st := by
  obtain ⟨p, l, e, R, s, m, args, below, meth, c, Q, A, nL, cl, sl⟩ := E
  intro H locs hP hS ls hl
  obtain ⟨kk, hkk⟩ := hl.place (i := 9) (v := .int x) rfl
  refine lv_iinc ok.1 ok.2.1 hd (hl.pairs) hkk hv (by have := ok.2.2.2.2.2.2.2.2.1; omega) rfl (fun ls2 h2 => k H locs hP hS ls2 (hasL.st1 (i := 9) (w := .int v) h2 rfl ?_))
  exact hc
/-- an int field, a field that holds a reference -/
theorem V_getI (ok : Ok E G own cc n d) {x k ci j : Nat} {ref C : String} {T : u_T} {N : Nat} (hd : decode cc pc = .ok (.getfield x, 3)) (hk : kd k = ci) (hcl : vwCl[ci]? = some (C, T, N)) (hin : ∀ w ∈ u_ws C T N, w ∈ mS) (hj : (ft ci)[j]? = some true) (hl : Cond.fieldLink own x ref (T j).2.1 (T j).2.2.1 ∈ mS) (hs : (T j).1 = ref) (hN : j < N) (hk2 : k < 147) (hci : ci < 13) (kk : V E G I J (pc + 3) lo (.int (I k j) :: st)) : V E G I J pc lo (.ref (G.2.2 k) :: st) := by
  obtain ⟨p, l, e, R, s, m, args, below, meth, c, Q, A, nL, cl, sl⟩ := E
  exact fun H locs hP hS ls hls => va_get ok.1 ok.2.1 ok.2.2.2.2.1 hin ok.2.2.2.1 ok.2.2.2.2.2.1.1 hP k ((wl_get G I J hk2).trans (by rw [cel_o hk hci])) hcl j hN (ok.2.2.2.2.1 _ hl) (fun _ h => hs ▸ h) (fv_int hk hj) hd (kk H locs hP hS ls hls)
theorem V_getR (ok : Ok E G own cc n d) {x k ci j t : Nat} {ref C : String} {T : u_T} {N : Nat} (hd : decode cc pc = .ok (.getfield x, 3)) (hk : kd k = ci) (hcl : vwCl[ci]? = some (C, T, N)) (hin : ∀ w ∈ u_ws C T N, w ∈ mS) (hj : (ft ci)[j]? = some false) (hl : Cond.fieldLink own x ref (T j).2.1 (T j).2.2.1 ∈ mS) (hs : (T j).1 = ref) (hN : j < N) (hk2 : k < 147) (hci : ci < 13) (ht : rf k j = t) (kk : V E G I J (pc + 3) lo (.ref (G.2.2 t) :: st)) : V E G I J pc lo (.ref (G.2.2 k) :: st) := by
  obtain ⟨p, l, e, R, s, m, args, below, meth, c, Q, A, nL, cl, sl⟩ := E
  exact fun H locs hP hS ls hls => va_get ok.1 ok.2.1 ok.2.2.2.2.1 hin ok.2.2.2.1 ok.2.2.2.2.2.1.1 hP k ((wl_get G I J hk2).trans (by rw [cel_o hk hci])) hcl j hN (ok.2.2.2.2.1 _ hl) (fun _ h => hs ▸ h) (fv_ref hk hj ht) hd (kk H locs hP hS ls hls)
theorem V_putI (ok : Ok E G own cc n d) {x k ci j : Nat} {v : Int32} {ref C : String} {T : u_T} {N : Nat} {ty0 : Nat → FieldType} {ty : FieldType} (hd : decode cc pc = .ok (.putfield x, 3)) (hk : kd k = ci) (hcl : vwCl[ci]? = some (C, T, N)) (hin : ∀ w ∈ u_ws C T N, w ∈ mS) (hty : ∀ k, k < N → parseFieldDescriptor (T k).2.2.1 = some (ty0 k)) (hnm : ∀ a, a < N → ∀ b, b < N → a ≠ b → (T a).2.1 ≠ (T b).2.1) (hj : (ft ci)[j]? = some true) (hl : Cond.fieldLink own x ref (T j).2.1 (T j).2.2.1 ∈ mS) (hs : (T j).1 = ref) (hN : j < N) (hk2 : k < 147) (hci : ci < 13) (hfin : (T j).2.2.2 = false) (hp : ty0 j = ty) (hnar : narrow ty (.int v) = .int v) (hfit : fits ty (.int v) = true) (kk : V E G (sr I k (up (I k) j v)) J (pc + 3) lo st) : V E G I J pc lo (.int v :: .ref (G.2.2 k) :: st) := by
  obtain ⟨p, l, e, R, s, m, args, below, meth, c, Q, A, nL, cl, sl⟩ := E
  intro H locs hP hS ls hls
  have hD : va_D A (wl G I J) := wl_D ok.2.2.2.2.2.2.1 ok.2.2.2.2.2.2.2.1
  have he : (wl G I J)[k]? = some (G.2.2 k, .inr (ci, fv G I k)) := (wl_get G I J hk2).trans (by rw [cel_o hk hci])
  refine va_put (v := .int v) (ty := ty) ok.1 ok.2.1 ok.2.2.2.2.1 hin ty0 hty hnm ok.2.2.2.1 ok.2.2.2.2.2.1.1 hP hD hS k he hcl j hN (ok.2.2.2.2.1 _ hl) (fun _ h => hs ▸ h) hfin ((hty j hN).trans (by rw [hp])) hnar hfit ((List.getElem?_eq_some_iff.mp (fv_int (G := G) (I := I) hk hj)).1) hd (fun H1 locs1 hP1 _ hS1 => kk H1 locs1 ?_ hS1 ls hls)
  rw [fv_set hk hj, ← cel_o (J := J) hk hci, wl_set hk2] at hP1
  exact hP1
/-- arrays -/
theorem V_iald (ok : Ok E G own cc n d) {x : Int32} {k i : Nat} (hd : decode cc pc = .ok (.iaload, 1)) (hk : kd k = 13) (hk2 : k < 147) (hx : x = nI i) (hi : i < ln k) (hL : ln k < 5000) (kk : V E G I J (pc + 1) lo (.int (I k i) :: st)) : V E G I J pc lo (.int x :: .ref (G.2.2 k) :: st) := by
  obtain ⟨p, l, e, R, s, m, args, below, meth, c, Q, A, nL, cl, sl⟩ := E
  intro H locs hP hS ls hls
  subst hx
  refine va_iald ok.1 ok.2.1 ok.2.2.2.2.2.1.1 hP k 0 ((wl_get G I J hk2).trans (by rw [cel_i hk])) rfl (vp_in_nI hi (by omega)) hd ?_
  rw [nI_clamp (by omega)]
  exact kk H locs hP hS ls hls
theorem V_zald (ok : Ok E G own cc n d) {x : Int32} {k i : Nat} (hd : decode cc pc = .ok (.baload, 1)) (hk : kd k = 15) (hk2 : k < 147) (hx : x = nI i) (hi : i < ln k) (hL : ln k < 5000) (kk : V E G I J (pc + 1) lo (.int (I k i) :: st)) : V E G I J pc lo (.int x :: .ref (G.2.2 k) :: st) := by
  obtain ⟨p, l, e, R, s, m, args, below, meth, c, Q, A, nL, cl, sl⟩ := E
  intro H locs hP hS ls hls
  subst hx
  refine va_zald ok.1 ok.2.1 ok.2.2.2.2.2.1.1 hP k 2 ((wl_get G I J hk2).trans (by rw [cel_z hk])) rfl (vp_in_nI hi (by omega)) hd ?_
  rw [nI_clamp (by omega)]
  exact kk H locs hP hS ls hls
theorem V_lald (ok : Ok E G own cc n d) {x : Int32} {k i : Nat} (hd : decode cc pc = .ok (.laload, 1)) (hk : kd k = 14) (hk2 : k < 147) (hx : x = nI i) (hi : i < ln k) (hL : ln k < 5000) (kk : V E G I J (pc + 1) lo (.long (J k i) :: st)) : V E G I J pc lo (.int x :: .ref (G.2.2 k) :: st) := by
  obtain ⟨p, l, e, R, s, m, args, below, meth, c, Q, A, nL, cl, sl⟩ := E
  intro H locs hP hS ls hls
  subst hx
  refine va_lald ok.1 ok.2.1 ok.2.2.2.2.2.1.1 hP k 1 ((wl_get G I J hk2).trans (by rw [cel_l hk])) rfl (vp_in_nI hi (by omega)) hd ?_
  rw [nI_clamp (by omega)]
  exact kk H locs hP hS ls hls
theorem V_aald (ok : Ok E G own cc n d) {x : Int32} {k i t r : Nat} {C : String} (hd : decode cc pc = .ok (.aaload, 1)) (hk : kd k = 13 + t) (ht : 3 ≤ t) (hC : (tysG G)[t]? = some (G.2.1 t, .object C)) (hk2 : k < 147) (hx : x = nI i) (hi : i < ln k) (hL : ln k < 5000) (hr : rf k i = r) (kk : V E G I J (pc + 1) lo (.ref (G.2.2 r) :: st)) : V E G I J pc lo (.int x :: .ref (G.2.2 k) :: st) := by
  obtain ⟨p, l, e, R, s, m, args, below, meth, c, Q, A, nL, cl, sl⟩ := E
  intro H locs hP hS ls hls
  subst hx
  refine va_aldq ok.1 ok.2.1 ok.2.2.2.2.2.1.1 hP k t ((wl_get G I J hk2).trans (by rw [cel_q hk ht])) hC (vp_in_nI hi (by omega)) hd ?_
  rw [nI_clamp (by omega), hr]
  exact kk H locs hP hS ls hls
theorem V_alen (ok : Ok E G own cc n d) {k t : Nat} {ty : FieldType} {v : Int32} (hd : decode cc pc = .ok (.arraylength, 1)) (hk : kd k = 13 + t) (ht : (tysG G)[t]? = some (G.2.1 t, ty)) (hk2 : k < 147) (hv : Int32.ofNat (ln k) = v) (kk : V E G I J (pc + 1) lo (.int v :: st)) : V E G I J pc lo (.ref (G.2.2 k) :: st) := by
  obtain ⟨p, l, e, R, s, m, args, below, meth, c, Q, A, nL, cl, sl⟩ := E
  intro H locs hP hS ls hls
  have hc : ∃ y : vp_A, cel G I J k = .inl (G.2.1 t, y) ∧ y.1 = ln k := by
    unfold cel
    rw [if_neg (by omega)]
    split
    · rw [show t = 1 by omega]; exact ⟨_, rfl, rfl⟩
    · rw [show kd k - 13 = t by omega]
      split
      · exact ⟨_, rfl, rfl⟩
      · exact ⟨_, rfl, rfl⟩
  obtain ⟨y, h1, h2⟩ := hc
  exact va_alen ok.1 ok.2.1 ok.2.2.2.2.2.1.1 hP k t ((wl_get G I J hk2).trans (by rw [h1])) ht (by rw [h2]; exact hv) hd (kk H locs hP hS ls hls)
theorem V_iast (ok : Ok E G own cc n d) {x v : Int32} {k i : Nat} (hd : decode cc pc = .ok (.iastore, 1)) (hk : kd k = 13) (hk2 : k < 147) (hx : x = nI i) (hi : i < ln k) (hL : ln k < 5000) (kk : V E G (sr I k (up (I k) i v)) J (pc + 1) lo st) : V E G I J pc lo (.int v :: .int x :: .ref (G.2.2 k) :: st) := by
  obtain ⟨p, l, e, R, s, m, args, below, meth, c, Q, A, nL, cl, sl⟩ := E
  intro H locs hP hS ls hls
  subst hx
  have hD : va_D A (wl G I J) := wl_D ok.2.2.2.2.2.2.1 ok.2.2.2.2.2.2.2.1
  refine va_iast ok.1 ok.2.1 ok.2.2.2.2.2.1.1 hP hD hS k 0 ((wl_get G I J hk2).trans (by rw [cel_i hk])) rfl (vp_in_nI hi (by omega)) hd (fun H1 locs1 hP1 _ hS1 => kk H1 locs1 ?_ hS1 ls hls)
  rw [nI_clamp (by omega)] at hP1
  have h : (Sum.inl (G.2.1 0, ln k, Sum.inl (upd (I k) i v)) : va_E) = cel G (sr I k (up (I k) i v)) J k := by rw [cel_i hk, sr_eq]; rfl
  rw [h, wl_set hk2] at hP1
  exact hP1
theorem V_zast (ok : Ok E G own cc n d) {x v : Int32} {k i : Nat} (hd : decode cc pc = .ok (.bastore, 1)) (hk : kd k = 15) (hk2 : k < 147) (hx : x = nI i) (hi : i < ln k) (hL : ln k < 5000) (hv : vp_nar .boolean v = v) (kk : V E G (sr I k (up (I k) i v)) J (pc + 1) lo st) : V E G I J pc lo (.int v :: .int x :: .ref (G.2.2 k) :: st) := by
  obtain ⟨p, l, e, R, s, m, args, below, meth, c, Q, A, nL, cl, sl⟩ := E
  intro H locs hP hS ls hls
  subst hx
  have hD : va_D A (wl G I J) := wl_D ok.2.2.2.2.2.2.1 ok.2.2.2.2.2.2.2.1
  refine va_zast ok.1 ok.2.1 ok.2.2.2.2.2.1.1 hP hD hS k 2 ((wl_get G I J hk2).trans (by rw [cel_z hk])) rfl (vp_in_nI hi (by omega)) hd (fun H1 locs1 hP1 _ hS1 => kk H1 locs1 ?_ hS1 ls hls)
  rw [nI_clamp (by omega), hv] at hP1
  have h : (Sum.inl (G.2.1 2, ln k, Sum.inl (upd (I k) i v)) : va_E) = cel G (sr I k (up (I k) i v)) J k := by rw [cel_z hk, sr_eq]; rfl
  rw [h, wl_set hk2] at hP1
  exact hP1
theorem V_last (ok : Ok E G own cc n d) {x : Int32} {v : Int64} {k i : Nat} (hd : decode cc pc = .ok (.lastore, 1)) (hk : kd k = 14) (hk2 : k < 147) (hx : x = nI i) (hi : i < ln k) (hL : ln k < 5000) (kk : V E G I (sr J k (up (J k) i v)) (pc + 1) lo st) : V E G I J pc lo (.long v :: .int x :: .ref (G.2.2 k) :: st) := by
  obtain ⟨p, l, e, R, s, m, args, below, meth, c, Q, A, nL, cl, sl⟩ := E
  intro H locs hP hS ls hls
  subst hx
  have hD : va_D A (wl G I J) := wl_D ok.2.2.2.2.2.2.1 ok.2.2.2.2.2.2.2.1
  refine va_last ok.1 ok.2.1 ok.2.2.2.2.2.1.1 hP hD hS k 1 ((wl_get G I J hk2).trans (by rw [cel_l hk])) rfl (vp_in_nI hi (by omega)) hd (fun H1 locs1 hP1 _ hS1 => kk H1 locs1 ?_ hS1 ls hls)
  rw [nI_clamp (by omega)] at hP1
  have h : (Sum.inl (G.2.1 1, ln k, Sum.inr (Sum.inl (vp_updL (J k) i v))) : va_E) = cel G I (sr J k (up (J k) i v)) k := by rw [cel_l hk, sr_eq]; rfl
  rw [h, wl_setJ hk2] at hP1
  exact hP1
/-- System.arraycopy over int arrays, from place 0 to place 0 -/
theorem V_copy (ok : Ok E G own cc n d) {x a b N : Nat} (hd : decode cc pc = .ok (.invokestatic x, 3)) (hw : Cond.methodLink own x arraycopyName ∈ mS) (h1 : Cond.native arraycopyName ∈ mS) (h2 : Cond.static arraycopyName ∈ mS) (h3 : Cond.initialized "java/lang/System" ∈ mS) (ha : kd a = 13) (hb : kd b = 13) (ha2 : a < 147) (hb2 : b < 147) (hla : N ≤ ln a) (hlb : N ≤ ln b) (hL : N < 5000) (hd1 : 1 ≤ d) (hst : (st.map fun v => v.category).sum ≤ 8) (kk : V E G (sr I b (fun j => if j < N then I a j else I b j)) J (pc + 3) lo st) : V E G I J pc lo (.int (nI N) :: .int 0 :: .ref (G.2.2 b) :: .int 0 :: .ref (G.2.2 a) :: st) := by
  obtain ⟨p, l, e, R, s, m, args, below, meth, c, Q, A, nL, cl, sl⟩ := E
  intro H locs hP hS ls hls
  have hD : va_D A (wl G I J) := wl_D ok.2.2.2.2.2.2.1 ok.2.2.2.2.2.2.2.1
  have hR := ok.2.2.2.2.2.2.2.2.2
  have hts := ok.2.2.2.2.1
  have hnf : nativeFrameWords "java/lang/System" "arraycopy" 5 + 11 ≤ 32 := by decide +kernel
  refine va_copyi (ty := .int) ok.1 ok.2.1 (ok.2.2.1.trans hls.1.symm) ok.2.2.2.1 (hts _ hw) (hts _ h1) (hts _ h2) (hts _ h3) ok.2.2.2.2.2.1.1 hP hD hS a b 0 0 ((wl_get G I J ha2).trans (by rw [cel_i ha])) ((wl_get G I J hb2).trans (by rw [cel_i hb])) rfl rfl rfl (by decide) (by decide) (nI_pos (by omega)) (by rw [nI_clamp (by omega)]; show 0 + N ≤ _; omega) (by rw [nI_clamp (by omega)]; show 0 + N ≤ _; omega) (fun _ _ => rfl) (by omega) (by omega) hd (fun H1 locs1 hP1 _ hS1 => kk H1 locs1 ?_ hS1 ls hls)
  have h : (Sum.inl (G.2.1 0, ln b, Sum.inl (va_cpy (I a) (I b) (0 : Int32).toNatClampNeg (0 : Int32).toNatClampNeg (nI N).toNatClampNeg)) : va_E) = cel G (sr I b (fun j => if j < N then I a j else I b j)) J b := by
    rw [cel_i hb, sr_eq, nI_clamp (by omega)]
    have hf : va_cpy (I a) (I b) (0 : Int32).toNatClampNeg (0 : Int32).toNatClampNeg N = (fun j => if j < N then I a j else I b j) := by
      funext j
      show (if 0 ≤ j ∧ j < 0 + N then I a (0 + (j - 0)) else I b j) = _
      by_cases hj : j < N
      · rw [if_pos ⟨Nat.zero_le _, by omega⟩, if_pos hj, Nat.zero_add, Nat.sub_zero]
      · rw [if_neg (by omega), if_neg hj]
    rw [hf]
  rw [h, wl_set hb2] at hP1
  exact hP1
/-- the end of a method -/
theorem V_iret (ok : Ok E G own cc n d) {ty : FieldType} {post : Option Value → Mi → Ml → Prop} {v : Int32} (or : Okr E G (some ty) post) (hd : decode cc pc = .ok (.ireturn, 1)) (hn : narrow ty (.int v) = .int v) (hp : post (some (.int v)) I J) : V E G I J pc lo [.int v] := by
  obtain ⟨p, l, e, R, s, m, args, below, meth, c, Q, A, nL, cl, sl⟩ := E
  obtain ⟨hr, hlk, hA, hQ⟩ := or
  subst hA; subst hQ
  intro H locs hP hS ls hls
  exact W.zret ok.1 ok.2.1 hr hn (fun t ht hW => ⟨⟨_, I, J, rfl, hp, by rw [ht]; exact hP, ok.2.2.2.2.2.1.moved hW⟩, hS.F ht⟩) hS.2.2 hd hlk
theorem V_lret (ok : Ok E G own cc n d) {post : Option Value → Mi → Ml → Prop} {v : Int64} (or : Okr E G (some .long) post) (hd : decode cc pc = .ok (.lreturn, 1)) (hp : post (some (.long v)) I J) : V E G I J pc lo [.long v] := by
  obtain ⟨p, l, e, R, s, m, args, below, meth, c, Q, A, nL, cl, sl⟩ := E
  obtain ⟨hr, hlk, hA, hQ⟩ := or
  subst hA; subst hQ
  intro H locs hP hS ls hls
  exact W.lret ok.1 ok.2.1 hr (fun t ht hW => ⟨⟨_, I, J, rfl, hp, by rw [ht]; exact hP, ok.2.2.2.2.2.1.moved hW⟩, hS.F ht⟩) hS.2.2 hd hlk
theorem V_vret (ok : Ok E G own cc n d) {post : Option Value → Mi → Ml → Prop} (or : Okr E G none post) (hd : decode cc pc = .ok (.return_, 1)) (hp : post none I J) : V E G I J pc lo [] := by
  obtain ⟨p, l, e, R, s, m, args, below, meth, c, Q, A, nL, cl, sl⟩ := E
  obtain ⟨hr, hlk, hA, hQ⟩ := or
  subst hA; subst hQ
  intro H locs hP hS ls hls
  exact W.vret ok.1 ok.2.1 hr (fun t ht hW => ⟨⟨_, I, J, rfl, hp, by rw [ht]; exact hP, ok.2.2.2.2.2.1.moved hW⟩, hS.F ht⟩) hS.2.2 hd hlk
/-- calls -/
theorem mS_self : GoodIn mS mS := fun w h => ⟨h, good_of_word (List.mem_filter.mp h).2⟩
theorem mS_code {w : Cond} (h : w ∈ mS) : GoodIn mS (w :: mS) := fun v hv => by
  rcases List.mem_cons.mp hv with rfl | hv
  · exact mS_self _ h
  · exact mS_self _ hv
theorem va_run_V {p : Program} {l : Launch} {e : Env} {R : Room} {s : State} {m : MethodId} {args : Array Value} {below : List Frame} {meth : Method} {c : Code} {Q : State → Prop} {A : Nat → Prop} {nL cl sl : Nat} {post : Option Value → Mi → Ml → Prop} {a : Array Value} {st0 : List Value} (hA : ∀ q, Aw G q → A q)
    {H : Heap} {locs : List Loc} {ls : Array Slot} (hls : hasL ls nL lo) (hS : va_S A s.heap H locs)
    (hr : va_Run p l e R s m args below meth c H locs cl sl 0 0 (F0 m pc ls st0) st (Qw G post a) (Aw G))
    (k : ∀ (v : Option Value) (I' : Mi) (J' : Ml), post v I' J' → V (p, l, e, R, s, m, args, below, meth, c, Q, A, nL, cl, sl) G I' J' (pc + 3) lo (v.toList ++ st)) : W p l e R s m args below meth c H locs cl sl Q (F0 m pc ls st0) := by
  intro T hT X
  obtain ⟨v, st₀, t, T', L, h0, X', hL, e1, e2, ⟨⟨v', I', J', hv, hp, hB⟩, hz, hk⟩, stp⟩ := hr T hT X
  cases hv
  rw [h0] at hz hk
  obtain ⟨t2, a1, b1⟩ := k v I' J' hp T'.heap (locs ++ L) (by rw [e1]; exact hB.1)
    ⟨Nat.le_trans hS.1 (by rw [e1]; exact hz), fun q h1 h2 => by rw [e1, hk q (Nat.lt_of_lt_of_le h1 hS.1) (fun z => h2 (hA q z))]; exact hS.2.1 q h1 h2, fun q hq => by
      rcases List.mem_append.mp hq with h | h
      · exact hS.2.2 q h
      · exact hA _ (hL q h)⟩ ls hls T' rfl X'
  exact ⟨t2, stp t2 a1, b1⟩
def CwV (own : String) (x : Nat) (y : MethodName) (b : ByteArray) (mL : Nat) (ret : Option FieldType) (na : Nat) : Prop :=
  Cond.methodLink own x y ∈ mS ∧ Cond.instanceMethod y ∈ mS ∧ Cond.selects y.cls y y ∈ mS ∧ Cond.initialized y.cls ∈ mS ∧ Cond.code y b mL ret ∈ mS ∧ (y.cls ≠ "java/lang/invoke/MethodHandle" ∧ y.cls ≠ "java/lang/invoke/VarHandle" ∧ (parseMethodDescriptor y.desc).map (fun d => d.parameters.length) = some na) ∧ mL ≤ 20
def CwS (own : String) (x : Nat) (y : MethodName) (b : ByteArray) (mL : Nat) (ret : Option FieldType) (na : Nat) : Prop :=
  Cond.methodLink own x y ∈ mS ∧ Cond.static y ∈ mS ∧ Cond.initialized y.cls ∈ mS ∧ Cond.code y b mL ret ∈ mS ∧ (y.cls ≠ "java/lang/invoke/MethodHandle" ∧ y.cls ≠ "java/lang/invoke/VarHandle" ∧ (parseMethodDescriptor y.desc).map (fun d => d.parameters.length) = some na) ∧ mL ≤ 20
def CwN (own : String) (x : Nat) (y : MethodName) (b : ByteArray) (mL : Nat) (ret : Option FieldType) (na : Nat) (host : String) : Prop :=
  Cond.methodLinkNest own x y host ∈ nestL ∧ Cond.static y ∈ mS ∧ Cond.initialized y.cls ∈ mS ∧ Cond.code y b mL ret ∈ mS ∧ (y.cls ≠ "java/lang/invoke/MethodHandle" ∧ y.cls ≠ "java/lang/invoke/VarHandle" ∧ (parseMethodDescriptor y.desc).map (fun d => d.parameters.length) = some na) ∧ mL ≤ 20
theorem Wo_blind {G : Gw} {I : Mi} {J : Ml} {as : List Value} : FrameBlind (va_Pc as (fun U => Wo G I J U ∧ Gj G)) := fun a U g mk q => ⟨q.1, ⟨q.2.1.1, va_K.moved (u := U) (U := U.calling g mk a) (Vm.Alike.refl U.vm) q.2.1.2.1, fun w hw => by
  have h2 := q.2.1.2.2 w hw
  have h3 : w.onTables = true := by
    simp only [nestL, List.mem_cons, List.not_mem_nil, or_false] at hw
    rcases hw with rfl | rfl | rfl <;> rfl
  exact va_Nw.same (u := U) (U := U.calling g mk a) h3 rfl h2⟩, q.2.2⟩
theorem V_callV (ok : Ok E G own cc n d) {x k ci mL na d' : Nat} {y : MethodName} {b : ByteArray} {ret : Option FieldType} {T : u_T} {N : Nat} {As : List Value} {post : Option Value → Mi → Ml → Prop} {st0 : List Value} (hd : decode cc pc = .ok (.invokevirtual x, 3)) (cw : CwV own x y b mL ret na) (hcl : vwCl[ci]? = some (y.cls, T, N)) (hk : kd k = ci) (hk2 : k < 147) (hci : ci < 13) (hC : Ct E.2.1 y b mL ret d' G (.ref (G.2.2 k) :: As) I J post) (hst : st0 = As.reverse ++ .ref (G.2.2 k) :: st) (hna : As.length = na) (hdd : d' < d) (hsm : (st.map fun v => v.category).sum ≤ 8)
    (kk : ∀ (v : Option Value) (I' : Mi) (J' : Ml), post v I' J' → V E G I' J' (pc + 3) lo (v.toList ++ st)) : V E G I J pc lo st0 := by
  obtain ⟨p, l, e, R, s, m, args, below, meth, c, Q, A, nL, cl, sl⟩ := E
  intro H locs hP hS ls hls
  obtain ⟨w1, w2, w3, w4, w5, w6, w7⟩ := cw
  obtain ⟨o1, o2, o3, o4, o5, o6, o7, o8, o9, o10, o11, o12, o13⟩ := ok
  have hcB : CallB R s args own x y b mL ret (.code y b mL ret :: mS) (rmD d') 0 0 na := callB_of na o5 (mS_code w5) rfl rfl rfl (o5 _ w4) (o5 _ w1) w6 ⟨by show d' + 1 ≤ _; omega, by show 8 + (mL + 11) + 40 * d' ≤ _; omega⟩
  refine va_run_V o8 hls hS (va_runV (As := As) (rest := st) (C := y.cls) (n := na) ⟨o1, o2, o3.trans o9, o4, o5⟩ hC ⟨hcB, o5 _ w2, o5 _ w3⟩ ⟨Wo_blind, va_recv o6.1 hP hcl ((wl_get G I J hk2).trans (by rw [cel_o hk hci])), fun U hU hW => ⟨rfl, ⟨by rw [hU]; exact hP, o6.moved hW⟩, o7⟩⟩ rfl hna (hls.1.trans o9) hst (lv_room hsm) hd ⟨by omega, by omega⟩) kk
theorem V_callS (ok : Ok E G own cc n d) {x mL na d' : Nat} {y : MethodName} {b : ByteArray} {ret : Option FieldType} {As : List Value} {post : Option Value → Mi → Ml → Prop} {st0 : List Value} (hd : decode cc pc = .ok (.invokestatic x, 3)) (cw : CwS own x y b mL ret na) (hC : Ct E.2.1 y b mL ret d' G As I J post) (hst : st0 = As.reverse ++ st) (hna : As.length = na) (hdd : d' < d) (hsm : (st.map fun v => v.category).sum ≤ 8)
    (kk : ∀ (v : Option Value) (I' : Mi) (J' : Ml), post v I' J' → V E G I' J' (pc + 3) lo (v.toList ++ st)) : V E G I J pc lo st0 := by
  obtain ⟨p, l, e, R, s, m, args, below, meth, c, Q, A, nL, cl, sl⟩ := E
  intro H locs hP hS ls hls
  obtain ⟨w1, w2, w4, w5, w6, w7⟩ := cw
  obtain ⟨o1, o2, o3, o4, o5, o6, o7, o8, o9, o10, o11, o12, o13⟩ := ok
  have hcB : CallB R s args own x y b mL ret (.code y b mL ret :: mS) (rmD d') 0 0 na := callB_of na o5 (mS_code w5) rfl rfl rfl (o5 _ w4) (o5 _ w1) w6 ⟨by show d' + 1 ≤ _; omega, by show 8 + (mL + 11) + 40 * d' ≤ _; omega⟩
  refine va_run_V o8 hls hS (va_runS (As := As) (rest := st) (n := na) ⟨o1, o2, o3.trans o9, o4, o5⟩ hC ⟨hcB, o5 _ w2⟩ ⟨Wo_blind, fun U hU hW => ⟨rfl, ⟨by rw [hU]; exact hP, o6.moved hW⟩, o7⟩⟩ rfl hna (hls.1.trans o9) hst (lv_room hsm) hd ⟨by omega, by omega⟩) kk
theorem V_callN (ok : Ok E G own cc n d) {x mL na d' : Nat} {y : MethodName} {b : ByteArray} {ret : Option FieldType} {host : String} {As : List Value} {post : Option Value → Mi → Ml → Prop} {st0 : List Value} (hd : decode cc pc = .ok (.invokestatic x, 3)) (cw : CwN own x y b mL ret na host) (hC : Ct E.2.1 y b mL ret d' G As I J post) (hst : st0 = As.reverse ++ st) (hna : As.length = na) (hdd : d' < d) (hsm : (st.map fun v => v.category).sum ≤ 8)
    (kk : ∀ (v : Option Value) (I' : Mi) (J' : Ml), post v I' J' → V E G I' J' (pc + 3) lo (v.toList ++ st)) : V E G I J pc lo st0 := by
  obtain ⟨p, l, e, R, s, m, args, below, meth, c, Q, A, nL, cl, sl⟩ := E
  intro H locs hP hS ls hls
  obtain ⟨w1, w2, w4, w5, w6, w7⟩ := cw
  obtain ⟨o1, o2, o3, o4, o5, o6, o7, o8, o9, o10, o11, o12, o13⟩ := ok
  have hcB : va_CN R s args own x y host b mL ret (.code y b mL ret :: mS) (rmD d') 0 0 na := va_cnB na o5 (mS_code w5) rfl rfl rfl (o6.2 _ w1) (o5 _ w4) w6 ⟨by show d' + 1 ≤ _; omega, by show 8 + (mL + 11) + 40 * d' ≤ _; omega⟩
  refine va_run_V o8 hls hS (va_runSN (As := As) (rest := st) (n := na) ⟨o1, o2, o3.trans o9, o4, o5⟩ hC ⟨hcB, o5 _ w2, trivial⟩ ⟨Wo_blind, fun U hU hW => ⟨rfl, ⟨by rw [hU]; exact hP, o6.moved hW⟩, o7⟩⟩ rfl hna (hls.1.trans o9) hst (lv_room hsm) hd ⟨by omega, by omega⟩) kk
end RW
