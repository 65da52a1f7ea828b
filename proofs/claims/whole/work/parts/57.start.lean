/-! the law from its entry; the claim -/
/-! THE CLAIM OUT OF ONE WALK OF THE LAW'S BODY. Your part is whole_start (and what it stands on); all else here is the same for every law, but numbers. -/
def R_law : String := "NoughtSumsLaw"
def lw_P (b : Addr) (xs : List Int32) (args : Array Value) (s : State) : Prop := args = #[.ref b] ∧ s.IntsAt b xs ∧ xs.length ≤ 2560 ∧ (Jvm.Cond.and given_1 narrow_1).before args s = true
def lw_Q (_ : Array Value) (s : State) (o : Outcome) (t : State) : Prop := o = .returned (some (.int 1)) ∧ Framed s o t [] 600000 7302250
def lw_Z (below : List Frame) (a : Array Value) (s : State) : State → Prop := fun t => ∃ o, t.status = .running ∧ Ended t below o ∧ lw_Q a s o t
/-- the law's own end, with 1 on the stack, nothing written that was there before, its room as the claim has it -/
theorem lw_ret {p : Program} {l : Launch} {e : Env} {s : State} {m : MethodId} {below : List Frame} {meth : Method} {c : Code} {b : Nat} (hx : p.tables.exec = Jvm.exec) (hb : c.code = code) (hr : meth.sig.returnType = ret) (hlocks : meth.locks = false) {pc : Nat} {H : Heap} {ls : Array Slot} (hdg : decode code pc = .ok (.ireturn, 1)) : W p l e room_1 s m #[Value.ref b] below meth c H [] 600000 7302250 (lw_Z below #[Value.ref b] s) (F0 m pc ls [.int 1]) := by
  intro T hT X
  obtain ⟨fs, hret, hrun, hended, hW, hframe⟩ := X.leave (v := some (.int 1)) (hlocks := hlocks) (fun h => by rw [hr] at h; cases h)
  have hmeth' : T.vm.method? m = some meth := X.method'
  refine ⟨T.setFrames fs, ?_, .returned (some (.int 1)), hrun, hended, rfl, ⟨_, rfl⟩, hW, hframe⟩
  jvm_step X.here [X.here.top, hx, hb, hdg, hmeth', hr, ret, narrow_b1]
  (try refine ⟨rfl, ?_⟩); (try refine ⟨rfl, ?_⟩)
  first | (intro acts; rw [hret _ acts rfl rfl rfl]) | rw [hret _ _ rfl rfl rfl]
  exact Steps.refl _
/-- what holds at the law's entry: the machine, the code, the tables' words (any of lw_tbl by 'hts w (by decide +kernel)'), the script of L ints xs at the cell b, what the Statement gives of the start (any of its parts by flat_of_before) -/
def lw_At (p : Program) (s : State) (m : MethodId) (meth : Method) (c : Code) (b L : Nat) (xs : Nat → Int32) : Prop :=
  p.tables.exec = Jvm.exec ∧ c.code = code ∧ meth.sig.returnType = ret ∧ c.maxLocals = 4 ∧ s.vm.findClass R_law = some m.cls ∧ (∀ w ∈ lw_tbl, w.before #[Value.ref b] s = true) ∧ va_X b L xs s s.heap ∧ b < s.heap.size ∧ meth.locks = false ∧ (Jvm.Cond.and given_1 narrow_1).before #[Value.ref b] s = true
theorem cwi_RL_9 : CwI RL 9 yX11_init cX11_init 1 0 := ⟨kw76, kw77, kw57, kw78, ⟨by decide +kernel, by decide +kernel, by decide +kernel⟩, by decide, rfl⟩
theorem cwi_RL_12 : CwI RL 12 yX12_init cX12_init 4 0 := ⟨kw897, kw898, kw69, kw899, ⟨by decide +kernel, by decide +kernel, by decide +kernel⟩, by decide, rfl⟩
theorem N_initM {E : Ev} {G : Gw} {h sl : Nat} {c : Nat → va_E} {own : String} {cc : ByteArray} {nv d mc ms pc n0 : Nat} {lo : List (Option Value)} {st : List Value} (ok : OkC E G h own cc nv d mc ms) (hE : En0 E = n0) {x mL na d' ms' a : Nat} {y : MethodName} {b : ByteArray} {As st0 : List Value} (hd : decode cc pc = .ok (.invokespecial x, 3)) (cw : CwI own x y b mL na) (hC : Met E.2.1 y (.code y b mL none :: mS) (rmC d' 25 ms') (va_Pc (.ref a :: As) (fun U => va_P G.1 vwCl (wn G 122 c) U.heap ∧ U.heap.size = h + 122 ∧ Wc G U ∧ ∀ i, G.2.2 i = h + i)) (QM G h) 25 ms' (fun q => h ≤ q)) (hst : st0 = As.reverse ++ .ref a :: st) (hna : As.length = na) (hdd : d' < d) (hsm : (st.map fun v => v.category).sum ≤ 8) (hn0 : n0 ≤ 122) (hc : 147 - n0 ≤ mc) (hsl : sl + ms' ≤ ms) (kk : ∀ I1, fr [126, 127, 128] I0z I1 → mT I1 → Xz (Esw E (147 - n0) (sl + ms')) G I1 J0z (pc + 3) lo st) : Nj E G 122 c sl pc lo st0 := by
  obtain ⟨p, l, e, R, s, m, args, below, meth, cd, Q, A, nL, n1, s0⟩ := E
  have hE : n1 = n0 := hE
  subst hE
  intro H locs hP hS ls hls
  obtain ⟨o1, o2, o3, o4, o5, o6, o7, o8, o9, o10, o11, o12, o13, o14⟩ := ok
  obtain ⟨w1, w2, w4, w5, w6, w7, w8⟩ := cw
  refine W.sz (fun hz => ?_)
  have hlt := (hP 121 _ (wn_get (by omega))).lt
  have hlt : G.2.2 121 < H.size := hlt
  rw [o8] at hlt
  have hcB : CallB R s args own x y b mL none (.code y b mL none :: mS) (rmC d' 25 ms') 25 ms' na := callB_of na o5 (mS_code w5) rfl rfl rfl (o5 _ w4) (o5 _ w1) w6 ⟨by show d' + 1 ≤ _; omega, by show 8 + (mL + 11) + 40 * d' ≤ _; omega⟩
  have hr := va_runI (As := As) (rest := st) (n := na) (p := p) (l := l) (e := e) (below := below) (meth := meth) (locs := locs) (cells := 122 - n1) (slots := sl) (g := F0 m pc ls st0) ⟨o1, o2, o3.trans o9, o4, o5⟩ hC ⟨hcB, w8, o5 _ w2⟩ ⟨Ck_blind, fun U hU hW => ⟨rfl, by rw [hU]; exact hP, by rw [hU]; omega, o6.moved hW, o8⟩⟩ rfl hna (hls.1.trans o9) hst (lv_room hsm) hd ⟨by omega, by omega⟩
  subst o7
  intro T hT X
  obtain ⟨v, st₀, t, T', L, h0', X', hL, e1, e2, ⟨⟨hv, I1, ⟨hf, hm⟩, hP'⟩, hz, hk⟩, stp⟩ := hr T hT X
  cases hv
  rw [h0'] at hz hk
  rw [show 122 - n1 + 25 = 147 - n1 by omega] at X'
  obtain ⟨t2, a1, b1⟩ := kk I1 hf hm T'.heap (locs ++ L) (by rw [e1]; exact hP')
    ⟨Nat.le_trans hS.1 (by rw [e1]; exact hz), fun q h1 h2 => by rw [e1, hk q (Nat.lt_of_lt_of_le h1 hS.1) h2]; exact hS.2.1 q h1 h2, fun q hq => by
      rcases List.mem_append.mp hq with h | h
      · exact hS.2.2 q h
      · exact hL q h⟩ ls hls T' rfl X'
  exact ⟨t2, stp t2 a1, b1⟩
/-- the classes of arrays -/
theorem arr_p {s : State} {args : Array Value} {ty : FieldType} (h : (Cond.arrayClass ty).before args s = true) : ∃ cA : ClassId, ArrOfT s cA ty ∧ s.vm.findClass ("[" ++ ty.toString) = some cA := by
  obtain ⟨c, k, comp, h1, h2, h3⟩ := Cond.arrayClass_spec h
  exact ⟨c, fun n z => ⟨(fun k h => (by cases h)), k, h2, comp, h3⟩, h1⟩
theorem arr_q {s : State} {C : String} (h : va_AO C s) : ∃ cA : ClassId, ArrOfT s cA (.object C) ∧ va_RA s cA (.object C) := by
  obtain ⟨comp, c, k, h1, h2, h3, h4, h5⟩ := Cond.arrayOver_spec h
  exact ⟨c, fun n z => ⟨(fun k h => (by cases h)), k, h3, comp, h4⟩, k, comp, h3, h4, h1, h5⟩
theorem cl_known {s : State} {args : Array Value} (hts : ∀ w ∈ mS, w.before args s = true) : ∀ c : Nat, ∃ p : ClassId × (Nat → Nat), ∀ q, vwCl[c]? = some q → u_Kn s q.1 q.2.1 q.2.2 p.1 p.2 := by
  intro c
  have hc : c = 0 ∨ c = 1 ∨ c = 2 ∨ c = 3 ∨ c = 4 ∨ c = 5 ∨ c = 6 ∨ c = 7 ∨ c = 8 ∨ c = 9 ∨ c = 10 ∨ c = 11 ∨ c = 12 ∨ 13 ≤ c := by omega
  rcases hc with rfl | rfl | rfl | rfl | rfl | rfl | rfl | rfl | rfl | rfl | rfl | rfl | rfl | hc
  · obtain ⟨cC, iS, hk⟩ := u_known (T := TX0) (N := 5) hts inX0 (hts _ kw257)
    exact ⟨(cC, iS), fun q hq => by cases hq; exact hk⟩
  · obtain ⟨cC, iS, hk⟩ := u_known (T := TX1) (N := 7) hts inX1 (hts _ kw161)
    exact ⟨(cC, iS), fun q hq => by cases hq; exact hk⟩
  · obtain ⟨cC, iS, hk⟩ := u_known (T := TX2) (N := 2) hts inX2 (hts _ kw282)
    exact ⟨(cC, iS), fun q hq => by cases hq; exact hk⟩
  · obtain ⟨cC, iS, hk⟩ := u_known (T := TX3) (N := 7) hts inX3 (hts _ kw223)
    exact ⟨(cC, iS), fun q hq => by cases hq; exact hk⟩
  · obtain ⟨cC, iS, hk⟩ := u_known (T := TX4) (N := 3) hts inX4 (hts _ kw110)
    exact ⟨(cC, iS), fun q hq => by cases hq; exact hk⟩
  · obtain ⟨cC, iS, hk⟩ := u_known (T := TX5) (N := 2) hts inX5 (hts _ kw89)
    exact ⟨(cC, iS), fun q hq => by cases hq; exact hk⟩
  · obtain ⟨cC, iS, hk⟩ := u_known (T := TX6) (N := 2) hts inX6 (hts _ kw130)
    exact ⟨(cC, iS), fun q hq => by cases hq; exact hk⟩
  · obtain ⟨cC, iS, hk⟩ := u_known (T := TX7) (N := 2) hts inX7 (hts _ kw324)
    exact ⟨(cC, iS), fun q hq => by cases hq; exact hk⟩
  · obtain ⟨cC, iS, hk⟩ := u_known (T := TX8) (N := 3) hts inX8 (hts _ kw83)
    exact ⟨(cC, iS), fun q hq => by cases hq; exact hk⟩
  · obtain ⟨cC, iS, hk⟩ := u_known (T := TX9) (N := 5) hts inX9 (hts _ kw297)
    exact ⟨(cC, iS), fun q hq => by cases hq; exact hk⟩
  · obtain ⟨cC, iS, hk⟩ := u_known (T := TX10) (N := 7) hts inX10 (hts _ kw193)
    exact ⟨(cC, iS), fun q hq => by cases hq; exact hk⟩
  · obtain ⟨cC, iS, hk⟩ := u_known (T := TX11) (N := 14) hts inX11 (hts _ kw75)
    exact ⟨(cC, iS), fun q hq => by cases hq; exact hk⟩
  · obtain ⟨cC, iS, hk⟩ := u_known (T := TX12) (N := 37) hts inX12 (hts _ kw896)
    exact ⟨(cC, iS), fun q hq => by cases hq; exact hk⟩
  · exact ⟨(0, fun _ => 0), fun q hq => by rw [List.getElem?_eq_none (by show 13 ≤ c; exact hc)] at hq; cases hq⟩
theorem nest_in : (∀ w ∈ nestL, w ∈ lw_tbl ∧ w.onTables = true) ∧ (∀ w ∈ nestC, w ∈ lw_tbl ∧ w.onTables = true) ∧ Cond.arrayOver (.object RX6) ∈ lw_tbl ∧ Cond.arrayOver (.object RX5) ∈ lw_tbl ∧ Cond.arrayOver (.object RX2) ∈ lw_tbl := by decide +kernel
/-- what is known at the law's entry -/
theorem law_known {s : State} {args : Array Value} (hts : ∀ w ∈ lw_tbl, w.before args s = true) (ad : Nat → Nat) : ∃ G : Gw, Wc G s ∧ G.2.2 = ad := by
  have hm : ∀ w ∈ mS, w.before args s = true := fun w hw => hts w (List.mem_filter.mp hw).1
  have hK := cl_known hm
  obtain ⟨c0, a0, b0⟩ := arr_p (hm _ kw108)
  obtain ⟨c1, a1, b1⟩ := arr_p (hm _ kw191)
  obtain ⟨c2, a2, b2⟩ := arr_p (hm _ kw1017)
  have q6 : va_AO RX6 s := va_AO.of (hts _ nest_in.2.2.1)
  have q5 : va_AO RX5 s := va_AO.of (hts _ nest_in.2.2.2.1)
  have q2 : va_AO RX2 s := va_AO.of (hts _ nest_in.2.2.2.2)
  obtain ⟨c3, a3, b3⟩ := arr_q q2
  obtain ⟨c4, a4, b4⟩ := arr_q q5
  obtain ⟨c5, a5, b5⟩ := arr_q q6
  refine ⟨((fun c => (Classical.choose (hK c)).1, fun c => (Classical.choose (hK c)).2), (fun t => match t with
    | 0 => c0
    | 1 => c1
    | 2 => c2
    | 3 => c3
    | 4 => c4
    | _ => c5), ad), ⟨⟨⟨fun c q hq => Classical.choose_spec (hK c) q hq, fun k q hk => ?_⟩, fun w hw => va_Nw.of (nest_in.1 w hw).2 (hts w (nest_in.1 w hw).1)⟩, fun w hw => va_Nw.of (nest_in.2.1 w hw).2 (hts w (nest_in.2.1 w hw).1), q6, q5, q2⟩, rfl⟩
  have hk6 : k < 6 := by
    have := (List.getElem?_eq_some_iff.mp hk).1
    simpa [tysG] using this
  have hc : k = 0 ∨ k = 1 ∨ k = 2 ∨ k = 3 ∨ k = 4 ∨ k = 5 := by omega
  rcases hc with rfl | rfl | rfl | rfl | rfl | rfl <;> cases hk
  · exact ⟨a0, b0⟩
  · exact ⟨a1, b1⟩
  · exact ⟨a2, b2⟩
  · exact ⟨a3, b3⟩
  · exact ⟨a4, b4⟩
  · exact ⟨a5, b5⟩
theorem whole_start {p : Program} {e : Env} {s : State} {m : MethodId} {below : List Frame} {meth : Method} {c : Code} (l : Launch) (hflags : l.flags = flags0) {b L : Nat} {xs : Nat → Int32} (hL : L ≤ 2560) (C0 : lw_At p s m meth c b L xs) : W p l e room_1 s m #[Value.ref b] below meth c s.heap [] 0 0 (lw_Z below #[Value.ref b] s) (entryFrame m ([Value.ref b] : List Value).toArray 4) := by
  obtain ⟨hx, hb, hr, hml, hown, hts, hX, hbl, hlk, hgv⟩ := C0
  obtain ⟨G, hW, hG⟩ := law_known hts (fun k => s.heap.size + k)
  have hGi : ∀ i, G.2.2 i = s.heap.size + i := fun i => by rw [hG]
  have hm : ∀ w ∈ mS, w.before #[Value.ref b] s = true := fun w hw => hts w (List.mem_filter.mp hw).1
  have hl := lv_entry [Value.ref b] (n := 4) (Nat.le_of_ble_eq_true rfl)
  rw [lg_entry_eq]
  generalize hEv : ((p, l, e, room_1, s, m, #[Value.ref b], below, meth, c, lw_Z below #[Value.ref b] s, (fun q => s.heap.size ≤ q), 4, 0, 0) : Ev) = E
  have hE : En0 E = 0 := by rw [← hEv]; rfl
  have ok : OkC E G s.heap.size RL cL_law 4 44 600000 7302250 := by
    rw [← hEv]
    exact ⟨hx, hb, hml, hown, hm, hW, rfl, hGi, rfl, by decide, by decide, Nat.le_refl _, Nat.le_refl _, rfl⟩
  have key : Nj E G 0 (fun _ => .inr (0, [])) 0 0 [some (.ref b), none, none, none] [] := by
    refine N_new (ci := 11) (fs := [.null, .null, .int 0, .null, .null, .null, .null, .null, .null, .null, .null, .null, .null, .null]) (ty := tyX11) ok dL_law_0 rfl inX11 tyX11_ok kw74 kw75 kw57 (fun j hj => by
      have : j = 0 ∨ j = 1 ∨ j = 2 ∨ j = 3 ∨ j = 4 ∨ j = 5 ∨ j = 6 ∨ j = 7 ∨ j = 8 ∨ j = 9 ∨ j = 10 ∨ j = 11 ∨ j = 12 ∨ j = 13 := by omega
      rcases this with rfl | rfl | rfl | rfl | rfl | rfl | rfl | rfl | rfl | rfl | rfl | rfl | rfl | rfl <;> rfl) (by omega) (by omega) (by omega) ?_
    refine N_dup ok dL_law_3 rfl ?_
    refine N_init (n' := 121) (ms' := 2387) (As := []) ok dL_law_4 cwi_RL_9 (k_X11_0 (ud_eq _ _ _)) rfl rfl (by decide) (Nat.le_of_ble_eq_true rfl) (by omega) (by omega) (by omega) (by omega) (by omega) ?_
    refine N_astore1 ok (by decide) dL_law_7 rfl ?_
    refine N_new (ci := 12) (fs := [.int 0, .null, .null, .int 0, .null, .null, .null, .null, .null, .null, .null, .null, .null, .null, .null, .int 0, .int 0, .int 0, .null, .null, .null, .null, .null, .null, .null, .int 0, .int 0, .int 0, .null, .int 0, .int 0, .int 0, .int 0, .null, .null, .null, .null]) (ty := tyX12) ok dL_law_8 rfl inX12 tyX12_ok kw895 kw896 kw69 (fun j hj => by
      have : j = 0 ∨ j = 1 ∨ j = 2 ∨ j = 3 ∨ j = 4 ∨ j = 5 ∨ j = 6 ∨ j = 7 ∨ j = 8 ∨ j = 9 ∨ j = 10 ∨ j = 11 ∨ j = 12 ∨ j = 13 ∨ j = 14 ∨ j = 15 ∨ j = 16 ∨ j = 17 ∨ j = 18 ∨ j = 19 ∨ j = 20 ∨ j = 21 ∨ j = 22 ∨ j = 23 ∨ j = 24 ∨ j = 25 ∨ j = 26 ∨ j = 27 ∨ j = 28 ∨ j = 29 ∨ j = 30 ∨ j = 31 ∨ j = 32 ∨ j = 33 ∨ j = 34 ∨ j = 35 ∨ j = 36 := by omega
      rcases this with rfl | rfl | rfl | rfl | rfl | rfl | rfl | rfl | rfl | rfl | rfl | rfl | rfl | rfl | rfl | rfl | rfl | rfl | rfl | rfl | rfl | rfl | rfl | rfl | rfl | rfl | rfl | rfl | rfl | rfl | rfl | rfl | rfl | rfl | rfl | rfl | rfl <;> rfl) (by omega) (by omega) (by omega) ?_
    refine N_dup ok dL_law_11 rfl ?_
    refine N_initM (ms' := 8042) (As := []) ok hE dL_law_12 cwi_RL_12 (k_X12 (fun j hj => by rw [ud_ne _ _ (by omega), fin_ge (by omega)]) (ud_eq _ _ _)) rfl rfl (by decide) (Nat.le_of_ble_eq_true rfl) (by omega) (by omega) (by omega) (fun I1 hf hmT => ?_)
    have okv := ok.v (sl := 0 + 14 + 2387 + 37 + 8042) hE (by omega) (by omega)
    refine Z_astore2 (pc := 15) okv (by decide) dL_law_15 rfl ?_
    refine Z_iconst (pc := 16) okv dL_law_16 ?_
    refine Z_istore3 (pc := 17) okv (by decide) dL_law_17 rfl ?_
    refine law_loop (b := b) (L := L) (xs := xs) okv ?_ hL (fun I2 J2 lo2 => ?_) (L + 1) 0 I1 J0z (by omega) (by omega) (by omega) (Inv_0 hf hmT)
    · rw [← hEv]
      exact ⟨hX, hbl, fun q => by have q : s.heap.size ≤ b := q; omega⟩
    · refine Z_iconst (pc := 1447) okv dL_law_1447 ?_
      rw [← hEv]
      intro H locs hP hS ls hls
      refine va_forget (fun q hq => hS.2.2 q hq) ?_
      refine W.widen (k := 600000) (n := 7302250) (by decide) (by decide) ?_
      exact lw_ret hx hb hr hlk dL_law_1448
  have hk := key
  rw [← hEv] at hk
  exact hk s.heap [] (fun k q hq => by cases hq) va_S.rf _ ⟨hl.1, hl.2.1, fun i v hi => by
    have hi4 : i < 4 := by
      have := (List.getElem?_eq_some_iff.mp hi).1
      simpa using this
    have hc : i = 0 ∨ i = 1 ∨ i = 2 ∨ i = 3 := by omega
    rcases hc with rfl | rfl | rfl | rfl
    · cases hi
      exact hl.2.2 (0, .ref b) (by simp [lv_args])
    · cases hi
    · cases hi
    · cases hi⟩
set_option maxHeartbeats 4000000 in
theorem lw_walk (l : Launch) (hflags : l.flags = flags0) (b : Addr) (xs : List Int32) : MetFree l x (headSpec (Jvm.Cond.code x code maxLocals ret :: tables_1) room_1) (lw_P b xs) (fun _ _ _ _ _ => True) lw_Q := by
  refine MetFree.of_bodyS (code := code) (maxLocals := maxLocals) (ret := ret) (by decide) ?_ ?_
  · intro args s m h hn
    obtain ⟨meth, c, h1, h2, h3, h4, h5, h6, -, -⟩ := Cond.code_spec hn (atoms_spec (ws := Jvm.Cond.code x code maxLocals ret :: tables_1) h _ List.mem_cons_self)
    exact ⟨meth, c, h1, h2, h3, h4, h5, h6⟩
  · intro p e s m args below meth c s₁ B hml0 hP _
    obtain ⟨rfl, hx, hbd, hgv⟩ := hP
    obtain ⟨scr, harrAt, hlist, hof, hsmall⟩ := hx
    obtain ⟨hcb, hkn, -, -⟩ := State.arrayAt?_spec harrAt
    have hown : s.vm.findClass R_law = some m.cls := findClass_of_methodNamed B.named
    have hts0 : ∀ c ∈ (Jvm.Cond.code x code maxLocals ret :: tables_1), c.before #[Value.ref b] s = true := atoms_spec (ws := Jvm.Cond.code x code maxLocals ret :: tables_1) B.pre
    have hts : ∀ w ∈ lw_tbl, w.before #[Value.ref b] s = true := k2_hts_sels lw_privs (fun w hw => hts0 w (List.mem_cons_of_mem _ hw)) lw_privs_ok
    have hml : c.maxLocals = 4 := B.maxLocals_eq (hts0 _ List.mem_cons_self)
    have X₀ : Stand p l e room_1 s m #[Value.ref b] below meth c s₁ [] 0 0 := Stand.of_body B
    have hh0 : s₁.heap = s.heap := by rw [B.state]; rfl
    have hsz : scr.slots.size = xs.length := by rw [← Array.length_toList, hlist, List.length_map]
    have hval : ∀ j : Nat, j < xs.length → scr.slots[j]? = some (.int (xs.getD j 0)) := fun j hj => by
      rw [← Array.getElem?_toList, hlist]
      simp [hj]
    have hbl : b < s.heap.size := (Array.getElem?_eq_some_iff.mp hcb).1
    have hX : va_X b xs.length (fun j => xs.getD j 0) s s.heap := ⟨scr, hcb, hof, hkn, hsz, hval⟩
    have K : W p l e room_1 s m #[Value.ref b] below meth c s₁.heap [] 0 0 (lw_Z below #[Value.ref b] s) (entryFrame m ([Value.ref b] : List Value).toArray 4) := by
      rw [hh0]
      exact whole_start l hflags hbd ⟨B.exec, B.bytes, B.returns, hml, hown, hts, hX, hbl, B.notSynchronized, hgv⟩
    obtain ⟨t, a1, o, b1, b2, b3⟩ := K s₁ rfl X₀
    exact ⟨t, o, a1, b1, b2, b3⟩
theorem lw_pre_spec {args : Array Value} {s : State} (h : (Jvm.Cond.and given_1 narrow_1).before args s = true) (hr : rest_1_c.before args s = true) : ∃ (b : Addr) (xs : List Int32), lw_P b xs args s := by
  have hs := flat_of_before _ h
  have hq := flat_of_before _ hr
  have hc : (Cond.count 1).before args s = true := hs _ (by decide +kernel)
  have harr : (Cond.arrayOf (.arg 0) .int).before args s = true := hs _ (by decide +kernel)
  have hle : (Cond.le (.length (.arg 0)) (.int 2560)).before args s = true := hs _ (by decide +kernel)
  have hlen : (Cond.isInt (.length (.arg 0))).before args s = true := hq _ (by decide +kernel)
  have hall : (Cond.all (.arg 0) (.isInt (.elem (.arg 0) (.index 0)))).before args s = true := hq _ (by decide +kernel)
  obtain ⟨b, xs, hb, hx⟩ := State.ints_of_pre rfl harr hlen hall
  have hsm : xs.length < 2 ^ 31 := hx.choose_spec.2.2.2
  have hev : (Term.length (.arg 0)).eval args s none [] s = some (.int xs.length.toInt32) := hx.length_eval hb
  have hv := Cond.le_ints hev (show (Term.int 2560).eval args s none [] s = some (.int 2560) from rfl)
  have hd : xs.length.toInt32 ≤ 2560 := by
    simpa [Cond.before, Cond.holds, hv] using hle
  have hN : xs.length ≤ 2560 := (Int32.ofNat_le_ofNat hsm (by decide)).mp (show Int32.ofNat xs.length ≤ Int32.ofNat 2560 from hd)
  exact ⟨b, xs, Cond.one_arg hc (show args[0]? = some (.ref b) from hb), hx, hN, h⟩
theorem lw_comes (l : Launch) (hflags : l.flags = flags0) : Comes l x (Jvm.Cond.code x code maxLocals ret :: tables_1) room_1 (fun tb e args s => Calls_1 tb e args s ∧ rest_1 tb e args s ∧ Pre_1 tb e args s)
    (fun _ _ args s o t => lw_Q args s o t) := by
  intro p e ha hc hk s m args below hf hfit hheap happ hpre
  obtain ⟨b, xs, hP⟩ := lw_pre_spec hpre.2.2 hpre.2.1
  obtain ⟨k, o, h1, h2, h3, hQ⟩ := lw_walk l hflags b xs p e ha hc hk s m args below hf ((Spec.applies_iff_loose hf).mp happ).1 hP trivial
  exact ⟨k, o, h1, h2, h3, hQ⟩
theorem lw_frame {s t : State} {o : Outcome} {args : Array Value} (h : Framed s o t [] 600000 7302250) :
    Framed s o t (fieldLocs frame_1_writes args s ++ arrayLocs frame_1_arrays args s ++ staticLocs frame_1_statics s) 600000 7302250 := h
theorem lw_limb (L : Cond) (hL : ∀ (args : Array Value) (s t : State), L.after args s (.returned (some (.int 1))) t = true) :
    ArmFor flags0 classFile x code maxLocals ret World_1 tables_1 room_1 Calls_1 rest_1 Pre_1
      (fun tb e a s o t => postC L tb e a s o t ∧ Framed s o t (fieldLocs frame_1_writes a s ++ arrayLocs frame_1_arrays a s ++ staticLocs frame_1_statics s) 600000 7302250) := by
  intro l hflags _ _ p e ha hc hk s m args below hf hfit hheap happ hpre
  obtain ⟨k, o, h1, h2, h3, rfl, hF⟩ := lw_comes l hflags p e ha hc hk s m args below hf hfit hheap happ hpre
  exact ⟨k, _, h1, h2, h3, hL args s _, lw_frame hF⟩
theorem i_vc : Claimed_1_1 ∧ Claimed_1_2 := ⟨lw_limb limb_1_1 (fun args s t => by simp [limb_1_1, Cond.after, Cond.holds, Cond.value]), lw_limb limb_1_2 (fun args s t => Cond.after_iff.mpr (by
  first | (rw [show limb_1_2 = Cond.eq .result (.int 1) from rfl, Cond.eq_ints (x := 1) (y := 1) rfl rfl]; simp; done) | (simp [limb_1_2, Cond.value, Term.eval]; done)))⟩
