/-! rows over numbers that are nI of a natural number; rows of calls by what they answer; the tables' facts of symbolic places -/
theorem lt_ln {i k N : Nat} (e : ln k = N) (h : i < N) : i < ln k := e ▸ h
theorem ln_small : ∀ k, ln k < 5000 := by
  intro k
  by_cases h : k < 147
  · revert k; decide +kernel
  · have h2 : lnL[k]? = none := List.getElem?_eq_none (by show 147 ≤ k; omega)
    have : ln k = 0 := by simp [ln, List.getD, h2]
    omega
theorem kd_lt {k c : Nat} (h : kd k = c) (hc : c < 99) : k < 147 := by
  by_cases hk : k < 147
  · exact hk
  · have h2 : kdL[k]? = none := List.getElem?_eq_none (by show 147 ≤ k; omega)
    have : kd k = 99 := by simp [kd, List.getD, h2]
    omega
theorem rw_all : ∀ k, k < 147 → kd k = 5 → rf k 1 = k + 1 ∧ kd (k + 1) = 13 ∧ ln (k + 1) = 30 ∧ k + 1 < 147 := by decide +kernel
theorem rw_lk {k : Nat} (h : kd k = 5) : k < 147 := kd_lt h (by decide)
theorem rw_rf {k : Nat} (h : kd k = 5) : rf k 1 = k + 1 := (rw_all k (rw_lk h) h).1
theorem rw_kd {k : Nat} (h : kd k = 5) : kd (k + 1) = 13 := (rw_all k (rw_lk h) h).2.1
theorem rw_ln {k : Nat} (h : kd k = 5) : ln (k + 1) = 30 := (rw_all k (rw_lk h) h).2.2.1
theorem rw_lt {k : Nat} (h : kd k = 5) : k + 1 < 147 := (rw_all k (rw_lk h) h).2.2.2
theorem ll_all : ∀ k, k < 147 → kd k = 2 → rf k 1 = k + 1 ∧ kd (k + 1) = 14 ∧ ln (k + 1) = 30 ∧ k + 1 < 147 := by decide +kernel
theorem pl_all : ∀ k, k < 147 → kd k = 4 → (rf k 1 = k + 1 ∧ kd (k + 1) = 13 ∧ ln (k + 1) = 8 ∧ k + 1 < 147) ∧ (rf k 2 = k + 2 ∧ kd (k + 2) = 13 ∧ ln (k + 2) = 8 ∧ k + 2 < 147) := by decide +kernel
theorem sh_all : ∀ k, k < 147 → kd k = 6 → (rf k 1 = k + 1 ∧ kd (k + 1) = 17 ∧ ln (k + 1) = 8 ∧ k + 1 < 147) ∧ (∀ i, i < 8 → rf (k + 1) i = k + 2 + 2 * i ∧ kd (k + 2 + 2 * i) = 5) := by decide +kernel
theorem inc1 (i : Nat) : nI i + Int32.ofInt 1 = nI (i + 1) := nI_1 i
theorem incN (i c : Nat) : nI i + nI c = nI (i + c) := nI_add i c
theorem decN {i : Nat} (h : 1 ≤ i) : nI i + Int32.ofInt (-1) = nI (i - 1) := by
  obtain ⟨j, rfl⟩ : ∃ j, i = j + 1 := ⟨i - 1, by omega⟩
  exact pk_m1 j
section NR
variable {E : Ev} {G : Gw} {I : Mi} {J : Ml} {own : String} {cc : ByteArray} {n d pc : Nat} {lo lo' : List (Option Value)} {st : List Value}
theorem V_iaddN (ok : Ok E G own cc n d) {a b : Nat} (hd : decode cc pc = .ok (.iadd, 1)) (k : V E G I J (pc + 1) lo (.int (nI (a + b)) :: st)) : V E G I J pc lo (.int (nI b) :: .int (nI a) :: st) := V_iadd ok hd (by rw [nI_add]; exact k)
theorem V_imulN (ok : Ok E G own cc n d) {a b : Nat} (hd : decode cc pc = .ok (.imul, 1)) (k : V E G I J (pc + 1) lo (.int (nI (a * b)) :: st)) : V E G I J pc lo (.int (nI b) :: .int (nI a) :: st) := V_imul ok hd (by rw [pk_mul]; exact k)
theorem V_isubN (ok : Ok E G own cc n d) {a b : Nat} (hd : decode cc pc = .ok (.isub, 1)) (h : b ≤ a) (k : V E G I J (pc + 1) lo (.int (nI (a - b)) :: st)) : V E G I J pc lo (.int (nI b) :: .int (nI a) :: st) := V_isub ok hd (by rw [pk_sub h]; exact k)
theorem V_idivN (ok : Ok E G own cc n d) {a b : Nat} (hd : decode cc pc = .ok (.idiv, 1)) (h0 : 0 < b) (ha : a < 2 ^ 31) (hb : b < 2 ^ 31) (k : V E G I J (pc + 1) lo (.int (nI (a / b)) :: st)) : V E G I J pc lo (.int (nI b) :: .int (nI a) :: st) := V_idiv ok hd (nI_ne0 h0 hb) (by rw [pk_div ha h0 hb]; exact k)
theorem V_iremN (ok : Ok E G own cc n d) {a b : Nat} (hd : decode cc pc = .ok (.irem, 1)) (h0 : 0 < b) (ha : a < 2 ^ 31) (hb : b < 2 ^ 31) (k : V E G I J (pc + 1) lo (.int (nI (a % b)) :: st)) : V E G I J pc lo (.int (nI b) :: .int (nI a) :: st) := V_irem ok hd (nI_ne0 h0 hb) (by rw [pk_rem ha h0 hb]; exact k)
theorem V_icmp_eqN (ok : Ok E G own cc n d) {a b : Nat} {off : Int} {tgt : Nat} (hd : decode cc pc = .ok (.if_icmp .eq off, 3)) (ht : (pc : Int) + off = (tgt : Int)) (ha : a < 2 ^ 31) (hb : b < 2 ^ 31) (kt : a = b → V E G I J tgt lo st) (kf : a ≠ b → V E G I J (pc + 3) lo st) : V E G I J pc lo (.int (nI b) :: .int (nI a) :: st) := V_icmp_eq ok hd ht (fun h => kt ((nI_eq ha hb).mp h)) (fun h => kf (fun q => h ((nI_eq ha hb).mpr q)))
theorem V_icmp_neN (ok : Ok E G own cc n d) {a b : Nat} {off : Int} {tgt : Nat} (hd : decode cc pc = .ok (.if_icmp .ne off, 3)) (ht : (pc : Int) + off = (tgt : Int)) (ha : a < 2 ^ 31) (hb : b < 2 ^ 31) (kt : a ≠ b → V E G I J tgt lo st) (kf : a = b → V E G I J (pc + 3) lo st) : V E G I J pc lo (.int (nI b) :: .int (nI a) :: st) := V_icmp_ne ok hd ht (fun h => kt (fun q => h ((nI_eq ha hb).mpr q))) (fun h => kf ((nI_eq ha hb).mp h))
theorem V_icmp_ltN (ok : Ok E G own cc n d) {a b : Nat} {off : Int} {tgt : Nat} (hd : decode cc pc = .ok (.if_icmp .lt off, 3)) (ht : (pc : Int) + off = (tgt : Int)) (ha : a < 2 ^ 31) (hb : b < 2 ^ 31) (kt : a < b → V E G I J tgt lo st) (kf : b ≤ a → V E G I J (pc + 3) lo st) : V E G I J pc lo (.int (nI b) :: .int (nI a) :: st) := V_icmp_lt ok hd ht (fun h => kt ((nI_ltI ha hb).mp h)) (fun h => kf (Nat.not_lt.mp (fun q => h ((nI_ltI ha hb).mpr q))))
theorem V_icmp_geN (ok : Ok E G own cc n d) {a b : Nat} {off : Int} {tgt : Nat} (hd : decode cc pc = .ok (.if_icmp .ge off, 3)) (ht : (pc : Int) + off = (tgt : Int)) (ha : a < 2 ^ 31) (hb : b < 2 ^ 31) (kt : b ≤ a → V E G I J tgt lo st) (kf : a < b → V E G I J (pc + 3) lo st) : V E G I J pc lo (.int (nI b) :: .int (nI a) :: st) := V_icmp_ge ok hd ht (fun h => kt ((nI_leI hb ha).mp h)) (fun h => kf (Nat.not_le.mp (fun q => h ((nI_leI hb ha).mpr q))))
theorem V_icmp_gtN (ok : Ok E G own cc n d) {a b : Nat} {off : Int} {tgt : Nat} (hd : decode cc pc = .ok (.if_icmp .gt off, 3)) (ht : (pc : Int) + off = (tgt : Int)) (ha : a < 2 ^ 31) (hb : b < 2 ^ 31) (kt : b < a → V E G I J tgt lo st) (kf : a ≤ b → V E G I J (pc + 3) lo st) : V E G I J pc lo (.int (nI b) :: .int (nI a) :: st) := V_icmp_gt ok hd ht (fun h => kt ((nI_ltI hb ha).mp h)) (fun h => kf (Nat.not_lt.mp (fun q => h ((nI_ltI hb ha).mpr q))))
theorem V_icmp_leN (ok : Ok E G own cc n d) {a b : Nat} {off : Int} {tgt : Nat} (hd : decode cc pc = .ok (.if_icmp .le off, 3)) (ht : (pc : Int) + off = (tgt : Int)) (ha : a < 2 ^ 31) (hb : b < 2 ^ 31) (kt : a ≤ b → V E G I J tgt lo st) (kf : b < a → V E G I J (pc + 3) lo st) : V E G I J pc lo (.int (nI b) :: .int (nI a) :: st) := V_icmp_le ok hd ht (fun h => kt ((nI_leI ha hb).mp h)) (fun h => kf (Nat.not_le.mp (fun q => h ((nI_leI ha hb).mpr q))))
theorem V_if_eqN (ok : Ok E G own cc n d) {a : Nat} {off : Int} {tgt : Nat} (hd : decode cc pc = .ok (.ifCond .eq off, 3)) (ht : (pc : Int) + off = (tgt : Int)) (ha : a < 2 ^ 31) (kt : a = 0 → V E G I J tgt lo st) (kf : a ≠ 0 → V E G I J (pc + 3) lo st) : V E G I J pc lo (.int (nI a) :: st) := by
  have h0 : a = 0 ∨ 0 < a := by omega
  rcases h0 with h0 | h0
  · exact V_if_eq ok hd ht (fun h => kt h0) (fun h => absurd (by rw [h0]; rfl) h)
  · exact V_if_eq ok hd ht (fun h => absurd h (nI_ne0 h0 ha)) (fun h => kf (by omega))
theorem V_if_neN (ok : Ok E G own cc n d) {a : Nat} {off : Int} {tgt : Nat} (hd : decode cc pc = .ok (.ifCond .ne off, 3)) (ht : (pc : Int) + off = (tgt : Int)) (ha : a < 2 ^ 31) (kt : a ≠ 0 → V E G I J tgt lo st) (kf : a = 0 → V E G I J (pc + 3) lo st) : V E G I J pc lo (.int (nI a) :: st) := by
  have h0 : a = 0 ∨ 0 < a := by omega
  rcases h0 with h0 | h0
  · exact V_if_ne ok hd ht (fun h => absurd (by rw [h0]; rfl) h) (fun h => kf h0)
  · exact V_if_ne ok hd ht (fun h => kt (by omega)) (fun h => absurd h (nI_ne0 h0 ha))
theorem V_if_gtN (ok : Ok E G own cc n d) {a : Nat} {off : Int} {tgt : Nat} (hd : decode cc pc = .ok (.ifCond .gt off, 3)) (ht : (pc : Int) + off = (tgt : Int)) (ha : a < 2 ^ 31) (kt : 0 < a → V E G I J tgt lo st) (kf : a = 0 → V E G I J (pc + 3) lo st) : V E G I J pc lo (.int (nI a) :: st) := by
  have h0 : a = 0 ∨ 0 < a := by omega
  rcases h0 with h0 | h0
  · exact V_if_gt ok hd ht (fun h => absurd h (by rw [h0]; decide)) (fun h => kf h0)
  · exact V_if_gt ok hd ht (fun h => kt h0) (fun h => absurd (show (0 : Int32) < nI a from nI_lt h0 ha) h)
theorem V_if_leN (ok : Ok E G own cc n d) {a : Nat} {off : Int} {tgt : Nat} (hd : decode cc pc = .ok (.ifCond .le off, 3)) (ht : (pc : Int) + off = (tgt : Int)) (ha : a < 2 ^ 31) (kt : a = 0 → V E G I J tgt lo st) (kf : 0 < a → V E G I J (pc + 3) lo st) : V E G I J pc lo (.int (nI a) :: st) := by
  have h0 : a = 0 ∨ 0 < a := by omega
  rcases h0 with h0 | h0
  · exact V_if_le ok hd ht (fun h => kt h0) (fun h => absurd (by rw [h0]; decide) h)
  · exact V_if_le ok hd ht (fun h => absurd h (nI_nle h0 ha)) (fun h => kf h0)
theorem V_if_ltN (ok : Ok E G own cc n d) {a : Nat} {off : Int} {tgt : Nat} (hd : decode cc pc = .ok (.ifCond .lt off, 3)) (ht : (pc : Int) + off = (tgt : Int)) (ha : a < 2 ^ 31) (k : V E G I J (pc + 3) lo st) : V E G I J pc lo (.int (nI a) :: st) := V_if_lt ok hd ht (fun h => absurd h (nI_pos ha)) (fun _ => k)
theorem V_if_geN (ok : Ok E G own cc n d) {a : Nat} {off : Int} {tgt : Nat} (hd : decode cc pc = .ok (.ifCond .ge off, 3)) (ht : (pc : Int) + off = (tgt : Int)) (ha : a < 2 ^ 31) (k : V E G I J tgt lo st) : V E G I J pc lo (.int (nI a) :: st) := V_if_ge ok hd ht (fun _ => k) (fun h => absurd (nI_pos' ha) h)
/-- calls by their answers -/
theorem V_callVI (ok : Ok E G own cc n d) {x k ci mL na d' : Nat} {y : MethodName} {b : ByteArray} {ret : Option FieldType} {T : u_T} {N : Nat} {As : List Value} {P : Int32 → Mi → Ml → Prop} {st0 : List Value} (hd : decode cc pc = .ok (.invokevirtual x, 3)) (cw : CwV own x y b mL ret na) (hcl : vwCl[ci]? = some (y.cls, T, N)) (hk : kd k = ci) (hk2 : k < 147) (hci : ci < 13) (hC : Ct E.2.1 y b mL ret d' G (.ref (G.2.2 k) :: As) I J (pI P)) (hst : st0 = As.reverse ++ .ref (G.2.2 k) :: st) (hna : As.length = na) (hdd : d' < d) (hsm : (st.map fun v => v.category).sum ≤ 8)
    (kk : ∀ (r : Int32) (I' : Mi) (J' : Ml), P r I' J' → V E G I' J' (pc + 3) lo (.int r :: st)) : V E G I J pc lo st0 := V_callV ok hd cw hcl hk hk2 hci hC hst hna hdd hsm (fun v I' J' hp => by obtain ⟨r, rfl, hp⟩ := hp; exact kk r I' J' hp)
theorem V_callVL (ok : Ok E G own cc n d) {x k ci mL na d' : Nat} {y : MethodName} {b : ByteArray} {ret : Option FieldType} {T : u_T} {N : Nat} {As : List Value} {P : Int64 → Mi → Ml → Prop} {st0 : List Value} (hd : decode cc pc = .ok (.invokevirtual x, 3)) (cw : CwV own x y b mL ret na) (hcl : vwCl[ci]? = some (y.cls, T, N)) (hk : kd k = ci) (hk2 : k < 147) (hci : ci < 13) (hC : Ct E.2.1 y b mL ret d' G (.ref (G.2.2 k) :: As) I J (pL P)) (hst : st0 = As.reverse ++ .ref (G.2.2 k) :: st) (hna : As.length = na) (hdd : d' < d) (hsm : (st.map fun v => v.category).sum ≤ 8)
    (kk : ∀ (r : Int64) (I' : Mi) (J' : Ml), P r I' J' → V E G I' J' (pc + 3) lo (.long r :: st)) : V E G I J pc lo st0 := V_callV ok hd cw hcl hk hk2 hci hC hst hna hdd hsm (fun v I' J' hp => by obtain ⟨r, rfl, hp⟩ := hp; exact kk r I' J' hp)
theorem V_callVV (ok : Ok E G own cc n d) {x k ci mL na d' : Nat} {y : MethodName} {b : ByteArray} {ret : Option FieldType} {T : u_T} {N : Nat} {As : List Value} {P : Mi → Ml → Prop} {st0 : List Value} (hd : decode cc pc = .ok (.invokevirtual x, 3)) (cw : CwV own x y b mL ret na) (hcl : vwCl[ci]? = some (y.cls, T, N)) (hk : kd k = ci) (hk2 : k < 147) (hci : ci < 13) (hC : Ct E.2.1 y b mL ret d' G (.ref (G.2.2 k) :: As) I J (pV P)) (hst : st0 = As.reverse ++ .ref (G.2.2 k) :: st) (hna : As.length = na) (hdd : d' < d) (hsm : (st.map fun v => v.category).sum ≤ 8)
    (kk : ∀ (I' : Mi) (J' : Ml), P I' J' → V E G I' J' (pc + 3) lo st) : V E G I J pc lo st0 := V_callV ok hd cw hcl hk hk2 hci hC hst hna hdd hsm (fun v I' J' hp => by obtain ⟨rfl, hp⟩ := hp; exact kk I' J' hp)
theorem V_callSI (ok : Ok E G own cc n d) {x mL na d' : Nat} {y : MethodName} {b : ByteArray} {ret : Option FieldType} {As : List Value} {P : Int32 → Mi → Ml → Prop} {st0 : List Value} (hd : decode cc pc = .ok (.invokestatic x, 3)) (cw : CwS own x y b mL ret na) (hC : Ct E.2.1 y b mL ret d' G As I J (pI P)) (hst : st0 = As.reverse ++ st) (hna : As.length = na) (hdd : d' < d) (hsm : (st.map fun v => v.category).sum ≤ 8)
    (kk : ∀ (r : Int32) (I' : Mi) (J' : Ml), P r I' J' → V E G I' J' (pc + 3) lo (.int r :: st)) : V E G I J pc lo st0 := V_callS ok hd cw hC hst hna hdd hsm (fun v I' J' hp => by obtain ⟨r, rfl, hp⟩ := hp; exact kk r I' J' hp)
theorem V_callSV (ok : Ok E G own cc n d) {x mL na d' : Nat} {y : MethodName} {b : ByteArray} {ret : Option FieldType} {As : List Value} {P : Mi → Ml → Prop} {st0 : List Value} (hd : decode cc pc = .ok (.invokestatic x, 3)) (cw : CwS own x y b mL ret na) (hC : Ct E.2.1 y b mL ret d' G As I J (pV P)) (hst : st0 = As.reverse ++ st) (hna : As.length = na) (hdd : d' < d) (hsm : (st.map fun v => v.category).sum ≤ 8)
    (kk : ∀ (I' : Mi) (J' : Ml), P I' J' → V E G I' J' (pc + 3) lo st) : V E G I J pc lo st0 := V_callS ok hd cw hC hst hna hdd hsm (fun v I' J' hp => by obtain ⟨rfl, hp⟩ := hp; exact kk I' J' hp)
theorem V_callNI (ok : Ok E G own cc n d) {x mL na d' : Nat} {y : MethodName} {b : ByteArray} {ret : Option FieldType} {host : String} {As : List Value} {P : Int32 → Mi → Ml → Prop} {st0 : List Value} (hd : decode cc pc = .ok (.invokestatic x, 3)) (cw : CwN own x y b mL ret na host) (hC : Ct E.2.1 y b mL ret d' G As I J (pI P)) (hst : st0 = As.reverse ++ st) (hna : As.length = na) (hdd : d' < d) (hsm : (st.map fun v => v.category).sum ≤ 8)
    (kk : ∀ (r : Int32) (I' : Mi) (J' : Ml), P r I' J' → V E G I' J' (pc + 3) lo (.int r :: st)) : V E G I J pc lo st0 := V_callN ok hd cw hC hst hna hdd hsm (fun v I' J' hp => by obtain ⟨r, rfl, hp⟩ := hp; exact kk r I' J' hp)
end NR
/-- a truth as a number -/
def bI (p : Prop) [Decidable p] : Int32 := if p then 1 else 0
theorem bI_t {p : Prop} [Decidable p] (h : p) : bI p = 1 := if_pos h
theorem bI_f {p : Prop} [Decidable p] (h : ¬ p) : bI p = 0 := if_neg h
theorem bI_0 {p : Prop} [Decidable p] : bI p = 0 ↔ ¬ p := by
  by_cases h : p
  · rw [bI_t h]; exact ⟨fun e => absurd e (by decide), fun e => absurd h e⟩
  · rw [bI_f h]; exact ⟨fun _ => h, fun _ => rfl⟩
theorem bI_nar (p : Prop) [Decidable p] : narrow .boolean (.int (bI p)) = .int (bI p) := by
  by_cases h : p
  · rw [bI_t h]; rfl
  · rw [bI_f h]; rfl
section BR
variable {E : Ev} {G : Gw} {I : Mi} {J : Ml} {own : String} {cc : ByteArray} {n d pc : Nat} {lo lo' : List (Option Value)} {st : List Value}
theorem V_if_eqB (ok : Ok E G own cc n d) {p : Prop} [Decidable p] {off : Int} {tgt : Nat} (hd : decode cc pc = .ok (.ifCond .eq off, 3)) (ht : (pc : Int) + off = (tgt : Int)) (kt : ¬ p → V E G I J tgt lo st) (kf : p → V E G I J (pc + 3) lo st) : V E G I J pc lo (.int (bI p) :: st) := V_if_eq ok hd ht (fun h => kt (bI_0.mp h)) (fun h => kf (Decidable.byContradiction fun q => h (bI_0.mpr q)))
theorem V_if_neB (ok : Ok E G own cc n d) {p : Prop} [Decidable p] {off : Int} {tgt : Nat} (hd : decode cc pc = .ok (.ifCond .ne off, 3)) (ht : (pc : Int) + off = (tgt : Int)) (kt : p → V E G I J tgt lo st) (kf : ¬ p → V E G I J (pc + 3) lo st) : V E G I J pc lo (.int (bI p) :: st) := V_if_ne ok hd ht (fun h => kt (Decidable.byContradiction fun q => h (bI_0.mpr q))) (fun h => kf (bI_0.mp h))
end BR
/-- loops -/
theorem loopUp {P : Nat → Prop} (N : Nat) (hN : P N) (hs : ∀ i, i < N → P (i + 1) → P i) : ∀ i, i ≤ N → P i := by
  intro i hi
  obtain ⟨j, rfl⟩ : ∃ j, N = i + j := ⟨N - i, by omega⟩
  induction j generalizing i with
  | zero => exact hN
  | succ j ih =>
    refine hs i (by omega) (ih (i + 1) (by rw [show i + 1 + j = i + (j + 1) by omega]; exact hN) ?_ (by omega))
    intro q hq; exact hs q (by omega)
theorem loopDown {P : Nat → Prop} (h0 : P 0) (hs : ∀ i, P i → P (i + 1)) : ∀ i, P i := fun i => by
  induction i with
  | zero => exact h0
  | succ j ih => exact hs j ih
